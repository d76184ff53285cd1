section
-- ===== PART A: goes FIRST, ahead of the names: the tables' words, and 'selects' of the private methods out of them =====
/-- a private method of a class that the tables say can be made, by its rows of tables_1 -/
def lw_okq (q : MethodName × Nat) : Prop := (q.1.cls ≠ "java/lang/invoke/MethodHandle" ∧ q.1.cls ≠ "java/lang/invoke/VarHandle") ∧ Cond.instantiable q.1.cls q.2 ∈ tables_1 ∧ Cond.privateMethod q.1 ∈ tables_1 ∧ Cond.instanceMethod q.1 ∈ tables_1
theorem lw_p0 : lw_okq (⟨"ChangeFeed$Feed", "wouldGo", "(IIII)Z"⟩, 8) := ⟨⟨by decide +kernel, by decide +kernel⟩, List.mem_of_getElem? (i := 44) (by decide +kernel), List.mem_of_getElem? (i := 281) (by decide +kernel), List.mem_of_getElem? (i := 282) (by decide +kernel)⟩
theorem lw_p1 : lw_okq (⟨"ChangeFeed$Feed", "isOldRemoval", "(III)Z"⟩, 8) := ⟨⟨by decide +kernel, by decide +kernel⟩, List.mem_of_getElem? (i := 44) (by decide +kernel), List.mem_of_getElem? (i := 297) (by decide +kernel), List.mem_of_getElem? (i := 298) (by decide +kernel)⟩
theorem lw_p2 : lw_okq (⟨"ChangeFeed$History", "stateAt", "(I)LChangeFeed$State;"⟩, 2) := ⟨⟨by decide +kernel, by decide +kernel⟩, List.mem_of_getElem? (i := 172) (by decide +kernel), List.mem_of_getElem? (i := 320) (by decide +kernel), List.mem_of_getElem? (i := 321) (by decide +kernel)⟩
theorem lw_p3 : lw_okq (⟨"ChangeFeed$Feed", "layEntry", "(IIIII)V"⟩, 8) := ⟨⟨by decide +kernel, by decide +kernel⟩, List.mem_of_getElem? (i := 44) (by decide +kernel), List.mem_of_getElem? (i := 377) (by decide +kernel), List.mem_of_getElem? (i := 378) (by decide +kernel)⟩
theorem lw_p4 : lw_okq (⟨"ChangeFeed$History", "dropOldest", "()V"⟩, 2) := ⟨⟨by decide +kernel, by decide +kernel⟩, List.mem_of_getElem? (i := 172) (by decide +kernel), List.mem_of_getElem? (i := 386) (by decide +kernel), List.mem_of_getElem? (i := 387) (by decide +kernel)⟩
theorem lw_p5 : lw_okq (⟨"ChangeFeed$State", "aheadUnlessLate", "(I)I"⟩, 9) := ⟨⟨by decide +kernel, by decide +kernel⟩, List.mem_of_getElem? (i := 20) (by decide +kernel), List.mem_of_getElem? (i := 597) (by decide +kernel), List.mem_of_getElem? (i := 598) (by decide +kernel)⟩
def lw_privs_1 : List (MethodName × Nat) := [(⟨"ChangeFeed$Feed", "wouldGo", "(IIII)Z"⟩, 8), (⟨"ChangeFeed$Feed", "isOldRemoval", "(III)Z"⟩, 8), (⟨"ChangeFeed$History", "stateAt", "(I)LChangeFeed$State;"⟩, 2), (⟨"ChangeFeed$Feed", "layEntry", "(IIIII)V"⟩, 8), (⟨"ChangeFeed$History", "dropOldest", "()V"⟩, 2), (⟨"ChangeFeed$State", "aheadUnlessLate", "(I)I"⟩, 9)]
theorem lw_r1 : ∀ q ∈ lw_privs_1, lw_okq q := List.forall_mem_cons.mpr ⟨lw_p0, List.forall_mem_cons.mpr ⟨lw_p1, List.forall_mem_cons.mpr ⟨lw_p2, List.forall_mem_cons.mpr ⟨lw_p3, List.forall_mem_cons.mpr ⟨lw_p4, List.forall_mem_cons.mpr ⟨lw_p5, fun _ h => absurd h List.not_mem_nil⟩⟩⟩⟩⟩⟩
def lw_privs : List (MethodName × Nat) := lw_privs_1
def lw_tbl : List Cond := k2_sels lw_privs ++ tables_1
theorem lw_privs_ok : ∀ q ∈ lw_privs, lw_okq q := lw_r1

-- the words that a callee may take along: those of the tables that stay
def lwT : List Cond := lw_tbl.filter goodWord
theorem lwT_good : GoodIn lwT lwT := fun w hw => ⟨hw, good_of_word (List.mem_filter.mp hw).2⟩
theorem lwT_in : ∀ w ∈ lwT, w ∈ lw_tbl := fun w hw => (List.mem_filter.mp hw).1
end
section
def RX0 : String := "ChangeFeed$Feed"
def TX0 : u_T := fun k => match k with
  | 0 => ("ChangeFeed$Feed", "numbers", "[I", true)
  | 1 => ("ChangeFeed$Feed", "keys", "[I", true)
  | 2 => ("ChangeFeed$Feed", "values", "[I", true)
  | 3 => ("ChangeFeed$Feed", "minutes", "[I", true)
  | 4 => ("ChangeFeed$Feed", "held", "I", false)
  | 5 => ("ChangeFeed$Feed", "next", "I", false)
  | 6 => ("ChangeFeed$Feed", "floor", "I", false)
  | _ => ("ChangeFeed$Feed", "gone", "I", false)
def tyX0 : Nat → FieldType := fun k => match k with
  | 0 => .array .int
  | 1 => .array .int
  | 2 => .array .int
  | 3 => .array .int
  | 4 => .int
  | 5 => .int
  | 6 => .int
  | _ => .int
abbrev wsX00 : List Cond := u_ws RX0 TX0 8
theorem nmX0 : ∀ a, a < 8 → ∀ b, b < 8 → a ≠ b → (TX0 a).2.1 ≠ (TX0 b).2.1 := by decide +kernel
theorem tyX0_ok : ∀ k, k < 8 → parseFieldDescriptor (TX0 k).2.2.1 = some (tyX0 k) := by decide +kernel
abbrev cX0_init : ByteArray := prog_2_method_1_code
def yX0_init : MethodName := ⟨RX0, "<init>", "()V"⟩
abbrev cX0_copyFrom : ByteArray := prog_2_method_2_code
def yX0_copyFrom : MethodName := ⟨RX0, "copyFrom", "(LChangeFeed$Feed;)V"⟩
abbrev cX0_numberAt : ByteArray := prog_2_method_3_code
def yX0_numberAt : MethodName := ⟨RX0, "numberAt", "(I)I"⟩
abbrev cX0_keyAt : ByteArray := prog_2_method_4_code
def yX0_keyAt : MethodName := ⟨RX0, "keyAt", "(I)I"⟩
abbrev cX0_valueAt : ByteArray := prog_2_method_5_code
def yX0_valueAt : MethodName := ⟨RX0, "valueAt", "(I)I"⟩
abbrev cX0_minuteAt : ByteArray := prog_2_method_6_code
def yX0_minuteAt : MethodName := ⟨RX0, "minuteAt", "(I)I"⟩
abbrev cX0_isFull : ByteArray := prog_2_method_7_code
def yX0_isFull : MethodName := ⟨RX0, "isFull", "()Z"⟩
abbrev cX0_append : ByteArray := prog_2_method_8_code
def yX0_append : MethodName := ⟨RX0, "append", "(III)I"⟩
abbrev cX0_layEntry : ByteArray := prog_2_method_9_code
def yX0_layEntry : MethodName := ⟨RX0, "layEntry", "(IIIII)V"⟩
abbrev cX0_firstFrom : ByteArray := prog_2_method_10_code
def yX0_firstFrom : MethodName := ⟨RX0, "firstFrom", "(I)I"⟩
abbrev cX0_aheadOf : ByteArray := prog_2_method_11_code
def yX0_aheadOf : MethodName := ⟨RX0, "aheadOf", "(I)I"⟩
abbrev cX0_isLastOfItsKey : ByteArray := prog_2_method_12_code
def yX0_isLastOfItsKey : MethodName := ⟨RX0, "isLastOfItsKey", "(I)Z"⟩
abbrev cX0_isClosed : ByteArray := prog_2_method_13_code
def yX0_isClosed : MethodName := ⟨RX0, "isClosed", "(II)Z"⟩
abbrev cX0_segmentOf : ByteArray := prog_2_method_14_code
def yX0_segmentOf : MethodName := ⟨RX0, "segmentOf", "(II)I"⟩
abbrev cX0_isOldRemoval : ByteArray := prog_2_method_15_code
def yX0_isOldRemoval : MethodName := ⟨RX0, "isOldRemoval", "(III)Z"⟩
abbrev cX0_wouldGo : ByteArray := prog_2_method_16_code
def yX0_wouldGo : MethodName := ⟨RX0, "wouldGo", "(IIII)Z"⟩
abbrev cX0_leftAfterThinning : ByteArray := prog_2_method_17_code
def yX0_leftAfterThinning : MethodName := ⟨RX0, "leftAfterThinning", "(III)I"⟩
abbrev cX0_floorAfterThinning : ByteArray := prog_2_method_18_code
def yX0_floorAfterThinning : MethodName := ⟨RX0, "floorAfterThinning", "(III)I"⟩
abbrev cX0_thinOut : ByteArray := prog_2_method_19_code
def yX0_thinOut : MethodName := ⟨RX0, "thinOut", "(III)I"⟩
def RX1 : String := "ChangeFeed$History"
def TX1 : u_T := fun k => match k with
  | 0 => ("ChangeFeed$History", "states", "[LChangeFeed$State;", true)
  | _ => ("ChangeFeed$History", "held", "I", false)
def tyX1 : Nat → FieldType := fun k => match k with
  | 0 => .array (.object "ChangeFeed$State")
  | _ => .int
abbrev wsX10 : List Cond := u_ws RX1 TX1 2
theorem nmX1 : ∀ a, a < 2 → ∀ b, b < 2 → a ≠ b → (TX1 a).2.1 ≠ (TX1 b).2.1 := by decide +kernel
theorem tyX1_ok : ∀ k, k < 2 → parseFieldDescriptor (TX1 k).2.2.1 = some (tyX1 k) := by decide +kernel
abbrev cX1_init : ByteArray := prog_3_method_1_code
def yX1_init : MethodName := ⟨RX1, "<init>", "()V"⟩
abbrev cX1_stateAt : ByteArray := prog_3_method_2_code
def yX1_stateAt : MethodName := ⟨RX1, "stateAt", "(I)LChangeFeed$State;"⟩
abbrev cX1_prepare : ByteArray := prog_3_method_3_code
def yX1_prepare : MethodName := ⟨RX1, "prepare", "(LChangeFeed$State;)V"⟩
abbrev cX1_settle : ByteArray := prog_3_method_4_code
def yX1_settle : MethodName := ⟨RX1, "settle", "(I)I"⟩
abbrev cX1_dropOldest : ByteArray := prog_3_method_5_code
def yX1_dropOldest : MethodName := ⟨RX1, "dropOldest", "()V"⟩
def RX2 : String := "ChangeFeed$Pad"
def TX2 : u_T := fun k => match k with
  | 0 => ("ChangeFeed$Pad", "signs", "[I", true)
  | 1 => ("ChangeFeed$Pad", "length", "I", false)
  | 2 => ("ChangeFeed$Pad", "place", "I", false)
  | 3 => ("ChangeFeed$Pad", "letter", "I", false)
  | 4 => ("ChangeFeed$Pad", "first", "I", false)
  | _ => ("ChangeFeed$Pad", "second", "I", false)
def tyX2 : Nat → FieldType := fun k => match k with
  | 0 => .array .int
  | 1 => .int
  | 2 => .int
  | 3 => .int
  | 4 => .int
  | _ => .int
abbrev wsX20 : List Cond := u_ws RX2 TX2 6
theorem nmX2 : ∀ a, a < 6 → ∀ b, b < 6 → a ≠ b → (TX2 a).2.1 ≠ (TX2 b).2.1 := by decide +kernel
theorem tyX2_ok : ∀ k, k < 6 → parseFieldDescriptor (TX2 k).2.2.1 = some (tyX2 k) := by decide +kernel
abbrev cX2_init : ByteArray := prog_4_method_1_code
def yX2_init : MethodName := ⟨RX2, "<init>", "()V"⟩
def RX3 : String := "ChangeFeed$Reader"
def TX3 : u_T := fun k => match k with
  | 0 => ("ChangeFeed$Reader", "place", "I", false)
  | 1 => ("ChangeFeed$Reader", "confirmedPlace", "I", false)
  | 2 => ("ChangeFeed$Reader", "readSoFar", "I", false)
  | 3 => ("ChangeFeed$Reader", "view", "LChangeFeed$Values;", true)
  | _ => ("ChangeFeed$Reader", "confirmedView", "LChangeFeed$Values;", true)
def tyX3 : Nat → FieldType := fun k => match k with
  | 0 => .int
  | 1 => .int
  | 2 => .int
  | 3 => .object "ChangeFeed$Values"
  | _ => .object "ChangeFeed$Values"
abbrev wsX30 : List Cond := u_ws RX3 TX3 5
theorem nmX3 : ∀ a, a < 5 → ∀ b, b < 5 → a ≠ b → (TX3 a).2.1 ≠ (TX3 b).2.1 := by decide +kernel
theorem tyX3_ok : ∀ k, k < 5 → parseFieldDescriptor (TX3 k).2.2.1 = some (tyX3 k) := by decide +kernel
abbrev cX3_init : ByteArray := prog_5_method_1_code
def yX3_init : MethodName := ⟨RX3, "<init>", "()V"⟩
abbrev cX3_copyFrom : ByteArray := prog_5_method_2_code
def yX3_copyFrom : MethodName := ⟨RX3, "copyFrom", "(LChangeFeed$Reader;)V"⟩
abbrev cX3_startOver : ByteArray := prog_5_method_3_code
def yX3_startOver : MethodName := ⟨RX3, "startOver", "()V"⟩
abbrev cX3_keepPlace : ByteArray := prog_5_method_4_code
def yX3_keepPlace : MethodName := ⟨RX3, "keepPlace", "()V"⟩
abbrev cX3_returnToConfirmed : ByteArray := prog_5_method_5_code
def yX3_returnToConfirmed : MethodName := ⟨RX3, "returnToConfirmed", "()V"⟩
abbrev cX3_takeOver : ByteArray := prog_5_method_6_code
def yX3_takeOver : MethodName := ⟨RX3, "takeOver", "(LChangeFeed$Snapshot;)V"⟩
abbrev cX3_readOn : ByteArray := prog_5_method_7_code
def yX3_readOn : MethodName := ⟨RX3, "readOn", "(LChangeFeed$Feed;I)I"⟩
def RX4 : String := "ChangeFeed$Slot"
def TX4 : u_T := fun k => match k with
  | 0 => ("ChangeFeed$Slot", "isUsed", "Z", false)
  | _ => ("ChangeFeed$Slot", "state", "LChangeFeed$State;", true)
def tyX4 : Nat → FieldType := fun k => match k with
  | 0 => .boolean
  | _ => .object "ChangeFeed$State"
abbrev wsX40 : List Cond := u_ws RX4 TX4 2
theorem nmX4 : ∀ a, a < 2 → ∀ b, b < 2 → a ≠ b → (TX4 a).2.1 ≠ (TX4 b).2.1 := by decide +kernel
theorem tyX4_ok : ∀ k, k < 2 → parseFieldDescriptor (TX4 k).2.2.1 = some (tyX4 k) := by decide +kernel
abbrev cX4_init : ByteArray := prog_6_method_1_code
def yX4_init : MethodName := ⟨RX4, "<init>", "()V"⟩
def RX5 : String := "ChangeFeed$Snapshot"
def TX5 : u_T := fun k => match k with
  | 0 => ("ChangeFeed$Snapshot", "number", "I", false)
  | _ => ("ChangeFeed$Snapshot", "table", "LChangeFeed$Values;", true)
def tyX5 : Nat → FieldType := fun k => match k with
  | 0 => .int
  | _ => .object "ChangeFeed$Values"
abbrev wsX50 : List Cond := u_ws RX5 TX5 2
theorem nmX5 : ∀ a, a < 2 → ∀ b, b < 2 → a ≠ b → (TX5 a).2.1 ≠ (TX5 b).2.1 := by decide +kernel
theorem tyX5_ok : ∀ k, k < 2 → parseFieldDescriptor (TX5 k).2.2.1 = some (tyX5 k) := by decide +kernel
abbrev cX5_init : ByteArray := prog_7_method_1_code
def yX5_init : MethodName := ⟨RX5, "<init>", "()V"⟩
abbrev cX5_copyFrom : ByteArray := prog_7_method_2_code
def yX5_copyFrom : MethodName := ⟨RX5, "copyFrom", "(LChangeFeed$Snapshot;)V"⟩
def RX6 : String := "ChangeFeed$State"
def TX6 : u_T := fun k => match k with
  | 0 => ("ChangeFeed$State", "size", "I", false)
  | 1 => ("ChangeFeed$State", "grace", "I", false)
  | 2 => ("ChangeFeed$State", "minute", "I", false)
  | 3 => ("ChangeFeed$State", "readerCount", "I", false)
  | 4 => ("ChangeFeed$State", "snapshotCount", "I", false)
  | 5 => ("ChangeFeed$State", "table", "LChangeFeed$Values;", true)
  | 6 => ("ChangeFeed$State", "feed", "LChangeFeed$Feed;", true)
  | 7 => ("ChangeFeed$State", "readers", "[LChangeFeed$Reader;", true)
  | _ => ("ChangeFeed$State", "snapshots", "[LChangeFeed$Snapshot;", true)
def tyX6 : Nat → FieldType := fun k => match k with
  | 0 => .int
  | 1 => .int
  | 2 => .int
  | 3 => .int
  | 4 => .int
  | 5 => .object "ChangeFeed$Values"
  | 6 => .object "ChangeFeed$Feed"
  | 7 => .array (.object "ChangeFeed$Reader")
  | _ => .array (.object "ChangeFeed$Snapshot")
abbrev wsX60 : List Cond := u_ws RX6 TX6 9
theorem nmX6 : ∀ a, a < 9 → ∀ b, b < 9 → a ≠ b → (TX6 a).2.1 ≠ (TX6 b).2.1 := by decide +kernel
theorem tyX6_ok : ∀ k, k < 9 → parseFieldDescriptor (TX6 k).2.2.1 = some (tyX6 k) := by decide +kernel
abbrev cX6_init : ByteArray := prog_8_method_1_code
def yX6_init : MethodName := ⟨RX6, "<init>", "()V"⟩
abbrev cX6_copyFrom : ByteArray := prog_8_method_2_code
def yX6_copyFrom : MethodName := ⟨RX6, "copyFrom", "(LChangeFeed$State;)V"⟩
abbrev cX6_copySnapshot : ByteArray := prog_8_method_3_code
def yX6_copySnapshot : MethodName := ⟨RX6, "copySnapshot", "(LChangeFeed$Snapshot;LChangeFeed$Snapshot;)V"⟩
abbrev cX6_readerAt : ByteArray := prog_8_method_4_code
def yX6_readerAt : MethodName := ⟨RX6, "readerAt", "(I)LChangeFeed$Reader;"⟩
abbrev cX6_snapshotAt : ByteArray := prog_8_method_5_code
def yX6_snapshotAt : MethodName := ⟨RX6, "snapshotAt", "(I)LChangeFeed$Snapshot;"⟩
abbrev cX6_turnSetting : ByteArray := prog_8_method_6_code
def yX6_turnSetting : MethodName := ⟨RX6, "turnSetting", "(II)I"⟩
abbrev cX6_setKey : ByteArray := prog_8_method_7_code
def yX6_setKey : MethodName := ⟨RX6, "setKey", "(II)I"⟩
abbrev cX6_removeKey : ByteArray := prog_8_method_8_code
def yX6_removeKey : MethodName := ⟨RX6, "removeKey", "(I)I"⟩
abbrev cX6_letPass : ByteArray := prog_8_method_9_code
def yX6_letPass : MethodName := ⟨RX6, "letPass", "(I)I"⟩
abbrev cX6_thinFeed : ByteArray := prog_8_method_10_code
def yX6_thinFeed : MethodName := ⟨RX6, "thinFeed", "()I"⟩
abbrev cX6_makeSnapshot : ByteArray := prog_8_method_11_code
def yX6_makeSnapshot : MethodName := ⟨RX6, "makeSnapshot", "()I"⟩
abbrev cX6_addReader : ByteArray := prog_8_method_12_code
def yX6_addReader : MethodName := ⟨RX6, "addReader", "()I"⟩
abbrev cX6_letRead : ByteArray := prog_8_method_13_code
def yX6_letRead : MethodName := ⟨RX6, "letRead", "(II)I"⟩
abbrev cX6_letConfirm : ByteArray := prog_8_method_14_code
def yX6_letConfirm : MethodName := ⟨RX6, "letConfirm", "(I)I"⟩
abbrev cX6_letGoBack : ByteArray := prog_8_method_15_code
def yX6_letGoBack : MethodName := ⟨RX6, "letGoBack", "(I)I"⟩
abbrev cX6_letBeginAnew : ByteArray := prog_8_method_16_code
def yX6_letBeginAnew : MethodName := ⟨RX6, "letBeginAnew", "(I)I"⟩
abbrev cX6_letLoad : ByteArray := prog_8_method_17_code
def yX6_letLoad : MethodName := ⟨RX6, "letLoad", "(II)I"⟩
abbrev cX6_lateBelow : ByteArray := prog_8_method_18_code
def yX6_lateBelow : MethodName := ⟨RX6, "lateBelow", "(I)I"⟩
abbrev cX6_entriesOnWay : ByteArray := prog_8_method_19_code
def yX6_entriesOnWay : MethodName := ⟨RX6, "entriesOnWay", "(LChangeFeed$Reader;I)I"⟩
abbrev cX6_aheadUnlessLate : ByteArray := prog_8_method_20_code
def yX6_aheadUnlessLate : MethodName := ⟨RX6, "aheadUnlessLate", "(I)I"⟩
abbrev cX6_shortestWay : ByteArray := prog_8_method_21_code
def yX6_shortestWay : MethodName := ⟨RX6, "shortestWay", "(LChangeFeed$Reader;)I"⟩
def RX7 : String := "ChangeFeed$Values"
def TX7 : u_T := fun k => match k with
  | _ => ("ChangeFeed$Values", "values", "[I", true)
def tyX7 : Nat → FieldType := fun k => match k with
  | _ => .array .int
abbrev wsX70 : List Cond := u_ws RX7 TX7 1
theorem nmX7 : ∀ a, a < 1 → ∀ b, b < 1 → a ≠ b → (TX7 a).2.1 ≠ (TX7 b).2.1 := by decide +kernel
theorem tyX7_ok : ∀ k, k < 1 → parseFieldDescriptor (TX7 k).2.2.1 = some (tyX7 k) := by decide +kernel
abbrev cX7_init : ByteArray := prog_9_method_1_code
def yX7_init : MethodName := ⟨RX7, "<init>", "()V"⟩
abbrev cX7_clear : ByteArray := prog_9_method_2_code
def yX7_clear : MethodName := ⟨RX7, "clear", "()V"⟩
abbrev cX7_copyFrom : ByteArray := prog_9_method_3_code
def yX7_copyFrom : MethodName := ⟨RX7, "copyFrom", "(LChangeFeed$Values;)V"⟩
abbrev cX7_of : ByteArray := prog_9_method_4_code
def yX7_of : MethodName := ⟨RX7, "of", "(I)I"⟩
abbrev cX7_change : ByteArray := prog_9_method_5_code
def yX7_change : MethodName := ⟨RX7, "change", "(II)V"⟩
abbrev cX7_howMany : ByteArray := prog_9_method_6_code
def yX7_howMany : MethodName := ⟨RX7, "howMany", "()I"⟩
abbrev cX7_differingFrom : ByteArray := prog_9_method_7_code
def yX7_differingFrom : MethodName := ⟨RX7, "differingFrom", "(LChangeFeed$Values;)I"⟩
def RX8 : String := "ChangeFeed"
def TX8 : u_T := fun k => match k with
  | 0 => ("ChangeFeed", "now", "LChangeFeed$State;", true)
  | 1 => ("ChangeFeed", "history", "LChangeFeed$History;", true)
  | 2 => ("ChangeFeed", "pad", "LChangeFeed$Pad;", true)
  | _ => ("ChangeFeed", "slots", "[LChangeFeed$Slot;", true)
def tyX8 : Nat → FieldType := fun k => match k with
  | 0 => .object "ChangeFeed$State"
  | 1 => .object "ChangeFeed$History"
  | 2 => .object "ChangeFeed$Pad"
  | _ => .array (.object "ChangeFeed$Slot")
abbrev wsX80 : List Cond := u_ws RX8 TX8 4
theorem nmX8 : ∀ a, a < 4 → ∀ b, b < 4 → a ≠ b → (TX8 a).2.1 ≠ (TX8 b).2.1 := by decide +kernel
theorem tyX8_ok : ∀ k, k < 4 → parseFieldDescriptor (TX8 k).2.2.1 = some (tyX8 k) := by decide +kernel
abbrev cX8_init : ByteArray := prog_1_method_1_code
def yX8_init : MethodName := ⟨RX8, "<init>", "()V"⟩
abbrev cX8_turn : ByteArray := prog_1_method_2_code
def yX8_turn : MethodName := ⟨RX8, "turn", "(II)I"⟩
abbrev cX8_set : ByteArray := prog_1_method_3_code
def yX8_set : MethodName := ⟨RX8, "set", "(II)I"⟩
abbrev cX8_remove : ByteArray := prog_1_method_4_code
def yX8_remove : MethodName := ⟨RX8, "remove", "(I)I"⟩
abbrev cX8_pass : ByteArray := prog_1_method_5_code
def yX8_pass : MethodName := ⟨RX8, "pass", "(I)I"⟩
abbrev cX8_thin : ByteArray := prog_1_method_6_code
def yX8_thin : MethodName := ⟨RX8, "thin", "()I"⟩
abbrev cX8_snapshot : ByteArray := prog_1_method_7_code
def yX8_snapshot : MethodName := ⟨RX8, "snapshot", "()I"⟩
abbrev cX8_reader : ByteArray := prog_1_method_8_code
def yX8_reader : MethodName := ⟨RX8, "reader", "()I"⟩
abbrev cX8_read : ByteArray := prog_1_method_9_code
def yX8_read : MethodName := ⟨RX8, "read", "(II)I"⟩
abbrev cX8_confirm : ByteArray := prog_1_method_10_code
def yX8_confirm : MethodName := ⟨RX8, "confirm", "(I)I"⟩
abbrev cX8_goBack : ByteArray := prog_1_method_11_code
def yX8_goBack : MethodName := ⟨RX8, "goBack", "(I)I"⟩
abbrev cX8_beginAnew : ByteArray := prog_1_method_12_code
def yX8_beginAnew : MethodName := ⟨RX8, "beginAnew", "(I)I"⟩
abbrev cX8_load : ByteArray := prog_1_method_13_code
def yX8_load : MethodName := ⟨RX8, "load", "(II)I"⟩
abbrev cX8_table : ByteArray := prog_1_method_14_code
def yX8_table : MethodName := ⟨RX8, "table", "(I)I"⟩
abbrev cX8_view : ByteArray := prog_1_method_15_code
def yX8_view : MethodName := ⟨RX8, "view", "(II)I"⟩
abbrev cX8_entry : ByteArray := prog_1_method_16_code
def yX8_entry : MethodName := ⟨RX8, "entry", "(II)I"⟩
abbrev cX8_ofReader : ByteArray := prog_1_method_17_code
def yX8_ofReader : MethodName := ⟨RX8, "ofReader", "(II)I"⟩
abbrev cX8_ofSnapshot : ByteArray := prog_1_method_18_code
def yX8_ofSnapshot : MethodName := ⟨RX8, "ofSnapshot", "(II)I"⟩
abbrev cX8_count : ByteArray := prog_1_method_19_code
def yX8_count : MethodName := ⟨RX8, "count", "(I)I"⟩
abbrev cX8_leftIn : ByteArray := prog_1_method_20_code
def yX8_leftIn : MethodName := ⟨RX8, "leftIn", "(I)I"⟩
abbrev cX8_shortest : ByteArray := prog_1_method_22_code
def yX8_shortest : MethodName := ⟨RX8, "shortest", "(II)I"⟩
abbrev cX8_isKey : ByteArray := prog_1_method_33_code
def yX8_isKey : MethodName := ⟨RX8, "isKey", "(I)Z"⟩
abbrev cX8_isNumber : ByteArray := prog_1_method_34_code
def yX8_isNumber : MethodName := ⟨RX8, "isNumber", "(I)Z"⟩
abbrev cX8_isLate : ByteArray := prog_1_method_35_code
def yX8_isLate : MethodName := ⟨RX8, "isLate", "(II)Z"⟩
abbrev cX8_oneIf : ByteArray := prog_1_method_36_code
def yX8_oneIf : MethodName := ⟨RX8, "oneIf", "(Z)I"⟩
abbrev cX8_at : ByteArray := prog_1_method_37_code
def yX8_at : MethodName := ⟨RX8, "at", "([II)I"⟩
abbrev cX8_layAt : ByteArray := prog_1_method_38_code
def yX8_layAt : MethodName := ⟨RX8, "layAt", "([III)V"⟩
abbrev cX8_copyRow : ByteArray := prog_1_method_39_code
def yX8_copyRow : MethodName := ⟨RX8, "copyRow", "([I[I)V"⟩
def RX9 : String := "ChangeFeedModel"
def TX9 : u_T := fun k => match k with
  | _ => ("", "", "", false)
def tyX9 : Nat → FieldType := fun k => match k with
  | _ => .int
abbrev wsX90 : List Cond := u_ws RX9 TX9 0
theorem nmX9 : ∀ a, a < 0 → ∀ b, b < 0 → a ≠ b → (TX9 a).2.1 ≠ (TX9 b).2.1 := by decide +kernel
theorem tyX9_ok : ∀ k, k < 0 → parseFieldDescriptor (TX9 k).2.2.1 = some (tyX9 k) := by decide +kernel
def RJ9 : String := "java/lang/Math"
def TJ9 : u_T := fun k => match k with
  | _ => ("", "", "", false)
def tyJ9 : Nat → FieldType := fun k => match k with
  | _ => .int
abbrev wsJ90 : List Cond := u_ws RJ9 TJ9 0
theorem nmJ9 : ∀ a, a < 0 → ∀ b, b < 0 → a ≠ b → (TJ9 a).2.1 ≠ (TJ9 b).2.1 := by decide +kernel
theorem tyJ9_ok : ∀ k, k < 0 → parseFieldDescriptor (TJ9 k).2.2.1 = some (tyJ9 k) := by decide +kernel
abbrev cJ9_max_7cf53 : ByteArray := prog_12_method_65_code
def yJ9_max_7cf53 : MethodName := ⟨RJ9, "max", "(II)I"⟩
abbrev cJ9_min_7cf53 : ByteArray := prog_12_method_69_code
def yJ9_min_7cf53 : MethodName := ⟨RJ9, "min", "(II)I"⟩
def RL : String := "ChangeFeedLaw"
abbrev cL_low : ByteArray := method_2_code
def yL_low : MethodName := ⟨RL, "low", "(II)I"⟩
abbrev cL_cell : ByteArray := method_3_code
def yL_cell : MethodName := ⟨RL, "cell", "([II)I"⟩
abbrev cL_act : ByteArray := method_4_code
def yL_act : MethodName := ⟨RL, "act", "(LChangeFeed;[II)I"⟩
abbrev cL_feed : ByteArray := method_5_code
def yL_feed : MethodName := ⟨RL, "feed", "(LChangeFeed;)Z"⟩
abbrev cL_readers : ByteArray := method_6_code
def yL_readers : MethodName := ⟨RL, "readers", "(LChangeFeed;)Z"⟩
abbrev cL_law : ByteArray := code
def yL_law : MethodName := ⟨RL, "law", "([I)Z"⟩
abbrev kX0_init : MethodName × ByteArray × Nat × Option FieldType := (yX0_init, cX0_init, 1, none)
abbrev kX0_copyFrom : MethodName × ByteArray × Nat × Option FieldType := (yX0_copyFrom, cX0_copyFrom, 2, none)
abbrev kX0_numberAt : MethodName × ByteArray × Nat × Option FieldType := (yX0_numberAt, cX0_numberAt, 2, (some .int))
abbrev kX0_keyAt : MethodName × ByteArray × Nat × Option FieldType := (yX0_keyAt, cX0_keyAt, 2, (some .int))
abbrev kX0_valueAt : MethodName × ByteArray × Nat × Option FieldType := (yX0_valueAt, cX0_valueAt, 2, (some .int))
abbrev kX0_minuteAt : MethodName × ByteArray × Nat × Option FieldType := (yX0_minuteAt, cX0_minuteAt, 2, (some .int))
abbrev kX0_isFull : MethodName × ByteArray × Nat × Option FieldType := (yX0_isFull, cX0_isFull, 1, (some .boolean))
abbrev kX0_append : MethodName × ByteArray × Nat × Option FieldType := (yX0_append, cX0_append, 5, (some .int))
abbrev kX0_layEntry : MethodName × ByteArray × Nat × Option FieldType := (yX0_layEntry, cX0_layEntry, 6, none)
abbrev kX0_firstFrom : MethodName × ByteArray × Nat × Option FieldType := (yX0_firstFrom, cX0_firstFrom, 3, (some .int))
abbrev kX0_aheadOf : MethodName × ByteArray × Nat × Option FieldType := (yX0_aheadOf, cX0_aheadOf, 2, (some .int))
abbrev kX0_isLastOfItsKey : MethodName × ByteArray × Nat × Option FieldType := (yX0_isLastOfItsKey, cX0_isLastOfItsKey, 3, (some .boolean))
abbrev kX0_isClosed : MethodName × ByteArray × Nat × Option FieldType := (yX0_isClosed, cX0_isClosed, 3, (some .boolean))
abbrev kX0_segmentOf : MethodName × ByteArray × Nat × Option FieldType := (yX0_segmentOf, cX0_segmentOf, 2, (some .int))
abbrev kX0_isOldRemoval : MethodName × ByteArray × Nat × Option FieldType := (yX0_isOldRemoval, cX0_isOldRemoval, 4, (some .boolean))
abbrev kX0_wouldGo : MethodName × ByteArray × Nat × Option FieldType := (yX0_wouldGo, cX0_wouldGo, 5, (some .boolean))
abbrev kX0_leftAfterThinning : MethodName × ByteArray × Nat × Option FieldType := (yX0_leftAfterThinning, cX0_leftAfterThinning, 6, (some .int))
abbrev kX0_floorAfterThinning : MethodName × ByteArray × Nat × Option FieldType := (yX0_floorAfterThinning, cX0_floorAfterThinning, 6, (some .int))
abbrev kX0_thinOut : MethodName × ByteArray × Nat × Option FieldType := (yX0_thinOut, cX0_thinOut, 6, (some .int))
abbrev kX1_init : MethodName × ByteArray × Nat × Option FieldType := (yX1_init, cX1_init, 2, none)
abbrev kX1_stateAt : MethodName × ByteArray × Nat × Option FieldType := (yX1_stateAt, cX1_stateAt, 2, (some (.object RX6)))
abbrev kX1_prepare : MethodName × ByteArray × Nat × Option FieldType := (yX1_prepare, cX1_prepare, 3, none)
abbrev kX1_settle : MethodName × ByteArray × Nat × Option FieldType := (yX1_settle, cX1_settle, 2, (some .int))
abbrev kX1_dropOldest : MethodName × ByteArray × Nat × Option FieldType := (yX1_dropOldest, cX1_dropOldest, 3, none)
abbrev kX2_init : MethodName × ByteArray × Nat × Option FieldType := (yX2_init, cX2_init, 1, none)
abbrev kX3_init : MethodName × ByteArray × Nat × Option FieldType := (yX3_init, cX3_init, 1, none)
abbrev kX3_copyFrom : MethodName × ByteArray × Nat × Option FieldType := (yX3_copyFrom, cX3_copyFrom, 2, none)
abbrev kX3_startOver : MethodName × ByteArray × Nat × Option FieldType := (yX3_startOver, cX3_startOver, 1, none)
abbrev kX3_keepPlace : MethodName × ByteArray × Nat × Option FieldType := (yX3_keepPlace, cX3_keepPlace, 1, none)
abbrev kX3_returnToConfirmed : MethodName × ByteArray × Nat × Option FieldType := (yX3_returnToConfirmed, cX3_returnToConfirmed, 1, none)
abbrev kX3_takeOver : MethodName × ByteArray × Nat × Option FieldType := (yX3_takeOver, cX3_takeOver, 2, none)
abbrev kX3_readOn : MethodName × ByteArray × Nat × Option FieldType := (yX3_readOn, cX3_readOn, 6, (some .int))
abbrev kX4_init : MethodName × ByteArray × Nat × Option FieldType := (yX4_init, cX4_init, 1, none)
abbrev kX5_init : MethodName × ByteArray × Nat × Option FieldType := (yX5_init, cX5_init, 1, none)
abbrev kX5_copyFrom : MethodName × ByteArray × Nat × Option FieldType := (yX5_copyFrom, cX5_copyFrom, 2, none)
abbrev kX6_init : MethodName × ByteArray × Nat × Option FieldType := (yX6_init, cX6_init, 2, none)
abbrev kX6_copyFrom : MethodName × ByteArray × Nat × Option FieldType := (yX6_copyFrom, cX6_copyFrom, 5, none)
abbrev kX6_copySnapshot : MethodName × ByteArray × Nat × Option FieldType := (yX6_copySnapshot, cX6_copySnapshot, 2, none)
abbrev kX6_readerAt : MethodName × ByteArray × Nat × Option FieldType := (yX6_readerAt, cX6_readerAt, 2, (some (.object RX3)))
abbrev kX6_snapshotAt : MethodName × ByteArray × Nat × Option FieldType := (yX6_snapshotAt, cX6_snapshotAt, 2, (some (.object RX5)))
abbrev kX6_turnSetting : MethodName × ByteArray × Nat × Option FieldType := (yX6_turnSetting, cX6_turnSetting, 4, (some .int))
abbrev kX6_setKey : MethodName × ByteArray × Nat × Option FieldType := (yX6_setKey, cX6_setKey, 3, (some .int))
abbrev kX6_removeKey : MethodName × ByteArray × Nat × Option FieldType := (yX6_removeKey, cX6_removeKey, 2, (some .int))
abbrev kX6_letPass : MethodName × ByteArray × Nat × Option FieldType := (yX6_letPass, cX6_letPass, 2, (some .int))
abbrev kX6_thinFeed : MethodName × ByteArray × Nat × Option FieldType := (yX6_thinFeed, cX6_thinFeed, 1, (some .int))
abbrev kX6_makeSnapshot : MethodName × ByteArray × Nat × Option FieldType := (yX6_makeSnapshot, cX6_makeSnapshot, 2, (some .int))
abbrev kX6_addReader : MethodName × ByteArray × Nat × Option FieldType := (yX6_addReader, cX6_addReader, 3, (some .int))
abbrev kX6_letRead : MethodName × ByteArray × Nat × Option FieldType := (yX6_letRead, cX6_letRead, 4, (some .int))
abbrev kX6_letConfirm : MethodName × ByteArray × Nat × Option FieldType := (yX6_letConfirm, cX6_letConfirm, 3, (some .int))
abbrev kX6_letGoBack : MethodName × ByteArray × Nat × Option FieldType := (yX6_letGoBack, cX6_letGoBack, 3, (some .int))
abbrev kX6_letBeginAnew : MethodName × ByteArray × Nat × Option FieldType := (yX6_letBeginAnew, cX6_letBeginAnew, 3, (some .int))
abbrev kX6_letLoad : MethodName × ByteArray × Nat × Option FieldType := (yX6_letLoad, cX6_letLoad, 5, (some .int))
abbrev kX6_lateBelow : MethodName × ByteArray × Nat × Option FieldType := (yX6_lateBelow, cX6_lateBelow, 5, (some .int))
abbrev kX6_entriesOnWay : MethodName × ByteArray × Nat × Option FieldType := (yX6_entriesOnWay, cX6_entriesOnWay, 4, (some .int))
abbrev kX6_aheadUnlessLate : MethodName × ByteArray × Nat × Option FieldType := (yX6_aheadUnlessLate, cX6_aheadUnlessLate, 2, (some .int))
abbrev kX6_shortestWay : MethodName × ByteArray × Nat × Option FieldType := (yX6_shortestWay, cX6_shortestWay, 6, (some .int))
abbrev kX7_init : MethodName × ByteArray × Nat × Option FieldType := (yX7_init, cX7_init, 1, none)
abbrev kX7_clear : MethodName × ByteArray × Nat × Option FieldType := (yX7_clear, cX7_clear, 2, none)
abbrev kX7_copyFrom : MethodName × ByteArray × Nat × Option FieldType := (yX7_copyFrom, cX7_copyFrom, 2, none)
abbrev kX7_of : MethodName × ByteArray × Nat × Option FieldType := (yX7_of, cX7_of, 2, (some .int))
abbrev kX7_change : MethodName × ByteArray × Nat × Option FieldType := (yX7_change, cX7_change, 3, none)
abbrev kX7_howMany : MethodName × ByteArray × Nat × Option FieldType := (yX7_howMany, cX7_howMany, 3, (some .int))
abbrev kX7_differingFrom : MethodName × ByteArray × Nat × Option FieldType := (yX7_differingFrom, cX7_differingFrom, 4, (some .int))
abbrev kX8_init : MethodName × ByteArray × Nat × Option FieldType := (yX8_init, cX8_init, 2, none)
abbrev kX8_turn : MethodName × ByteArray × Nat × Option FieldType := (yX8_turn, cX8_turn, 3, (some .int))
abbrev kX8_set : MethodName × ByteArray × Nat × Option FieldType := (yX8_set, cX8_set, 3, (some .int))
abbrev kX8_remove : MethodName × ByteArray × Nat × Option FieldType := (yX8_remove, cX8_remove, 2, (some .int))
abbrev kX8_pass : MethodName × ByteArray × Nat × Option FieldType := (yX8_pass, cX8_pass, 2, (some .int))
abbrev kX8_thin : MethodName × ByteArray × Nat × Option FieldType := (yX8_thin, cX8_thin, 1, (some .int))
abbrev kX8_snapshot : MethodName × ByteArray × Nat × Option FieldType := (yX8_snapshot, cX8_snapshot, 1, (some .int))
abbrev kX8_reader : MethodName × ByteArray × Nat × Option FieldType := (yX8_reader, cX8_reader, 1, (some .int))
abbrev kX8_read : MethodName × ByteArray × Nat × Option FieldType := (yX8_read, cX8_read, 3, (some .int))
abbrev kX8_confirm : MethodName × ByteArray × Nat × Option FieldType := (yX8_confirm, cX8_confirm, 2, (some .int))
abbrev kX8_goBack : MethodName × ByteArray × Nat × Option FieldType := (yX8_goBack, cX8_goBack, 2, (some .int))
abbrev kX8_beginAnew : MethodName × ByteArray × Nat × Option FieldType := (yX8_beginAnew, cX8_beginAnew, 2, (some .int))
abbrev kX8_load : MethodName × ByteArray × Nat × Option FieldType := (yX8_load, cX8_load, 3, (some .int))
abbrev kX8_table : MethodName × ByteArray × Nat × Option FieldType := (yX8_table, cX8_table, 2, (some .int))
abbrev kX8_view : MethodName × ByteArray × Nat × Option FieldType := (yX8_view, cX8_view, 4, (some .int))
abbrev kX8_entry : MethodName × ByteArray × Nat × Option FieldType := (yX8_entry, cX8_entry, 4, (some .int))
abbrev kX8_ofReader : MethodName × ByteArray × Nat × Option FieldType := (yX8_ofReader, cX8_ofReader, 4, (some .int))
abbrev kX8_ofSnapshot : MethodName × ByteArray × Nat × Option FieldType := (yX8_ofSnapshot, cX8_ofSnapshot, 4, (some .int))
abbrev kX8_count : MethodName × ByteArray × Nat × Option FieldType := (yX8_count, cX8_count, 2, (some .int))
abbrev kX8_leftIn : MethodName × ByteArray × Nat × Option FieldType := (yX8_leftIn, cX8_leftIn, 2, (some .int))
abbrev kX8_shortest : MethodName × ByteArray × Nat × Option FieldType := (yX8_shortest, cX8_shortest, 5, (some .int))
abbrev kX8_isKey : MethodName × ByteArray × Nat × Option FieldType := (yX8_isKey, cX8_isKey, 1, (some .boolean))
abbrev kX8_isNumber : MethodName × ByteArray × Nat × Option FieldType := (yX8_isNumber, cX8_isNumber, 1, (some .boolean))
abbrev kX8_isLate : MethodName × ByteArray × Nat × Option FieldType := (yX8_isLate, cX8_isLate, 2, (some .boolean))
abbrev kX8_oneIf : MethodName × ByteArray × Nat × Option FieldType := (yX8_oneIf, cX8_oneIf, 1, (some .int))
abbrev kX8_at : MethodName × ByteArray × Nat × Option FieldType := (yX8_at, cX8_at, 2, (some .int))
abbrev kX8_layAt : MethodName × ByteArray × Nat × Option FieldType := (yX8_layAt, cX8_layAt, 3, none)
abbrev kX8_copyRow : MethodName × ByteArray × Nat × Option FieldType := (yX8_copyRow, cX8_copyRow, 3, none)
abbrev kL_low : MethodName × ByteArray × Nat × Option FieldType := (yL_low, cL_low, 2, (some .int))
abbrev kL_cell : MethodName × ByteArray × Nat × Option FieldType := (yL_cell, cL_cell, 2, (some .int))
abbrev kL_act : MethodName × ByteArray × Nat × Option FieldType := (yL_act, cL_act, 6, (some .int))
abbrev kL_feed : MethodName × ByteArray × Nat × Option FieldType := (yL_feed, cL_feed, 8, (some .boolean))
abbrev kL_readers : MethodName × ByteArray × Nat × Option FieldType := (yL_readers, cL_readers, 6, (some .boolean))
abbrev kL_law : MethodName × ByteArray × Nat × Option FieldType := (yL_law, code, 9, some .boolean)
abbrev classes : List vw_C := [(RX0, TX0, 8), (RX1, TX1, 2), (RX2, TX2, 6), (RX3, TX3, 5), (RX4, TX4, 2), (RX5, TX5, 2), (RX6, TX6, 9), (RX7, TX7, 1), (RX8, TX8, 4)]
end
section
theorem qini_L : Cond.initialized RL ∈ lwT := List.mem_filter.mpr ⟨List.mem_of_getElem? (i := 6) (by decide +kernel), by decide +kernel⟩
theorem qini_X8 : Cond.initialized RX8 ∈ lwT := List.mem_filter.mpr ⟨List.mem_of_getElem? (i := 7) (by decide +kernel), by decide +kernel⟩
theorem qini_X6 : Cond.initialized RX6 ∈ lwT := List.mem_filter.mpr ⟨List.mem_of_getElem? (i := 8) (by decide +kernel), by decide +kernel⟩
theorem qini_X7 : Cond.initialized RX7 ∈ lwT := List.mem_filter.mpr ⟨List.mem_of_getElem? (i := 9) (by decide +kernel), by decide +kernel⟩
theorem qini_X0 : Cond.initialized RX0 ∈ lwT := List.mem_filter.mpr ⟨List.mem_of_getElem? (i := 10) (by decide +kernel), by decide +kernel⟩
theorem qini_X3 : Cond.initialized RX3 ∈ lwT := List.mem_filter.mpr ⟨List.mem_of_getElem? (i := 11) (by decide +kernel), by decide +kernel⟩
theorem qini_X5 : Cond.initialized RX5 ∈ lwT := List.mem_filter.mpr ⟨List.mem_of_getElem? (i := 12) (by decide +kernel), by decide +kernel⟩
theorem qini_X1 : Cond.initialized RX1 ∈ lwT := List.mem_filter.mpr ⟨List.mem_of_getElem? (i := 13) (by decide +kernel), by decide +kernel⟩
theorem qini_X2 : Cond.initialized RX2 ∈ lwT := List.mem_filter.mpr ⟨List.mem_of_getElem? (i := 14) (by decide +kernel), by decide +kernel⟩
theorem qini_X4 : Cond.initialized RX4 ∈ lwT := List.mem_filter.mpr ⟨List.mem_of_getElem? (i := 15) (by decide +kernel), by decide +kernel⟩
theorem qini_J9 : Cond.initialized RJ9 ∈ lwT := List.mem_filter.mpr ⟨List.mem_of_getElem? (i := 16) (by decide +kernel), by decide +kernel⟩
theorem qL_20 : Cond.classLink RL 20 RX8 ∈ lwT := List.mem_filter.mpr ⟨List.mem_of_getElem? (i := 17) (by decide +kernel), by decide +kernel⟩
theorem qins_X8 : Cond.instantiable RX8 4 ∈ lwT := List.mem_filter.mpr ⟨List.mem_of_getElem? (i := 18) (by decide +kernel), by decide +kernel⟩
theorem qL_80 : Cond.methodLink RL 80 yX8_init ∈ lwT := List.mem_filter.mpr ⟨List.mem_of_getElem? (i := 19) (by decide +kernel), by decide +kernel⟩
theorem qX8_1 : Cond.methodLink RX8 1 objectInit ∈ lwT := List.mem_filter.mpr ⟨List.mem_of_getElem? (i := 22) (by decide +kernel), by decide +kernel⟩
theorem qX8_7 : Cond.classLink RX8 7 RX6 ∈ lwT := List.mem_filter.mpr ⟨List.mem_of_getElem? (i := 25) (by decide +kernel), by decide +kernel⟩
theorem qins_X6 : Cond.instantiable RX6 9 ∈ lwT := List.mem_filter.mpr ⟨List.mem_of_getElem? (i := 26) (by decide +kernel), by decide +kernel⟩
theorem qX8_9 : Cond.methodLink RX8 9 yX6_init ∈ lwT := List.mem_filter.mpr ⟨List.mem_of_getElem? (i := 27) (by decide +kernel), by decide +kernel⟩
theorem qX6_3 : Cond.methodLink RX6 3 objectInit ∈ lwT := List.mem_filter.mpr ⟨List.mem_of_getElem? (i := 30) (by decide +kernel), by decide +kernel⟩
theorem qX6_27 : Cond.classLink RX6 27 RX7 ∈ lwT := List.mem_filter.mpr ⟨List.mem_of_getElem? (i := 31) (by decide +kernel), by decide +kernel⟩
theorem qins_X7 : Cond.instantiable RX7 1 ∈ lwT := List.mem_filter.mpr ⟨List.mem_of_getElem? (i := 32) (by decide +kernel), by decide +kernel⟩
theorem qX6_29 : Cond.methodLink RX6 29 yX7_init ∈ lwT := List.mem_filter.mpr ⟨List.mem_of_getElem? (i := 33) (by decide +kernel), by decide +kernel⟩
theorem qX7_3 : Cond.methodLink RX7 3 objectInit ∈ lwT := List.mem_filter.mpr ⟨List.mem_of_getElem? (i := 36) (by decide +kernel), by decide +kernel⟩
theorem qX7_15 : Cond.methodLink RX7 15 yX7_clear ∈ lwT := List.mem_filter.mpr ⟨List.mem_of_getElem? (i := 37) (by decide +kernel), by decide +kernel⟩
theorem qX7_9 : Cond.fieldLink RX7 9 "ChangeFeed$Values" "values" "[I" ∈ lwT := List.mem_filter.mpr ⟨List.mem_of_getElem? (i := 44) (by decide +kernel), by decide +kernel⟩
theorem qac_int : Cond.arrayClass .int ∈ lwT := List.mem_filter.mpr ⟨List.mem_of_getElem? (i := 48) (by decide +kernel), by decide +kernel⟩
theorem qX6_34 : Cond.classLink RX6 34 RX0 ∈ lwT := List.mem_filter.mpr ⟨List.mem_of_getElem? (i := 49) (by decide +kernel), by decide +kernel⟩
theorem qins_X0 : Cond.instantiable RX0 8 ∈ lwT := List.mem_filter.mpr ⟨List.mem_of_getElem? (i := 50) (by decide +kernel), by decide +kernel⟩
theorem qX0_3 : Cond.methodLink RX0 3 objectInit ∈ lwT := List.mem_filter.mpr ⟨List.mem_of_getElem? (i := 54) (by decide +kernel), by decide +kernel⟩
theorem qX0_9 : Cond.fieldLink RX0 9 "ChangeFeed$Feed" "numbers" "[I" ∈ lwT := List.mem_filter.mpr ⟨List.mem_of_getElem? (i := 55) (by decide +kernel), by decide +kernel⟩
theorem qX0_15 : Cond.fieldLink RX0 15 "ChangeFeed$Feed" "keys" "[I" ∈ lwT := List.mem_filter.mpr ⟨List.mem_of_getElem? (i := 56) (by decide +kernel), by decide +kernel⟩
theorem qX0_18 : Cond.fieldLink RX0 18 "ChangeFeed$Feed" "values" "[I" ∈ lwT := List.mem_filter.mpr ⟨List.mem_of_getElem? (i := 57) (by decide +kernel), by decide +kernel⟩
theorem qX0_21 : Cond.fieldLink RX0 21 "ChangeFeed$Feed" "minutes" "[I" ∈ lwT := List.mem_filter.mpr ⟨List.mem_of_getElem? (i := 58) (by decide +kernel), by decide +kernel⟩
theorem qX0_24 : Cond.fieldLink RX0 24 "ChangeFeed$Feed" "held" "I" ∈ lwT := List.mem_filter.mpr ⟨List.mem_of_getElem? (i := 59) (by decide +kernel), by decide +kernel⟩
theorem qX3_53 : Cond.fieldLink RX3 53 "ChangeFeed$Feed" "held" "I" ∈ lwT := List.mem_filter.mpr ⟨List.mem_of_getElem? (i := 60) (by decide +kernel), by decide +kernel⟩
theorem qX8_109 : Cond.fieldLink RX8 109 "ChangeFeed$Feed" "held" "I" ∈ lwT := List.mem_filter.mpr ⟨List.mem_of_getElem? (i := 61) (by decide +kernel), by decide +kernel⟩
theorem qX6_149 : Cond.fieldLink RX6 149 "ChangeFeed$Feed" "held" "I" ∈ lwT := List.mem_filter.mpr ⟨List.mem_of_getElem? (i := 62) (by decide +kernel), by decide +kernel⟩
theorem qX0_28 : Cond.fieldLink RX0 28 "ChangeFeed$Feed" "next" "I" ∈ lwT := List.mem_filter.mpr ⟨List.mem_of_getElem? (i := 63) (by decide +kernel), by decide +kernel⟩
theorem qX6_113 : Cond.fieldLink RX6 113 "ChangeFeed$Feed" "next" "I" ∈ lwT := List.mem_filter.mpr ⟨List.mem_of_getElem? (i := 64) (by decide +kernel), by decide +kernel⟩
theorem qX8_179 : Cond.fieldLink RX8 179 "ChangeFeed$Feed" "next" "I" ∈ lwT := List.mem_filter.mpr ⟨List.mem_of_getElem? (i := 65) (by decide +kernel), by decide +kernel⟩
theorem qX0_31 : Cond.fieldLink RX0 31 "ChangeFeed$Feed" "floor" "I" ∈ lwT := List.mem_filter.mpr ⟨List.mem_of_getElem? (i := 66) (by decide +kernel), by decide +kernel⟩
theorem qX6_107 : Cond.fieldLink RX6 107 "ChangeFeed$Feed" "floor" "I" ∈ lwT := List.mem_filter.mpr ⟨List.mem_of_getElem? (i := 67) (by decide +kernel), by decide +kernel⟩
theorem qX8_150 : Cond.fieldLink RX8 150 "ChangeFeed$Feed" "floor" "I" ∈ lwT := List.mem_filter.mpr ⟨List.mem_of_getElem? (i := 68) (by decide +kernel), by decide +kernel⟩
theorem qX0_34 : Cond.fieldLink RX0 34 "ChangeFeed$Feed" "gone" "I" ∈ lwT := List.mem_filter.mpr ⟨List.mem_of_getElem? (i := 69) (by decide +kernel), by decide +kernel⟩
theorem qX8_185 : Cond.fieldLink RX8 185 "ChangeFeed$Feed" "gone" "I" ∈ lwT := List.mem_filter.mpr ⟨List.mem_of_getElem? (i := 70) (by decide +kernel), by decide +kernel⟩
theorem qX6_41 : Cond.classLink RX6 41 RX3 ∈ lwT := List.mem_filter.mpr ⟨List.mem_of_getElem? (i := 88) (by decide +kernel), by decide +kernel⟩
theorem qX6_47 : Cond.classLink RX6 47 RX5 ∈ lwT := List.mem_filter.mpr ⟨List.mem_of_getElem? (i := 90) (by decide +kernel), by decide +kernel⟩
theorem qins_X3 : Cond.instantiable RX3 5 ∈ lwT := List.mem_filter.mpr ⟨List.mem_of_getElem? (i := 92) (by decide +kernel), by decide +kernel⟩
theorem qX3_1 : Cond.methodLink RX3 1 objectInit ∈ lwT := List.mem_filter.mpr ⟨List.mem_of_getElem? (i := 96) (by decide +kernel), by decide +kernel⟩
theorem qX3_19 : Cond.classLink RX3 19 RX7 ∈ lwT := List.mem_filter.mpr ⟨List.mem_of_getElem? (i := 97) (by decide +kernel), by decide +kernel⟩
theorem qX3_21 : Cond.methodLink RX3 21 yX7_init ∈ lwT := List.mem_filter.mpr ⟨List.mem_of_getElem? (i := 98) (by decide +kernel), by decide +kernel⟩
theorem qX3_7 : Cond.fieldLink RX3 7 "ChangeFeed$Reader" "place" "I" ∈ lwT := List.mem_filter.mpr ⟨List.mem_of_getElem? (i := 99) (by decide +kernel), by decide +kernel⟩
theorem qX6_126 : Cond.fieldLink RX6 126 "ChangeFeed$Reader" "place" "I" ∈ lwT := List.mem_filter.mpr ⟨List.mem_of_getElem? (i := 100) (by decide +kernel), by decide +kernel⟩
theorem qX8_141 : Cond.fieldLink RX8 141 "ChangeFeed$Reader" "place" "I" ∈ lwT := List.mem_filter.mpr ⟨List.mem_of_getElem? (i := 101) (by decide +kernel), by decide +kernel⟩
theorem qX3_13 : Cond.fieldLink RX3 13 "ChangeFeed$Reader" "confirmedPlace" "I" ∈ lwT := List.mem_filter.mpr ⟨List.mem_of_getElem? (i := 102) (by decide +kernel), by decide +kernel⟩
theorem qX8_144 : Cond.fieldLink RX8 144 "ChangeFeed$Reader" "confirmedPlace" "I" ∈ lwT := List.mem_filter.mpr ⟨List.mem_of_getElem? (i := 103) (by decide +kernel), by decide +kernel⟩
theorem qX3_16 : Cond.fieldLink RX3 16 "ChangeFeed$Reader" "readSoFar" "I" ∈ lwT := List.mem_filter.mpr ⟨List.mem_of_getElem? (i := 104) (by decide +kernel), by decide +kernel⟩
theorem qX6_123 : Cond.fieldLink RX6 123 "ChangeFeed$Reader" "readSoFar" "I" ∈ lwT := List.mem_filter.mpr ⟨List.mem_of_getElem? (i := 105) (by decide +kernel), by decide +kernel⟩
theorem qX8_156 : Cond.fieldLink RX8 156 "ChangeFeed$Reader" "readSoFar" "I" ∈ lwT := List.mem_filter.mpr ⟨List.mem_of_getElem? (i := 106) (by decide +kernel), by decide +kernel⟩
theorem qX3_22 : Cond.fieldLink RX3 22 "ChangeFeed$Reader" "view" "LChangeFeed$Values;" ∈ lwT := List.mem_filter.mpr ⟨List.mem_of_getElem? (i := 107) (by decide +kernel), by decide +kernel⟩
theorem qX8_100 : Cond.fieldLink RX8 100 "ChangeFeed$Reader" "view" "LChangeFeed$Values;" ∈ lwT := List.mem_filter.mpr ⟨List.mem_of_getElem? (i := 108) (by decide +kernel), by decide +kernel⟩
theorem qX3_26 : Cond.fieldLink RX3 26 "ChangeFeed$Reader" "confirmedView" "LChangeFeed$Values;" ∈ lwT := List.mem_filter.mpr ⟨List.mem_of_getElem? (i := 109) (by decide +kernel), by decide +kernel⟩
theorem qX8_163 : Cond.fieldLink RX8 163 "ChangeFeed$Reader" "confirmedView" "LChangeFeed$Values;" ∈ lwT := List.mem_filter.mpr ⟨List.mem_of_getElem? (i := 110) (by decide +kernel), by decide +kernel⟩
theorem qins_X5 : Cond.instantiable RX5 2 ∈ lwT := List.mem_filter.mpr ⟨List.mem_of_getElem? (i := 122) (by decide +kernel), by decide +kernel⟩
theorem qX5_1 : Cond.methodLink RX5 1 objectInit ∈ lwT := List.mem_filter.mpr ⟨List.mem_of_getElem? (i := 126) (by decide +kernel), by decide +kernel⟩
theorem qX5_13 : Cond.classLink RX5 13 RX7 ∈ lwT := List.mem_filter.mpr ⟨List.mem_of_getElem? (i := 127) (by decide +kernel), by decide +kernel⟩
theorem qX5_15 : Cond.methodLink RX5 15 yX7_init ∈ lwT := List.mem_filter.mpr ⟨List.mem_of_getElem? (i := 128) (by decide +kernel), by decide +kernel⟩
theorem qX5_7 : Cond.fieldLink RX5 7 "ChangeFeed$Snapshot" "number" "I" ∈ lwT := List.mem_filter.mpr ⟨List.mem_of_getElem? (i := 129) (by decide +kernel), by decide +kernel⟩
theorem qX3_39 : Cond.fieldLink RX3 39 "ChangeFeed$Snapshot" "number" "I" ∈ lwT := List.mem_filter.mpr ⟨List.mem_of_getElem? (i := 130) (by decide +kernel), by decide +kernel⟩
theorem qX6_116 : Cond.fieldLink RX6 116 "ChangeFeed$Snapshot" "number" "I" ∈ lwT := List.mem_filter.mpr ⟨List.mem_of_getElem? (i := 131) (by decide +kernel), by decide +kernel⟩
theorem qX8_170 : Cond.fieldLink RX8 170 "ChangeFeed$Snapshot" "number" "I" ∈ lwT := List.mem_filter.mpr ⟨List.mem_of_getElem? (i := 132) (by decide +kernel), by decide +kernel⟩
theorem qX5_16 : Cond.fieldLink RX5 16 "ChangeFeed$Snapshot" "table" "LChangeFeed$Values;" ∈ lwT := List.mem_filter.mpr ⟨List.mem_of_getElem? (i := 133) (by decide +kernel), by decide +kernel⟩
theorem qX3_44 : Cond.fieldLink RX3 44 "ChangeFeed$Snapshot" "table" "LChangeFeed$Values;" ∈ lwT := List.mem_filter.mpr ⟨List.mem_of_getElem? (i := 134) (by decide +kernel), by decide +kernel⟩
theorem qX6_119 : Cond.fieldLink RX6 119 "ChangeFeed$Snapshot" "table" "LChangeFeed$Values;" ∈ lwT := List.mem_filter.mpr ⟨List.mem_of_getElem? (i := 135) (by decide +kernel), by decide +kernel⟩
theorem qX8_175 : Cond.fieldLink RX8 175 "ChangeFeed$Snapshot" "table" "LChangeFeed$Values;" ∈ lwT := List.mem_filter.mpr ⟨List.mem_of_getElem? (i := 136) (by decide +kernel), by decide +kernel⟩
theorem qX6_9 : Cond.fieldLink RX6 9 "ChangeFeed$State" "size" "I" ∈ lwT := List.mem_filter.mpr ⟨List.mem_of_getElem? (i := 142) (by decide +kernel), by decide +kernel⟩
theorem qX8_134 : Cond.fieldLink RX8 134 "ChangeFeed$State" "size" "I" ∈ lwT := List.mem_filter.mpr ⟨List.mem_of_getElem? (i := 143) (by decide +kernel), by decide +kernel⟩
theorem qX6_15 : Cond.fieldLink RX6 15 "ChangeFeed$State" "grace" "I" ∈ lwT := List.mem_filter.mpr ⟨List.mem_of_getElem? (i := 144) (by decide +kernel), by decide +kernel⟩
theorem qX8_197 : Cond.fieldLink RX8 197 "ChangeFeed$State" "grace" "I" ∈ lwT := List.mem_filter.mpr ⟨List.mem_of_getElem? (i := 145) (by decide +kernel), by decide +kernel⟩
theorem qX6_18 : Cond.fieldLink RX6 18 "ChangeFeed$State" "minute" "I" ∈ lwT := List.mem_filter.mpr ⟨List.mem_of_getElem? (i := 146) (by decide +kernel), by decide +kernel⟩
theorem qX8_182 : Cond.fieldLink RX8 182 "ChangeFeed$State" "minute" "I" ∈ lwT := List.mem_filter.mpr ⟨List.mem_of_getElem? (i := 147) (by decide +kernel), by decide +kernel⟩
theorem qX6_21 : Cond.fieldLink RX6 21 "ChangeFeed$State" "readerCount" "I" ∈ lwT := List.mem_filter.mpr ⟨List.mem_of_getElem? (i := 148) (by decide +kernel), by decide +kernel⟩
theorem qX8_188 : Cond.fieldLink RX8 188 "ChangeFeed$State" "readerCount" "I" ∈ lwT := List.mem_filter.mpr ⟨List.mem_of_getElem? (i := 149) (by decide +kernel), by decide +kernel⟩
theorem qX6_24 : Cond.fieldLink RX6 24 "ChangeFeed$State" "snapshotCount" "I" ∈ lwT := List.mem_filter.mpr ⟨List.mem_of_getElem? (i := 150) (by decide +kernel), by decide +kernel⟩
theorem qX8_194 : Cond.fieldLink RX8 194 "ChangeFeed$State" "snapshotCount" "I" ∈ lwT := List.mem_filter.mpr ⟨List.mem_of_getElem? (i := 151) (by decide +kernel), by decide +kernel⟩
theorem qX6_30 : Cond.fieldLink RX6 30 "ChangeFeed$State" "table" "LChangeFeed$Values;" ∈ lwT := List.mem_filter.mpr ⟨List.mem_of_getElem? (i := 152) (by decide +kernel), by decide +kernel⟩
theorem qX8_87 : Cond.fieldLink RX8 87 "ChangeFeed$State" "table" "LChangeFeed$Values;" ∈ lwT := List.mem_filter.mpr ⟨List.mem_of_getElem? (i := 153) (by decide +kernel), by decide +kernel⟩
theorem qX6_37 : Cond.fieldLink RX6 37 "ChangeFeed$State" "feed" "LChangeFeed$Feed;" ∈ lwT := List.mem_filter.mpr ⟨List.mem_of_getElem? (i := 154) (by decide +kernel), by decide +kernel⟩
theorem qX8_105 : Cond.fieldLink RX8 105 "ChangeFeed$State" "feed" "LChangeFeed$Feed;" ∈ lwT := List.mem_filter.mpr ⟨List.mem_of_getElem? (i := 155) (by decide +kernel), by decide +kernel⟩
theorem qX6_43 : Cond.fieldLink RX6 43 "ChangeFeed$State" "readers" "[LChangeFeed$Reader;" ∈ lwT := List.mem_filter.mpr ⟨List.mem_of_getElem? (i := 156) (by decide +kernel), by decide +kernel⟩
theorem qX6_49 : Cond.fieldLink RX6 49 "ChangeFeed$State" "snapshots" "[LChangeFeed$Snapshot;" ∈ lwT := List.mem_filter.mpr ⟨List.mem_of_getElem? (i := 157) (by decide +kernel), by decide +kernel⟩
theorem qX8_16 : Cond.classLink RX8 16 RX1 ∈ lwT := List.mem_filter.mpr ⟨List.mem_of_getElem? (i := 177) (by decide +kernel), by decide +kernel⟩
theorem qins_X1 : Cond.instantiable RX1 2 ∈ lwT := List.mem_filter.mpr ⟨List.mem_of_getElem? (i := 178) (by decide +kernel), by decide +kernel⟩
theorem qX8_18 : Cond.methodLink RX8 18 yX1_init ∈ lwT := List.mem_filter.mpr ⟨List.mem_of_getElem? (i := 179) (by decide +kernel), by decide +kernel⟩
theorem qX1_3 : Cond.methodLink RX1 3 objectInit ∈ lwT := List.mem_filter.mpr ⟨List.mem_of_getElem? (i := 182) (by decide +kernel), by decide +kernel⟩
theorem qX1_9 : Cond.classLink RX1 9 RX6 ∈ lwT := List.mem_filter.mpr ⟨List.mem_of_getElem? (i := 183) (by decide +kernel), by decide +kernel⟩
theorem qX1_21 : Cond.methodLink RX1 21 yX6_init ∈ lwT := List.mem_filter.mpr ⟨List.mem_of_getElem? (i := 185) (by decide +kernel), by decide +kernel⟩
theorem qX1_11 : Cond.fieldLink RX1 11 "ChangeFeed$History" "states" "[LChangeFeed$State;" ∈ lwT := List.mem_filter.mpr ⟨List.mem_of_getElem? (i := 186) (by decide +kernel), by decide +kernel⟩
theorem qX1_17 : Cond.fieldLink RX1 17 "ChangeFeed$History" "held" "I" ∈ lwT := List.mem_filter.mpr ⟨List.mem_of_getElem? (i := 187) (by decide +kernel), by decide +kernel⟩
theorem qX8_203 : Cond.fieldLink RX8 203 "ChangeFeed$History" "held" "I" ∈ lwT := List.mem_filter.mpr ⟨List.mem_of_getElem? (i := 188) (by decide +kernel), by decide +kernel⟩
theorem qX8_23 : Cond.classLink RX8 23 RX2 ∈ lwT := List.mem_filter.mpr ⟨List.mem_of_getElem? (i := 194) (by decide +kernel), by decide +kernel⟩
theorem qins_X2 : Cond.instantiable RX2 6 ∈ lwT := List.mem_filter.mpr ⟨List.mem_of_getElem? (i := 195) (by decide +kernel), by decide +kernel⟩
theorem qX2_3 : Cond.methodLink RX2 3 objectInit ∈ lwT := List.mem_filter.mpr ⟨List.mem_of_getElem? (i := 199) (by decide +kernel), by decide +kernel⟩
theorem qX2_9 : Cond.fieldLink RX2 9 "ChangeFeed$Pad" "signs" "[I" ∈ lwT := List.mem_filter.mpr ⟨List.mem_of_getElem? (i := 200) (by decide +kernel), by decide +kernel⟩
theorem qX2_15 : Cond.fieldLink RX2 15 "ChangeFeed$Pad" "length" "I" ∈ lwT := List.mem_filter.mpr ⟨List.mem_of_getElem? (i := 201) (by decide +kernel), by decide +kernel⟩
theorem qX8_200 : Cond.fieldLink RX8 200 "ChangeFeed$Pad" "length" "I" ∈ lwT := List.mem_filter.mpr ⟨List.mem_of_getElem? (i := 202) (by decide +kernel), by decide +kernel⟩
theorem qX2_19 : Cond.fieldLink RX2 19 "ChangeFeed$Pad" "place" "I" ∈ lwT := List.mem_filter.mpr ⟨List.mem_of_getElem? (i := 203) (by decide +kernel), by decide +kernel⟩
theorem qX2_22 : Cond.fieldLink RX2 22 "ChangeFeed$Pad" "letter" "I" ∈ lwT := List.mem_filter.mpr ⟨List.mem_of_getElem? (i := 204) (by decide +kernel), by decide +kernel⟩
theorem qX2_25 : Cond.fieldLink RX2 25 "ChangeFeed$Pad" "first" "I" ∈ lwT := List.mem_filter.mpr ⟨List.mem_of_getElem? (i := 205) (by decide +kernel), by decide +kernel⟩
theorem qX2_28 : Cond.fieldLink RX2 28 "ChangeFeed$Pad" "second" "I" ∈ lwT := List.mem_filter.mpr ⟨List.mem_of_getElem? (i := 206) (by decide +kernel), by decide +kernel⟩
theorem qX8_30 : Cond.classLink RX8 30 RX4 ∈ lwT := List.mem_filter.mpr ⟨List.mem_of_getElem? (i := 220) (by decide +kernel), by decide +kernel⟩
theorem qins_X4 : Cond.instantiable RX4 2 ∈ lwT := List.mem_filter.mpr ⟨List.mem_of_getElem? (i := 222) (by decide +kernel), by decide +kernel⟩
theorem qX4_1 : Cond.methodLink RX4 1 objectInit ∈ lwT := List.mem_filter.mpr ⟨List.mem_of_getElem? (i := 226) (by decide +kernel), by decide +kernel⟩
theorem qX4_13 : Cond.classLink RX4 13 RX6 ∈ lwT := List.mem_filter.mpr ⟨List.mem_of_getElem? (i := 227) (by decide +kernel), by decide +kernel⟩
theorem qX4_15 : Cond.methodLink RX4 15 yX6_init ∈ lwT := List.mem_filter.mpr ⟨List.mem_of_getElem? (i := 228) (by decide +kernel), by decide +kernel⟩
theorem qX4_7 : Cond.fieldLink RX4 7 "ChangeFeed$Slot" "isUsed" "Z" ∈ lwT := List.mem_filter.mpr ⟨List.mem_of_getElem? (i := 229) (by decide +kernel), by decide +kernel⟩
theorem qX4_16 : Cond.fieldLink RX4 16 "ChangeFeed$Slot" "state" "LChangeFeed$State;" ∈ lwT := List.mem_filter.mpr ⟨List.mem_of_getElem? (i := 230) (by decide +kernel), by decide +kernel⟩
theorem qX8_10 : Cond.fieldLink RX8 10 "ChangeFeed" "now" "LChangeFeed$State;" ∈ lwT := List.mem_filter.mpr ⟨List.mem_of_getElem? (i := 236) (by decide +kernel), by decide +kernel⟩
theorem qX8_19 : Cond.fieldLink RX8 19 "ChangeFeed" "history" "LChangeFeed$History;" ∈ lwT := List.mem_filter.mpr ⟨List.mem_of_getElem? (i := 237) (by decide +kernel), by decide +kernel⟩
theorem qX8_26 : Cond.fieldLink RX8 26 "ChangeFeed" "pad" "LChangeFeed$Pad;" ∈ lwT := List.mem_filter.mpr ⟨List.mem_of_getElem? (i := 238) (by decide +kernel), by decide +kernel⟩
theorem qX8_32 : Cond.fieldLink RX8 32 "ChangeFeed" "slots" "[LChangeFeed$Slot;" ∈ lwT := List.mem_filter.mpr ⟨List.mem_of_getElem? (i := 239) (by decide +kernel), by decide +kernel⟩
theorem qL_59 : Cond.methodLink RL 59 yX8_count ∈ lwT := List.mem_filter.mpr ⟨List.mem_of_getElem? (i := 249) (by decide +kernel), by decide +kernel⟩
theorem qX8_176 : Cond.methodLink RX8 176 yX7_howMany ∈ lwT := List.mem_filter.mpr ⟨List.mem_of_getElem? (i := 253) (by decide +kernel), by decide +kernel⟩
theorem qX7_30 : Cond.methodLink RX7 30 yX7_of ∈ lwT := List.mem_filter.mpr ⟨List.mem_of_getElem? (i := 257) (by decide +kernel), by decide +kernel⟩
theorem qX8_191 : Cond.methodLink RX8 191 yX6_lateBelow ∈ lwT := List.mem_filter.mpr ⟨List.mem_of_getElem? (i := 264) (by decide +kernel), by decide +kernel⟩
theorem qX6_62 : Cond.methodLink RX6 62 yX6_readerAt ∈ lwT := List.mem_filter.mpr ⟨List.mem_of_getElem? (i := 268) (by decide +kernel), by decide +kernel⟩
theorem qL_92 : Cond.methodLink RL 92 yX8_leftIn ∈ lwT := List.mem_filter.mpr ⟨List.mem_of_getElem? (i := 275) (by decide +kernel), by decide +kernel⟩
theorem qX8_204 : Cond.methodLink RX8 204 yX8_isNumber ∈ lwT := List.mem_filter.mpr ⟨List.mem_of_getElem? (i := 279) (by decide +kernel), by decide +kernel⟩
theorem qX8_207 : Cond.methodLink RX8 207 yX0_leftAfterThinning ∈ lwT := List.mem_filter.mpr ⟨List.mem_of_getElem? (i := 282) (by decide +kernel), by decide +kernel⟩
theorem qX0_73 : Cond.methodLink RX0 73 yX0_wouldGo ∈ lwT := List.mem_filter.mpr ⟨List.mem_of_getElem? (i := 286) (by decide +kernel), by decide +kernel⟩
theorem qX0_61 : Cond.methodLink RX0 61 yX0_isClosed ∈ lwT := List.mem_filter.mpr ⟨List.mem_of_getElem? (i := 290) (by decide +kernel), by decide +kernel⟩
theorem qX0_57 : Cond.methodLink RX0 57 yX0_segmentOf ∈ lwT := List.mem_filter.mpr ⟨List.mem_of_getElem? (i := 295) (by decide +kernel), by decide +kernel⟩
theorem qX0_65 : Cond.methodLink RX0 65 yX0_isLastOfItsKey ∈ lwT := List.mem_filter.mpr ⟨List.mem_of_getElem? (i := 298) (by decide +kernel), by decide +kernel⟩
theorem qX0_69 : Cond.methodLink RX0 69 yX0_isOldRemoval ∈ lwT := List.mem_filter.mpr ⟨List.mem_of_getElem? (i := 302) (by decide +kernel), by decide +kernel⟩
theorem qL_81 : Cond.methodLink RL 81 yL_act ∈ lwT := List.mem_filter.mpr ⟨List.mem_of_getElem? (i := 306) (by decide +kernel), by decide +kernel⟩
theorem qL_9 : Cond.methodLink RL 9 yL_cell ∈ lwT := List.mem_filter.mpr ⟨List.mem_of_getElem? (i := 309) (by decide +kernel), by decide +kernel⟩
theorem qL_8 : Cond.constant RL 8 (40503) ∈ lwT := List.mem_filter.mpr ⟨List.mem_of_getElem? (i := 312) (by decide +kernel), by decide +kernel⟩
theorem qL_15 : Cond.methodLink RL 15 yL_low ∈ lwT := List.mem_filter.mpr ⟨List.mem_of_getElem? (i := 313) (by decide +kernel), by decide +kernel⟩
theorem qL_7 : Cond.constant RL 7 (2147483647) ∈ lwT := List.mem_filter.mpr ⟨List.mem_of_getElem? (i := 316) (by decide +kernel), by decide +kernel⟩
theorem qL_19 : Cond.methodLink RL 19 yX8_set ∈ lwT := List.mem_filter.mpr ⟨List.mem_of_getElem? (i := 317) (by decide +kernel), by decide +kernel⟩
theorem qX8_37 : Cond.methodLink RX8 37 yX1_prepare ∈ lwT := List.mem_filter.mpr ⟨List.mem_of_getElem? (i := 321) (by decide +kernel), by decide +kernel⟩
theorem qX1_22 : Cond.methodLink RX1 22 yX1_stateAt ∈ lwT := List.mem_filter.mpr ⟨List.mem_of_getElem? (i := 325) (by decide +kernel), by decide +kernel⟩
theorem qX1_26 : Cond.methodLink RX1 26 yX6_copyFrom ∈ lwT := List.mem_filter.mpr ⟨List.mem_of_getElem? (i := 329) (by decide +kernel), by decide +kernel⟩
theorem qX6_55 : Cond.methodLink RX6 55 yX7_copyFrom ∈ lwT := List.mem_filter.mpr ⟨List.mem_of_getElem? (i := 333) (by decide +kernel), by decide +kernel⟩
theorem qX6_59 : Cond.methodLink RX6 59 yX0_copyFrom ∈ lwT := List.mem_filter.mpr ⟨List.mem_of_getElem? (i := 340) (by decide +kernel), by decide +kernel⟩
theorem qX6_66 : Cond.methodLink RX6 66 yX3_copyFrom ∈ lwT := List.mem_filter.mpr ⟨List.mem_of_getElem? (i := 345) (by decide +kernel), by decide +kernel⟩
theorem qX3_29 : Cond.methodLink RX3 29 yX7_copyFrom ∈ lwT := List.mem_filter.mpr ⟨List.mem_of_getElem? (i := 349) (by decide +kernel), by decide +kernel⟩
theorem qX6_69 : Cond.methodLink RX6 69 yX6_snapshotAt ∈ lwT := List.mem_filter.mpr ⟨List.mem_of_getElem? (i := 350) (by decide +kernel), by decide +kernel⟩
theorem qX6_73 : Cond.methodLink RX6 73 yX6_copySnapshot ∈ lwT := List.mem_filter.mpr ⟨List.mem_of_getElem? (i := 354) (by decide +kernel), by decide +kernel⟩
theorem qX6_77 : Cond.methodLink RX6 77 yX5_copyFrom ∈ lwT := List.mem_filter.mpr ⟨List.mem_of_getElem? (i := 357) (by decide +kernel), by decide +kernel⟩
theorem qX5_20 : Cond.methodLink RX5 20 yX7_copyFrom ∈ lwT := List.mem_filter.mpr ⟨List.mem_of_getElem? (i := 361) (by decide +kernel), by decide +kernel⟩
theorem qX8_49 : Cond.methodLink RX8 49 yX6_setKey ∈ lwT := List.mem_filter.mpr ⟨List.mem_of_getElem? (i := 362) (by decide +kernel), by decide +kernel⟩
theorem qX6_87 : Cond.methodLink RX6 87 yX0_isFull ∈ lwT := List.mem_filter.mpr ⟨List.mem_of_getElem? (i := 370) (by decide +kernel), by decide +kernel⟩
theorem qX6_91 : Cond.methodLink RX6 91 yX7_change ∈ lwT := List.mem_filter.mpr ⟨List.mem_of_getElem? (i := 374) (by decide +kernel), by decide +kernel⟩
theorem qX6_95 : Cond.methodLink RX6 95 yX0_append ∈ lwT := List.mem_filter.mpr ⟨List.mem_of_getElem? (i := 378) (by decide +kernel), by decide +kernel⟩
theorem qX0_45 : Cond.methodLink RX0 45 yX0_layEntry ∈ lwT := List.mem_filter.mpr ⟨List.mem_of_getElem? (i := 382) (by decide +kernel), by decide +kernel⟩
theorem qX8_45 : Cond.methodLink RX8 45 yX1_settle ∈ lwT := List.mem_filter.mpr ⟨List.mem_of_getElem? (i := 387) (by decide +kernel), by decide +kernel⟩
theorem qX1_30 : Cond.methodLink RX1 30 yX1_dropOldest ∈ lwT := List.mem_filter.mpr ⟨List.mem_of_getElem? (i := 391) (by decide +kernel), by decide +kernel⟩
theorem qL_24 : Cond.methodLink RL 24 yX8_remove ∈ lwT := List.mem_filter.mpr ⟨List.mem_of_getElem? (i := 395) (by decide +kernel), by decide +kernel⟩
theorem qX8_52 : Cond.methodLink RX8 52 yX6_removeKey ∈ lwT := List.mem_filter.mpr ⟨List.mem_of_getElem? (i := 399) (by decide +kernel), by decide +kernel⟩
theorem qX6_99 : Cond.methodLink RX6 99 yX7_of ∈ lwT := List.mem_filter.mpr ⟨List.mem_of_getElem? (i := 403) (by decide +kernel), by decide +kernel⟩
theorem qL_28 : Cond.methodLink RL 28 yX8_pass ∈ lwT := List.mem_filter.mpr ⟨List.mem_of_getElem? (i := 404) (by decide +kernel), by decide +kernel⟩
theorem qX8_55 : Cond.methodLink RX8 55 yX6_letPass ∈ lwT := List.mem_filter.mpr ⟨List.mem_of_getElem? (i := 408) (by decide +kernel), by decide +kernel⟩
theorem qX6_103 : Cond.constant RX6 103 (99999) ∈ lwT := List.mem_filter.mpr ⟨List.mem_of_getElem? (i := 412) (by decide +kernel), by decide +kernel⟩
theorem qL_31 : Cond.methodLink RL 31 yX8_reader ∈ lwT := List.mem_filter.mpr ⟨List.mem_of_getElem? (i := 413) (by decide +kernel), by decide +kernel⟩
theorem qX8_65 : Cond.methodLink RX8 65 yX6_addReader ∈ lwT := List.mem_filter.mpr ⟨List.mem_of_getElem? (i := 417) (by decide +kernel), by decide +kernel⟩
theorem qX6_120 : Cond.methodLink RX6 120 yX3_startOver ∈ lwT := List.mem_filter.mpr ⟨List.mem_of_getElem? (i := 421) (by decide +kernel), by decide +kernel⟩
theorem qX3_33 : Cond.methodLink RX3 33 yX7_clear ∈ lwT := List.mem_filter.mpr ⟨List.mem_of_getElem? (i := 425) (by decide +kernel), by decide +kernel⟩
theorem qX3_36 : Cond.methodLink RX3 36 yX3_keepPlace ∈ lwT := List.mem_filter.mpr ⟨List.mem_of_getElem? (i := 426) (by decide +kernel), by decide +kernel⟩
theorem qL_35 : Cond.methodLink RL 35 yX8_read ∈ lwT := List.mem_filter.mpr ⟨List.mem_of_getElem? (i := 430) (by decide +kernel), by decide +kernel⟩
theorem qX8_68 : Cond.methodLink RX8 68 yX6_letRead ∈ lwT := List.mem_filter.mpr ⟨List.mem_of_getElem? (i := 434) (by decide +kernel), by decide +kernel⟩
theorem qX6_133 : Cond.methodLink RX6 133 yX3_readOn ∈ lwT := List.mem_filter.mpr ⟨List.mem_of_getElem? (i := 438) (by decide +kernel), by decide +kernel⟩
theorem qX3_47 : Cond.methodLink RX3 47 yX0_firstFrom ∈ lwT := List.mem_filter.mpr ⟨List.mem_of_getElem? (i := 442) (by decide +kernel), by decide +kernel⟩
theorem qX3_56 : Cond.methodLink RX3 56 Lib.Math.min.name ∈ lwT := List.mem_filter.mpr ⟨List.mem_of_getElem? (i := 446) (by decide +kernel), by decide +kernel⟩
theorem qX3_62 : Cond.methodLink RX3 62 yX0_keyAt ∈ lwT := List.mem_filter.mpr ⟨List.mem_of_getElem? (i := 449) (by decide +kernel), by decide +kernel⟩
theorem qX3_65 : Cond.methodLink RX3 65 yX0_valueAt ∈ lwT := List.mem_filter.mpr ⟨List.mem_of_getElem? (i := 453) (by decide +kernel), by decide +kernel⟩
theorem qX3_68 : Cond.methodLink RX3 68 yX7_change ∈ lwT := List.mem_filter.mpr ⟨List.mem_of_getElem? (i := 457) (by decide +kernel), by decide +kernel⟩
theorem qX3_72 : Cond.methodLink RX3 72 yX0_numberAt ∈ lwT := List.mem_filter.mpr ⟨List.mem_of_getElem? (i := 458) (by decide +kernel), by decide +kernel⟩
theorem qL_38 : Cond.methodLink RL 38 yX8_confirm ∈ lwT := List.mem_filter.mpr ⟨List.mem_of_getElem? (i := 462) (by decide +kernel), by decide +kernel⟩
theorem qX8_71 : Cond.methodLink RX8 71 yX6_letConfirm ∈ lwT := List.mem_filter.mpr ⟨List.mem_of_getElem? (i := 466) (by decide +kernel), by decide +kernel⟩
theorem qX6_137 : Cond.methodLink RX6 137 yX3_keepPlace ∈ lwT := List.mem_filter.mpr ⟨List.mem_of_getElem? (i := 470) (by decide +kernel), by decide +kernel⟩
theorem qL_41 : Cond.methodLink RL 41 yX8_goBack ∈ lwT := List.mem_filter.mpr ⟨List.mem_of_getElem? (i := 471) (by decide +kernel), by decide +kernel⟩
theorem qX8_74 : Cond.methodLink RX8 74 yX6_letGoBack ∈ lwT := List.mem_filter.mpr ⟨List.mem_of_getElem? (i := 475) (by decide +kernel), by decide +kernel⟩
theorem qX6_140 : Cond.methodLink RX6 140 yX3_returnToConfirmed ∈ lwT := List.mem_filter.mpr ⟨List.mem_of_getElem? (i := 479) (by decide +kernel), by decide +kernel⟩
theorem qL_44 : Cond.methodLink RL 44 yX8_snapshot ∈ lwT := List.mem_filter.mpr ⟨List.mem_of_getElem? (i := 483) (by decide +kernel), by decide +kernel⟩
theorem qX8_62 : Cond.methodLink RX8 62 yX6_makeSnapshot ∈ lwT := List.mem_filter.mpr ⟨List.mem_of_getElem? (i := 487) (by decide +kernel), by decide +kernel⟩
theorem qL_47 : Cond.methodLink RL 47 yX8_beginAnew ∈ lwT := List.mem_filter.mpr ⟨List.mem_of_getElem? (i := 491) (by decide +kernel), by decide +kernel⟩
theorem qX8_77 : Cond.methodLink RX8 77 yX6_letBeginAnew ∈ lwT := List.mem_filter.mpr ⟨List.mem_of_getElem? (i := 495) (by decide +kernel), by decide +kernel⟩
theorem qX6_143 : Cond.methodLink RX6 143 yX0_aheadOf ∈ lwT := List.mem_filter.mpr ⟨List.mem_of_getElem? (i := 499) (by decide +kernel), by decide +kernel⟩
theorem qX0_53 : Cond.methodLink RX0 53 yX0_firstFrom ∈ lwT := List.mem_filter.mpr ⟨List.mem_of_getElem? (i := 503) (by decide +kernel), by decide +kernel⟩
theorem qL_50 : Cond.methodLink RL 50 yX8_load ∈ lwT := List.mem_filter.mpr ⟨List.mem_of_getElem? (i := 504) (by decide +kernel), by decide +kernel⟩
theorem qX8_80 : Cond.methodLink RX8 80 yX6_letLoad ∈ lwT := List.mem_filter.mpr ⟨List.mem_of_getElem? (i := 508) (by decide +kernel), by decide +kernel⟩
theorem qX6_146 : Cond.methodLink RX6 146 yX3_takeOver ∈ lwT := List.mem_filter.mpr ⟨List.mem_of_getElem? (i := 512) (by decide +kernel), by decide +kernel⟩
theorem qL_53 : Cond.methodLink RL 53 yX8_turn ∈ lwT := List.mem_filter.mpr ⟨List.mem_of_getElem? (i := 516) (by decide +kernel), by decide +kernel⟩
theorem qX8_41 : Cond.methodLink RX8 41 yX6_turnSetting ∈ lwT := List.mem_filter.mpr ⟨List.mem_of_getElem? (i := 520) (by decide +kernel), by decide +kernel⟩
theorem qL_56 : Cond.methodLink RL 56 yX8_thin ∈ lwT := List.mem_filter.mpr ⟨List.mem_of_getElem? (i := 524) (by decide +kernel), by decide +kernel⟩
theorem qX8_58 : Cond.methodLink RX8 58 yX6_thinFeed ∈ lwT := List.mem_filter.mpr ⟨List.mem_of_getElem? (i := 528) (by decide +kernel), by decide +kernel⟩
theorem qX6_104 : Cond.methodLink RX6 104 yX0_floorAfterThinning ∈ lwT := List.mem_filter.mpr ⟨List.mem_of_getElem? (i := 532) (by decide +kernel), by decide +kernel⟩
theorem qX0_77 : Cond.methodLink RX0 77 yX0_numberAt ∈ lwT := List.mem_filter.mpr ⟨List.mem_of_getElem? (i := 536) (by decide +kernel), by decide +kernel⟩
theorem qX0_80 : Cond.methodLink RX0 80 Lib.Math.max.name ∈ lwT := List.mem_filter.mpr ⟨List.mem_of_getElem? (i := 537) (by decide +kernel), by decide +kernel⟩
theorem qX6_110 : Cond.methodLink RX6 110 yX0_thinOut ∈ lwT := List.mem_filter.mpr ⟨List.mem_of_getElem? (i := 540) (by decide +kernel), by decide +kernel⟩
theorem qX0_85 : Cond.methodLink RX0 85 yX0_keyAt ∈ lwT := List.mem_filter.mpr ⟨List.mem_of_getElem? (i := 544) (by decide +kernel), by decide +kernel⟩
theorem qX0_88 : Cond.methodLink RX0 88 yX0_valueAt ∈ lwT := List.mem_filter.mpr ⟨List.mem_of_getElem? (i := 545) (by decide +kernel), by decide +kernel⟩
theorem qX0_91 : Cond.methodLink RX0 91 yX0_minuteAt ∈ lwT := List.mem_filter.mpr ⟨List.mem_of_getElem? (i := 546) (by decide +kernel), by decide +kernel⟩
theorem qL_85 : Cond.methodLink RL 85 yL_feed ∈ lwT := List.mem_filter.mpr ⟨List.mem_of_getElem? (i := 550) (by decide +kernel), by decide +kernel⟩
theorem qL_62 : Cond.methodLink RL 62 yX8_entry ∈ lwT := List.mem_filter.mpr ⟨List.mem_of_getElem? (i := 553) (by decide +kernel), by decide +kernel⟩
theorem qX8_115 : Cond.methodLink RX8 115 yX0_numberAt ∈ lwT := List.mem_filter.mpr ⟨List.mem_of_getElem? (i := 557) (by decide +kernel), by decide +kernel⟩
theorem qX8_118 : Cond.methodLink RX8 118 yX0_keyAt ∈ lwT := List.mem_filter.mpr ⟨List.mem_of_getElem? (i := 558) (by decide +kernel), by decide +kernel⟩
theorem qX8_121 : Cond.methodLink RX8 121 yX0_valueAt ∈ lwT := List.mem_filter.mpr ⟨List.mem_of_getElem? (i := 559) (by decide +kernel), by decide +kernel⟩
theorem qX8_124 : Cond.methodLink RX8 124 yX0_minuteAt ∈ lwT := List.mem_filter.mpr ⟨List.mem_of_getElem? (i := 560) (by decide +kernel), by decide +kernel⟩
theorem qX8_127 : Cond.methodLink RX8 127 yX0_isLastOfItsKey ∈ lwT := List.mem_filter.mpr ⟨List.mem_of_getElem? (i := 561) (by decide +kernel), by decide +kernel⟩
theorem qX8_130 : Cond.methodLink RX8 130 yX8_oneIf ∈ lwT := List.mem_filter.mpr ⟨List.mem_of_getElem? (i := 562) (by decide +kernel), by decide +kernel⟩
theorem qX8_137 : Cond.methodLink RX8 137 yX0_isClosed ∈ lwT := List.mem_filter.mpr ⟨List.mem_of_getElem? (i := 565) (by decide +kernel), by decide +kernel⟩
theorem qL_65 : Cond.methodLink RL 65 yX8_table ∈ lwT := List.mem_filter.mpr ⟨List.mem_of_getElem? (i := 566) (by decide +kernel), by decide +kernel⟩
theorem qX8_83 : Cond.methodLink RX8 83 yX8_isKey ∈ lwT := List.mem_filter.mpr ⟨List.mem_of_getElem? (i := 570) (by decide +kernel), by decide +kernel⟩
theorem qX8_91 : Cond.methodLink RX8 91 yX7_of ∈ lwT := List.mem_filter.mpr ⟨List.mem_of_getElem? (i := 571) (by decide +kernel), by decide +kernel⟩
theorem qL_89 : Cond.methodLink RL 89 yL_readers ∈ lwT := List.mem_filter.mpr ⟨List.mem_of_getElem? (i := 572) (by decide +kernel), by decide +kernel⟩
theorem qL_68 : Cond.methodLink RL 68 yX8_ofReader ∈ lwT := List.mem_filter.mpr ⟨List.mem_of_getElem? (i := 575) (by decide +kernel), by decide +kernel⟩
theorem qX8_96 : Cond.methodLink RX8 96 yX6_readerAt ∈ lwT := List.mem_filter.mpr ⟨List.mem_of_getElem? (i := 579) (by decide +kernel), by decide +kernel⟩
theorem qX8_147 : Cond.methodLink RX8 147 yX0_aheadOf ∈ lwT := List.mem_filter.mpr ⟨List.mem_of_getElem? (i := 580) (by decide +kernel), by decide +kernel⟩
theorem qX8_153 : Cond.methodLink RX8 153 yX8_isLate ∈ lwT := List.mem_filter.mpr ⟨List.mem_of_getElem? (i := 581) (by decide +kernel), by decide +kernel⟩
theorem qX8_159 : Cond.methodLink RX8 159 yX7_differingFrom ∈ lwT := List.mem_filter.mpr ⟨List.mem_of_getElem? (i := 582) (by decide +kernel), by decide +kernel⟩
theorem qL_71 : Cond.methodLink RL 71 yX8_view ∈ lwT := List.mem_filter.mpr ⟨List.mem_of_getElem? (i := 586) (by decide +kernel), by decide +kernel⟩
theorem qL_74 : Cond.methodLink RL 74 yX8_shortest ∈ lwT := List.mem_filter.mpr ⟨List.mem_of_getElem? (i := 590) (by decide +kernel), by decide +kernel⟩
theorem qX8_214 : Cond.methodLink RX8 214 yX6_shortestWay ∈ lwT := List.mem_filter.mpr ⟨List.mem_of_getElem? (i := 594) (by decide +kernel), by decide +kernel⟩
theorem qX6_155 : Cond.methodLink RX6 155 yX6_entriesOnWay ∈ lwT := List.mem_filter.mpr ⟨List.mem_of_getElem? (i := 598) (by decide +kernel), by decide +kernel⟩
theorem qX6_152 : Cond.methodLink RX6 152 yX6_aheadUnlessLate ∈ lwT := List.mem_filter.mpr ⟨List.mem_of_getElem? (i := 602) (by decide +kernel), by decide +kernel⟩
theorem qX8_218 : Cond.methodLink RX8 218 yX6_entriesOnWay ∈ lwT := List.mem_filter.mpr ⟨List.mem_of_getElem? (i := 606) (by decide +kernel), by decide +kernel⟩
theorem qL_77 : Cond.methodLink RL 77 yX8_ofSnapshot ∈ lwT := List.mem_filter.mpr ⟨List.mem_of_getElem? (i := 607) (by decide +kernel), by decide +kernel⟩
theorem qX8_166 : Cond.methodLink RX8 166 yX6_snapshotAt ∈ lwT := List.mem_filter.mpr ⟨List.mem_of_getElem? (i := 611) (by decide +kernel), by decide +kernel⟩
theorem inX0 : ∀ w ∈ u_ws RX0 TX0 8, w ∈ lwT := fun w hw => List.mem_filter.mpr ⟨(show ∀ w ∈ u_ws RX0 TX0 8, w ∈ lw_tbl by decide +kernel) w hw, (show ∀ w ∈ u_ws RX0 TX0 8, goodWord w = true by decide +kernel) w hw⟩
theorem inX1 : ∀ w ∈ u_ws RX1 TX1 2, w ∈ lwT := fun w hw => List.mem_filter.mpr ⟨(show ∀ w ∈ u_ws RX1 TX1 2, w ∈ lw_tbl by decide +kernel) w hw, (show ∀ w ∈ u_ws RX1 TX1 2, goodWord w = true by decide +kernel) w hw⟩
theorem inX2 : ∀ w ∈ u_ws RX2 TX2 6, w ∈ lwT := fun w hw => List.mem_filter.mpr ⟨(show ∀ w ∈ u_ws RX2 TX2 6, w ∈ lw_tbl by decide +kernel) w hw, (show ∀ w ∈ u_ws RX2 TX2 6, goodWord w = true by decide +kernel) w hw⟩
theorem inX3 : ∀ w ∈ u_ws RX3 TX3 5, w ∈ lwT := fun w hw => List.mem_filter.mpr ⟨(show ∀ w ∈ u_ws RX3 TX3 5, w ∈ lw_tbl by decide +kernel) w hw, (show ∀ w ∈ u_ws RX3 TX3 5, goodWord w = true by decide +kernel) w hw⟩
theorem inX4 : ∀ w ∈ u_ws RX4 TX4 2, w ∈ lwT := fun w hw => List.mem_filter.mpr ⟨(show ∀ w ∈ u_ws RX4 TX4 2, w ∈ lw_tbl by decide +kernel) w hw, (show ∀ w ∈ u_ws RX4 TX4 2, goodWord w = true by decide +kernel) w hw⟩
theorem inX5 : ∀ w ∈ u_ws RX5 TX5 2, w ∈ lwT := fun w hw => List.mem_filter.mpr ⟨(show ∀ w ∈ u_ws RX5 TX5 2, w ∈ lw_tbl by decide +kernel) w hw, (show ∀ w ∈ u_ws RX5 TX5 2, goodWord w = true by decide +kernel) w hw⟩
theorem inX6 : ∀ w ∈ u_ws RX6 TX6 9, w ∈ lwT := fun w hw => List.mem_filter.mpr ⟨(show ∀ w ∈ u_ws RX6 TX6 9, w ∈ lw_tbl by decide +kernel) w hw, (show ∀ w ∈ u_ws RX6 TX6 9, goodWord w = true by decide +kernel) w hw⟩
theorem inX7 : ∀ w ∈ u_ws RX7 TX7 1, w ∈ lwT := fun w hw => List.mem_filter.mpr ⟨(show ∀ w ∈ u_ws RX7 TX7 1, w ∈ lw_tbl by decide +kernel) w hw, (show ∀ w ∈ u_ws RX7 TX7 1, goodWord w = true by decide +kernel) w hw⟩
theorem inX8 : ∀ w ∈ u_ws RX8 TX8 4, w ∈ lwT := fun w hw => List.mem_filter.mpr ⟨(show ∀ w ∈ u_ws RX8 TX8 4, w ∈ lw_tbl by decide +kernel) w hw, (show ∀ w ∈ u_ws RX8 TX8 4, goodWord w = true by decide +kernel) w hw⟩
abbrev nestL : List (String × Nat × MethodName × String) := [(RX7, 18, yX8_layAt, RX8), (RX6, 36, yX0_init, RX8), (RX6, 53, yX3_init, RX8), (RX6, 54, yX5_init, RX8), (RX8, 25, yX2_init, RX8), (RX8, 36, yX4_init, RX8), (RX7, 26, yX8_at, RX8), (RX6, 129, yX8_isLate, RX8), (RX0, 41, yX8_at, RX8), (RX7, 22, yX8_copyRow, RX8), (RX0, 37, yX8_copyRow, RX8), (RX6, 84, yX8_isKey, RX8), (RX6, 80, yX8_isNumber, RX8), (RX0, 49, yX8_layAt, RX8)]
theorem nX7_18 : (RX7, 18, yX8_layAt, RX8) ∈ nestL := List.mem_of_getElem? (i := 0) rfl
theorem nX6_36 : (RX6, 36, yX0_init, RX8) ∈ nestL := List.mem_of_getElem? (i := 1) rfl
theorem nX6_53 : (RX6, 53, yX3_init, RX8) ∈ nestL := List.mem_of_getElem? (i := 2) rfl
theorem nX6_54 : (RX6, 54, yX5_init, RX8) ∈ nestL := List.mem_of_getElem? (i := 3) rfl
theorem nX8_25 : (RX8, 25, yX2_init, RX8) ∈ nestL := List.mem_of_getElem? (i := 4) rfl
theorem nX8_36 : (RX8, 36, yX4_init, RX8) ∈ nestL := List.mem_of_getElem? (i := 5) rfl
theorem nX7_26 : (RX7, 26, yX8_at, RX8) ∈ nestL := List.mem_of_getElem? (i := 6) rfl
theorem nX6_129 : (RX6, 129, yX8_isLate, RX8) ∈ nestL := List.mem_of_getElem? (i := 7) rfl
theorem nX0_41 : (RX0, 41, yX8_at, RX8) ∈ nestL := List.mem_of_getElem? (i := 8) rfl
theorem nX7_22 : (RX7, 22, yX8_copyRow, RX8) ∈ nestL := List.mem_of_getElem? (i := 9) rfl
theorem nX0_37 : (RX0, 37, yX8_copyRow, RX8) ∈ nestL := List.mem_of_getElem? (i := 10) rfl
theorem nX6_84 : (RX6, 84, yX8_isKey, RX8) ∈ nestL := List.mem_of_getElem? (i := 11) rfl
theorem nX6_80 : (RX6, 80, yX8_isNumber, RX8) ∈ nestL := List.mem_of_getElem? (i := 12) rfl
theorem nX0_49 : (RX0, 49, yX8_layAt, RX8) ∈ nestL := List.mem_of_getElem? (i := 13) rfl
theorem nest_in : ∀ q ∈ nestL, Cond.methodLinkNest q.1 q.2.1 q.2.2.1 q.2.2.2 ∈ lw_tbl := by
  refine List.forall_mem_cons.mpr ⟨?_, List.forall_mem_cons.mpr ⟨?_, List.forall_mem_cons.mpr ⟨?_, List.forall_mem_cons.mpr ⟨?_, List.forall_mem_cons.mpr ⟨?_, List.forall_mem_cons.mpr ⟨?_, List.forall_mem_cons.mpr ⟨?_, List.forall_mem_cons.mpr ⟨?_, List.forall_mem_cons.mpr ⟨?_, List.forall_mem_cons.mpr ⟨?_, List.forall_mem_cons.mpr ⟨?_, List.forall_mem_cons.mpr ⟨?_, List.forall_mem_cons.mpr ⟨?_, List.forall_mem_cons.mpr ⟨?_, fun _ h => absurd h List.not_mem_nil⟩⟩⟩⟩⟩⟩⟩⟩⟩⟩⟩⟩⟩⟩
  · exact List.mem_of_getElem? (i := 41) (by decide +kernel)
  · exact List.mem_of_getElem? (i := 51) (by decide +kernel)
  · exact List.mem_of_getElem? (i := 93) (by decide +kernel)
  · exact List.mem_of_getElem? (i := 123) (by decide +kernel)
  · exact List.mem_of_getElem? (i := 196) (by decide +kernel)
  · exact List.mem_of_getElem? (i := 223) (by decide +kernel)
  · exact List.mem_of_getElem? (i := 261) (by decide +kernel)
  · exact List.mem_of_getElem? (i := 272) (by decide +kernel)
  · exact List.mem_of_getElem? (i := 294) (by decide +kernel)
  · exact List.mem_of_getElem? (i := 337) (by decide +kernel)
  · exact List.mem_of_getElem? (i := 344) (by decide +kernel)
  · exact List.mem_of_getElem? (i := 366) (by decide +kernel)
  · exact List.mem_of_getElem? (i := 369) (by decide +kernel)
  · exact List.mem_of_getElem? (i := 386) (by decide +kernel)
/-- a field of class ci, place k, as own links it at idx -/
def FOk (ci k : Nat) (own : String) (idx : Nat) : Prop := ∃ (C : String) (T : u_T) (N : Nat), classes[ci]? = some (C, T, N) ∧ k < N ∧ (∀ w ∈ u_ws C T N, w ∈ lwT) ∧ Cond.fieldLink own idx (T k).1 (T k).2.1 (T k).2.2.1 ∈ lwT
def POk (ci k : Nat) (own : String) (idx : Nat) (fin : Bool) (ty : FieldType) : Prop := ∃ (C : String) (T : u_T) (N : Nat) (ty0 : Nat → FieldType), classes[ci]? = some (C, T, N) ∧ k < N ∧ (∀ w ∈ u_ws C T N, w ∈ lwT) ∧ Cond.fieldLink own idx (T k).1 (T k).2.1 (T k).2.2.1 ∈ lwT ∧ (∀ k, k < N → parseFieldDescriptor (T k).2.2.1 = some (ty0 k)) ∧ (∀ a, a < N → ∀ b, b < N → a ≠ b → (T a).2.1 ≠ (T b).2.1) ∧ (T k).2.2.2 = fin ∧ parseFieldDescriptor (T k).2.2.1 = some ty ∧ (fin = true → (T k).1 = own)
theorem fX7_9 : FOk 7 0 RX7 9 := ⟨_, _, _, rfl, by decide, inX7, qX7_9⟩
theorem pX7_9 : POk 7 0 RX7 9 true (.array .int) := ⟨_, _, _, tyX7, rfl, by decide, inX7, qX7_9, tyX7_ok, nmX7, rfl, by decide +kernel, by decide +kernel⟩
theorem fX0_9 : FOk 0 0 RX0 9 := ⟨_, _, _, rfl, by decide, inX0, qX0_9⟩
theorem pX0_9 : POk 0 0 RX0 9 true (.array .int) := ⟨_, _, _, tyX0, rfl, by decide, inX0, qX0_9, tyX0_ok, nmX0, rfl, by decide +kernel, by decide +kernel⟩
theorem fX0_15 : FOk 0 1 RX0 15 := ⟨_, _, _, rfl, by decide, inX0, qX0_15⟩
theorem pX0_15 : POk 0 1 RX0 15 true (.array .int) := ⟨_, _, _, tyX0, rfl, by decide, inX0, qX0_15, tyX0_ok, nmX0, rfl, by decide +kernel, by decide +kernel⟩
theorem fX0_18 : FOk 0 2 RX0 18 := ⟨_, _, _, rfl, by decide, inX0, qX0_18⟩
theorem pX0_18 : POk 0 2 RX0 18 true (.array .int) := ⟨_, _, _, tyX0, rfl, by decide, inX0, qX0_18, tyX0_ok, nmX0, rfl, by decide +kernel, by decide +kernel⟩
theorem fX0_21 : FOk 0 3 RX0 21 := ⟨_, _, _, rfl, by decide, inX0, qX0_21⟩
theorem pX0_21 : POk 0 3 RX0 21 true (.array .int) := ⟨_, _, _, tyX0, rfl, by decide, inX0, qX0_21, tyX0_ok, nmX0, rfl, by decide +kernel, by decide +kernel⟩
theorem fX0_24 : FOk 0 4 RX0 24 := ⟨_, _, _, rfl, by decide, inX0, qX0_24⟩
theorem pX0_24 : POk 0 4 RX0 24 false .int := ⟨_, _, _, tyX0, rfl, by decide, inX0, qX0_24, tyX0_ok, nmX0, rfl, by decide +kernel, by decide +kernel⟩
theorem fX3_53 : FOk 0 4 RX3 53 := ⟨_, _, _, rfl, by decide, inX0, qX3_53⟩
theorem pX3_53 : POk 0 4 RX3 53 false .int := ⟨_, _, _, tyX0, rfl, by decide, inX0, qX3_53, tyX0_ok, nmX0, rfl, by decide +kernel, by decide +kernel⟩
theorem fX8_109 : FOk 0 4 RX8 109 := ⟨_, _, _, rfl, by decide, inX0, qX8_109⟩
theorem pX8_109 : POk 0 4 RX8 109 false .int := ⟨_, _, _, tyX0, rfl, by decide, inX0, qX8_109, tyX0_ok, nmX0, rfl, by decide +kernel, by decide +kernel⟩
theorem fX6_149 : FOk 0 4 RX6 149 := ⟨_, _, _, rfl, by decide, inX0, qX6_149⟩
theorem pX6_149 : POk 0 4 RX6 149 false .int := ⟨_, _, _, tyX0, rfl, by decide, inX0, qX6_149, tyX0_ok, nmX0, rfl, by decide +kernel, by decide +kernel⟩
theorem fX0_28 : FOk 0 5 RX0 28 := ⟨_, _, _, rfl, by decide, inX0, qX0_28⟩
theorem pX0_28 : POk 0 5 RX0 28 false .int := ⟨_, _, _, tyX0, rfl, by decide, inX0, qX0_28, tyX0_ok, nmX0, rfl, by decide +kernel, by decide +kernel⟩
theorem fX6_113 : FOk 0 5 RX6 113 := ⟨_, _, _, rfl, by decide, inX0, qX6_113⟩
theorem pX6_113 : POk 0 5 RX6 113 false .int := ⟨_, _, _, tyX0, rfl, by decide, inX0, qX6_113, tyX0_ok, nmX0, rfl, by decide +kernel, by decide +kernel⟩
theorem fX8_179 : FOk 0 5 RX8 179 := ⟨_, _, _, rfl, by decide, inX0, qX8_179⟩
theorem pX8_179 : POk 0 5 RX8 179 false .int := ⟨_, _, _, tyX0, rfl, by decide, inX0, qX8_179, tyX0_ok, nmX0, rfl, by decide +kernel, by decide +kernel⟩
theorem fX0_31 : FOk 0 6 RX0 31 := ⟨_, _, _, rfl, by decide, inX0, qX0_31⟩
theorem pX0_31 : POk 0 6 RX0 31 false .int := ⟨_, _, _, tyX0, rfl, by decide, inX0, qX0_31, tyX0_ok, nmX0, rfl, by decide +kernel, by decide +kernel⟩
theorem fX6_107 : FOk 0 6 RX6 107 := ⟨_, _, _, rfl, by decide, inX0, qX6_107⟩
theorem pX6_107 : POk 0 6 RX6 107 false .int := ⟨_, _, _, tyX0, rfl, by decide, inX0, qX6_107, tyX0_ok, nmX0, rfl, by decide +kernel, by decide +kernel⟩
theorem fX8_150 : FOk 0 6 RX8 150 := ⟨_, _, _, rfl, by decide, inX0, qX8_150⟩
theorem pX8_150 : POk 0 6 RX8 150 false .int := ⟨_, _, _, tyX0, rfl, by decide, inX0, qX8_150, tyX0_ok, nmX0, rfl, by decide +kernel, by decide +kernel⟩
theorem fX0_34 : FOk 0 7 RX0 34 := ⟨_, _, _, rfl, by decide, inX0, qX0_34⟩
theorem pX0_34 : POk 0 7 RX0 34 false .int := ⟨_, _, _, tyX0, rfl, by decide, inX0, qX0_34, tyX0_ok, nmX0, rfl, by decide +kernel, by decide +kernel⟩
theorem fX8_185 : FOk 0 7 RX8 185 := ⟨_, _, _, rfl, by decide, inX0, qX8_185⟩
theorem pX8_185 : POk 0 7 RX8 185 false .int := ⟨_, _, _, tyX0, rfl, by decide, inX0, qX8_185, tyX0_ok, nmX0, rfl, by decide +kernel, by decide +kernel⟩
theorem fX3_7 : FOk 3 0 RX3 7 := ⟨_, _, _, rfl, by decide, inX3, qX3_7⟩
theorem pX3_7 : POk 3 0 RX3 7 false .int := ⟨_, _, _, tyX3, rfl, by decide, inX3, qX3_7, tyX3_ok, nmX3, rfl, by decide +kernel, by decide +kernel⟩
theorem fX6_126 : FOk 3 0 RX6 126 := ⟨_, _, _, rfl, by decide, inX3, qX6_126⟩
theorem pX6_126 : POk 3 0 RX6 126 false .int := ⟨_, _, _, tyX3, rfl, by decide, inX3, qX6_126, tyX3_ok, nmX3, rfl, by decide +kernel, by decide +kernel⟩
theorem fX8_141 : FOk 3 0 RX8 141 := ⟨_, _, _, rfl, by decide, inX3, qX8_141⟩
theorem pX8_141 : POk 3 0 RX8 141 false .int := ⟨_, _, _, tyX3, rfl, by decide, inX3, qX8_141, tyX3_ok, nmX3, rfl, by decide +kernel, by decide +kernel⟩
theorem fX3_13 : FOk 3 1 RX3 13 := ⟨_, _, _, rfl, by decide, inX3, qX3_13⟩
theorem pX3_13 : POk 3 1 RX3 13 false .int := ⟨_, _, _, tyX3, rfl, by decide, inX3, qX3_13, tyX3_ok, nmX3, rfl, by decide +kernel, by decide +kernel⟩
theorem fX8_144 : FOk 3 1 RX8 144 := ⟨_, _, _, rfl, by decide, inX3, qX8_144⟩
theorem pX8_144 : POk 3 1 RX8 144 false .int := ⟨_, _, _, tyX3, rfl, by decide, inX3, qX8_144, tyX3_ok, nmX3, rfl, by decide +kernel, by decide +kernel⟩
theorem fX3_16 : FOk 3 2 RX3 16 := ⟨_, _, _, rfl, by decide, inX3, qX3_16⟩
theorem pX3_16 : POk 3 2 RX3 16 false .int := ⟨_, _, _, tyX3, rfl, by decide, inX3, qX3_16, tyX3_ok, nmX3, rfl, by decide +kernel, by decide +kernel⟩
theorem fX6_123 : FOk 3 2 RX6 123 := ⟨_, _, _, rfl, by decide, inX3, qX6_123⟩
theorem pX6_123 : POk 3 2 RX6 123 false .int := ⟨_, _, _, tyX3, rfl, by decide, inX3, qX6_123, tyX3_ok, nmX3, rfl, by decide +kernel, by decide +kernel⟩
theorem fX8_156 : FOk 3 2 RX8 156 := ⟨_, _, _, rfl, by decide, inX3, qX8_156⟩
theorem pX8_156 : POk 3 2 RX8 156 false .int := ⟨_, _, _, tyX3, rfl, by decide, inX3, qX8_156, tyX3_ok, nmX3, rfl, by decide +kernel, by decide +kernel⟩
theorem fX3_22 : FOk 3 3 RX3 22 := ⟨_, _, _, rfl, by decide, inX3, qX3_22⟩
theorem pX3_22 : POk 3 3 RX3 22 true (.object RX7) := ⟨_, _, _, tyX3, rfl, by decide, inX3, qX3_22, tyX3_ok, nmX3, rfl, by decide +kernel, by decide +kernel⟩
theorem fX8_100 : FOk 3 3 RX8 100 := ⟨_, _, _, rfl, by decide, inX3, qX8_100⟩
theorem fX3_26 : FOk 3 4 RX3 26 := ⟨_, _, _, rfl, by decide, inX3, qX3_26⟩
theorem pX3_26 : POk 3 4 RX3 26 true (.object RX7) := ⟨_, _, _, tyX3, rfl, by decide, inX3, qX3_26, tyX3_ok, nmX3, rfl, by decide +kernel, by decide +kernel⟩
theorem fX8_163 : FOk 3 4 RX8 163 := ⟨_, _, _, rfl, by decide, inX3, qX8_163⟩
theorem fX5_7 : FOk 5 0 RX5 7 := ⟨_, _, _, rfl, by decide, inX5, qX5_7⟩
theorem pX5_7 : POk 5 0 RX5 7 false .int := ⟨_, _, _, tyX5, rfl, by decide, inX5, qX5_7, tyX5_ok, nmX5, rfl, by decide +kernel, by decide +kernel⟩
theorem fX3_39 : FOk 5 0 RX3 39 := ⟨_, _, _, rfl, by decide, inX5, qX3_39⟩
theorem pX3_39 : POk 5 0 RX3 39 false .int := ⟨_, _, _, tyX5, rfl, by decide, inX5, qX3_39, tyX5_ok, nmX5, rfl, by decide +kernel, by decide +kernel⟩
theorem fX6_116 : FOk 5 0 RX6 116 := ⟨_, _, _, rfl, by decide, inX5, qX6_116⟩
theorem pX6_116 : POk 5 0 RX6 116 false .int := ⟨_, _, _, tyX5, rfl, by decide, inX5, qX6_116, tyX5_ok, nmX5, rfl, by decide +kernel, by decide +kernel⟩
theorem fX8_170 : FOk 5 0 RX8 170 := ⟨_, _, _, rfl, by decide, inX5, qX8_170⟩
theorem pX8_170 : POk 5 0 RX8 170 false .int := ⟨_, _, _, tyX5, rfl, by decide, inX5, qX8_170, tyX5_ok, nmX5, rfl, by decide +kernel, by decide +kernel⟩
theorem fX5_16 : FOk 5 1 RX5 16 := ⟨_, _, _, rfl, by decide, inX5, qX5_16⟩
theorem pX5_16 : POk 5 1 RX5 16 true (.object RX7) := ⟨_, _, _, tyX5, rfl, by decide, inX5, qX5_16, tyX5_ok, nmX5, rfl, by decide +kernel, by decide +kernel⟩
theorem fX3_44 : FOk 5 1 RX3 44 := ⟨_, _, _, rfl, by decide, inX5, qX3_44⟩
theorem fX6_119 : FOk 5 1 RX6 119 := ⟨_, _, _, rfl, by decide, inX5, qX6_119⟩
theorem fX8_175 : FOk 5 1 RX8 175 := ⟨_, _, _, rfl, by decide, inX5, qX8_175⟩
theorem fX6_9 : FOk 6 0 RX6 9 := ⟨_, _, _, rfl, by decide, inX6, qX6_9⟩
theorem pX6_9 : POk 6 0 RX6 9 false .int := ⟨_, _, _, tyX6, rfl, by decide, inX6, qX6_9, tyX6_ok, nmX6, rfl, by decide +kernel, by decide +kernel⟩
theorem fX8_134 : FOk 6 0 RX8 134 := ⟨_, _, _, rfl, by decide, inX6, qX8_134⟩
theorem pX8_134 : POk 6 0 RX8 134 false .int := ⟨_, _, _, tyX6, rfl, by decide, inX6, qX8_134, tyX6_ok, nmX6, rfl, by decide +kernel, by decide +kernel⟩
theorem fX6_15 : FOk 6 1 RX6 15 := ⟨_, _, _, rfl, by decide, inX6, qX6_15⟩
theorem pX6_15 : POk 6 1 RX6 15 false .int := ⟨_, _, _, tyX6, rfl, by decide, inX6, qX6_15, tyX6_ok, nmX6, rfl, by decide +kernel, by decide +kernel⟩
theorem fX8_197 : FOk 6 1 RX8 197 := ⟨_, _, _, rfl, by decide, inX6, qX8_197⟩
theorem pX8_197 : POk 6 1 RX8 197 false .int := ⟨_, _, _, tyX6, rfl, by decide, inX6, qX8_197, tyX6_ok, nmX6, rfl, by decide +kernel, by decide +kernel⟩
theorem fX6_18 : FOk 6 2 RX6 18 := ⟨_, _, _, rfl, by decide, inX6, qX6_18⟩
theorem pX6_18 : POk 6 2 RX6 18 false .int := ⟨_, _, _, tyX6, rfl, by decide, inX6, qX6_18, tyX6_ok, nmX6, rfl, by decide +kernel, by decide +kernel⟩
theorem fX8_182 : FOk 6 2 RX8 182 := ⟨_, _, _, rfl, by decide, inX6, qX8_182⟩
theorem pX8_182 : POk 6 2 RX8 182 false .int := ⟨_, _, _, tyX6, rfl, by decide, inX6, qX8_182, tyX6_ok, nmX6, rfl, by decide +kernel, by decide +kernel⟩
theorem fX6_21 : FOk 6 3 RX6 21 := ⟨_, _, _, rfl, by decide, inX6, qX6_21⟩
theorem pX6_21 : POk 6 3 RX6 21 false .int := ⟨_, _, _, tyX6, rfl, by decide, inX6, qX6_21, tyX6_ok, nmX6, rfl, by decide +kernel, by decide +kernel⟩
theorem fX8_188 : FOk 6 3 RX8 188 := ⟨_, _, _, rfl, by decide, inX6, qX8_188⟩
theorem pX8_188 : POk 6 3 RX8 188 false .int := ⟨_, _, _, tyX6, rfl, by decide, inX6, qX8_188, tyX6_ok, nmX6, rfl, by decide +kernel, by decide +kernel⟩
theorem fX6_24 : FOk 6 4 RX6 24 := ⟨_, _, _, rfl, by decide, inX6, qX6_24⟩
theorem pX6_24 : POk 6 4 RX6 24 false .int := ⟨_, _, _, tyX6, rfl, by decide, inX6, qX6_24, tyX6_ok, nmX6, rfl, by decide +kernel, by decide +kernel⟩
theorem fX8_194 : FOk 6 4 RX8 194 := ⟨_, _, _, rfl, by decide, inX6, qX8_194⟩
theorem pX8_194 : POk 6 4 RX8 194 false .int := ⟨_, _, _, tyX6, rfl, by decide, inX6, qX8_194, tyX6_ok, nmX6, rfl, by decide +kernel, by decide +kernel⟩
theorem fX6_30 : FOk 6 5 RX6 30 := ⟨_, _, _, rfl, by decide, inX6, qX6_30⟩
theorem pX6_30 : POk 6 5 RX6 30 true (.object RX7) := ⟨_, _, _, tyX6, rfl, by decide, inX6, qX6_30, tyX6_ok, nmX6, rfl, by decide +kernel, by decide +kernel⟩
theorem fX8_87 : FOk 6 5 RX8 87 := ⟨_, _, _, rfl, by decide, inX6, qX8_87⟩
theorem fX6_37 : FOk 6 6 RX6 37 := ⟨_, _, _, rfl, by decide, inX6, qX6_37⟩
theorem pX6_37 : POk 6 6 RX6 37 true (.object RX0) := ⟨_, _, _, tyX6, rfl, by decide, inX6, qX6_37, tyX6_ok, nmX6, rfl, by decide +kernel, by decide +kernel⟩
theorem fX8_105 : FOk 6 6 RX8 105 := ⟨_, _, _, rfl, by decide, inX6, qX8_105⟩
theorem fX6_43 : FOk 6 7 RX6 43 := ⟨_, _, _, rfl, by decide, inX6, qX6_43⟩
theorem pX6_43 : POk 6 7 RX6 43 true (.array (.object RX3)) := ⟨_, _, _, tyX6, rfl, by decide, inX6, qX6_43, tyX6_ok, nmX6, rfl, by decide +kernel, by decide +kernel⟩
theorem fX6_49 : FOk 6 8 RX6 49 := ⟨_, _, _, rfl, by decide, inX6, qX6_49⟩
theorem pX6_49 : POk 6 8 RX6 49 true (.array (.object RX5)) := ⟨_, _, _, tyX6, rfl, by decide, inX6, qX6_49, tyX6_ok, nmX6, rfl, by decide +kernel, by decide +kernel⟩
theorem fX1_11 : FOk 1 0 RX1 11 := ⟨_, _, _, rfl, by decide, inX1, qX1_11⟩
theorem pX1_11 : POk 1 0 RX1 11 true (.array (.object RX6)) := ⟨_, _, _, tyX1, rfl, by decide, inX1, qX1_11, tyX1_ok, nmX1, rfl, by decide +kernel, by decide +kernel⟩
theorem fX1_17 : FOk 1 1 RX1 17 := ⟨_, _, _, rfl, by decide, inX1, qX1_17⟩
theorem pX1_17 : POk 1 1 RX1 17 false .int := ⟨_, _, _, tyX1, rfl, by decide, inX1, qX1_17, tyX1_ok, nmX1, rfl, by decide +kernel, by decide +kernel⟩
theorem fX8_203 : FOk 1 1 RX8 203 := ⟨_, _, _, rfl, by decide, inX1, qX8_203⟩
theorem pX8_203 : POk 1 1 RX8 203 false .int := ⟨_, _, _, tyX1, rfl, by decide, inX1, qX8_203, tyX1_ok, nmX1, rfl, by decide +kernel, by decide +kernel⟩
theorem fX2_9 : FOk 2 0 RX2 9 := ⟨_, _, _, rfl, by decide, inX2, qX2_9⟩
theorem pX2_9 : POk 2 0 RX2 9 true (.array .int) := ⟨_, _, _, tyX2, rfl, by decide, inX2, qX2_9, tyX2_ok, nmX2, rfl, by decide +kernel, by decide +kernel⟩
theorem fX2_15 : FOk 2 1 RX2 15 := ⟨_, _, _, rfl, by decide, inX2, qX2_15⟩
theorem pX2_15 : POk 2 1 RX2 15 false .int := ⟨_, _, _, tyX2, rfl, by decide, inX2, qX2_15, tyX2_ok, nmX2, rfl, by decide +kernel, by decide +kernel⟩
theorem fX8_200 : FOk 2 1 RX8 200 := ⟨_, _, _, rfl, by decide, inX2, qX8_200⟩
theorem pX8_200 : POk 2 1 RX8 200 false .int := ⟨_, _, _, tyX2, rfl, by decide, inX2, qX8_200, tyX2_ok, nmX2, rfl, by decide +kernel, by decide +kernel⟩
theorem fX2_19 : FOk 2 2 RX2 19 := ⟨_, _, _, rfl, by decide, inX2, qX2_19⟩
theorem pX2_19 : POk 2 2 RX2 19 false .int := ⟨_, _, _, tyX2, rfl, by decide, inX2, qX2_19, tyX2_ok, nmX2, rfl, by decide +kernel, by decide +kernel⟩
theorem fX2_22 : FOk 2 3 RX2 22 := ⟨_, _, _, rfl, by decide, inX2, qX2_22⟩
theorem pX2_22 : POk 2 3 RX2 22 false .int := ⟨_, _, _, tyX2, rfl, by decide, inX2, qX2_22, tyX2_ok, nmX2, rfl, by decide +kernel, by decide +kernel⟩
theorem fX2_25 : FOk 2 4 RX2 25 := ⟨_, _, _, rfl, by decide, inX2, qX2_25⟩
theorem pX2_25 : POk 2 4 RX2 25 false .int := ⟨_, _, _, tyX2, rfl, by decide, inX2, qX2_25, tyX2_ok, nmX2, rfl, by decide +kernel, by decide +kernel⟩
theorem fX2_28 : FOk 2 5 RX2 28 := ⟨_, _, _, rfl, by decide, inX2, qX2_28⟩
theorem pX2_28 : POk 2 5 RX2 28 false .int := ⟨_, _, _, tyX2, rfl, by decide, inX2, qX2_28, tyX2_ok, nmX2, rfl, by decide +kernel, by decide +kernel⟩
theorem fX4_7 : FOk 4 0 RX4 7 := ⟨_, _, _, rfl, by decide, inX4, qX4_7⟩
theorem pX4_7 : POk 4 0 RX4 7 false .boolean := ⟨_, _, _, tyX4, rfl, by decide, inX4, qX4_7, tyX4_ok, nmX4, rfl, by decide +kernel, by decide +kernel⟩
theorem fX4_16 : FOk 4 1 RX4 16 := ⟨_, _, _, rfl, by decide, inX4, qX4_16⟩
theorem pX4_16 : POk 4 1 RX4 16 true (.object RX6) := ⟨_, _, _, tyX4, rfl, by decide, inX4, qX4_16, tyX4_ok, nmX4, rfl, by decide +kernel, by decide +kernel⟩
theorem fX8_10 : FOk 8 0 RX8 10 := ⟨_, _, _, rfl, by decide, inX8, qX8_10⟩
theorem pX8_10 : POk 8 0 RX8 10 true (.object RX6) := ⟨_, _, _, tyX8, rfl, by decide, inX8, qX8_10, tyX8_ok, nmX8, rfl, by decide +kernel, by decide +kernel⟩
theorem fX8_19 : FOk 8 1 RX8 19 := ⟨_, _, _, rfl, by decide, inX8, qX8_19⟩
theorem pX8_19 : POk 8 1 RX8 19 true (.object RX1) := ⟨_, _, _, tyX8, rfl, by decide, inX8, qX8_19, tyX8_ok, nmX8, rfl, by decide +kernel, by decide +kernel⟩
theorem fX8_26 : FOk 8 2 RX8 26 := ⟨_, _, _, rfl, by decide, inX8, qX8_26⟩
theorem pX8_26 : POk 8 2 RX8 26 true (.object RX2) := ⟨_, _, _, tyX8, rfl, by decide, inX8, qX8_26, tyX8_ok, nmX8, rfl, by decide +kernel, by decide +kernel⟩
theorem fX8_32 : FOk 8 3 RX8 32 := ⟨_, _, _, rfl, by decide, inX8, qX8_32⟩
theorem pX8_32 : POk 8 3 RX8 32 true (.array (.object RX4)) := ⟨_, _, _, tyX8, rfl, by decide, inX8, qX8_32, tyX8_ok, nmX8, rfl, by decide +kernel, by decide +kernel⟩
/-- what is asked of a callee, by kind -/
abbrev BOk (k : MethodName × ByteArray × Nat × Option FieldType) (n : Nat) : Prop := Cond.code k.1 k.2.1 k.2.2.1 k.2.2.2 ∈ lwT ∧ Cond.initialized k.1.cls ∈ lwT ∧ (k.1.cls ≠ "java/lang/invoke/MethodHandle" ∧ k.1.cls ≠ "java/lang/invoke/VarHandle" ∧ (parseMethodDescriptor k.1.desc).map (fun d => d.parameters.length) = some n) ∧ plainName k.1.cls = true
def VOk (k : MethodName × ByteArray × Nat × Option FieldType) (n : Nat) : Prop := BOk k n ∧ Cond.instanceMethod k.1 ∈ lwT ∧ Cond.selects k.1.cls k.1 k.1 ∈ lwT
def SOk (k : MethodName × ByteArray × Nat × Option FieldType) (n : Nat) : Prop := BOk k n ∧ Cond.static k.1 ∈ lwT
def IOk (k : MethodName × ByteArray × Nat × Option FieldType) (n : Nat) : Prop := BOk k n ∧ k.1.name = "<init>" ∧ Cond.instanceMethod k.1 ∈ lwT
theorem oX0_init : IOk kX0_init 0 := ⟨⟨List.mem_filter.mpr ⟨List.mem_of_getElem? (i := 53) (by decide +kernel), by decide +kernel⟩, qini_X0, ⟨by decide +kernel, by decide +kernel, by decide +kernel⟩, by decide +kernel⟩, by decide +kernel, List.mem_filter.mpr ⟨List.mem_of_getElem? (i := 52) (by decide +kernel), by decide +kernel⟩⟩
theorem oX0_copyFrom : VOk kX0_copyFrom 1 := ⟨⟨List.mem_filter.mpr ⟨List.mem_of_getElem? (i := 343) (by decide +kernel), by decide +kernel⟩, qini_X0, ⟨by decide +kernel, by decide +kernel, by decide +kernel⟩, by decide +kernel⟩, List.mem_filter.mpr ⟨List.mem_of_getElem? (i := 341) (by decide +kernel), by decide +kernel⟩, List.mem_filter.mpr ⟨List.mem_of_getElem? (i := 342) (by decide +kernel), by decide +kernel⟩⟩
theorem oX0_numberAt : VOk kX0_numberAt 1 := ⟨⟨List.mem_filter.mpr ⟨List.mem_of_getElem? (i := 461) (by decide +kernel), by decide +kernel⟩, qini_X0, ⟨by decide +kernel, by decide +kernel, by decide +kernel⟩, by decide +kernel⟩, List.mem_filter.mpr ⟨List.mem_of_getElem? (i := 459) (by decide +kernel), by decide +kernel⟩, List.mem_filter.mpr ⟨List.mem_of_getElem? (i := 460) (by decide +kernel), by decide +kernel⟩⟩
theorem oX0_keyAt : VOk kX0_keyAt 1 := ⟨⟨List.mem_filter.mpr ⟨List.mem_of_getElem? (i := 452) (by decide +kernel), by decide +kernel⟩, qini_X0, ⟨by decide +kernel, by decide +kernel, by decide +kernel⟩, by decide +kernel⟩, List.mem_filter.mpr ⟨List.mem_of_getElem? (i := 450) (by decide +kernel), by decide +kernel⟩, List.mem_filter.mpr ⟨List.mem_of_getElem? (i := 451) (by decide +kernel), by decide +kernel⟩⟩
theorem oX0_valueAt : VOk kX0_valueAt 1 := ⟨⟨List.mem_filter.mpr ⟨List.mem_of_getElem? (i := 456) (by decide +kernel), by decide +kernel⟩, qini_X0, ⟨by decide +kernel, by decide +kernel, by decide +kernel⟩, by decide +kernel⟩, List.mem_filter.mpr ⟨List.mem_of_getElem? (i := 454) (by decide +kernel), by decide +kernel⟩, List.mem_filter.mpr ⟨List.mem_of_getElem? (i := 455) (by decide +kernel), by decide +kernel⟩⟩
theorem oX0_minuteAt : VOk kX0_minuteAt 1 := ⟨⟨List.mem_filter.mpr ⟨List.mem_of_getElem? (i := 549) (by decide +kernel), by decide +kernel⟩, qini_X0, ⟨by decide +kernel, by decide +kernel, by decide +kernel⟩, by decide +kernel⟩, List.mem_filter.mpr ⟨List.mem_of_getElem? (i := 547) (by decide +kernel), by decide +kernel⟩, List.mem_filter.mpr ⟨List.mem_of_getElem? (i := 548) (by decide +kernel), by decide +kernel⟩⟩
theorem oX0_isFull : VOk kX0_isFull 0 := ⟨⟨List.mem_filter.mpr ⟨List.mem_of_getElem? (i := 373) (by decide +kernel), by decide +kernel⟩, qini_X0, ⟨by decide +kernel, by decide +kernel, by decide +kernel⟩, by decide +kernel⟩, List.mem_filter.mpr ⟨List.mem_of_getElem? (i := 371) (by decide +kernel), by decide +kernel⟩, List.mem_filter.mpr ⟨List.mem_of_getElem? (i := 372) (by decide +kernel), by decide +kernel⟩⟩
theorem oX0_append : VOk kX0_append 3 := ⟨⟨List.mem_filter.mpr ⟨List.mem_of_getElem? (i := 381) (by decide +kernel), by decide +kernel⟩, qini_X0, ⟨by decide +kernel, by decide +kernel, by decide +kernel⟩, by decide +kernel⟩, List.mem_filter.mpr ⟨List.mem_of_getElem? (i := 379) (by decide +kernel), by decide +kernel⟩, List.mem_filter.mpr ⟨List.mem_of_getElem? (i := 380) (by decide +kernel), by decide +kernel⟩⟩
theorem oX0_layEntry : VOk kX0_layEntry 5 := ⟨⟨List.mem_filter.mpr ⟨List.mem_of_getElem? (i := 385) (by decide +kernel), by decide +kernel⟩, qini_X0, ⟨by decide +kernel, by decide +kernel, by decide +kernel⟩, by decide +kernel⟩, List.mem_filter.mpr ⟨List.mem_of_getElem? (i := 384) (by decide +kernel), by decide +kernel⟩, List.mem_filter.mpr ⟨List.mem_of_getElem? (i := 3) (by decide +kernel), by decide +kernel⟩⟩
theorem oX0_firstFrom : VOk kX0_firstFrom 1 := ⟨⟨List.mem_filter.mpr ⟨List.mem_of_getElem? (i := 445) (by decide +kernel), by decide +kernel⟩, qini_X0, ⟨by decide +kernel, by decide +kernel, by decide +kernel⟩, by decide +kernel⟩, List.mem_filter.mpr ⟨List.mem_of_getElem? (i := 443) (by decide +kernel), by decide +kernel⟩, List.mem_filter.mpr ⟨List.mem_of_getElem? (i := 444) (by decide +kernel), by decide +kernel⟩⟩
theorem oX0_aheadOf : VOk kX0_aheadOf 1 := ⟨⟨List.mem_filter.mpr ⟨List.mem_of_getElem? (i := 502) (by decide +kernel), by decide +kernel⟩, qini_X0, ⟨by decide +kernel, by decide +kernel, by decide +kernel⟩, by decide +kernel⟩, List.mem_filter.mpr ⟨List.mem_of_getElem? (i := 500) (by decide +kernel), by decide +kernel⟩, List.mem_filter.mpr ⟨List.mem_of_getElem? (i := 501) (by decide +kernel), by decide +kernel⟩⟩
theorem oX0_isLastOfItsKey : VOk kX0_isLastOfItsKey 1 := ⟨⟨List.mem_filter.mpr ⟨List.mem_of_getElem? (i := 301) (by decide +kernel), by decide +kernel⟩, qini_X0, ⟨by decide +kernel, by decide +kernel, by decide +kernel⟩, by decide +kernel⟩, List.mem_filter.mpr ⟨List.mem_of_getElem? (i := 299) (by decide +kernel), by decide +kernel⟩, List.mem_filter.mpr ⟨List.mem_of_getElem? (i := 300) (by decide +kernel), by decide +kernel⟩⟩
theorem oX0_isClosed : VOk kX0_isClosed 2 := ⟨⟨List.mem_filter.mpr ⟨List.mem_of_getElem? (i := 293) (by decide +kernel), by decide +kernel⟩, qini_X0, ⟨by decide +kernel, by decide +kernel, by decide +kernel⟩, by decide +kernel⟩, List.mem_filter.mpr ⟨List.mem_of_getElem? (i := 291) (by decide +kernel), by decide +kernel⟩, List.mem_filter.mpr ⟨List.mem_of_getElem? (i := 292) (by decide +kernel), by decide +kernel⟩⟩
theorem oX0_segmentOf : SOk kX0_segmentOf 2 := ⟨⟨List.mem_filter.mpr ⟨List.mem_of_getElem? (i := 297) (by decide +kernel), by decide +kernel⟩, qini_X0, ⟨by decide +kernel, by decide +kernel, by decide +kernel⟩, by decide +kernel⟩, List.mem_filter.mpr ⟨List.mem_of_getElem? (i := 296) (by decide +kernel), by decide +kernel⟩⟩
theorem oX0_isOldRemoval : VOk kX0_isOldRemoval 3 := ⟨⟨List.mem_filter.mpr ⟨List.mem_of_getElem? (i := 305) (by decide +kernel), by decide +kernel⟩, qini_X0, ⟨by decide +kernel, by decide +kernel, by decide +kernel⟩, by decide +kernel⟩, List.mem_filter.mpr ⟨List.mem_of_getElem? (i := 304) (by decide +kernel), by decide +kernel⟩, List.mem_filter.mpr ⟨List.mem_of_getElem? (i := 1) (by decide +kernel), by decide +kernel⟩⟩
theorem oX0_wouldGo : VOk kX0_wouldGo 4 := ⟨⟨List.mem_filter.mpr ⟨List.mem_of_getElem? (i := 289) (by decide +kernel), by decide +kernel⟩, qini_X0, ⟨by decide +kernel, by decide +kernel, by decide +kernel⟩, by decide +kernel⟩, List.mem_filter.mpr ⟨List.mem_of_getElem? (i := 288) (by decide +kernel), by decide +kernel⟩, List.mem_filter.mpr ⟨List.mem_of_getElem? (i := 0) (by decide +kernel), by decide +kernel⟩⟩
theorem oX0_leftAfterThinning : VOk kX0_leftAfterThinning 3 := ⟨⟨List.mem_filter.mpr ⟨List.mem_of_getElem? (i := 285) (by decide +kernel), by decide +kernel⟩, qini_X0, ⟨by decide +kernel, by decide +kernel, by decide +kernel⟩, by decide +kernel⟩, List.mem_filter.mpr ⟨List.mem_of_getElem? (i := 283) (by decide +kernel), by decide +kernel⟩, List.mem_filter.mpr ⟨List.mem_of_getElem? (i := 284) (by decide +kernel), by decide +kernel⟩⟩
theorem oX0_floorAfterThinning : VOk kX0_floorAfterThinning 3 := ⟨⟨List.mem_filter.mpr ⟨List.mem_of_getElem? (i := 535) (by decide +kernel), by decide +kernel⟩, qini_X0, ⟨by decide +kernel, by decide +kernel, by decide +kernel⟩, by decide +kernel⟩, List.mem_filter.mpr ⟨List.mem_of_getElem? (i := 533) (by decide +kernel), by decide +kernel⟩, List.mem_filter.mpr ⟨List.mem_of_getElem? (i := 534) (by decide +kernel), by decide +kernel⟩⟩
theorem oX0_thinOut : VOk kX0_thinOut 3 := ⟨⟨List.mem_filter.mpr ⟨List.mem_of_getElem? (i := 543) (by decide +kernel), by decide +kernel⟩, qini_X0, ⟨by decide +kernel, by decide +kernel, by decide +kernel⟩, by decide +kernel⟩, List.mem_filter.mpr ⟨List.mem_of_getElem? (i := 541) (by decide +kernel), by decide +kernel⟩, List.mem_filter.mpr ⟨List.mem_of_getElem? (i := 542) (by decide +kernel), by decide +kernel⟩⟩
theorem oX1_init : IOk kX1_init 0 := ⟨⟨List.mem_filter.mpr ⟨List.mem_of_getElem? (i := 181) (by decide +kernel), by decide +kernel⟩, qini_X1, ⟨by decide +kernel, by decide +kernel, by decide +kernel⟩, by decide +kernel⟩, by decide +kernel, List.mem_filter.mpr ⟨List.mem_of_getElem? (i := 180) (by decide +kernel), by decide +kernel⟩⟩
theorem oX1_stateAt : VOk kX1_stateAt 1 := ⟨⟨List.mem_filter.mpr ⟨List.mem_of_getElem? (i := 328) (by decide +kernel), by decide +kernel⟩, qini_X1, ⟨by decide +kernel, by decide +kernel, by decide +kernel⟩, by decide +kernel⟩, List.mem_filter.mpr ⟨List.mem_of_getElem? (i := 327) (by decide +kernel), by decide +kernel⟩, List.mem_filter.mpr ⟨List.mem_of_getElem? (i := 2) (by decide +kernel), by decide +kernel⟩⟩
theorem oX1_prepare : VOk kX1_prepare 1 := ⟨⟨List.mem_filter.mpr ⟨List.mem_of_getElem? (i := 324) (by decide +kernel), by decide +kernel⟩, qini_X1, ⟨by decide +kernel, by decide +kernel, by decide +kernel⟩, by decide +kernel⟩, List.mem_filter.mpr ⟨List.mem_of_getElem? (i := 322) (by decide +kernel), by decide +kernel⟩, List.mem_filter.mpr ⟨List.mem_of_getElem? (i := 323) (by decide +kernel), by decide +kernel⟩⟩
theorem oX1_settle : VOk kX1_settle 1 := ⟨⟨List.mem_filter.mpr ⟨List.mem_of_getElem? (i := 390) (by decide +kernel), by decide +kernel⟩, qini_X1, ⟨by decide +kernel, by decide +kernel, by decide +kernel⟩, by decide +kernel⟩, List.mem_filter.mpr ⟨List.mem_of_getElem? (i := 388) (by decide +kernel), by decide +kernel⟩, List.mem_filter.mpr ⟨List.mem_of_getElem? (i := 389) (by decide +kernel), by decide +kernel⟩⟩
theorem oX1_dropOldest : VOk kX1_dropOldest 0 := ⟨⟨List.mem_filter.mpr ⟨List.mem_of_getElem? (i := 394) (by decide +kernel), by decide +kernel⟩, qini_X1, ⟨by decide +kernel, by decide +kernel, by decide +kernel⟩, by decide +kernel⟩, List.mem_filter.mpr ⟨List.mem_of_getElem? (i := 393) (by decide +kernel), by decide +kernel⟩, List.mem_filter.mpr ⟨List.mem_of_getElem? (i := 4) (by decide +kernel), by decide +kernel⟩⟩
theorem oX2_init : IOk kX2_init 0 := ⟨⟨List.mem_filter.mpr ⟨List.mem_of_getElem? (i := 198) (by decide +kernel), by decide +kernel⟩, qini_X2, ⟨by decide +kernel, by decide +kernel, by decide +kernel⟩, by decide +kernel⟩, by decide +kernel, List.mem_filter.mpr ⟨List.mem_of_getElem? (i := 197) (by decide +kernel), by decide +kernel⟩⟩
theorem oX3_init : IOk kX3_init 0 := ⟨⟨List.mem_filter.mpr ⟨List.mem_of_getElem? (i := 95) (by decide +kernel), by decide +kernel⟩, qini_X3, ⟨by decide +kernel, by decide +kernel, by decide +kernel⟩, by decide +kernel⟩, by decide +kernel, List.mem_filter.mpr ⟨List.mem_of_getElem? (i := 94) (by decide +kernel), by decide +kernel⟩⟩
theorem oX3_copyFrom : VOk kX3_copyFrom 1 := ⟨⟨List.mem_filter.mpr ⟨List.mem_of_getElem? (i := 348) (by decide +kernel), by decide +kernel⟩, qini_X3, ⟨by decide +kernel, by decide +kernel, by decide +kernel⟩, by decide +kernel⟩, List.mem_filter.mpr ⟨List.mem_of_getElem? (i := 346) (by decide +kernel), by decide +kernel⟩, List.mem_filter.mpr ⟨List.mem_of_getElem? (i := 347) (by decide +kernel), by decide +kernel⟩⟩
theorem oX3_startOver : VOk kX3_startOver 0 := ⟨⟨List.mem_filter.mpr ⟨List.mem_of_getElem? (i := 424) (by decide +kernel), by decide +kernel⟩, qini_X3, ⟨by decide +kernel, by decide +kernel, by decide +kernel⟩, by decide +kernel⟩, List.mem_filter.mpr ⟨List.mem_of_getElem? (i := 422) (by decide +kernel), by decide +kernel⟩, List.mem_filter.mpr ⟨List.mem_of_getElem? (i := 423) (by decide +kernel), by decide +kernel⟩⟩
theorem oX3_keepPlace : VOk kX3_keepPlace 0 := ⟨⟨List.mem_filter.mpr ⟨List.mem_of_getElem? (i := 429) (by decide +kernel), by decide +kernel⟩, qini_X3, ⟨by decide +kernel, by decide +kernel, by decide +kernel⟩, by decide +kernel⟩, List.mem_filter.mpr ⟨List.mem_of_getElem? (i := 427) (by decide +kernel), by decide +kernel⟩, List.mem_filter.mpr ⟨List.mem_of_getElem? (i := 428) (by decide +kernel), by decide +kernel⟩⟩
theorem oX3_returnToConfirmed : VOk kX3_returnToConfirmed 0 := ⟨⟨List.mem_filter.mpr ⟨List.mem_of_getElem? (i := 482) (by decide +kernel), by decide +kernel⟩, qini_X3, ⟨by decide +kernel, by decide +kernel, by decide +kernel⟩, by decide +kernel⟩, List.mem_filter.mpr ⟨List.mem_of_getElem? (i := 480) (by decide +kernel), by decide +kernel⟩, List.mem_filter.mpr ⟨List.mem_of_getElem? (i := 481) (by decide +kernel), by decide +kernel⟩⟩
theorem oX3_takeOver : VOk kX3_takeOver 1 := ⟨⟨List.mem_filter.mpr ⟨List.mem_of_getElem? (i := 515) (by decide +kernel), by decide +kernel⟩, qini_X3, ⟨by decide +kernel, by decide +kernel, by decide +kernel⟩, by decide +kernel⟩, List.mem_filter.mpr ⟨List.mem_of_getElem? (i := 513) (by decide +kernel), by decide +kernel⟩, List.mem_filter.mpr ⟨List.mem_of_getElem? (i := 514) (by decide +kernel), by decide +kernel⟩⟩
theorem oX3_readOn : VOk kX3_readOn 2 := ⟨⟨List.mem_filter.mpr ⟨List.mem_of_getElem? (i := 441) (by decide +kernel), by decide +kernel⟩, qini_X3, ⟨by decide +kernel, by decide +kernel, by decide +kernel⟩, by decide +kernel⟩, List.mem_filter.mpr ⟨List.mem_of_getElem? (i := 439) (by decide +kernel), by decide +kernel⟩, List.mem_filter.mpr ⟨List.mem_of_getElem? (i := 440) (by decide +kernel), by decide +kernel⟩⟩
theorem oX4_init : IOk kX4_init 0 := ⟨⟨List.mem_filter.mpr ⟨List.mem_of_getElem? (i := 225) (by decide +kernel), by decide +kernel⟩, qini_X4, ⟨by decide +kernel, by decide +kernel, by decide +kernel⟩, by decide +kernel⟩, by decide +kernel, List.mem_filter.mpr ⟨List.mem_of_getElem? (i := 224) (by decide +kernel), by decide +kernel⟩⟩
theorem oX5_init : IOk kX5_init 0 := ⟨⟨List.mem_filter.mpr ⟨List.mem_of_getElem? (i := 125) (by decide +kernel), by decide +kernel⟩, qini_X5, ⟨by decide +kernel, by decide +kernel, by decide +kernel⟩, by decide +kernel⟩, by decide +kernel, List.mem_filter.mpr ⟨List.mem_of_getElem? (i := 124) (by decide +kernel), by decide +kernel⟩⟩
theorem oX5_copyFrom : VOk kX5_copyFrom 1 := ⟨⟨List.mem_filter.mpr ⟨List.mem_of_getElem? (i := 360) (by decide +kernel), by decide +kernel⟩, qini_X5, ⟨by decide +kernel, by decide +kernel, by decide +kernel⟩, by decide +kernel⟩, List.mem_filter.mpr ⟨List.mem_of_getElem? (i := 358) (by decide +kernel), by decide +kernel⟩, List.mem_filter.mpr ⟨List.mem_of_getElem? (i := 359) (by decide +kernel), by decide +kernel⟩⟩
theorem oX6_init : IOk kX6_init 0 := ⟨⟨List.mem_filter.mpr ⟨List.mem_of_getElem? (i := 29) (by decide +kernel), by decide +kernel⟩, qini_X6, ⟨by decide +kernel, by decide +kernel, by decide +kernel⟩, by decide +kernel⟩, by decide +kernel, List.mem_filter.mpr ⟨List.mem_of_getElem? (i := 28) (by decide +kernel), by decide +kernel⟩⟩
theorem oX6_copyFrom : VOk kX6_copyFrom 1 := ⟨⟨List.mem_filter.mpr ⟨List.mem_of_getElem? (i := 332) (by decide +kernel), by decide +kernel⟩, qini_X6, ⟨by decide +kernel, by decide +kernel, by decide +kernel⟩, by decide +kernel⟩, List.mem_filter.mpr ⟨List.mem_of_getElem? (i := 330) (by decide +kernel), by decide +kernel⟩, List.mem_filter.mpr ⟨List.mem_of_getElem? (i := 331) (by decide +kernel), by decide +kernel⟩⟩
theorem oX6_copySnapshot : SOk kX6_copySnapshot 2 := ⟨⟨List.mem_filter.mpr ⟨List.mem_of_getElem? (i := 356) (by decide +kernel), by decide +kernel⟩, qini_X6, ⟨by decide +kernel, by decide +kernel, by decide +kernel⟩, by decide +kernel⟩, List.mem_filter.mpr ⟨List.mem_of_getElem? (i := 355) (by decide +kernel), by decide +kernel⟩⟩
theorem oX6_readerAt : VOk kX6_readerAt 1 := ⟨⟨List.mem_filter.mpr ⟨List.mem_of_getElem? (i := 271) (by decide +kernel), by decide +kernel⟩, qini_X6, ⟨by decide +kernel, by decide +kernel, by decide +kernel⟩, by decide +kernel⟩, List.mem_filter.mpr ⟨List.mem_of_getElem? (i := 269) (by decide +kernel), by decide +kernel⟩, List.mem_filter.mpr ⟨List.mem_of_getElem? (i := 270) (by decide +kernel), by decide +kernel⟩⟩
theorem oX6_snapshotAt : VOk kX6_snapshotAt 1 := ⟨⟨List.mem_filter.mpr ⟨List.mem_of_getElem? (i := 353) (by decide +kernel), by decide +kernel⟩, qini_X6, ⟨by decide +kernel, by decide +kernel, by decide +kernel⟩, by decide +kernel⟩, List.mem_filter.mpr ⟨List.mem_of_getElem? (i := 351) (by decide +kernel), by decide +kernel⟩, List.mem_filter.mpr ⟨List.mem_of_getElem? (i := 352) (by decide +kernel), by decide +kernel⟩⟩
theorem oX6_turnSetting : VOk kX6_turnSetting 2 := ⟨⟨List.mem_filter.mpr ⟨List.mem_of_getElem? (i := 523) (by decide +kernel), by decide +kernel⟩, qini_X6, ⟨by decide +kernel, by decide +kernel, by decide +kernel⟩, by decide +kernel⟩, List.mem_filter.mpr ⟨List.mem_of_getElem? (i := 521) (by decide +kernel), by decide +kernel⟩, List.mem_filter.mpr ⟨List.mem_of_getElem? (i := 522) (by decide +kernel), by decide +kernel⟩⟩
theorem oX6_setKey : VOk kX6_setKey 2 := ⟨⟨List.mem_filter.mpr ⟨List.mem_of_getElem? (i := 365) (by decide +kernel), by decide +kernel⟩, qini_X6, ⟨by decide +kernel, by decide +kernel, by decide +kernel⟩, by decide +kernel⟩, List.mem_filter.mpr ⟨List.mem_of_getElem? (i := 363) (by decide +kernel), by decide +kernel⟩, List.mem_filter.mpr ⟨List.mem_of_getElem? (i := 364) (by decide +kernel), by decide +kernel⟩⟩
theorem oX6_removeKey : VOk kX6_removeKey 1 := ⟨⟨List.mem_filter.mpr ⟨List.mem_of_getElem? (i := 402) (by decide +kernel), by decide +kernel⟩, qini_X6, ⟨by decide +kernel, by decide +kernel, by decide +kernel⟩, by decide +kernel⟩, List.mem_filter.mpr ⟨List.mem_of_getElem? (i := 400) (by decide +kernel), by decide +kernel⟩, List.mem_filter.mpr ⟨List.mem_of_getElem? (i := 401) (by decide +kernel), by decide +kernel⟩⟩
theorem oX6_letPass : VOk kX6_letPass 1 := ⟨⟨List.mem_filter.mpr ⟨List.mem_of_getElem? (i := 411) (by decide +kernel), by decide +kernel⟩, qini_X6, ⟨by decide +kernel, by decide +kernel, by decide +kernel⟩, by decide +kernel⟩, List.mem_filter.mpr ⟨List.mem_of_getElem? (i := 409) (by decide +kernel), by decide +kernel⟩, List.mem_filter.mpr ⟨List.mem_of_getElem? (i := 410) (by decide +kernel), by decide +kernel⟩⟩
theorem oX6_thinFeed : VOk kX6_thinFeed 0 := ⟨⟨List.mem_filter.mpr ⟨List.mem_of_getElem? (i := 531) (by decide +kernel), by decide +kernel⟩, qini_X6, ⟨by decide +kernel, by decide +kernel, by decide +kernel⟩, by decide +kernel⟩, List.mem_filter.mpr ⟨List.mem_of_getElem? (i := 529) (by decide +kernel), by decide +kernel⟩, List.mem_filter.mpr ⟨List.mem_of_getElem? (i := 530) (by decide +kernel), by decide +kernel⟩⟩
theorem oX6_makeSnapshot : VOk kX6_makeSnapshot 0 := ⟨⟨List.mem_filter.mpr ⟨List.mem_of_getElem? (i := 490) (by decide +kernel), by decide +kernel⟩, qini_X6, ⟨by decide +kernel, by decide +kernel, by decide +kernel⟩, by decide +kernel⟩, List.mem_filter.mpr ⟨List.mem_of_getElem? (i := 488) (by decide +kernel), by decide +kernel⟩, List.mem_filter.mpr ⟨List.mem_of_getElem? (i := 489) (by decide +kernel), by decide +kernel⟩⟩
theorem oX6_addReader : VOk kX6_addReader 0 := ⟨⟨List.mem_filter.mpr ⟨List.mem_of_getElem? (i := 420) (by decide +kernel), by decide +kernel⟩, qini_X6, ⟨by decide +kernel, by decide +kernel, by decide +kernel⟩, by decide +kernel⟩, List.mem_filter.mpr ⟨List.mem_of_getElem? (i := 418) (by decide +kernel), by decide +kernel⟩, List.mem_filter.mpr ⟨List.mem_of_getElem? (i := 419) (by decide +kernel), by decide +kernel⟩⟩
theorem oX6_letRead : VOk kX6_letRead 2 := ⟨⟨List.mem_filter.mpr ⟨List.mem_of_getElem? (i := 437) (by decide +kernel), by decide +kernel⟩, qini_X6, ⟨by decide +kernel, by decide +kernel, by decide +kernel⟩, by decide +kernel⟩, List.mem_filter.mpr ⟨List.mem_of_getElem? (i := 435) (by decide +kernel), by decide +kernel⟩, List.mem_filter.mpr ⟨List.mem_of_getElem? (i := 436) (by decide +kernel), by decide +kernel⟩⟩
theorem oX6_letConfirm : VOk kX6_letConfirm 1 := ⟨⟨List.mem_filter.mpr ⟨List.mem_of_getElem? (i := 469) (by decide +kernel), by decide +kernel⟩, qini_X6, ⟨by decide +kernel, by decide +kernel, by decide +kernel⟩, by decide +kernel⟩, List.mem_filter.mpr ⟨List.mem_of_getElem? (i := 467) (by decide +kernel), by decide +kernel⟩, List.mem_filter.mpr ⟨List.mem_of_getElem? (i := 468) (by decide +kernel), by decide +kernel⟩⟩
theorem oX6_letGoBack : VOk kX6_letGoBack 1 := ⟨⟨List.mem_filter.mpr ⟨List.mem_of_getElem? (i := 478) (by decide +kernel), by decide +kernel⟩, qini_X6, ⟨by decide +kernel, by decide +kernel, by decide +kernel⟩, by decide +kernel⟩, List.mem_filter.mpr ⟨List.mem_of_getElem? (i := 476) (by decide +kernel), by decide +kernel⟩, List.mem_filter.mpr ⟨List.mem_of_getElem? (i := 477) (by decide +kernel), by decide +kernel⟩⟩
theorem oX6_letBeginAnew : VOk kX6_letBeginAnew 1 := ⟨⟨List.mem_filter.mpr ⟨List.mem_of_getElem? (i := 498) (by decide +kernel), by decide +kernel⟩, qini_X6, ⟨by decide +kernel, by decide +kernel, by decide +kernel⟩, by decide +kernel⟩, List.mem_filter.mpr ⟨List.mem_of_getElem? (i := 496) (by decide +kernel), by decide +kernel⟩, List.mem_filter.mpr ⟨List.mem_of_getElem? (i := 497) (by decide +kernel), by decide +kernel⟩⟩
theorem oX6_letLoad : VOk kX6_letLoad 2 := ⟨⟨List.mem_filter.mpr ⟨List.mem_of_getElem? (i := 511) (by decide +kernel), by decide +kernel⟩, qini_X6, ⟨by decide +kernel, by decide +kernel, by decide +kernel⟩, by decide +kernel⟩, List.mem_filter.mpr ⟨List.mem_of_getElem? (i := 509) (by decide +kernel), by decide +kernel⟩, List.mem_filter.mpr ⟨List.mem_of_getElem? (i := 510) (by decide +kernel), by decide +kernel⟩⟩
theorem oX6_lateBelow : VOk kX6_lateBelow 1 := ⟨⟨List.mem_filter.mpr ⟨List.mem_of_getElem? (i := 267) (by decide +kernel), by decide +kernel⟩, qini_X6, ⟨by decide +kernel, by decide +kernel, by decide +kernel⟩, by decide +kernel⟩, List.mem_filter.mpr ⟨List.mem_of_getElem? (i := 265) (by decide +kernel), by decide +kernel⟩, List.mem_filter.mpr ⟨List.mem_of_getElem? (i := 266) (by decide +kernel), by decide +kernel⟩⟩
theorem oX6_entriesOnWay : VOk kX6_entriesOnWay 2 := ⟨⟨List.mem_filter.mpr ⟨List.mem_of_getElem? (i := 601) (by decide +kernel), by decide +kernel⟩, qini_X6, ⟨by decide +kernel, by decide +kernel, by decide +kernel⟩, by decide +kernel⟩, List.mem_filter.mpr ⟨List.mem_of_getElem? (i := 599) (by decide +kernel), by decide +kernel⟩, List.mem_filter.mpr ⟨List.mem_of_getElem? (i := 600) (by decide +kernel), by decide +kernel⟩⟩
theorem oX6_aheadUnlessLate : VOk kX6_aheadUnlessLate 1 := ⟨⟨List.mem_filter.mpr ⟨List.mem_of_getElem? (i := 605) (by decide +kernel), by decide +kernel⟩, qini_X6, ⟨by decide +kernel, by decide +kernel, by decide +kernel⟩, by decide +kernel⟩, List.mem_filter.mpr ⟨List.mem_of_getElem? (i := 604) (by decide +kernel), by decide +kernel⟩, List.mem_filter.mpr ⟨List.mem_of_getElem? (i := 5) (by decide +kernel), by decide +kernel⟩⟩
theorem oX6_shortestWay : VOk kX6_shortestWay 1 := ⟨⟨List.mem_filter.mpr ⟨List.mem_of_getElem? (i := 597) (by decide +kernel), by decide +kernel⟩, qini_X6, ⟨by decide +kernel, by decide +kernel, by decide +kernel⟩, by decide +kernel⟩, List.mem_filter.mpr ⟨List.mem_of_getElem? (i := 595) (by decide +kernel), by decide +kernel⟩, List.mem_filter.mpr ⟨List.mem_of_getElem? (i := 596) (by decide +kernel), by decide +kernel⟩⟩
theorem oX7_init : IOk kX7_init 0 := ⟨⟨List.mem_filter.mpr ⟨List.mem_of_getElem? (i := 35) (by decide +kernel), by decide +kernel⟩, qini_X7, ⟨by decide +kernel, by decide +kernel, by decide +kernel⟩, by decide +kernel⟩, by decide +kernel, List.mem_filter.mpr ⟨List.mem_of_getElem? (i := 34) (by decide +kernel), by decide +kernel⟩⟩
theorem oX7_clear : VOk kX7_clear 0 := ⟨⟨List.mem_filter.mpr ⟨List.mem_of_getElem? (i := 40) (by decide +kernel), by decide +kernel⟩, qini_X7, ⟨by decide +kernel, by decide +kernel, by decide +kernel⟩, by decide +kernel⟩, List.mem_filter.mpr ⟨List.mem_of_getElem? (i := 38) (by decide +kernel), by decide +kernel⟩, List.mem_filter.mpr ⟨List.mem_of_getElem? (i := 39) (by decide +kernel), by decide +kernel⟩⟩
theorem oX7_copyFrom : VOk kX7_copyFrom 1 := ⟨⟨List.mem_filter.mpr ⟨List.mem_of_getElem? (i := 336) (by decide +kernel), by decide +kernel⟩, qini_X7, ⟨by decide +kernel, by decide +kernel, by decide +kernel⟩, by decide +kernel⟩, List.mem_filter.mpr ⟨List.mem_of_getElem? (i := 334) (by decide +kernel), by decide +kernel⟩, List.mem_filter.mpr ⟨List.mem_of_getElem? (i := 335) (by decide +kernel), by decide +kernel⟩⟩
theorem oX7_of : VOk kX7_of 1 := ⟨⟨List.mem_filter.mpr ⟨List.mem_of_getElem? (i := 260) (by decide +kernel), by decide +kernel⟩, qini_X7, ⟨by decide +kernel, by decide +kernel, by decide +kernel⟩, by decide +kernel⟩, List.mem_filter.mpr ⟨List.mem_of_getElem? (i := 258) (by decide +kernel), by decide +kernel⟩, List.mem_filter.mpr ⟨List.mem_of_getElem? (i := 259) (by decide +kernel), by decide +kernel⟩⟩
theorem oX7_change : VOk kX7_change 2 := ⟨⟨List.mem_filter.mpr ⟨List.mem_of_getElem? (i := 377) (by decide +kernel), by decide +kernel⟩, qini_X7, ⟨by decide +kernel, by decide +kernel, by decide +kernel⟩, by decide +kernel⟩, List.mem_filter.mpr ⟨List.mem_of_getElem? (i := 375) (by decide +kernel), by decide +kernel⟩, List.mem_filter.mpr ⟨List.mem_of_getElem? (i := 376) (by decide +kernel), by decide +kernel⟩⟩
theorem oX7_howMany : VOk kX7_howMany 0 := ⟨⟨List.mem_filter.mpr ⟨List.mem_of_getElem? (i := 256) (by decide +kernel), by decide +kernel⟩, qini_X7, ⟨by decide +kernel, by decide +kernel, by decide +kernel⟩, by decide +kernel⟩, List.mem_filter.mpr ⟨List.mem_of_getElem? (i := 254) (by decide +kernel), by decide +kernel⟩, List.mem_filter.mpr ⟨List.mem_of_getElem? (i := 255) (by decide +kernel), by decide +kernel⟩⟩
theorem oX7_differingFrom : VOk kX7_differingFrom 1 := ⟨⟨List.mem_filter.mpr ⟨List.mem_of_getElem? (i := 585) (by decide +kernel), by decide +kernel⟩, qini_X7, ⟨by decide +kernel, by decide +kernel, by decide +kernel⟩, by decide +kernel⟩, List.mem_filter.mpr ⟨List.mem_of_getElem? (i := 583) (by decide +kernel), by decide +kernel⟩, List.mem_filter.mpr ⟨List.mem_of_getElem? (i := 584) (by decide +kernel), by decide +kernel⟩⟩
theorem oX8_init : IOk kX8_init 0 := ⟨⟨List.mem_filter.mpr ⟨List.mem_of_getElem? (i := 21) (by decide +kernel), by decide +kernel⟩, qini_X8, ⟨by decide +kernel, by decide +kernel, by decide +kernel⟩, by decide +kernel⟩, by decide +kernel, List.mem_filter.mpr ⟨List.mem_of_getElem? (i := 20) (by decide +kernel), by decide +kernel⟩⟩
theorem oX8_turn : VOk kX8_turn 2 := ⟨⟨List.mem_filter.mpr ⟨List.mem_of_getElem? (i := 519) (by decide +kernel), by decide +kernel⟩, qini_X8, ⟨by decide +kernel, by decide +kernel, by decide +kernel⟩, by decide +kernel⟩, List.mem_filter.mpr ⟨List.mem_of_getElem? (i := 517) (by decide +kernel), by decide +kernel⟩, List.mem_filter.mpr ⟨List.mem_of_getElem? (i := 518) (by decide +kernel), by decide +kernel⟩⟩
theorem oX8_set : VOk kX8_set 2 := ⟨⟨List.mem_filter.mpr ⟨List.mem_of_getElem? (i := 320) (by decide +kernel), by decide +kernel⟩, qini_X8, ⟨by decide +kernel, by decide +kernel, by decide +kernel⟩, by decide +kernel⟩, List.mem_filter.mpr ⟨List.mem_of_getElem? (i := 318) (by decide +kernel), by decide +kernel⟩, List.mem_filter.mpr ⟨List.mem_of_getElem? (i := 319) (by decide +kernel), by decide +kernel⟩⟩
theorem oX8_remove : VOk kX8_remove 1 := ⟨⟨List.mem_filter.mpr ⟨List.mem_of_getElem? (i := 398) (by decide +kernel), by decide +kernel⟩, qini_X8, ⟨by decide +kernel, by decide +kernel, by decide +kernel⟩, by decide +kernel⟩, List.mem_filter.mpr ⟨List.mem_of_getElem? (i := 396) (by decide +kernel), by decide +kernel⟩, List.mem_filter.mpr ⟨List.mem_of_getElem? (i := 397) (by decide +kernel), by decide +kernel⟩⟩
theorem oX8_pass : VOk kX8_pass 1 := ⟨⟨List.mem_filter.mpr ⟨List.mem_of_getElem? (i := 407) (by decide +kernel), by decide +kernel⟩, qini_X8, ⟨by decide +kernel, by decide +kernel, by decide +kernel⟩, by decide +kernel⟩, List.mem_filter.mpr ⟨List.mem_of_getElem? (i := 405) (by decide +kernel), by decide +kernel⟩, List.mem_filter.mpr ⟨List.mem_of_getElem? (i := 406) (by decide +kernel), by decide +kernel⟩⟩
theorem oX8_thin : VOk kX8_thin 0 := ⟨⟨List.mem_filter.mpr ⟨List.mem_of_getElem? (i := 527) (by decide +kernel), by decide +kernel⟩, qini_X8, ⟨by decide +kernel, by decide +kernel, by decide +kernel⟩, by decide +kernel⟩, List.mem_filter.mpr ⟨List.mem_of_getElem? (i := 525) (by decide +kernel), by decide +kernel⟩, List.mem_filter.mpr ⟨List.mem_of_getElem? (i := 526) (by decide +kernel), by decide +kernel⟩⟩
theorem oX8_snapshot : VOk kX8_snapshot 0 := ⟨⟨List.mem_filter.mpr ⟨List.mem_of_getElem? (i := 486) (by decide +kernel), by decide +kernel⟩, qini_X8, ⟨by decide +kernel, by decide +kernel, by decide +kernel⟩, by decide +kernel⟩, List.mem_filter.mpr ⟨List.mem_of_getElem? (i := 484) (by decide +kernel), by decide +kernel⟩, List.mem_filter.mpr ⟨List.mem_of_getElem? (i := 485) (by decide +kernel), by decide +kernel⟩⟩
theorem oX8_reader : VOk kX8_reader 0 := ⟨⟨List.mem_filter.mpr ⟨List.mem_of_getElem? (i := 416) (by decide +kernel), by decide +kernel⟩, qini_X8, ⟨by decide +kernel, by decide +kernel, by decide +kernel⟩, by decide +kernel⟩, List.mem_filter.mpr ⟨List.mem_of_getElem? (i := 414) (by decide +kernel), by decide +kernel⟩, List.mem_filter.mpr ⟨List.mem_of_getElem? (i := 415) (by decide +kernel), by decide +kernel⟩⟩
theorem oX8_read : VOk kX8_read 2 := ⟨⟨List.mem_filter.mpr ⟨List.mem_of_getElem? (i := 433) (by decide +kernel), by decide +kernel⟩, qini_X8, ⟨by decide +kernel, by decide +kernel, by decide +kernel⟩, by decide +kernel⟩, List.mem_filter.mpr ⟨List.mem_of_getElem? (i := 431) (by decide +kernel), by decide +kernel⟩, List.mem_filter.mpr ⟨List.mem_of_getElem? (i := 432) (by decide +kernel), by decide +kernel⟩⟩
theorem oX8_confirm : VOk kX8_confirm 1 := ⟨⟨List.mem_filter.mpr ⟨List.mem_of_getElem? (i := 465) (by decide +kernel), by decide +kernel⟩, qini_X8, ⟨by decide +kernel, by decide +kernel, by decide +kernel⟩, by decide +kernel⟩, List.mem_filter.mpr ⟨List.mem_of_getElem? (i := 463) (by decide +kernel), by decide +kernel⟩, List.mem_filter.mpr ⟨List.mem_of_getElem? (i := 464) (by decide +kernel), by decide +kernel⟩⟩
theorem oX8_goBack : VOk kX8_goBack 1 := ⟨⟨List.mem_filter.mpr ⟨List.mem_of_getElem? (i := 474) (by decide +kernel), by decide +kernel⟩, qini_X8, ⟨by decide +kernel, by decide +kernel, by decide +kernel⟩, by decide +kernel⟩, List.mem_filter.mpr ⟨List.mem_of_getElem? (i := 472) (by decide +kernel), by decide +kernel⟩, List.mem_filter.mpr ⟨List.mem_of_getElem? (i := 473) (by decide +kernel), by decide +kernel⟩⟩
theorem oX8_beginAnew : VOk kX8_beginAnew 1 := ⟨⟨List.mem_filter.mpr ⟨List.mem_of_getElem? (i := 494) (by decide +kernel), by decide +kernel⟩, qini_X8, ⟨by decide +kernel, by decide +kernel, by decide +kernel⟩, by decide +kernel⟩, List.mem_filter.mpr ⟨List.mem_of_getElem? (i := 492) (by decide +kernel), by decide +kernel⟩, List.mem_filter.mpr ⟨List.mem_of_getElem? (i := 493) (by decide +kernel), by decide +kernel⟩⟩
theorem oX8_load : VOk kX8_load 2 := ⟨⟨List.mem_filter.mpr ⟨List.mem_of_getElem? (i := 507) (by decide +kernel), by decide +kernel⟩, qini_X8, ⟨by decide +kernel, by decide +kernel, by decide +kernel⟩, by decide +kernel⟩, List.mem_filter.mpr ⟨List.mem_of_getElem? (i := 505) (by decide +kernel), by decide +kernel⟩, List.mem_filter.mpr ⟨List.mem_of_getElem? (i := 506) (by decide +kernel), by decide +kernel⟩⟩
theorem oX8_table : VOk kX8_table 1 := ⟨⟨List.mem_filter.mpr ⟨List.mem_of_getElem? (i := 569) (by decide +kernel), by decide +kernel⟩, qini_X8, ⟨by decide +kernel, by decide +kernel, by decide +kernel⟩, by decide +kernel⟩, List.mem_filter.mpr ⟨List.mem_of_getElem? (i := 567) (by decide +kernel), by decide +kernel⟩, List.mem_filter.mpr ⟨List.mem_of_getElem? (i := 568) (by decide +kernel), by decide +kernel⟩⟩
theorem oX8_view : VOk kX8_view 2 := ⟨⟨List.mem_filter.mpr ⟨List.mem_of_getElem? (i := 589) (by decide +kernel), by decide +kernel⟩, qini_X8, ⟨by decide +kernel, by decide +kernel, by decide +kernel⟩, by decide +kernel⟩, List.mem_filter.mpr ⟨List.mem_of_getElem? (i := 587) (by decide +kernel), by decide +kernel⟩, List.mem_filter.mpr ⟨List.mem_of_getElem? (i := 588) (by decide +kernel), by decide +kernel⟩⟩
theorem oX8_entry : VOk kX8_entry 2 := ⟨⟨List.mem_filter.mpr ⟨List.mem_of_getElem? (i := 556) (by decide +kernel), by decide +kernel⟩, qini_X8, ⟨by decide +kernel, by decide +kernel, by decide +kernel⟩, by decide +kernel⟩, List.mem_filter.mpr ⟨List.mem_of_getElem? (i := 554) (by decide +kernel), by decide +kernel⟩, List.mem_filter.mpr ⟨List.mem_of_getElem? (i := 555) (by decide +kernel), by decide +kernel⟩⟩
theorem oX8_ofReader : VOk kX8_ofReader 2 := ⟨⟨List.mem_filter.mpr ⟨List.mem_of_getElem? (i := 578) (by decide +kernel), by decide +kernel⟩, qini_X8, ⟨by decide +kernel, by decide +kernel, by decide +kernel⟩, by decide +kernel⟩, List.mem_filter.mpr ⟨List.mem_of_getElem? (i := 576) (by decide +kernel), by decide +kernel⟩, List.mem_filter.mpr ⟨List.mem_of_getElem? (i := 577) (by decide +kernel), by decide +kernel⟩⟩
theorem oX8_ofSnapshot : VOk kX8_ofSnapshot 2 := ⟨⟨List.mem_filter.mpr ⟨List.mem_of_getElem? (i := 610) (by decide +kernel), by decide +kernel⟩, qini_X8, ⟨by decide +kernel, by decide +kernel, by decide +kernel⟩, by decide +kernel⟩, List.mem_filter.mpr ⟨List.mem_of_getElem? (i := 608) (by decide +kernel), by decide +kernel⟩, List.mem_filter.mpr ⟨List.mem_of_getElem? (i := 609) (by decide +kernel), by decide +kernel⟩⟩
theorem oX8_count : VOk kX8_count 1 := ⟨⟨List.mem_filter.mpr ⟨List.mem_of_getElem? (i := 252) (by decide +kernel), by decide +kernel⟩, qini_X8, ⟨by decide +kernel, by decide +kernel, by decide +kernel⟩, by decide +kernel⟩, List.mem_filter.mpr ⟨List.mem_of_getElem? (i := 250) (by decide +kernel), by decide +kernel⟩, List.mem_filter.mpr ⟨List.mem_of_getElem? (i := 251) (by decide +kernel), by decide +kernel⟩⟩
theorem oX8_leftIn : VOk kX8_leftIn 1 := ⟨⟨List.mem_filter.mpr ⟨List.mem_of_getElem? (i := 278) (by decide +kernel), by decide +kernel⟩, qini_X8, ⟨by decide +kernel, by decide +kernel, by decide +kernel⟩, by decide +kernel⟩, List.mem_filter.mpr ⟨List.mem_of_getElem? (i := 276) (by decide +kernel), by decide +kernel⟩, List.mem_filter.mpr ⟨List.mem_of_getElem? (i := 277) (by decide +kernel), by decide +kernel⟩⟩
theorem oX8_shortest : VOk kX8_shortest 2 := ⟨⟨List.mem_filter.mpr ⟨List.mem_of_getElem? (i := 593) (by decide +kernel), by decide +kernel⟩, qini_X8, ⟨by decide +kernel, by decide +kernel, by decide +kernel⟩, by decide +kernel⟩, List.mem_filter.mpr ⟨List.mem_of_getElem? (i := 591) (by decide +kernel), by decide +kernel⟩, List.mem_filter.mpr ⟨List.mem_of_getElem? (i := 592) (by decide +kernel), by decide +kernel⟩⟩
theorem oX8_isKey : SOk kX8_isKey 1 := ⟨⟨List.mem_filter.mpr ⟨List.mem_of_getElem? (i := 368) (by decide +kernel), by decide +kernel⟩, qini_X8, ⟨by decide +kernel, by decide +kernel, by decide +kernel⟩, by decide +kernel⟩, List.mem_filter.mpr ⟨List.mem_of_getElem? (i := 367) (by decide +kernel), by decide +kernel⟩⟩
theorem oX8_isNumber : SOk kX8_isNumber 1 := ⟨⟨List.mem_filter.mpr ⟨List.mem_of_getElem? (i := 281) (by decide +kernel), by decide +kernel⟩, qini_X8, ⟨by decide +kernel, by decide +kernel, by decide +kernel⟩, by decide +kernel⟩, List.mem_filter.mpr ⟨List.mem_of_getElem? (i := 280) (by decide +kernel), by decide +kernel⟩⟩
theorem oX8_isLate : SOk kX8_isLate 2 := ⟨⟨List.mem_filter.mpr ⟨List.mem_of_getElem? (i := 274) (by decide +kernel), by decide +kernel⟩, qini_X8, ⟨by decide +kernel, by decide +kernel, by decide +kernel⟩, by decide +kernel⟩, List.mem_filter.mpr ⟨List.mem_of_getElem? (i := 273) (by decide +kernel), by decide +kernel⟩⟩
theorem oX8_oneIf : SOk kX8_oneIf 1 := ⟨⟨List.mem_filter.mpr ⟨List.mem_of_getElem? (i := 564) (by decide +kernel), by decide +kernel⟩, qini_X8, ⟨by decide +kernel, by decide +kernel, by decide +kernel⟩, by decide +kernel⟩, List.mem_filter.mpr ⟨List.mem_of_getElem? (i := 563) (by decide +kernel), by decide +kernel⟩⟩
theorem oX8_at : SOk kX8_at 2 := ⟨⟨List.mem_filter.mpr ⟨List.mem_of_getElem? (i := 263) (by decide +kernel), by decide +kernel⟩, qini_X8, ⟨by decide +kernel, by decide +kernel, by decide +kernel⟩, by decide +kernel⟩, List.mem_filter.mpr ⟨List.mem_of_getElem? (i := 262) (by decide +kernel), by decide +kernel⟩⟩
theorem oX8_layAt : SOk kX8_layAt 3 := ⟨⟨List.mem_filter.mpr ⟨List.mem_of_getElem? (i := 43) (by decide +kernel), by decide +kernel⟩, qini_X8, ⟨by decide +kernel, by decide +kernel, by decide +kernel⟩, by decide +kernel⟩, List.mem_filter.mpr ⟨List.mem_of_getElem? (i := 42) (by decide +kernel), by decide +kernel⟩⟩
theorem oX8_copyRow : SOk kX8_copyRow 2 := ⟨⟨List.mem_filter.mpr ⟨List.mem_of_getElem? (i := 339) (by decide +kernel), by decide +kernel⟩, qini_X8, ⟨by decide +kernel, by decide +kernel, by decide +kernel⟩, by decide +kernel⟩, List.mem_filter.mpr ⟨List.mem_of_getElem? (i := 338) (by decide +kernel), by decide +kernel⟩⟩
theorem oL_low : SOk kL_low 2 := ⟨⟨List.mem_filter.mpr ⟨List.mem_of_getElem? (i := 315) (by decide +kernel), by decide +kernel⟩, qini_L, ⟨by decide +kernel, by decide +kernel, by decide +kernel⟩, by decide +kernel⟩, List.mem_filter.mpr ⟨List.mem_of_getElem? (i := 314) (by decide +kernel), by decide +kernel⟩⟩
theorem oL_cell : SOk kL_cell 2 := ⟨⟨List.mem_filter.mpr ⟨List.mem_of_getElem? (i := 311) (by decide +kernel), by decide +kernel⟩, qini_L, ⟨by decide +kernel, by decide +kernel, by decide +kernel⟩, by decide +kernel⟩, List.mem_filter.mpr ⟨List.mem_of_getElem? (i := 310) (by decide +kernel), by decide +kernel⟩⟩
theorem oL_act : SOk kL_act 3 := ⟨⟨List.mem_filter.mpr ⟨List.mem_of_getElem? (i := 308) (by decide +kernel), by decide +kernel⟩, qini_L, ⟨by decide +kernel, by decide +kernel, by decide +kernel⟩, by decide +kernel⟩, List.mem_filter.mpr ⟨List.mem_of_getElem? (i := 307) (by decide +kernel), by decide +kernel⟩⟩
theorem oL_feed : SOk kL_feed 1 := ⟨⟨List.mem_filter.mpr ⟨List.mem_of_getElem? (i := 552) (by decide +kernel), by decide +kernel⟩, qini_L, ⟨by decide +kernel, by decide +kernel, by decide +kernel⟩, by decide +kernel⟩, List.mem_filter.mpr ⟨List.mem_of_getElem? (i := 551) (by decide +kernel), by decide +kernel⟩⟩
theorem oL_readers : SOk kL_readers 1 := ⟨⟨List.mem_filter.mpr ⟨List.mem_of_getElem? (i := 574) (by decide +kernel), by decide +kernel⟩, qini_L, ⟨by decide +kernel, by decide +kernel, by decide +kernel⟩, by decide +kernel⟩, List.mem_filter.mpr ⟨List.mem_of_getElem? (i := 573) (by decide +kernel), by decide +kernel⟩⟩
theorem qoi_inst : Cond.instanceMethod objectInit ∈ lwT := List.mem_filter.mpr ⟨List.mem_of_getElem? (i := 23) (by decide +kernel), by decide +kernel⟩
theorem qoi_code : Cond.code objectInit ⟨#[0xb1]⟩ 1 none ∈ lwT := List.mem_filter.mpr ⟨List.mem_of_getElem? (i := 24) (by decide +kernel), by decide +kernel⟩
theorem qmax_st : Cond.static Lib.Math.max.name ∈ lwT := List.mem_filter.mpr ⟨List.mem_of_getElem? (i := 538) (by decide +kernel), by decide +kernel⟩
theorem qmax_code : Cond.code Lib.Math.max.name Lib.Math.max.code 2 (some .int) ∈ lwT := List.mem_filter.mpr ⟨List.mem_of_getElem? (i := 539) (by decide +kernel), by decide +kernel⟩
theorem qmin_st : Cond.static Lib.Math.min.name ∈ lwT := List.mem_filter.mpr ⟨List.mem_of_getElem? (i := 447) (by decide +kernel), by decide +kernel⟩
theorem qmin_code : Cond.code Lib.Math.min.name Lib.Math.min.code 2 (some .int) ∈ lwT := List.mem_filter.mpr ⟨List.mem_of_getElem? (i := 448) (by decide +kernel), by decide +kernel⟩
end
section
theorem dX0_init_0 : decode cX0_init 0 = .ok (.aload_n 0, 1) := by decide +kernel
theorem dX0_init_1 : decode cX0_init 1 = .ok (.invokespecial 3, 3) := by decide +kernel
theorem dX0_init_4 : decode cX0_init 4 = .ok (.aload_n 0, 1) := by decide +kernel
theorem dX0_init_5 : decode cX0_init 5 = .ok (.bipush 60, 2) := by decide +kernel
theorem dX0_init_7 : decode cX0_init 7 = .ok (.newarray .int, 2) := by decide +kernel
theorem dX0_init_9 : decode cX0_init 9 = .ok (.putfield 9, 3) := by decide +kernel
theorem dX0_init_12 : decode cX0_init 12 = .ok (.aload_n 0, 1) := by decide +kernel
theorem dX0_init_13 : decode cX0_init 13 = .ok (.bipush 60, 2) := by decide +kernel
theorem dX0_init_15 : decode cX0_init 15 = .ok (.newarray .int, 2) := by decide +kernel
theorem dX0_init_17 : decode cX0_init 17 = .ok (.putfield 15, 3) := by decide +kernel
theorem dX0_init_20 : decode cX0_init 20 = .ok (.aload_n 0, 1) := by decide +kernel
theorem dX0_init_21 : decode cX0_init 21 = .ok (.bipush 60, 2) := by decide +kernel
theorem dX0_init_23 : decode cX0_init 23 = .ok (.newarray .int, 2) := by decide +kernel
theorem dX0_init_25 : decode cX0_init 25 = .ok (.putfield 18, 3) := by decide +kernel
theorem dX0_init_28 : decode cX0_init 28 = .ok (.aload_n 0, 1) := by decide +kernel
theorem dX0_init_29 : decode cX0_init 29 = .ok (.bipush 60, 2) := by decide +kernel
theorem dX0_init_31 : decode cX0_init 31 = .ok (.newarray .int, 2) := by decide +kernel
theorem dX0_init_33 : decode cX0_init 33 = .ok (.putfield 21, 3) := by decide +kernel
theorem dX0_init_36 : decode cX0_init 36 = .ok (.aload_n 0, 1) := by decide +kernel
theorem dX0_init_37 : decode cX0_init 37 = .ok (.iconst 0, 1) := by decide +kernel
theorem dX0_init_38 : decode cX0_init 38 = .ok (.putfield 24, 3) := by decide +kernel
theorem dX0_init_41 : decode cX0_init 41 = .ok (.aload_n 0, 1) := by decide +kernel
theorem dX0_init_42 : decode cX0_init 42 = .ok (.iconst 0, 1) := by decide +kernel
theorem dX0_init_43 : decode cX0_init 43 = .ok (.putfield 28, 3) := by decide +kernel
theorem dX0_init_46 : decode cX0_init 46 = .ok (.aload_n 0, 1) := by decide +kernel
theorem dX0_init_47 : decode cX0_init 47 = .ok (.iconst 0, 1) := by decide +kernel
theorem dX0_init_48 : decode cX0_init 48 = .ok (.putfield 31, 3) := by decide +kernel
theorem dX0_init_51 : decode cX0_init 51 = .ok (.aload_n 0, 1) := by decide +kernel
theorem dX0_init_52 : decode cX0_init 52 = .ok (.iconst 0, 1) := by decide +kernel
theorem dX0_init_53 : decode cX0_init 53 = .ok (.putfield 34, 3) := by decide +kernel
theorem dX0_init_56 : decode cX0_init 56 = .ok (.return_, 1) := by decide +kernel
theorem dX0_copyFrom_0 : decode cX0_copyFrom 0 = .ok (.aload_n 1, 1) := by decide +kernel
theorem dX0_copyFrom_1 : decode cX0_copyFrom 1 = .ok (.getfield 9, 3) := by decide +kernel
theorem dX0_copyFrom_4 : decode cX0_copyFrom 4 = .ok (.aload_n 0, 1) := by decide +kernel
theorem dX0_copyFrom_5 : decode cX0_copyFrom 5 = .ok (.getfield 9, 3) := by decide +kernel
theorem dX0_copyFrom_8 : decode cX0_copyFrom 8 = .ok (.invokestatic 37, 3) := by decide +kernel
theorem dX0_copyFrom_11 : decode cX0_copyFrom 11 = .ok (.aload_n 1, 1) := by decide +kernel
theorem dX0_copyFrom_12 : decode cX0_copyFrom 12 = .ok (.getfield 15, 3) := by decide +kernel
theorem dX0_copyFrom_15 : decode cX0_copyFrom 15 = .ok (.aload_n 0, 1) := by decide +kernel
theorem dX0_copyFrom_16 : decode cX0_copyFrom 16 = .ok (.getfield 15, 3) := by decide +kernel
theorem dX0_copyFrom_19 : decode cX0_copyFrom 19 = .ok (.invokestatic 37, 3) := by decide +kernel
theorem dX0_copyFrom_22 : decode cX0_copyFrom 22 = .ok (.aload_n 1, 1) := by decide +kernel
theorem dX0_copyFrom_23 : decode cX0_copyFrom 23 = .ok (.getfield 18, 3) := by decide +kernel
theorem dX0_copyFrom_26 : decode cX0_copyFrom 26 = .ok (.aload_n 0, 1) := by decide +kernel
theorem dX0_copyFrom_27 : decode cX0_copyFrom 27 = .ok (.getfield 18, 3) := by decide +kernel
theorem dX0_copyFrom_30 : decode cX0_copyFrom 30 = .ok (.invokestatic 37, 3) := by decide +kernel
theorem dX0_copyFrom_33 : decode cX0_copyFrom 33 = .ok (.aload_n 1, 1) := by decide +kernel
theorem dX0_copyFrom_34 : decode cX0_copyFrom 34 = .ok (.getfield 21, 3) := by decide +kernel
theorem dX0_copyFrom_37 : decode cX0_copyFrom 37 = .ok (.aload_n 0, 1) := by decide +kernel
theorem dX0_copyFrom_38 : decode cX0_copyFrom 38 = .ok (.getfield 21, 3) := by decide +kernel
theorem dX0_copyFrom_41 : decode cX0_copyFrom 41 = .ok (.invokestatic 37, 3) := by decide +kernel
theorem dX0_copyFrom_44 : decode cX0_copyFrom 44 = .ok (.aload_n 0, 1) := by decide +kernel
theorem dX0_copyFrom_45 : decode cX0_copyFrom 45 = .ok (.aload_n 1, 1) := by decide +kernel
theorem dX0_copyFrom_46 : decode cX0_copyFrom 46 = .ok (.getfield 24, 3) := by decide +kernel
theorem dX0_copyFrom_49 : decode cX0_copyFrom 49 = .ok (.putfield 24, 3) := by decide +kernel
theorem dX0_copyFrom_52 : decode cX0_copyFrom 52 = .ok (.aload_n 0, 1) := by decide +kernel
theorem dX0_copyFrom_53 : decode cX0_copyFrom 53 = .ok (.aload_n 1, 1) := by decide +kernel
theorem dX0_copyFrom_54 : decode cX0_copyFrom 54 = .ok (.getfield 28, 3) := by decide +kernel
theorem dX0_copyFrom_57 : decode cX0_copyFrom 57 = .ok (.putfield 28, 3) := by decide +kernel
theorem dX0_copyFrom_60 : decode cX0_copyFrom 60 = .ok (.aload_n 0, 1) := by decide +kernel
theorem dX0_copyFrom_61 : decode cX0_copyFrom 61 = .ok (.aload_n 1, 1) := by decide +kernel
theorem dX0_copyFrom_62 : decode cX0_copyFrom 62 = .ok (.getfield 31, 3) := by decide +kernel
theorem dX0_copyFrom_65 : decode cX0_copyFrom 65 = .ok (.putfield 31, 3) := by decide +kernel
theorem dX0_copyFrom_68 : decode cX0_copyFrom 68 = .ok (.aload_n 0, 1) := by decide +kernel
theorem dX0_copyFrom_69 : decode cX0_copyFrom 69 = .ok (.aload_n 1, 1) := by decide +kernel
theorem dX0_copyFrom_70 : decode cX0_copyFrom 70 = .ok (.getfield 34, 3) := by decide +kernel
theorem dX0_copyFrom_73 : decode cX0_copyFrom 73 = .ok (.putfield 34, 3) := by decide +kernel
theorem dX0_copyFrom_76 : decode cX0_copyFrom 76 = .ok (.return_, 1) := by decide +kernel
theorem dX0_numberAt_0 : decode cX0_numberAt 0 = .ok (.aload_n 0, 1) := by decide +kernel
theorem dX0_numberAt_1 : decode cX0_numberAt 1 = .ok (.getfield 9, 3) := by decide +kernel
theorem dX0_numberAt_4 : decode cX0_numberAt 4 = .ok (.iload_n 1, 1) := by decide +kernel
theorem dX0_numberAt_5 : decode cX0_numberAt 5 = .ok (.invokestatic 41, 3) := by decide +kernel
theorem dX0_numberAt_8 : decode cX0_numberAt 8 = .ok (.ireturn, 1) := by decide +kernel
theorem dX0_keyAt_0 : decode cX0_keyAt 0 = .ok (.aload_n 0, 1) := by decide +kernel
theorem dX0_keyAt_1 : decode cX0_keyAt 1 = .ok (.getfield 15, 3) := by decide +kernel
theorem dX0_keyAt_4 : decode cX0_keyAt 4 = .ok (.iload_n 1, 1) := by decide +kernel
theorem dX0_keyAt_5 : decode cX0_keyAt 5 = .ok (.invokestatic 41, 3) := by decide +kernel
theorem dX0_keyAt_8 : decode cX0_keyAt 8 = .ok (.ireturn, 1) := by decide +kernel
theorem dX0_valueAt_0 : decode cX0_valueAt 0 = .ok (.aload_n 0, 1) := by decide +kernel
theorem dX0_valueAt_1 : decode cX0_valueAt 1 = .ok (.getfield 18, 3) := by decide +kernel
theorem dX0_valueAt_4 : decode cX0_valueAt 4 = .ok (.iload_n 1, 1) := by decide +kernel
theorem dX0_valueAt_5 : decode cX0_valueAt 5 = .ok (.invokestatic 41, 3) := by decide +kernel
theorem dX0_valueAt_8 : decode cX0_valueAt 8 = .ok (.ireturn, 1) := by decide +kernel
theorem dX0_minuteAt_0 : decode cX0_minuteAt 0 = .ok (.aload_n 0, 1) := by decide +kernel
theorem dX0_minuteAt_1 : decode cX0_minuteAt 1 = .ok (.getfield 21, 3) := by decide +kernel
theorem dX0_minuteAt_4 : decode cX0_minuteAt 4 = .ok (.iload_n 1, 1) := by decide +kernel
theorem dX0_minuteAt_5 : decode cX0_minuteAt 5 = .ok (.invokestatic 41, 3) := by decide +kernel
theorem dX0_minuteAt_8 : decode cX0_minuteAt 8 = .ok (.ireturn, 1) := by decide +kernel
theorem dX0_isFull_0 : decode cX0_isFull 0 = .ok (.aload_n 0, 1) := by decide +kernel
theorem dX0_isFull_1 : decode cX0_isFull 1 = .ok (.getfield 24, 3) := by decide +kernel
theorem dX0_isFull_4 : decode cX0_isFull 4 = .ok (.bipush 60, 2) := by decide +kernel
theorem dX0_isFull_6 : decode cX0_isFull 6 = .ok (.if_icmp .lt 7, 3) := by decide +kernel
theorem dX0_isFull_9 : decode cX0_isFull 9 = .ok (.iconst 1, 1) := by decide +kernel
theorem dX0_isFull_10 : decode cX0_isFull 10 = .ok (.goto 4, 3) := by decide +kernel
theorem dX0_isFull_13 : decode cX0_isFull 13 = .ok (.iconst 0, 1) := by decide +kernel
theorem dX0_isFull_14 : decode cX0_isFull 14 = .ok (.ireturn, 1) := by decide +kernel
theorem dX0_append_0 : decode cX0_append 0 = .ok (.aload_n 0, 1) := by decide +kernel
theorem dX0_append_1 : decode cX0_append 1 = .ok (.getfield 28, 3) := by decide +kernel
theorem dX0_append_4 : decode cX0_append 4 = .ok (.istore 4, 2) := by decide +kernel
theorem dX0_append_6 : decode cX0_append 6 = .ok (.aload_n 0, 1) := by decide +kernel
theorem dX0_append_7 : decode cX0_append 7 = .ok (.aload_n 0, 1) := by decide +kernel
theorem dX0_append_8 : decode cX0_append 8 = .ok (.getfield 24, 3) := by decide +kernel
theorem dX0_append_11 : decode cX0_append 11 = .ok (.iload 4, 2) := by decide +kernel
theorem dX0_append_13 : decode cX0_append 13 = .ok (.iload_n 1, 1) := by decide +kernel
theorem dX0_append_14 : decode cX0_append 14 = .ok (.iload_n 2, 1) := by decide +kernel
theorem dX0_append_15 : decode cX0_append 15 = .ok (.iload_n 3, 1) := by decide +kernel
theorem dX0_append_16 : decode cX0_append 16 = .ok (.invokevirtual 45, 3) := by decide +kernel
theorem dX0_append_19 : decode cX0_append 19 = .ok (.aload_n 0, 1) := by decide +kernel
theorem dX0_append_20 : decode cX0_append 20 = .ok (.dup, 1) := by decide +kernel
theorem dX0_append_21 : decode cX0_append 21 = .ok (.getfield 24, 3) := by decide +kernel
theorem dX0_append_24 : decode cX0_append 24 = .ok (.iconst 1, 1) := by decide +kernel
theorem dX0_append_25 : decode cX0_append 25 = .ok (.iadd, 1) := by decide +kernel
theorem dX0_append_26 : decode cX0_append 26 = .ok (.putfield 24, 3) := by decide +kernel
theorem dX0_append_29 : decode cX0_append 29 = .ok (.aload_n 0, 1) := by decide +kernel
theorem dX0_append_30 : decode cX0_append 30 = .ok (.dup, 1) := by decide +kernel
theorem dX0_append_31 : decode cX0_append 31 = .ok (.getfield 28, 3) := by decide +kernel
theorem dX0_append_34 : decode cX0_append 34 = .ok (.iconst 1, 1) := by decide +kernel
theorem dX0_append_35 : decode cX0_append 35 = .ok (.iadd, 1) := by decide +kernel
theorem dX0_append_36 : decode cX0_append 36 = .ok (.putfield 28, 3) := by decide +kernel
theorem dX0_append_39 : decode cX0_append 39 = .ok (.iload 4, 2) := by decide +kernel
theorem dX0_append_41 : decode cX0_append 41 = .ok (.ireturn, 1) := by decide +kernel
theorem dX0_layEntry_0 : decode cX0_layEntry 0 = .ok (.aload_n 0, 1) := by decide +kernel
theorem dX0_layEntry_1 : decode cX0_layEntry 1 = .ok (.getfield 9, 3) := by decide +kernel
theorem dX0_layEntry_4 : decode cX0_layEntry 4 = .ok (.iload_n 1, 1) := by decide +kernel
theorem dX0_layEntry_5 : decode cX0_layEntry 5 = .ok (.iload_n 2, 1) := by decide +kernel
theorem dX0_layEntry_6 : decode cX0_layEntry 6 = .ok (.invokestatic 49, 3) := by decide +kernel
theorem dX0_layEntry_9 : decode cX0_layEntry 9 = .ok (.aload_n 0, 1) := by decide +kernel
theorem dX0_layEntry_10 : decode cX0_layEntry 10 = .ok (.getfield 15, 3) := by decide +kernel
theorem dX0_layEntry_13 : decode cX0_layEntry 13 = .ok (.iload_n 1, 1) := by decide +kernel
theorem dX0_layEntry_14 : decode cX0_layEntry 14 = .ok (.iload_n 3, 1) := by decide +kernel
theorem dX0_layEntry_15 : decode cX0_layEntry 15 = .ok (.invokestatic 49, 3) := by decide +kernel
theorem dX0_layEntry_18 : decode cX0_layEntry 18 = .ok (.aload_n 0, 1) := by decide +kernel
theorem dX0_layEntry_19 : decode cX0_layEntry 19 = .ok (.getfield 18, 3) := by decide +kernel
theorem dX0_layEntry_22 : decode cX0_layEntry 22 = .ok (.iload_n 1, 1) := by decide +kernel
theorem dX0_layEntry_23 : decode cX0_layEntry 23 = .ok (.iload 4, 2) := by decide +kernel
theorem dX0_layEntry_25 : decode cX0_layEntry 25 = .ok (.invokestatic 49, 3) := by decide +kernel
theorem dX0_layEntry_28 : decode cX0_layEntry 28 = .ok (.aload_n 0, 1) := by decide +kernel
theorem dX0_layEntry_29 : decode cX0_layEntry 29 = .ok (.getfield 21, 3) := by decide +kernel
theorem dX0_layEntry_32 : decode cX0_layEntry 32 = .ok (.iload_n 1, 1) := by decide +kernel
theorem dX0_layEntry_33 : decode cX0_layEntry 33 = .ok (.iload 5, 2) := by decide +kernel
theorem dX0_layEntry_35 : decode cX0_layEntry 35 = .ok (.invokestatic 49, 3) := by decide +kernel
theorem dX0_layEntry_38 : decode cX0_layEntry 38 = .ok (.return_, 1) := by decide +kernel
theorem dX0_firstFrom_0 : decode cX0_firstFrom 0 = .ok (.iconst 0, 1) := by decide +kernel
theorem dX0_firstFrom_1 : decode cX0_firstFrom 1 = .ok (.istore_n 2, 1) := by decide +kernel
theorem dX0_firstFrom_2 : decode cX0_firstFrom 2 = .ok (.iload_n 2, 1) := by decide +kernel
theorem dX0_firstFrom_3 : decode cX0_firstFrom 3 = .ok (.aload_n 0, 1) := by decide +kernel
theorem dX0_firstFrom_4 : decode cX0_firstFrom 4 = .ok (.getfield 24, 3) := by decide +kernel
theorem dX0_firstFrom_7 : decode cX0_firstFrom 7 = .ok (.if_icmp .ge 23, 3) := by decide +kernel
theorem dX0_firstFrom_10 : decode cX0_firstFrom 10 = .ok (.aload_n 0, 1) := by decide +kernel
theorem dX0_firstFrom_11 : decode cX0_firstFrom 11 = .ok (.getfield 9, 3) := by decide +kernel
theorem dX0_firstFrom_14 : decode cX0_firstFrom 14 = .ok (.iload_n 2, 1) := by decide +kernel
theorem dX0_firstFrom_15 : decode cX0_firstFrom 15 = .ok (.invokestatic 41, 3) := by decide +kernel
theorem dX0_firstFrom_18 : decode cX0_firstFrom 18 = .ok (.iload_n 1, 1) := by decide +kernel
theorem dX0_firstFrom_19 : decode cX0_firstFrom 19 = .ok (.if_icmp .lt 5, 3) := by decide +kernel
theorem dX0_firstFrom_22 : decode cX0_firstFrom 22 = .ok (.iload_n 2, 1) := by decide +kernel
theorem dX0_firstFrom_23 : decode cX0_firstFrom 23 = .ok (.ireturn, 1) := by decide +kernel
theorem dX0_firstFrom_24 : decode cX0_firstFrom 24 = .ok (.iinc 2 1, 3) := by decide +kernel
theorem dX0_firstFrom_27 : decode cX0_firstFrom 27 = .ok (.goto (-25), 3) := by decide +kernel
theorem dX0_firstFrom_30 : decode cX0_firstFrom 30 = .ok (.aload_n 0, 1) := by decide +kernel
theorem dX0_firstFrom_31 : decode cX0_firstFrom 31 = .ok (.getfield 24, 3) := by decide +kernel
theorem dX0_firstFrom_34 : decode cX0_firstFrom 34 = .ok (.ireturn, 1) := by decide +kernel
theorem dX0_aheadOf_0 : decode cX0_aheadOf 0 = .ok (.aload_n 0, 1) := by decide +kernel
theorem dX0_aheadOf_1 : decode cX0_aheadOf 1 = .ok (.getfield 24, 3) := by decide +kernel
theorem dX0_aheadOf_4 : decode cX0_aheadOf 4 = .ok (.aload_n 0, 1) := by decide +kernel
theorem dX0_aheadOf_5 : decode cX0_aheadOf 5 = .ok (.iload_n 1, 1) := by decide +kernel
theorem dX0_aheadOf_6 : decode cX0_aheadOf 6 = .ok (.invokevirtual 53, 3) := by decide +kernel
theorem dX0_aheadOf_9 : decode cX0_aheadOf 9 = .ok (.isub, 1) := by decide +kernel
theorem dX0_aheadOf_10 : decode cX0_aheadOf 10 = .ok (.ireturn, 1) := by decide +kernel
theorem dX0_isLastOfItsKey_0 : decode cX0_isLastOfItsKey 0 = .ok (.iload_n 1, 1) := by decide +kernel
theorem dX0_isLastOfItsKey_1 : decode cX0_isLastOfItsKey 1 = .ok (.iconst 1, 1) := by decide +kernel
theorem dX0_isLastOfItsKey_2 : decode cX0_isLastOfItsKey 2 = .ok (.iadd, 1) := by decide +kernel
theorem dX0_isLastOfItsKey_3 : decode cX0_isLastOfItsKey 3 = .ok (.istore_n 2, 1) := by decide +kernel
theorem dX0_isLastOfItsKey_4 : decode cX0_isLastOfItsKey 4 = .ok (.iload_n 2, 1) := by decide +kernel
theorem dX0_isLastOfItsKey_5 : decode cX0_isLastOfItsKey 5 = .ok (.aload_n 0, 1) := by decide +kernel
theorem dX0_isLastOfItsKey_6 : decode cX0_isLastOfItsKey 6 = .ok (.getfield 24, 3) := by decide +kernel
theorem dX0_isLastOfItsKey_9 : decode cX0_isLastOfItsKey 9 = .ok (.if_icmp .ge 30, 3) := by decide +kernel
theorem dX0_isLastOfItsKey_12 : decode cX0_isLastOfItsKey 12 = .ok (.aload_n 0, 1) := by decide +kernel
theorem dX0_isLastOfItsKey_13 : decode cX0_isLastOfItsKey 13 = .ok (.getfield 15, 3) := by decide +kernel
theorem dX0_isLastOfItsKey_16 : decode cX0_isLastOfItsKey 16 = .ok (.iload_n 2, 1) := by decide +kernel
theorem dX0_isLastOfItsKey_17 : decode cX0_isLastOfItsKey 17 = .ok (.invokestatic 41, 3) := by decide +kernel
theorem dX0_isLastOfItsKey_20 : decode cX0_isLastOfItsKey 20 = .ok (.aload_n 0, 1) := by decide +kernel
theorem dX0_isLastOfItsKey_21 : decode cX0_isLastOfItsKey 21 = .ok (.getfield 15, 3) := by decide +kernel
theorem dX0_isLastOfItsKey_24 : decode cX0_isLastOfItsKey 24 = .ok (.iload_n 1, 1) := by decide +kernel
theorem dX0_isLastOfItsKey_25 : decode cX0_isLastOfItsKey 25 = .ok (.invokestatic 41, 3) := by decide +kernel
theorem dX0_isLastOfItsKey_28 : decode cX0_isLastOfItsKey 28 = .ok (.if_icmp .ne 5, 3) := by decide +kernel
theorem dX0_isLastOfItsKey_31 : decode cX0_isLastOfItsKey 31 = .ok (.iconst 0, 1) := by decide +kernel
theorem dX0_isLastOfItsKey_32 : decode cX0_isLastOfItsKey 32 = .ok (.ireturn, 1) := by decide +kernel
theorem dX0_isLastOfItsKey_33 : decode cX0_isLastOfItsKey 33 = .ok (.iinc 2 1, 3) := by decide +kernel
theorem dX0_isLastOfItsKey_36 : decode cX0_isLastOfItsKey 36 = .ok (.goto (-32), 3) := by decide +kernel
theorem dX0_isLastOfItsKey_39 : decode cX0_isLastOfItsKey 39 = .ok (.iconst 1, 1) := by decide +kernel
theorem dX0_isLastOfItsKey_40 : decode cX0_isLastOfItsKey 40 = .ok (.ireturn, 1) := by decide +kernel
theorem dX0_isClosed_0 : decode cX0_isClosed 0 = .ok (.aload_n 0, 1) := by decide +kernel
theorem dX0_isClosed_1 : decode cX0_isClosed 1 = .ok (.getfield 9, 3) := by decide +kernel
theorem dX0_isClosed_4 : decode cX0_isClosed 4 = .ok (.iload_n 1, 1) := by decide +kernel
theorem dX0_isClosed_5 : decode cX0_isClosed 5 = .ok (.invokestatic 41, 3) := by decide +kernel
theorem dX0_isClosed_8 : decode cX0_isClosed 8 = .ok (.iload_n 2, 1) := by decide +kernel
theorem dX0_isClosed_9 : decode cX0_isClosed 9 = .ok (.invokestatic 57, 3) := by decide +kernel
theorem dX0_isClosed_12 : decode cX0_isClosed 12 = .ok (.aload_n 0, 1) := by decide +kernel
theorem dX0_isClosed_13 : decode cX0_isClosed 13 = .ok (.getfield 28, 3) := by decide +kernel
theorem dX0_isClosed_16 : decode cX0_isClosed 16 = .ok (.iload_n 2, 1) := by decide +kernel
theorem dX0_isClosed_17 : decode cX0_isClosed 17 = .ok (.invokestatic 57, 3) := by decide +kernel
theorem dX0_isClosed_20 : decode cX0_isClosed 20 = .ok (.if_icmp .eq 7, 3) := by decide +kernel
theorem dX0_isClosed_23 : decode cX0_isClosed 23 = .ok (.iconst 1, 1) := by decide +kernel
theorem dX0_isClosed_24 : decode cX0_isClosed 24 = .ok (.goto 4, 3) := by decide +kernel
theorem dX0_isClosed_27 : decode cX0_isClosed 27 = .ok (.iconst 0, 1) := by decide +kernel
theorem dX0_isClosed_28 : decode cX0_isClosed 28 = .ok (.ireturn, 1) := by decide +kernel
theorem dX0_segmentOf_0 : decode cX0_segmentOf 0 = .ok (.iload_n 1, 1) := by decide +kernel
theorem dX0_segmentOf_1 : decode cX0_segmentOf 1 = .ok (.iconst 1, 1) := by decide +kernel
theorem dX0_segmentOf_2 : decode cX0_segmentOf 2 = .ok (.if_icmp .ge 7, 3) := by decide +kernel
theorem dX0_segmentOf_5 : decode cX0_segmentOf 5 = .ok (.iconst 0, 1) := by decide +kernel
theorem dX0_segmentOf_6 : decode cX0_segmentOf 6 = .ok (.goto 6, 3) := by decide +kernel
theorem dX0_segmentOf_9 : decode cX0_segmentOf 9 = .ok (.iload_n 0, 1) := by decide +kernel
theorem dX0_segmentOf_10 : decode cX0_segmentOf 10 = .ok (.iload_n 1, 1) := by decide +kernel
theorem dX0_segmentOf_11 : decode cX0_segmentOf 11 = .ok (.idiv, 1) := by decide +kernel
theorem dX0_segmentOf_12 : decode cX0_segmentOf 12 = .ok (.ireturn, 1) := by decide +kernel
theorem dX0_isOldRemoval_0 : decode cX0_isOldRemoval 0 = .ok (.aload_n 0, 1) := by decide +kernel
theorem dX0_isOldRemoval_1 : decode cX0_isOldRemoval 1 = .ok (.getfield 18, 3) := by decide +kernel
theorem dX0_isOldRemoval_4 : decode cX0_isOldRemoval 4 = .ok (.iload_n 1, 1) := by decide +kernel
theorem dX0_isOldRemoval_5 : decode cX0_isOldRemoval 5 = .ok (.invokestatic 41, 3) := by decide +kernel
theorem dX0_isOldRemoval_8 : decode cX0_isOldRemoval 8 = .ok (.bipush (-6), 2) := by decide +kernel
theorem dX0_isOldRemoval_10 : decode cX0_isOldRemoval 10 = .ok (.if_icmp .ne 21, 3) := by decide +kernel
theorem dX0_isOldRemoval_13 : decode cX0_isOldRemoval 13 = .ok (.iload_n 3, 1) := by decide +kernel
theorem dX0_isOldRemoval_14 : decode cX0_isOldRemoval 14 = .ok (.aload_n 0, 1) := by decide +kernel
theorem dX0_isOldRemoval_15 : decode cX0_isOldRemoval 15 = .ok (.getfield 21, 3) := by decide +kernel
theorem dX0_isOldRemoval_18 : decode cX0_isOldRemoval 18 = .ok (.iload_n 1, 1) := by decide +kernel
theorem dX0_isOldRemoval_19 : decode cX0_isOldRemoval 19 = .ok (.invokestatic 41, 3) := by decide +kernel
theorem dX0_isOldRemoval_22 : decode cX0_isOldRemoval 22 = .ok (.isub, 1) := by decide +kernel
theorem dX0_isOldRemoval_23 : decode cX0_isOldRemoval 23 = .ok (.iload_n 2, 1) := by decide +kernel
theorem dX0_isOldRemoval_24 : decode cX0_isOldRemoval 24 = .ok (.if_icmp .le 7, 3) := by decide +kernel
theorem dX0_isOldRemoval_27 : decode cX0_isOldRemoval 27 = .ok (.iconst 1, 1) := by decide +kernel
theorem dX0_isOldRemoval_28 : decode cX0_isOldRemoval 28 = .ok (.goto 4, 3) := by decide +kernel
theorem dX0_isOldRemoval_31 : decode cX0_isOldRemoval 31 = .ok (.iconst 0, 1) := by decide +kernel
theorem dX0_isOldRemoval_32 : decode cX0_isOldRemoval 32 = .ok (.ireturn, 1) := by decide +kernel
theorem dX0_wouldGo_0 : decode cX0_wouldGo 0 = .ok (.aload_n 0, 1) := by decide +kernel
theorem dX0_wouldGo_1 : decode cX0_wouldGo 1 = .ok (.iload_n 1, 1) := by decide +kernel
theorem dX0_wouldGo_2 : decode cX0_wouldGo 2 = .ok (.iload_n 2, 1) := by decide +kernel
theorem dX0_wouldGo_3 : decode cX0_wouldGo 3 = .ok (.invokevirtual 61, 3) := by decide +kernel
theorem dX0_wouldGo_6 : decode cX0_wouldGo 6 = .ok (.ifCond .eq 26, 3) := by decide +kernel
theorem dX0_wouldGo_9 : decode cX0_wouldGo 9 = .ok (.aload_n 0, 1) := by decide +kernel
theorem dX0_wouldGo_10 : decode cX0_wouldGo 10 = .ok (.iload_n 1, 1) := by decide +kernel
theorem dX0_wouldGo_11 : decode cX0_wouldGo 11 = .ok (.invokevirtual 65, 3) := by decide +kernel
theorem dX0_wouldGo_14 : decode cX0_wouldGo 14 = .ok (.ifCond .eq 14, 3) := by decide +kernel
theorem dX0_wouldGo_17 : decode cX0_wouldGo 17 = .ok (.aload_n 0, 1) := by decide +kernel
theorem dX0_wouldGo_18 : decode cX0_wouldGo 18 = .ok (.iload_n 1, 1) := by decide +kernel
theorem dX0_wouldGo_19 : decode cX0_wouldGo 19 = .ok (.iload_n 3, 1) := by decide +kernel
theorem dX0_wouldGo_20 : decode cX0_wouldGo 20 = .ok (.iload 4, 2) := by decide +kernel
theorem dX0_wouldGo_22 : decode cX0_wouldGo 22 = .ok (.invokevirtual 69, 3) := by decide +kernel
theorem dX0_wouldGo_25 : decode cX0_wouldGo 25 = .ok (.ifCond .eq 7, 3) := by decide +kernel
theorem dX0_wouldGo_28 : decode cX0_wouldGo 28 = .ok (.iconst 1, 1) := by decide +kernel
theorem dX0_wouldGo_29 : decode cX0_wouldGo 29 = .ok (.goto 4, 3) := by decide +kernel
theorem dX0_wouldGo_32 : decode cX0_wouldGo 32 = .ok (.iconst 0, 1) := by decide +kernel
theorem dX0_wouldGo_33 : decode cX0_wouldGo 33 = .ok (.ireturn, 1) := by decide +kernel
theorem dX0_leftAfterThinning_0 : decode cX0_leftAfterThinning 0 = .ok (.iconst 0, 1) := by decide +kernel
theorem dX0_leftAfterThinning_1 : decode cX0_leftAfterThinning 1 = .ok (.istore 4, 2) := by decide +kernel
theorem dX0_leftAfterThinning_3 : decode cX0_leftAfterThinning 3 = .ok (.iconst 0, 1) := by decide +kernel
theorem dX0_leftAfterThinning_4 : decode cX0_leftAfterThinning 4 = .ok (.istore 5, 2) := by decide +kernel
theorem dX0_leftAfterThinning_6 : decode cX0_leftAfterThinning 6 = .ok (.iload 5, 2) := by decide +kernel
theorem dX0_leftAfterThinning_8 : decode cX0_leftAfterThinning 8 = .ok (.aload_n 0, 1) := by decide +kernel
theorem dX0_leftAfterThinning_9 : decode cX0_leftAfterThinning 9 = .ok (.getfield 24, 3) := by decide +kernel
theorem dX0_leftAfterThinning_12 : decode cX0_leftAfterThinning 12 = .ok (.if_icmp .ge 24, 3) := by decide +kernel
theorem dX0_leftAfterThinning_15 : decode cX0_leftAfterThinning 15 = .ok (.aload_n 0, 1) := by decide +kernel
theorem dX0_leftAfterThinning_16 : decode cX0_leftAfterThinning 16 = .ok (.iload 5, 2) := by decide +kernel
theorem dX0_leftAfterThinning_18 : decode cX0_leftAfterThinning 18 = .ok (.iload_n 1, 1) := by decide +kernel
theorem dX0_leftAfterThinning_19 : decode cX0_leftAfterThinning 19 = .ok (.iload_n 2, 1) := by decide +kernel
theorem dX0_leftAfterThinning_20 : decode cX0_leftAfterThinning 20 = .ok (.iload_n 3, 1) := by decide +kernel
theorem dX0_leftAfterThinning_21 : decode cX0_leftAfterThinning 21 = .ok (.invokevirtual 73, 3) := by decide +kernel
theorem dX0_leftAfterThinning_24 : decode cX0_leftAfterThinning 24 = .ok (.ifCond .ne 6, 3) := by decide +kernel
theorem dX0_leftAfterThinning_27 : decode cX0_leftAfterThinning 27 = .ok (.iinc 4 1, 3) := by decide +kernel
theorem dX0_leftAfterThinning_30 : decode cX0_leftAfterThinning 30 = .ok (.iinc 5 1, 3) := by decide +kernel
theorem dX0_leftAfterThinning_33 : decode cX0_leftAfterThinning 33 = .ok (.goto (-27), 3) := by decide +kernel
theorem dX0_leftAfterThinning_36 : decode cX0_leftAfterThinning 36 = .ok (.iload 4, 2) := by decide +kernel
theorem dX0_leftAfterThinning_38 : decode cX0_leftAfterThinning 38 = .ok (.ireturn, 1) := by decide +kernel
theorem dX0_floorAfterThinning_0 : decode cX0_floorAfterThinning 0 = .ok (.aload_n 0, 1) := by decide +kernel
theorem dX0_floorAfterThinning_1 : decode cX0_floorAfterThinning 1 = .ok (.getfield 31, 3) := by decide +kernel
theorem dX0_floorAfterThinning_4 : decode cX0_floorAfterThinning 4 = .ok (.istore 4, 2) := by decide +kernel
theorem dX0_floorAfterThinning_6 : decode cX0_floorAfterThinning 6 = .ok (.iconst 0, 1) := by decide +kernel
theorem dX0_floorAfterThinning_7 : decode cX0_floorAfterThinning 7 = .ok (.istore 5, 2) := by decide +kernel
theorem dX0_floorAfterThinning_9 : decode cX0_floorAfterThinning 9 = .ok (.iload 5, 2) := by decide +kernel
theorem dX0_floorAfterThinning_11 : decode cX0_floorAfterThinning 11 = .ok (.aload_n 0, 1) := by decide +kernel
theorem dX0_floorAfterThinning_12 : decode cX0_floorAfterThinning 12 = .ok (.getfield 24, 3) := by decide +kernel
theorem dX0_floorAfterThinning_15 : decode cX0_floorAfterThinning 15 = .ok (.if_icmp .ge 45, 3) := by decide +kernel
theorem dX0_floorAfterThinning_18 : decode cX0_floorAfterThinning 18 = .ok (.aload_n 0, 1) := by decide +kernel
theorem dX0_floorAfterThinning_19 : decode cX0_floorAfterThinning 19 = .ok (.iload 5, 2) := by decide +kernel
theorem dX0_floorAfterThinning_21 : decode cX0_floorAfterThinning 21 = .ok (.invokevirtual 65, 3) := by decide +kernel
theorem dX0_floorAfterThinning_24 : decode cX0_floorAfterThinning 24 = .ok (.ifCond .eq 30, 3) := by decide +kernel
theorem dX0_floorAfterThinning_27 : decode cX0_floorAfterThinning 27 = .ok (.aload_n 0, 1) := by decide +kernel
theorem dX0_floorAfterThinning_28 : decode cX0_floorAfterThinning 28 = .ok (.iload 5, 2) := by decide +kernel
theorem dX0_floorAfterThinning_30 : decode cX0_floorAfterThinning 30 = .ok (.iload_n 1, 1) := by decide +kernel
theorem dX0_floorAfterThinning_31 : decode cX0_floorAfterThinning 31 = .ok (.iload_n 2, 1) := by decide +kernel
theorem dX0_floorAfterThinning_32 : decode cX0_floorAfterThinning 32 = .ok (.iload_n 3, 1) := by decide +kernel
theorem dX0_floorAfterThinning_33 : decode cX0_floorAfterThinning 33 = .ok (.invokevirtual 73, 3) := by decide +kernel
theorem dX0_floorAfterThinning_36 : decode cX0_floorAfterThinning 36 = .ok (.ifCond .eq 18, 3) := by decide +kernel
theorem dX0_floorAfterThinning_39 : decode cX0_floorAfterThinning 39 = .ok (.iload 4, 2) := by decide +kernel
theorem dX0_floorAfterThinning_41 : decode cX0_floorAfterThinning 41 = .ok (.aload_n 0, 1) := by decide +kernel
theorem dX0_floorAfterThinning_42 : decode cX0_floorAfterThinning 42 = .ok (.iload 5, 2) := by decide +kernel
theorem dX0_floorAfterThinning_44 : decode cX0_floorAfterThinning 44 = .ok (.invokevirtual 77, 3) := by decide +kernel
theorem dX0_floorAfterThinning_47 : decode cX0_floorAfterThinning 47 = .ok (.iconst 1, 1) := by decide +kernel
theorem dX0_floorAfterThinning_48 : decode cX0_floorAfterThinning 48 = .ok (.iadd, 1) := by decide +kernel
theorem dX0_floorAfterThinning_49 : decode cX0_floorAfterThinning 49 = .ok (.invokestatic 80, 3) := by decide +kernel
theorem dX0_floorAfterThinning_52 : decode cX0_floorAfterThinning 52 = .ok (.istore 4, 2) := by decide +kernel
theorem dX0_floorAfterThinning_54 : decode cX0_floorAfterThinning 54 = .ok (.iinc 5 1, 3) := by decide +kernel
theorem dX0_floorAfterThinning_57 : decode cX0_floorAfterThinning 57 = .ok (.goto (-48), 3) := by decide +kernel
theorem dX0_floorAfterThinning_60 : decode cX0_floorAfterThinning 60 = .ok (.iload 4, 2) := by decide +kernel
theorem dX0_floorAfterThinning_62 : decode cX0_floorAfterThinning 62 = .ok (.ireturn, 1) := by decide +kernel
theorem dX0_thinOut_0 : decode cX0_thinOut 0 = .ok (.iconst 0, 1) := by decide +kernel
theorem dX0_thinOut_1 : decode cX0_thinOut 1 = .ok (.istore 4, 2) := by decide +kernel
theorem dX0_thinOut_3 : decode cX0_thinOut 3 = .ok (.iconst 0, 1) := by decide +kernel
theorem dX0_thinOut_4 : decode cX0_thinOut 4 = .ok (.istore 5, 2) := by decide +kernel
theorem dX0_thinOut_6 : decode cX0_thinOut 6 = .ok (.iload 5, 2) := by decide +kernel
theorem dX0_thinOut_8 : decode cX0_thinOut 8 = .ok (.aload_n 0, 1) := by decide +kernel
theorem dX0_thinOut_9 : decode cX0_thinOut 9 = .ok (.getfield 24, 3) := by decide +kernel
theorem dX0_thinOut_12 : decode cX0_thinOut 12 = .ok (.if_icmp .ge 54, 3) := by decide +kernel
theorem dX0_thinOut_15 : decode cX0_thinOut 15 = .ok (.aload_n 0, 1) := by decide +kernel
theorem dX0_thinOut_16 : decode cX0_thinOut 16 = .ok (.iload 5, 2) := by decide +kernel
theorem dX0_thinOut_18 : decode cX0_thinOut 18 = .ok (.iload_n 1, 1) := by decide +kernel
theorem dX0_thinOut_19 : decode cX0_thinOut 19 = .ok (.iload_n 2, 1) := by decide +kernel
theorem dX0_thinOut_20 : decode cX0_thinOut 20 = .ok (.iload_n 3, 1) := by decide +kernel
theorem dX0_thinOut_21 : decode cX0_thinOut 21 = .ok (.invokevirtual 73, 3) := by decide +kernel
theorem dX0_thinOut_24 : decode cX0_thinOut 24 = .ok (.ifCond .ne 36, 3) := by decide +kernel
theorem dX0_thinOut_27 : decode cX0_thinOut 27 = .ok (.aload_n 0, 1) := by decide +kernel
theorem dX0_thinOut_28 : decode cX0_thinOut 28 = .ok (.iload 4, 2) := by decide +kernel
theorem dX0_thinOut_30 : decode cX0_thinOut 30 = .ok (.aload_n 0, 1) := by decide +kernel
theorem dX0_thinOut_31 : decode cX0_thinOut 31 = .ok (.iload 5, 2) := by decide +kernel
theorem dX0_thinOut_33 : decode cX0_thinOut 33 = .ok (.invokevirtual 77, 3) := by decide +kernel
theorem dX0_thinOut_36 : decode cX0_thinOut 36 = .ok (.aload_n 0, 1) := by decide +kernel
theorem dX0_thinOut_37 : decode cX0_thinOut 37 = .ok (.iload 5, 2) := by decide +kernel
theorem dX0_thinOut_39 : decode cX0_thinOut 39 = .ok (.invokevirtual 85, 3) := by decide +kernel
theorem dX0_thinOut_42 : decode cX0_thinOut 42 = .ok (.aload_n 0, 1) := by decide +kernel
theorem dX0_thinOut_43 : decode cX0_thinOut 43 = .ok (.iload 5, 2) := by decide +kernel
theorem dX0_thinOut_45 : decode cX0_thinOut 45 = .ok (.invokevirtual 88, 3) := by decide +kernel
theorem dX0_thinOut_48 : decode cX0_thinOut 48 = .ok (.aload_n 0, 1) := by decide +kernel
theorem dX0_thinOut_49 : decode cX0_thinOut 49 = .ok (.iload 5, 2) := by decide +kernel
theorem dX0_thinOut_51 : decode cX0_thinOut 51 = .ok (.invokevirtual 91, 3) := by decide +kernel
theorem dX0_thinOut_54 : decode cX0_thinOut 54 = .ok (.invokevirtual 45, 3) := by decide +kernel
theorem dX0_thinOut_57 : decode cX0_thinOut 57 = .ok (.iinc 4 1, 3) := by decide +kernel
theorem dX0_thinOut_60 : decode cX0_thinOut 60 = .ok (.iinc 5 1, 3) := by decide +kernel
theorem dX0_thinOut_63 : decode cX0_thinOut 63 = .ok (.goto (-57), 3) := by decide +kernel
theorem dX0_thinOut_66 : decode cX0_thinOut 66 = .ok (.aload_n 0, 1) := by decide +kernel
theorem dX0_thinOut_67 : decode cX0_thinOut 67 = .ok (.getfield 24, 3) := by decide +kernel
theorem dX0_thinOut_70 : decode cX0_thinOut 70 = .ok (.iload 4, 2) := by decide +kernel
theorem dX0_thinOut_72 : decode cX0_thinOut 72 = .ok (.isub, 1) := by decide +kernel
theorem dX0_thinOut_73 : decode cX0_thinOut 73 = .ok (.istore 5, 2) := by decide +kernel
theorem dX0_thinOut_75 : decode cX0_thinOut 75 = .ok (.aload_n 0, 1) := by decide +kernel
theorem dX0_thinOut_76 : decode cX0_thinOut 76 = .ok (.iload 4, 2) := by decide +kernel
theorem dX0_thinOut_78 : decode cX0_thinOut 78 = .ok (.putfield 24, 3) := by decide +kernel
theorem dX0_thinOut_81 : decode cX0_thinOut 81 = .ok (.aload_n 0, 1) := by decide +kernel
theorem dX0_thinOut_82 : decode cX0_thinOut 82 = .ok (.dup, 1) := by decide +kernel
theorem dX0_thinOut_83 : decode cX0_thinOut 83 = .ok (.getfield 34, 3) := by decide +kernel
theorem dX0_thinOut_86 : decode cX0_thinOut 86 = .ok (.iload 5, 2) := by decide +kernel
theorem dX0_thinOut_88 : decode cX0_thinOut 88 = .ok (.iadd, 1) := by decide +kernel
theorem dX0_thinOut_89 : decode cX0_thinOut 89 = .ok (.putfield 34, 3) := by decide +kernel
theorem dX0_thinOut_92 : decode cX0_thinOut 92 = .ok (.iload 5, 2) := by decide +kernel
theorem dX0_thinOut_94 : decode cX0_thinOut 94 = .ok (.ireturn, 1) := by decide +kernel
theorem dX1_init_0 : decode cX1_init 0 = .ok (.aload_n 0, 1) := by decide +kernel
theorem dX1_init_1 : decode cX1_init 1 = .ok (.invokespecial 3, 3) := by decide +kernel
theorem dX1_init_4 : decode cX1_init 4 = .ok (.aload_n 0, 1) := by decide +kernel
theorem dX1_init_5 : decode cX1_init 5 = .ok (.bipush 7, 2) := by decide +kernel
theorem dX1_init_7 : decode cX1_init 7 = .ok (.anewarray 9, 3) := by decide +kernel
theorem dX1_init_10 : decode cX1_init 10 = .ok (.putfield 11, 3) := by decide +kernel
theorem dX1_init_13 : decode cX1_init 13 = .ok (.aload_n 0, 1) := by decide +kernel
theorem dX1_init_14 : decode cX1_init 14 = .ok (.iconst 0, 1) := by decide +kernel
theorem dX1_init_15 : decode cX1_init 15 = .ok (.putfield 17, 3) := by decide +kernel
theorem dX1_init_18 : decode cX1_init 18 = .ok (.iconst 0, 1) := by decide +kernel
theorem dX1_init_19 : decode cX1_init 19 = .ok (.istore_n 1, 1) := by decide +kernel
theorem dX1_init_20 : decode cX1_init 20 = .ok (.iload_n 1, 1) := by decide +kernel
theorem dX1_init_21 : decode cX1_init 21 = .ok (.aload_n 0, 1) := by decide +kernel
theorem dX1_init_22 : decode cX1_init 22 = .ok (.getfield 11, 3) := by decide +kernel
theorem dX1_init_25 : decode cX1_init 25 = .ok (.arraylength, 1) := by decide +kernel
theorem dX1_init_26 : decode cX1_init 26 = .ok (.if_icmp .ge 22, 3) := by decide +kernel
theorem dX1_init_29 : decode cX1_init 29 = .ok (.aload_n 0, 1) := by decide +kernel
theorem dX1_init_30 : decode cX1_init 30 = .ok (.getfield 11, 3) := by decide +kernel
theorem dX1_init_33 : decode cX1_init 33 = .ok (.iload_n 1, 1) := by decide +kernel
theorem dX1_init_34 : decode cX1_init 34 = .ok (.new 9, 3) := by decide +kernel
theorem dX1_init_37 : decode cX1_init 37 = .ok (.dup, 1) := by decide +kernel
theorem dX1_init_38 : decode cX1_init 38 = .ok (.invokespecial 21, 3) := by decide +kernel
theorem dX1_init_41 : decode cX1_init 41 = .ok (.aastore, 1) := by decide +kernel
theorem dX1_init_42 : decode cX1_init 42 = .ok (.iinc 1 1, 3) := by decide +kernel
theorem dX1_init_45 : decode cX1_init 45 = .ok (.goto (-25), 3) := by decide +kernel
theorem dX1_init_48 : decode cX1_init 48 = .ok (.return_, 1) := by decide +kernel
theorem dX1_stateAt_0 : decode cX1_stateAt 0 = .ok (.iload_n 1, 1) := by decide +kernel
theorem dX1_stateAt_1 : decode cX1_stateAt 1 = .ok (.ifCond .lt 12, 3) := by decide +kernel
theorem dX1_stateAt_4 : decode cX1_stateAt 4 = .ok (.iload_n 1, 1) := by decide +kernel
theorem dX1_stateAt_5 : decode cX1_stateAt 5 = .ok (.aload_n 0, 1) := by decide +kernel
theorem dX1_stateAt_6 : decode cX1_stateAt 6 = .ok (.getfield 11, 3) := by decide +kernel
theorem dX1_stateAt_9 : decode cX1_stateAt 9 = .ok (.arraylength, 1) := by decide +kernel
theorem dX1_stateAt_10 : decode cX1_stateAt 10 = .ok (.if_icmp .lt 7, 3) := by decide +kernel
theorem dX1_stateAt_13 : decode cX1_stateAt 13 = .ok (.aconst_null, 1) := by decide +kernel
theorem dX1_stateAt_14 : decode cX1_stateAt 14 = .ok (.goto 9, 3) := by decide +kernel
theorem dX1_stateAt_17 : decode cX1_stateAt 17 = .ok (.aload_n 0, 1) := by decide +kernel
theorem dX1_stateAt_18 : decode cX1_stateAt 18 = .ok (.getfield 11, 3) := by decide +kernel
theorem dX1_stateAt_21 : decode cX1_stateAt 21 = .ok (.iload_n 1, 1) := by decide +kernel
theorem dX1_stateAt_22 : decode cX1_stateAt 22 = .ok (.aaload, 1) := by decide +kernel
theorem dX1_stateAt_23 : decode cX1_stateAt 23 = .ok (.areturn, 1) := by decide +kernel
theorem dX1_prepare_0 : decode cX1_prepare 0 = .ok (.aload_n 0, 1) := by decide +kernel
theorem dX1_prepare_1 : decode cX1_prepare 1 = .ok (.aload_n 0, 1) := by decide +kernel
theorem dX1_prepare_2 : decode cX1_prepare 2 = .ok (.getfield 17, 3) := by decide +kernel
theorem dX1_prepare_5 : decode cX1_prepare 5 = .ok (.invokevirtual 22, 3) := by decide +kernel
theorem dX1_prepare_8 : decode cX1_prepare 8 = .ok (.astore_n 2, 1) := by decide +kernel
theorem dX1_prepare_9 : decode cX1_prepare 9 = .ok (.aload_n 2, 1) := by decide +kernel
theorem dX1_prepare_10 : decode cX1_prepare 10 = .ok (.ifnull 8, 3) := by decide +kernel
theorem dX1_prepare_13 : decode cX1_prepare 13 = .ok (.aload_n 2, 1) := by decide +kernel
theorem dX1_prepare_14 : decode cX1_prepare 14 = .ok (.aload_n 1, 1) := by decide +kernel
theorem dX1_prepare_15 : decode cX1_prepare 15 = .ok (.invokevirtual 26, 3) := by decide +kernel
theorem dX1_prepare_18 : decode cX1_prepare 18 = .ok (.return_, 1) := by decide +kernel
theorem dX1_settle_0 : decode cX1_settle 0 = .ok (.iload_n 1, 1) := by decide +kernel
theorem dX1_settle_1 : decode cX1_settle 1 = .ok (.ifCond .ge 5, 3) := by decide +kernel
theorem dX1_settle_4 : decode cX1_settle 4 = .ok (.iload_n 1, 1) := by decide +kernel
theorem dX1_settle_5 : decode cX1_settle 5 = .ok (.ireturn, 1) := by decide +kernel
theorem dX1_settle_6 : decode cX1_settle 6 = .ok (.aload_n 0, 1) := by decide +kernel
theorem dX1_settle_7 : decode cX1_settle 7 = .ok (.getfield 17, 3) := by decide +kernel
theorem dX1_settle_10 : decode cX1_settle 10 = .ok (.bipush 6, 2) := by decide +kernel
theorem dX1_settle_12 : decode cX1_settle 12 = .ok (.if_icmp .ge 16, 3) := by decide +kernel
theorem dX1_settle_15 : decode cX1_settle 15 = .ok (.aload_n 0, 1) := by decide +kernel
theorem dX1_settle_16 : decode cX1_settle 16 = .ok (.dup, 1) := by decide +kernel
theorem dX1_settle_17 : decode cX1_settle 17 = .ok (.getfield 17, 3) := by decide +kernel
theorem dX1_settle_20 : decode cX1_settle 20 = .ok (.iconst 1, 1) := by decide +kernel
theorem dX1_settle_21 : decode cX1_settle 21 = .ok (.iadd, 1) := by decide +kernel
theorem dX1_settle_22 : decode cX1_settle 22 = .ok (.putfield 17, 3) := by decide +kernel
theorem dX1_settle_25 : decode cX1_settle 25 = .ok (.goto 7, 3) := by decide +kernel
theorem dX1_settle_28 : decode cX1_settle 28 = .ok (.aload_n 0, 1) := by decide +kernel
theorem dX1_settle_29 : decode cX1_settle 29 = .ok (.invokevirtual 30, 3) := by decide +kernel
theorem dX1_settle_32 : decode cX1_settle 32 = .ok (.iload_n 1, 1) := by decide +kernel
theorem dX1_settle_33 : decode cX1_settle 33 = .ok (.ireturn, 1) := by decide +kernel
theorem dX1_dropOldest_0 : decode cX1_dropOldest 0 = .ok (.aload_n 0, 1) := by decide +kernel
theorem dX1_dropOldest_1 : decode cX1_dropOldest 1 = .ok (.iconst 0, 1) := by decide +kernel
theorem dX1_dropOldest_2 : decode cX1_dropOldest 2 = .ok (.invokevirtual 22, 3) := by decide +kernel
theorem dX1_dropOldest_5 : decode cX1_dropOldest 5 = .ok (.astore_n 1, 1) := by decide +kernel
theorem dX1_dropOldest_6 : decode cX1_dropOldest 6 = .ok (.iconst 1, 1) := by decide +kernel
theorem dX1_dropOldest_7 : decode cX1_dropOldest 7 = .ok (.istore_n 2, 1) := by decide +kernel
theorem dX1_dropOldest_8 : decode cX1_dropOldest 8 = .ok (.iload_n 2, 1) := by decide +kernel
theorem dX1_dropOldest_9 : decode cX1_dropOldest 9 = .ok (.aload_n 0, 1) := by decide +kernel
theorem dX1_dropOldest_10 : decode cX1_dropOldest 10 = .ok (.getfield 11, 3) := by decide +kernel
theorem dX1_dropOldest_13 : decode cX1_dropOldest 13 = .ok (.arraylength, 1) := by decide +kernel
theorem dX1_dropOldest_14 : decode cX1_dropOldest 14 = .ok (.if_icmp .ge 23, 3) := by decide +kernel
theorem dX1_dropOldest_17 : decode cX1_dropOldest 17 = .ok (.aload_n 0, 1) := by decide +kernel
theorem dX1_dropOldest_18 : decode cX1_dropOldest 18 = .ok (.getfield 11, 3) := by decide +kernel
theorem dX1_dropOldest_21 : decode cX1_dropOldest 21 = .ok (.iload_n 2, 1) := by decide +kernel
theorem dX1_dropOldest_22 : decode cX1_dropOldest 22 = .ok (.iconst 1, 1) := by decide +kernel
theorem dX1_dropOldest_23 : decode cX1_dropOldest 23 = .ok (.isub, 1) := by decide +kernel
theorem dX1_dropOldest_24 : decode cX1_dropOldest 24 = .ok (.aload_n 0, 1) := by decide +kernel
theorem dX1_dropOldest_25 : decode cX1_dropOldest 25 = .ok (.getfield 11, 3) := by decide +kernel
theorem dX1_dropOldest_28 : decode cX1_dropOldest 28 = .ok (.iload_n 2, 1) := by decide +kernel
theorem dX1_dropOldest_29 : decode cX1_dropOldest 29 = .ok (.aaload, 1) := by decide +kernel
theorem dX1_dropOldest_30 : decode cX1_dropOldest 30 = .ok (.aastore, 1) := by decide +kernel
theorem dX1_dropOldest_31 : decode cX1_dropOldest 31 = .ok (.iinc 2 1, 3) := by decide +kernel
theorem dX1_dropOldest_34 : decode cX1_dropOldest 34 = .ok (.goto (-26), 3) := by decide +kernel
theorem dX1_dropOldest_37 : decode cX1_dropOldest 37 = .ok (.aload_n 0, 1) := by decide +kernel
theorem dX1_dropOldest_38 : decode cX1_dropOldest 38 = .ok (.getfield 11, 3) := by decide +kernel
theorem dX1_dropOldest_41 : decode cX1_dropOldest 41 = .ok (.arraylength, 1) := by decide +kernel
theorem dX1_dropOldest_42 : decode cX1_dropOldest 42 = .ok (.ifCond .le 16, 3) := by decide +kernel
theorem dX1_dropOldest_45 : decode cX1_dropOldest 45 = .ok (.aload_n 0, 1) := by decide +kernel
theorem dX1_dropOldest_46 : decode cX1_dropOldest 46 = .ok (.getfield 11, 3) := by decide +kernel
theorem dX1_dropOldest_49 : decode cX1_dropOldest 49 = .ok (.aload_n 0, 1) := by decide +kernel
theorem dX1_dropOldest_50 : decode cX1_dropOldest 50 = .ok (.getfield 11, 3) := by decide +kernel
theorem dX1_dropOldest_53 : decode cX1_dropOldest 53 = .ok (.arraylength, 1) := by decide +kernel
theorem dX1_dropOldest_54 : decode cX1_dropOldest 54 = .ok (.iconst 1, 1) := by decide +kernel
theorem dX1_dropOldest_55 : decode cX1_dropOldest 55 = .ok (.isub, 1) := by decide +kernel
theorem dX1_dropOldest_56 : decode cX1_dropOldest 56 = .ok (.aload_n 1, 1) := by decide +kernel
theorem dX1_dropOldest_57 : decode cX1_dropOldest 57 = .ok (.aastore, 1) := by decide +kernel
theorem dX1_dropOldest_58 : decode cX1_dropOldest 58 = .ok (.return_, 1) := by decide +kernel
theorem dX2_init_0 : decode cX2_init 0 = .ok (.aload_n 0, 1) := by decide +kernel
theorem dX2_init_1 : decode cX2_init 1 = .ok (.invokespecial 3, 3) := by decide +kernel
theorem dX2_init_4 : decode cX2_init 4 = .ok (.aload_n 0, 1) := by decide +kernel
theorem dX2_init_5 : decode cX2_init 5 = .ok (.bipush 80, 2) := by decide +kernel
theorem dX2_init_7 : decode cX2_init 7 = .ok (.newarray .int, 2) := by decide +kernel
theorem dX2_init_9 : decode cX2_init 9 = .ok (.putfield 9, 3) := by decide +kernel
theorem dX2_init_12 : decode cX2_init 12 = .ok (.aload_n 0, 1) := by decide +kernel
theorem dX2_init_13 : decode cX2_init 13 = .ok (.iconst 0, 1) := by decide +kernel
theorem dX2_init_14 : decode cX2_init 14 = .ok (.putfield 15, 3) := by decide +kernel
theorem dX2_init_17 : decode cX2_init 17 = .ok (.aload_n 0, 1) := by decide +kernel
theorem dX2_init_18 : decode cX2_init 18 = .ok (.iconst 0, 1) := by decide +kernel
theorem dX2_init_19 : decode cX2_init 19 = .ok (.putfield 19, 3) := by decide +kernel
theorem dX2_init_22 : decode cX2_init 22 = .ok (.aload_n 0, 1) := by decide +kernel
theorem dX2_init_23 : decode cX2_init 23 = .ok (.iconst 0, 1) := by decide +kernel
theorem dX2_init_24 : decode cX2_init 24 = .ok (.putfield 22, 3) := by decide +kernel
theorem dX2_init_27 : decode cX2_init 27 = .ok (.aload_n 0, 1) := by decide +kernel
theorem dX2_init_28 : decode cX2_init 28 = .ok (.iconst 0, 1) := by decide +kernel
theorem dX2_init_29 : decode cX2_init 29 = .ok (.putfield 25, 3) := by decide +kernel
theorem dX2_init_32 : decode cX2_init 32 = .ok (.aload_n 0, 1) := by decide +kernel
theorem dX2_init_33 : decode cX2_init 33 = .ok (.iconst 0, 1) := by decide +kernel
theorem dX2_init_34 : decode cX2_init 34 = .ok (.putfield 28, 3) := by decide +kernel
theorem dX2_init_37 : decode cX2_init 37 = .ok (.return_, 1) := by decide +kernel
theorem dX3_init_0 : decode cX3_init 0 = .ok (.aload_n 0, 1) := by decide +kernel
theorem dX3_init_1 : decode cX3_init 1 = .ok (.invokespecial 1, 3) := by decide +kernel
theorem dX3_init_4 : decode cX3_init 4 = .ok (.aload_n 0, 1) := by decide +kernel
theorem dX3_init_5 : decode cX3_init 5 = .ok (.iconst 0, 1) := by decide +kernel
theorem dX3_init_6 : decode cX3_init 6 = .ok (.putfield 7, 3) := by decide +kernel
theorem dX3_init_9 : decode cX3_init 9 = .ok (.aload_n 0, 1) := by decide +kernel
theorem dX3_init_10 : decode cX3_init 10 = .ok (.iconst 0, 1) := by decide +kernel
theorem dX3_init_11 : decode cX3_init 11 = .ok (.putfield 13, 3) := by decide +kernel
theorem dX3_init_14 : decode cX3_init 14 = .ok (.aload_n 0, 1) := by decide +kernel
theorem dX3_init_15 : decode cX3_init 15 = .ok (.iconst 0, 1) := by decide +kernel
theorem dX3_init_16 : decode cX3_init 16 = .ok (.putfield 16, 3) := by decide +kernel
theorem dX3_init_19 : decode cX3_init 19 = .ok (.aload_n 0, 1) := by decide +kernel
theorem dX3_init_20 : decode cX3_init 20 = .ok (.new 19, 3) := by decide +kernel
theorem dX3_init_23 : decode cX3_init 23 = .ok (.dup, 1) := by decide +kernel
theorem dX3_init_24 : decode cX3_init 24 = .ok (.invokespecial 21, 3) := by decide +kernel
theorem dX3_init_27 : decode cX3_init 27 = .ok (.putfield 22, 3) := by decide +kernel
theorem dX3_init_30 : decode cX3_init 30 = .ok (.aload_n 0, 1) := by decide +kernel
theorem dX3_init_31 : decode cX3_init 31 = .ok (.new 19, 3) := by decide +kernel
theorem dX3_init_34 : decode cX3_init 34 = .ok (.dup, 1) := by decide +kernel
theorem dX3_init_35 : decode cX3_init 35 = .ok (.invokespecial 21, 3) := by decide +kernel
theorem dX3_init_38 : decode cX3_init 38 = .ok (.putfield 26, 3) := by decide +kernel
theorem dX3_init_41 : decode cX3_init 41 = .ok (.return_, 1) := by decide +kernel
theorem dX3_copyFrom_0 : decode cX3_copyFrom 0 = .ok (.aload_n 0, 1) := by decide +kernel
theorem dX3_copyFrom_1 : decode cX3_copyFrom 1 = .ok (.aload_n 1, 1) := by decide +kernel
theorem dX3_copyFrom_2 : decode cX3_copyFrom 2 = .ok (.getfield 7, 3) := by decide +kernel
theorem dX3_copyFrom_5 : decode cX3_copyFrom 5 = .ok (.putfield 7, 3) := by decide +kernel
theorem dX3_copyFrom_8 : decode cX3_copyFrom 8 = .ok (.aload_n 0, 1) := by decide +kernel
theorem dX3_copyFrom_9 : decode cX3_copyFrom 9 = .ok (.aload_n 1, 1) := by decide +kernel
theorem dX3_copyFrom_10 : decode cX3_copyFrom 10 = .ok (.getfield 13, 3) := by decide +kernel
theorem dX3_copyFrom_13 : decode cX3_copyFrom 13 = .ok (.putfield 13, 3) := by decide +kernel
theorem dX3_copyFrom_16 : decode cX3_copyFrom 16 = .ok (.aload_n 0, 1) := by decide +kernel
theorem dX3_copyFrom_17 : decode cX3_copyFrom 17 = .ok (.aload_n 1, 1) := by decide +kernel
theorem dX3_copyFrom_18 : decode cX3_copyFrom 18 = .ok (.getfield 16, 3) := by decide +kernel
theorem dX3_copyFrom_21 : decode cX3_copyFrom 21 = .ok (.putfield 16, 3) := by decide +kernel
theorem dX3_copyFrom_24 : decode cX3_copyFrom 24 = .ok (.aload_n 0, 1) := by decide +kernel
theorem dX3_copyFrom_25 : decode cX3_copyFrom 25 = .ok (.getfield 22, 3) := by decide +kernel
theorem dX3_copyFrom_28 : decode cX3_copyFrom 28 = .ok (.aload_n 1, 1) := by decide +kernel
theorem dX3_copyFrom_29 : decode cX3_copyFrom 29 = .ok (.getfield 22, 3) := by decide +kernel
theorem dX3_copyFrom_32 : decode cX3_copyFrom 32 = .ok (.invokevirtual 29, 3) := by decide +kernel
theorem dX3_copyFrom_35 : decode cX3_copyFrom 35 = .ok (.aload_n 0, 1) := by decide +kernel
theorem dX3_copyFrom_36 : decode cX3_copyFrom 36 = .ok (.getfield 26, 3) := by decide +kernel
theorem dX3_copyFrom_39 : decode cX3_copyFrom 39 = .ok (.aload_n 1, 1) := by decide +kernel
theorem dX3_copyFrom_40 : decode cX3_copyFrom 40 = .ok (.getfield 26, 3) := by decide +kernel
theorem dX3_copyFrom_43 : decode cX3_copyFrom 43 = .ok (.invokevirtual 29, 3) := by decide +kernel
theorem dX3_copyFrom_46 : decode cX3_copyFrom 46 = .ok (.return_, 1) := by decide +kernel
theorem dX3_startOver_0 : decode cX3_startOver 0 = .ok (.aload_n 0, 1) := by decide +kernel
theorem dX3_startOver_1 : decode cX3_startOver 1 = .ok (.iconst 0, 1) := by decide +kernel
theorem dX3_startOver_2 : decode cX3_startOver 2 = .ok (.putfield 7, 3) := by decide +kernel
theorem dX3_startOver_5 : decode cX3_startOver 5 = .ok (.aload_n 0, 1) := by decide +kernel
theorem dX3_startOver_6 : decode cX3_startOver 6 = .ok (.getfield 22, 3) := by decide +kernel
theorem dX3_startOver_9 : decode cX3_startOver 9 = .ok (.invokevirtual 33, 3) := by decide +kernel
theorem dX3_startOver_12 : decode cX3_startOver 12 = .ok (.aload_n 0, 1) := by decide +kernel
theorem dX3_startOver_13 : decode cX3_startOver 13 = .ok (.invokevirtual 36, 3) := by decide +kernel
theorem dX3_startOver_16 : decode cX3_startOver 16 = .ok (.return_, 1) := by decide +kernel
theorem dX3_keepPlace_0 : decode cX3_keepPlace 0 = .ok (.aload_n 0, 1) := by decide +kernel
theorem dX3_keepPlace_1 : decode cX3_keepPlace 1 = .ok (.aload_n 0, 1) := by decide +kernel
theorem dX3_keepPlace_2 : decode cX3_keepPlace 2 = .ok (.getfield 7, 3) := by decide +kernel
theorem dX3_keepPlace_5 : decode cX3_keepPlace 5 = .ok (.putfield 13, 3) := by decide +kernel
theorem dX3_keepPlace_8 : decode cX3_keepPlace 8 = .ok (.aload_n 0, 1) := by decide +kernel
theorem dX3_keepPlace_9 : decode cX3_keepPlace 9 = .ok (.getfield 26, 3) := by decide +kernel
theorem dX3_keepPlace_12 : decode cX3_keepPlace 12 = .ok (.aload_n 0, 1) := by decide +kernel
theorem dX3_keepPlace_13 : decode cX3_keepPlace 13 = .ok (.getfield 22, 3) := by decide +kernel
theorem dX3_keepPlace_16 : decode cX3_keepPlace 16 = .ok (.invokevirtual 29, 3) := by decide +kernel
theorem dX3_keepPlace_19 : decode cX3_keepPlace 19 = .ok (.return_, 1) := by decide +kernel
theorem dX3_returnToConfirmed_0 : decode cX3_returnToConfirmed 0 = .ok (.aload_n 0, 1) := by decide +kernel
theorem dX3_returnToConfirmed_1 : decode cX3_returnToConfirmed 1 = .ok (.aload_n 0, 1) := by decide +kernel
theorem dX3_returnToConfirmed_2 : decode cX3_returnToConfirmed 2 = .ok (.getfield 13, 3) := by decide +kernel
theorem dX3_returnToConfirmed_5 : decode cX3_returnToConfirmed 5 = .ok (.putfield 7, 3) := by decide +kernel
theorem dX3_returnToConfirmed_8 : decode cX3_returnToConfirmed 8 = .ok (.aload_n 0, 1) := by decide +kernel
theorem dX3_returnToConfirmed_9 : decode cX3_returnToConfirmed 9 = .ok (.getfield 22, 3) := by decide +kernel
theorem dX3_returnToConfirmed_12 : decode cX3_returnToConfirmed 12 = .ok (.aload_n 0, 1) := by decide +kernel
theorem dX3_returnToConfirmed_13 : decode cX3_returnToConfirmed 13 = .ok (.getfield 26, 3) := by decide +kernel
theorem dX3_returnToConfirmed_16 : decode cX3_returnToConfirmed 16 = .ok (.invokevirtual 29, 3) := by decide +kernel
theorem dX3_returnToConfirmed_19 : decode cX3_returnToConfirmed 19 = .ok (.return_, 1) := by decide +kernel
theorem dX3_takeOver_0 : decode cX3_takeOver 0 = .ok (.aload_n 0, 1) := by decide +kernel
theorem dX3_takeOver_1 : decode cX3_takeOver 1 = .ok (.aload_n 1, 1) := by decide +kernel
theorem dX3_takeOver_2 : decode cX3_takeOver 2 = .ok (.getfield 39, 3) := by decide +kernel
theorem dX3_takeOver_5 : decode cX3_takeOver 5 = .ok (.putfield 7, 3) := by decide +kernel
theorem dX3_takeOver_8 : decode cX3_takeOver 8 = .ok (.aload_n 0, 1) := by decide +kernel
theorem dX3_takeOver_9 : decode cX3_takeOver 9 = .ok (.getfield 22, 3) := by decide +kernel
theorem dX3_takeOver_12 : decode cX3_takeOver 12 = .ok (.aload_n 1, 1) := by decide +kernel
theorem dX3_takeOver_13 : decode cX3_takeOver 13 = .ok (.getfield 44, 3) := by decide +kernel
theorem dX3_takeOver_16 : decode cX3_takeOver 16 = .ok (.invokevirtual 29, 3) := by decide +kernel
theorem dX3_takeOver_19 : decode cX3_takeOver 19 = .ok (.aload_n 0, 1) := by decide +kernel
theorem dX3_takeOver_20 : decode cX3_takeOver 20 = .ok (.invokevirtual 36, 3) := by decide +kernel
theorem dX3_takeOver_23 : decode cX3_takeOver 23 = .ok (.return_, 1) := by decide +kernel
theorem dX3_readOn_0 : decode cX3_readOn 0 = .ok (.aload_n 1, 1) := by decide +kernel
theorem dX3_readOn_1 : decode cX3_readOn 1 = .ok (.aload_n 0, 1) := by decide +kernel
theorem dX3_readOn_2 : decode cX3_readOn 2 = .ok (.getfield 7, 3) := by decide +kernel
theorem dX3_readOn_5 : decode cX3_readOn 5 = .ok (.invokevirtual 47, 3) := by decide +kernel
theorem dX3_readOn_8 : decode cX3_readOn 8 = .ok (.istore_n 3, 1) := by decide +kernel
theorem dX3_readOn_9 : decode cX3_readOn 9 = .ok (.iload_n 2, 1) := by decide +kernel
theorem dX3_readOn_10 : decode cX3_readOn 10 = .ok (.aload_n 1, 1) := by decide +kernel
theorem dX3_readOn_11 : decode cX3_readOn 11 = .ok (.getfield 53, 3) := by decide +kernel
theorem dX3_readOn_14 : decode cX3_readOn 14 = .ok (.iload_n 3, 1) := by decide +kernel
theorem dX3_readOn_15 : decode cX3_readOn 15 = .ok (.isub, 1) := by decide +kernel
theorem dX3_readOn_16 : decode cX3_readOn 16 = .ok (.invokestatic 56, 3) := by decide +kernel
theorem dX3_readOn_19 : decode cX3_readOn 19 = .ok (.istore 4, 2) := by decide +kernel
theorem dX3_readOn_21 : decode cX3_readOn 21 = .ok (.iload_n 3, 1) := by decide +kernel
theorem dX3_readOn_22 : decode cX3_readOn 22 = .ok (.istore 5, 2) := by decide +kernel
theorem dX3_readOn_24 : decode cX3_readOn 24 = .ok (.iload 5, 2) := by decide +kernel
theorem dX3_readOn_26 : decode cX3_readOn 26 = .ok (.iload_n 3, 1) := by decide +kernel
theorem dX3_readOn_27 : decode cX3_readOn 27 = .ok (.iload 4, 2) := by decide +kernel
theorem dX3_readOn_29 : decode cX3_readOn 29 = .ok (.iadd, 1) := by decide +kernel
theorem dX3_readOn_30 : decode cX3_readOn 30 = .ok (.if_icmp .ge 40, 3) := by decide +kernel
theorem dX3_readOn_33 : decode cX3_readOn 33 = .ok (.aload_n 0, 1) := by decide +kernel
theorem dX3_readOn_34 : decode cX3_readOn 34 = .ok (.getfield 22, 3) := by decide +kernel
theorem dX3_readOn_37 : decode cX3_readOn 37 = .ok (.aload_n 1, 1) := by decide +kernel
theorem dX3_readOn_38 : decode cX3_readOn 38 = .ok (.iload 5, 2) := by decide +kernel
theorem dX3_readOn_40 : decode cX3_readOn 40 = .ok (.invokevirtual 62, 3) := by decide +kernel
theorem dX3_readOn_43 : decode cX3_readOn 43 = .ok (.aload_n 1, 1) := by decide +kernel
theorem dX3_readOn_44 : decode cX3_readOn 44 = .ok (.iload 5, 2) := by decide +kernel
theorem dX3_readOn_46 : decode cX3_readOn 46 = .ok (.invokevirtual 65, 3) := by decide +kernel
theorem dX3_readOn_49 : decode cX3_readOn 49 = .ok (.invokevirtual 68, 3) := by decide +kernel
theorem dX3_readOn_52 : decode cX3_readOn 52 = .ok (.aload_n 0, 1) := by decide +kernel
theorem dX3_readOn_53 : decode cX3_readOn 53 = .ok (.aload_n 1, 1) := by decide +kernel
theorem dX3_readOn_54 : decode cX3_readOn 54 = .ok (.iload 5, 2) := by decide +kernel
theorem dX3_readOn_56 : decode cX3_readOn 56 = .ok (.invokevirtual 72, 3) := by decide +kernel
theorem dX3_readOn_59 : decode cX3_readOn 59 = .ok (.iconst 1, 1) := by decide +kernel
theorem dX3_readOn_60 : decode cX3_readOn 60 = .ok (.iadd, 1) := by decide +kernel
theorem dX3_readOn_61 : decode cX3_readOn 61 = .ok (.putfield 7, 3) := by decide +kernel
theorem dX3_readOn_64 : decode cX3_readOn 64 = .ok (.iinc 5 1, 3) := by decide +kernel
theorem dX3_readOn_67 : decode cX3_readOn 67 = .ok (.goto (-43), 3) := by decide +kernel
theorem dX3_readOn_70 : decode cX3_readOn 70 = .ok (.aload_n 0, 1) := by decide +kernel
theorem dX3_readOn_71 : decode cX3_readOn 71 = .ok (.dup, 1) := by decide +kernel
theorem dX3_readOn_72 : decode cX3_readOn 72 = .ok (.getfield 16, 3) := by decide +kernel
theorem dX3_readOn_75 : decode cX3_readOn 75 = .ok (.iload 4, 2) := by decide +kernel
theorem dX3_readOn_77 : decode cX3_readOn 77 = .ok (.iadd, 1) := by decide +kernel
theorem dX3_readOn_78 : decode cX3_readOn 78 = .ok (.putfield 16, 3) := by decide +kernel
theorem dX3_readOn_81 : decode cX3_readOn 81 = .ok (.iload 4, 2) := by decide +kernel
theorem dX3_readOn_83 : decode cX3_readOn 83 = .ok (.ireturn, 1) := by decide +kernel
theorem dX4_init_0 : decode cX4_init 0 = .ok (.aload_n 0, 1) := by decide +kernel
theorem dX4_init_1 : decode cX4_init 1 = .ok (.invokespecial 1, 3) := by decide +kernel
theorem dX4_init_4 : decode cX4_init 4 = .ok (.aload_n 0, 1) := by decide +kernel
theorem dX4_init_5 : decode cX4_init 5 = .ok (.iconst 0, 1) := by decide +kernel
theorem dX4_init_6 : decode cX4_init 6 = .ok (.putfield 7, 3) := by decide +kernel
theorem dX4_init_9 : decode cX4_init 9 = .ok (.aload_n 0, 1) := by decide +kernel
theorem dX4_init_10 : decode cX4_init 10 = .ok (.new 13, 3) := by decide +kernel
theorem dX4_init_13 : decode cX4_init 13 = .ok (.dup, 1) := by decide +kernel
theorem dX4_init_14 : decode cX4_init 14 = .ok (.invokespecial 15, 3) := by decide +kernel
theorem dX4_init_17 : decode cX4_init 17 = .ok (.putfield 16, 3) := by decide +kernel
theorem dX4_init_20 : decode cX4_init 20 = .ok (.return_, 1) := by decide +kernel
theorem dX5_init_0 : decode cX5_init 0 = .ok (.aload_n 0, 1) := by decide +kernel
theorem dX5_init_1 : decode cX5_init 1 = .ok (.invokespecial 1, 3) := by decide +kernel
theorem dX5_init_4 : decode cX5_init 4 = .ok (.aload_n 0, 1) := by decide +kernel
theorem dX5_init_5 : decode cX5_init 5 = .ok (.iconst 0, 1) := by decide +kernel
theorem dX5_init_6 : decode cX5_init 6 = .ok (.putfield 7, 3) := by decide +kernel
theorem dX5_init_9 : decode cX5_init 9 = .ok (.aload_n 0, 1) := by decide +kernel
theorem dX5_init_10 : decode cX5_init 10 = .ok (.new 13, 3) := by decide +kernel
theorem dX5_init_13 : decode cX5_init 13 = .ok (.dup, 1) := by decide +kernel
theorem dX5_init_14 : decode cX5_init 14 = .ok (.invokespecial 15, 3) := by decide +kernel
theorem dX5_init_17 : decode cX5_init 17 = .ok (.putfield 16, 3) := by decide +kernel
theorem dX5_init_20 : decode cX5_init 20 = .ok (.return_, 1) := by decide +kernel
theorem dX5_copyFrom_0 : decode cX5_copyFrom 0 = .ok (.aload_n 0, 1) := by decide +kernel
theorem dX5_copyFrom_1 : decode cX5_copyFrom 1 = .ok (.aload_n 1, 1) := by decide +kernel
theorem dX5_copyFrom_2 : decode cX5_copyFrom 2 = .ok (.getfield 7, 3) := by decide +kernel
theorem dX5_copyFrom_5 : decode cX5_copyFrom 5 = .ok (.putfield 7, 3) := by decide +kernel
theorem dX5_copyFrom_8 : decode cX5_copyFrom 8 = .ok (.aload_n 0, 1) := by decide +kernel
theorem dX5_copyFrom_9 : decode cX5_copyFrom 9 = .ok (.getfield 16, 3) := by decide +kernel
theorem dX5_copyFrom_12 : decode cX5_copyFrom 12 = .ok (.aload_n 1, 1) := by decide +kernel
theorem dX5_copyFrom_13 : decode cX5_copyFrom 13 = .ok (.getfield 16, 3) := by decide +kernel
theorem dX5_copyFrom_16 : decode cX5_copyFrom 16 = .ok (.invokevirtual 20, 3) := by decide +kernel
theorem dX5_copyFrom_19 : decode cX5_copyFrom 19 = .ok (.return_, 1) := by decide +kernel
theorem dX6_init_0 : decode cX6_init 0 = .ok (.aload_n 0, 1) := by decide +kernel
theorem dX6_init_1 : decode cX6_init 1 = .ok (.invokespecial 3, 3) := by decide +kernel
theorem dX6_init_4 : decode cX6_init 4 = .ok (.aload_n 0, 1) := by decide +kernel
theorem dX6_init_5 : decode cX6_init 5 = .ok (.iconst 5, 1) := by decide +kernel
theorem dX6_init_6 : decode cX6_init 6 = .ok (.putfield 9, 3) := by decide +kernel
theorem dX6_init_9 : decode cX6_init 9 = .ok (.aload_n 0, 1) := by decide +kernel
theorem dX6_init_10 : decode cX6_init 10 = .ok (.bipush 30, 2) := by decide +kernel
theorem dX6_init_12 : decode cX6_init 12 = .ok (.putfield 15, 3) := by decide +kernel
theorem dX6_init_15 : decode cX6_init 15 = .ok (.aload_n 0, 1) := by decide +kernel
theorem dX6_init_16 : decode cX6_init 16 = .ok (.iconst 0, 1) := by decide +kernel
theorem dX6_init_17 : decode cX6_init 17 = .ok (.putfield 18, 3) := by decide +kernel
theorem dX6_init_20 : decode cX6_init 20 = .ok (.aload_n 0, 1) := by decide +kernel
theorem dX6_init_21 : decode cX6_init 21 = .ok (.iconst 0, 1) := by decide +kernel
theorem dX6_init_22 : decode cX6_init 22 = .ok (.putfield 21, 3) := by decide +kernel
theorem dX6_init_25 : decode cX6_init 25 = .ok (.aload_n 0, 1) := by decide +kernel
theorem dX6_init_26 : decode cX6_init 26 = .ok (.iconst 0, 1) := by decide +kernel
theorem dX6_init_27 : decode cX6_init 27 = .ok (.putfield 24, 3) := by decide +kernel
theorem dX6_init_30 : decode cX6_init 30 = .ok (.aload_n 0, 1) := by decide +kernel
theorem dX6_init_31 : decode cX6_init 31 = .ok (.new 27, 3) := by decide +kernel
theorem dX6_init_34 : decode cX6_init 34 = .ok (.dup, 1) := by decide +kernel
theorem dX6_init_35 : decode cX6_init 35 = .ok (.invokespecial 29, 3) := by decide +kernel
theorem dX6_init_38 : decode cX6_init 38 = .ok (.putfield 30, 3) := by decide +kernel
theorem dX6_init_41 : decode cX6_init 41 = .ok (.aload_n 0, 1) := by decide +kernel
theorem dX6_init_42 : decode cX6_init 42 = .ok (.new 34, 3) := by decide +kernel
theorem dX6_init_45 : decode cX6_init 45 = .ok (.dup, 1) := by decide +kernel
theorem dX6_init_46 : decode cX6_init 46 = .ok (.invokespecial 36, 3) := by decide +kernel
theorem dX6_init_49 : decode cX6_init 49 = .ok (.putfield 37, 3) := by decide +kernel
theorem dX6_init_52 : decode cX6_init 52 = .ok (.aload_n 0, 1) := by decide +kernel
theorem dX6_init_53 : decode cX6_init 53 = .ok (.bipush 6, 2) := by decide +kernel
theorem dX6_init_55 : decode cX6_init 55 = .ok (.anewarray 41, 3) := by decide +kernel
theorem dX6_init_58 : decode cX6_init 58 = .ok (.putfield 43, 3) := by decide +kernel
theorem dX6_init_61 : decode cX6_init 61 = .ok (.aload_n 0, 1) := by decide +kernel
theorem dX6_init_62 : decode cX6_init 62 = .ok (.iconst 4, 1) := by decide +kernel
theorem dX6_init_63 : decode cX6_init 63 = .ok (.anewarray 47, 3) := by decide +kernel
theorem dX6_init_66 : decode cX6_init 66 = .ok (.putfield 49, 3) := by decide +kernel
theorem dX6_init_69 : decode cX6_init 69 = .ok (.iconst 0, 1) := by decide +kernel
theorem dX6_init_70 : decode cX6_init 70 = .ok (.istore_n 1, 1) := by decide +kernel
theorem dX6_init_71 : decode cX6_init 71 = .ok (.iload_n 1, 1) := by decide +kernel
theorem dX6_init_72 : decode cX6_init 72 = .ok (.aload_n 0, 1) := by decide +kernel
theorem dX6_init_73 : decode cX6_init 73 = .ok (.getfield 43, 3) := by decide +kernel
theorem dX6_init_76 : decode cX6_init 76 = .ok (.arraylength, 1) := by decide +kernel
theorem dX6_init_77 : decode cX6_init 77 = .ok (.if_icmp .ge 22, 3) := by decide +kernel
theorem dX6_init_80 : decode cX6_init 80 = .ok (.aload_n 0, 1) := by decide +kernel
theorem dX6_init_81 : decode cX6_init 81 = .ok (.getfield 43, 3) := by decide +kernel
theorem dX6_init_84 : decode cX6_init 84 = .ok (.iload_n 1, 1) := by decide +kernel
theorem dX6_init_85 : decode cX6_init 85 = .ok (.new 41, 3) := by decide +kernel
theorem dX6_init_88 : decode cX6_init 88 = .ok (.dup, 1) := by decide +kernel
theorem dX6_init_89 : decode cX6_init 89 = .ok (.invokespecial 53, 3) := by decide +kernel
theorem dX6_init_92 : decode cX6_init 92 = .ok (.aastore, 1) := by decide +kernel
theorem dX6_init_93 : decode cX6_init 93 = .ok (.iinc 1 1, 3) := by decide +kernel
theorem dX6_init_96 : decode cX6_init 96 = .ok (.goto (-25), 3) := by decide +kernel
theorem dX6_init_99 : decode cX6_init 99 = .ok (.iconst 0, 1) := by decide +kernel
theorem dX6_init_100 : decode cX6_init 100 = .ok (.istore_n 1, 1) := by decide +kernel
theorem dX6_init_101 : decode cX6_init 101 = .ok (.iload_n 1, 1) := by decide +kernel
theorem dX6_init_102 : decode cX6_init 102 = .ok (.aload_n 0, 1) := by decide +kernel
theorem dX6_init_103 : decode cX6_init 103 = .ok (.getfield 49, 3) := by decide +kernel
theorem dX6_init_106 : decode cX6_init 106 = .ok (.arraylength, 1) := by decide +kernel
theorem dX6_init_107 : decode cX6_init 107 = .ok (.if_icmp .ge 22, 3) := by decide +kernel
theorem dX6_init_110 : decode cX6_init 110 = .ok (.aload_n 0, 1) := by decide +kernel
theorem dX6_init_111 : decode cX6_init 111 = .ok (.getfield 49, 3) := by decide +kernel
theorem dX6_init_114 : decode cX6_init 114 = .ok (.iload_n 1, 1) := by decide +kernel
theorem dX6_init_115 : decode cX6_init 115 = .ok (.new 47, 3) := by decide +kernel
theorem dX6_init_118 : decode cX6_init 118 = .ok (.dup, 1) := by decide +kernel
theorem dX6_init_119 : decode cX6_init 119 = .ok (.invokespecial 54, 3) := by decide +kernel
theorem dX6_init_122 : decode cX6_init 122 = .ok (.aastore, 1) := by decide +kernel
theorem dX6_init_123 : decode cX6_init 123 = .ok (.iinc 1 1, 3) := by decide +kernel
theorem dX6_init_126 : decode cX6_init 126 = .ok (.goto (-25), 3) := by decide +kernel
theorem dX6_init_129 : decode cX6_init 129 = .ok (.return_, 1) := by decide +kernel
theorem dX6_copyFrom_0 : decode cX6_copyFrom 0 = .ok (.aload_n 0, 1) := by decide +kernel
theorem dX6_copyFrom_1 : decode cX6_copyFrom 1 = .ok (.aload_n 1, 1) := by decide +kernel
theorem dX6_copyFrom_2 : decode cX6_copyFrom 2 = .ok (.getfield 9, 3) := by decide +kernel
theorem dX6_copyFrom_5 : decode cX6_copyFrom 5 = .ok (.putfield 9, 3) := by decide +kernel
theorem dX6_copyFrom_8 : decode cX6_copyFrom 8 = .ok (.aload_n 0, 1) := by decide +kernel
theorem dX6_copyFrom_9 : decode cX6_copyFrom 9 = .ok (.aload_n 1, 1) := by decide +kernel
theorem dX6_copyFrom_10 : decode cX6_copyFrom 10 = .ok (.getfield 15, 3) := by decide +kernel
theorem dX6_copyFrom_13 : decode cX6_copyFrom 13 = .ok (.putfield 15, 3) := by decide +kernel
theorem dX6_copyFrom_16 : decode cX6_copyFrom 16 = .ok (.aload_n 0, 1) := by decide +kernel
theorem dX6_copyFrom_17 : decode cX6_copyFrom 17 = .ok (.aload_n 1, 1) := by decide +kernel
theorem dX6_copyFrom_18 : decode cX6_copyFrom 18 = .ok (.getfield 18, 3) := by decide +kernel
theorem dX6_copyFrom_21 : decode cX6_copyFrom 21 = .ok (.putfield 18, 3) := by decide +kernel
theorem dX6_copyFrom_24 : decode cX6_copyFrom 24 = .ok (.aload_n 0, 1) := by decide +kernel
theorem dX6_copyFrom_25 : decode cX6_copyFrom 25 = .ok (.aload_n 1, 1) := by decide +kernel
theorem dX6_copyFrom_26 : decode cX6_copyFrom 26 = .ok (.getfield 21, 3) := by decide +kernel
theorem dX6_copyFrom_29 : decode cX6_copyFrom 29 = .ok (.putfield 21, 3) := by decide +kernel
theorem dX6_copyFrom_32 : decode cX6_copyFrom 32 = .ok (.aload_n 0, 1) := by decide +kernel
theorem dX6_copyFrom_33 : decode cX6_copyFrom 33 = .ok (.aload_n 1, 1) := by decide +kernel
theorem dX6_copyFrom_34 : decode cX6_copyFrom 34 = .ok (.getfield 24, 3) := by decide +kernel
theorem dX6_copyFrom_37 : decode cX6_copyFrom 37 = .ok (.putfield 24, 3) := by decide +kernel
theorem dX6_copyFrom_40 : decode cX6_copyFrom 40 = .ok (.aload_n 0, 1) := by decide +kernel
theorem dX6_copyFrom_41 : decode cX6_copyFrom 41 = .ok (.getfield 30, 3) := by decide +kernel
theorem dX6_copyFrom_44 : decode cX6_copyFrom 44 = .ok (.aload_n 1, 1) := by decide +kernel
theorem dX6_copyFrom_45 : decode cX6_copyFrom 45 = .ok (.getfield 30, 3) := by decide +kernel
theorem dX6_copyFrom_48 : decode cX6_copyFrom 48 = .ok (.invokevirtual 55, 3) := by decide +kernel
theorem dX6_copyFrom_51 : decode cX6_copyFrom 51 = .ok (.aload_n 0, 1) := by decide +kernel
theorem dX6_copyFrom_52 : decode cX6_copyFrom 52 = .ok (.getfield 37, 3) := by decide +kernel
theorem dX6_copyFrom_55 : decode cX6_copyFrom 55 = .ok (.aload_n 1, 1) := by decide +kernel
theorem dX6_copyFrom_56 : decode cX6_copyFrom 56 = .ok (.getfield 37, 3) := by decide +kernel
theorem dX6_copyFrom_59 : decode cX6_copyFrom 59 = .ok (.invokevirtual 59, 3) := by decide +kernel
theorem dX6_copyFrom_62 : decode cX6_copyFrom 62 = .ok (.iconst 0, 1) := by decide +kernel
theorem dX6_copyFrom_63 : decode cX6_copyFrom 63 = .ok (.istore_n 2, 1) := by decide +kernel
theorem dX6_copyFrom_64 : decode cX6_copyFrom 64 = .ok (.iload_n 2, 1) := by decide +kernel
theorem dX6_copyFrom_65 : decode cX6_copyFrom 65 = .ok (.aload_n 0, 1) := by decide +kernel
theorem dX6_copyFrom_66 : decode cX6_copyFrom 66 = .ok (.getfield 21, 3) := by decide +kernel
theorem dX6_copyFrom_69 : decode cX6_copyFrom 69 = .ok (.if_icmp .ge 37, 3) := by decide +kernel
theorem dX6_copyFrom_72 : decode cX6_copyFrom 72 = .ok (.aload_n 0, 1) := by decide +kernel
theorem dX6_copyFrom_73 : decode cX6_copyFrom 73 = .ok (.iload_n 2, 1) := by decide +kernel
theorem dX6_copyFrom_74 : decode cX6_copyFrom 74 = .ok (.invokevirtual 62, 3) := by decide +kernel
theorem dX6_copyFrom_77 : decode cX6_copyFrom 77 = .ok (.astore_n 3, 1) := by decide +kernel
theorem dX6_copyFrom_78 : decode cX6_copyFrom 78 = .ok (.aload_n 1, 1) := by decide +kernel
theorem dX6_copyFrom_79 : decode cX6_copyFrom 79 = .ok (.iload_n 2, 1) := by decide +kernel
theorem dX6_copyFrom_80 : decode cX6_copyFrom 80 = .ok (.invokevirtual 62, 3) := by decide +kernel
theorem dX6_copyFrom_83 : decode cX6_copyFrom 83 = .ok (.astore 4, 2) := by decide +kernel
theorem dX6_copyFrom_85 : decode cX6_copyFrom 85 = .ok (.aload_n 3, 1) := by decide +kernel
theorem dX6_copyFrom_86 : decode cX6_copyFrom 86 = .ok (.ifnull 14, 3) := by decide +kernel
theorem dX6_copyFrom_89 : decode cX6_copyFrom 89 = .ok (.aload 4, 2) := by decide +kernel
theorem dX6_copyFrom_91 : decode cX6_copyFrom 91 = .ok (.ifnull 9, 3) := by decide +kernel
theorem dX6_copyFrom_94 : decode cX6_copyFrom 94 = .ok (.aload_n 3, 1) := by decide +kernel
theorem dX6_copyFrom_95 : decode cX6_copyFrom 95 = .ok (.aload 4, 2) := by decide +kernel
theorem dX6_copyFrom_97 : decode cX6_copyFrom 97 = .ok (.invokevirtual 66, 3) := by decide +kernel
theorem dX6_copyFrom_100 : decode cX6_copyFrom 100 = .ok (.iinc 2 1, 3) := by decide +kernel
theorem dX6_copyFrom_103 : decode cX6_copyFrom 103 = .ok (.goto (-39), 3) := by decide +kernel
theorem dX6_copyFrom_106 : decode cX6_copyFrom 106 = .ok (.iconst 0, 1) := by decide +kernel
theorem dX6_copyFrom_107 : decode cX6_copyFrom 107 = .ok (.istore_n 2, 1) := by decide +kernel
theorem dX6_copyFrom_108 : decode cX6_copyFrom 108 = .ok (.iload_n 2, 1) := by decide +kernel
theorem dX6_copyFrom_109 : decode cX6_copyFrom 109 = .ok (.aload_n 0, 1) := by decide +kernel
theorem dX6_copyFrom_110 : decode cX6_copyFrom 110 = .ok (.getfield 24, 3) := by decide +kernel
theorem dX6_copyFrom_113 : decode cX6_copyFrom 113 = .ok (.if_icmp .ge 22, 3) := by decide +kernel
theorem dX6_copyFrom_116 : decode cX6_copyFrom 116 = .ok (.aload_n 1, 1) := by decide +kernel
theorem dX6_copyFrom_117 : decode cX6_copyFrom 117 = .ok (.iload_n 2, 1) := by decide +kernel
theorem dX6_copyFrom_118 : decode cX6_copyFrom 118 = .ok (.invokevirtual 69, 3) := by decide +kernel
theorem dX6_copyFrom_121 : decode cX6_copyFrom 121 = .ok (.aload_n 0, 1) := by decide +kernel
theorem dX6_copyFrom_122 : decode cX6_copyFrom 122 = .ok (.iload_n 2, 1) := by decide +kernel
theorem dX6_copyFrom_123 : decode cX6_copyFrom 123 = .ok (.invokevirtual 69, 3) := by decide +kernel
theorem dX6_copyFrom_126 : decode cX6_copyFrom 126 = .ok (.invokestatic 73, 3) := by decide +kernel
theorem dX6_copyFrom_129 : decode cX6_copyFrom 129 = .ok (.iinc 2 1, 3) := by decide +kernel
theorem dX6_copyFrom_132 : decode cX6_copyFrom 132 = .ok (.goto (-24), 3) := by decide +kernel
theorem dX6_copyFrom_135 : decode cX6_copyFrom 135 = .ok (.return_, 1) := by decide +kernel
theorem dX6_copySnapshot_0 : decode cX6_copySnapshot 0 = .ok (.aload_n 0, 1) := by decide +kernel
theorem dX6_copySnapshot_1 : decode cX6_copySnapshot 1 = .ok (.ifnull 12, 3) := by decide +kernel
theorem dX6_copySnapshot_4 : decode cX6_copySnapshot 4 = .ok (.aload_n 1, 1) := by decide +kernel
theorem dX6_copySnapshot_5 : decode cX6_copySnapshot 5 = .ok (.ifnull 8, 3) := by decide +kernel
theorem dX6_copySnapshot_8 : decode cX6_copySnapshot 8 = .ok (.aload_n 1, 1) := by decide +kernel
theorem dX6_copySnapshot_9 : decode cX6_copySnapshot 9 = .ok (.aload_n 0, 1) := by decide +kernel
theorem dX6_copySnapshot_10 : decode cX6_copySnapshot 10 = .ok (.invokevirtual 77, 3) := by decide +kernel
theorem dX6_copySnapshot_13 : decode cX6_copySnapshot 13 = .ok (.return_, 1) := by decide +kernel
theorem dX6_readerAt_0 : decode cX6_readerAt 0 = .ok (.iload_n 1, 1) := by decide +kernel
theorem dX6_readerAt_1 : decode cX6_readerAt 1 = .ok (.ifCond .lt 20, 3) := by decide +kernel
theorem dX6_readerAt_4 : decode cX6_readerAt 4 = .ok (.iload_n 1, 1) := by decide +kernel
theorem dX6_readerAt_5 : decode cX6_readerAt 5 = .ok (.aload_n 0, 1) := by decide +kernel
theorem dX6_readerAt_6 : decode cX6_readerAt 6 = .ok (.getfield 21, 3) := by decide +kernel
theorem dX6_readerAt_9 : decode cX6_readerAt 9 = .ok (.if_icmp .ge 12, 3) := by decide +kernel
theorem dX6_readerAt_12 : decode cX6_readerAt 12 = .ok (.iload_n 1, 1) := by decide +kernel
theorem dX6_readerAt_13 : decode cX6_readerAt 13 = .ok (.aload_n 0, 1) := by decide +kernel
theorem dX6_readerAt_14 : decode cX6_readerAt 14 = .ok (.getfield 43, 3) := by decide +kernel
theorem dX6_readerAt_17 : decode cX6_readerAt 17 = .ok (.arraylength, 1) := by decide +kernel
theorem dX6_readerAt_18 : decode cX6_readerAt 18 = .ok (.if_icmp .lt 7, 3) := by decide +kernel
theorem dX6_readerAt_21 : decode cX6_readerAt 21 = .ok (.aconst_null, 1) := by decide +kernel
theorem dX6_readerAt_22 : decode cX6_readerAt 22 = .ok (.goto 9, 3) := by decide +kernel
theorem dX6_readerAt_25 : decode cX6_readerAt 25 = .ok (.aload_n 0, 1) := by decide +kernel
theorem dX6_readerAt_26 : decode cX6_readerAt 26 = .ok (.getfield 43, 3) := by decide +kernel
theorem dX6_readerAt_29 : decode cX6_readerAt 29 = .ok (.iload_n 1, 1) := by decide +kernel
theorem dX6_readerAt_30 : decode cX6_readerAt 30 = .ok (.aaload, 1) := by decide +kernel
theorem dX6_readerAt_31 : decode cX6_readerAt 31 = .ok (.areturn, 1) := by decide +kernel
theorem dX6_snapshotAt_0 : decode cX6_snapshotAt 0 = .ok (.iload_n 1, 1) := by decide +kernel
theorem dX6_snapshotAt_1 : decode cX6_snapshotAt 1 = .ok (.ifCond .lt 20, 3) := by decide +kernel
theorem dX6_snapshotAt_4 : decode cX6_snapshotAt 4 = .ok (.iload_n 1, 1) := by decide +kernel
theorem dX6_snapshotAt_5 : decode cX6_snapshotAt 5 = .ok (.aload_n 0, 1) := by decide +kernel
theorem dX6_snapshotAt_6 : decode cX6_snapshotAt 6 = .ok (.getfield 24, 3) := by decide +kernel
theorem dX6_snapshotAt_9 : decode cX6_snapshotAt 9 = .ok (.if_icmp .ge 12, 3) := by decide +kernel
theorem dX6_snapshotAt_12 : decode cX6_snapshotAt 12 = .ok (.iload_n 1, 1) := by decide +kernel
theorem dX6_snapshotAt_13 : decode cX6_snapshotAt 13 = .ok (.aload_n 0, 1) := by decide +kernel
theorem dX6_snapshotAt_14 : decode cX6_snapshotAt 14 = .ok (.getfield 49, 3) := by decide +kernel
theorem dX6_snapshotAt_17 : decode cX6_snapshotAt 17 = .ok (.arraylength, 1) := by decide +kernel
theorem dX6_snapshotAt_18 : decode cX6_snapshotAt 18 = .ok (.if_icmp .lt 7, 3) := by decide +kernel
theorem dX6_snapshotAt_21 : decode cX6_snapshotAt 21 = .ok (.aconst_null, 1) := by decide +kernel
theorem dX6_snapshotAt_22 : decode cX6_snapshotAt 22 = .ok (.goto 9, 3) := by decide +kernel
theorem dX6_snapshotAt_25 : decode cX6_snapshotAt 25 = .ok (.aload_n 0, 1) := by decide +kernel
theorem dX6_snapshotAt_26 : decode cX6_snapshotAt 26 = .ok (.getfield 49, 3) := by decide +kernel
theorem dX6_snapshotAt_29 : decode cX6_snapshotAt 29 = .ok (.iload_n 1, 1) := by decide +kernel
theorem dX6_snapshotAt_30 : decode cX6_snapshotAt 30 = .ok (.aaload, 1) := by decide +kernel
theorem dX6_snapshotAt_31 : decode cX6_snapshotAt 31 = .ok (.areturn, 1) := by decide +kernel
theorem dX6_turnSetting_0 : decode cX6_turnSetting 0 = .ok (.iload_n 1, 1) := by decide +kernel
theorem dX6_turnSetting_1 : decode cX6_turnSetting 1 = .ok (.ifCond .ne 27, 3) := by decide +kernel
theorem dX6_turnSetting_4 : decode cX6_turnSetting 4 = .ok (.iload_n 2, 1) := by decide +kernel
theorem dX6_turnSetting_5 : decode cX6_turnSetting 5 = .ok (.iconst 1, 1) := by decide +kernel
theorem dX6_turnSetting_6 : decode cX6_turnSetting 6 = .ok (.if_icmp .lt 22, 3) := by decide +kernel
theorem dX6_turnSetting_9 : decode cX6_turnSetting 9 = .ok (.iload_n 2, 1) := by decide +kernel
theorem dX6_turnSetting_10 : decode cX6_turnSetting 10 = .ok (.bipush 20, 2) := by decide +kernel
theorem dX6_turnSetting_12 : decode cX6_turnSetting 12 = .ok (.if_icmp .gt 16, 3) := by decide +kernel
theorem dX6_turnSetting_15 : decode cX6_turnSetting 15 = .ok (.aload_n 0, 1) := by decide +kernel
theorem dX6_turnSetting_16 : decode cX6_turnSetting 16 = .ok (.getfield 9, 3) := by decide +kernel
theorem dX6_turnSetting_19 : decode cX6_turnSetting 19 = .ok (.istore_n 3, 1) := by decide +kernel
theorem dX6_turnSetting_20 : decode cX6_turnSetting 20 = .ok (.aload_n 0, 1) := by decide +kernel
theorem dX6_turnSetting_21 : decode cX6_turnSetting 21 = .ok (.iload_n 2, 1) := by decide +kernel
theorem dX6_turnSetting_22 : decode cX6_turnSetting 22 = .ok (.putfield 9, 3) := by decide +kernel
theorem dX6_turnSetting_25 : decode cX6_turnSetting 25 = .ok (.goto 31, 3) := by decide +kernel
theorem dX6_turnSetting_28 : decode cX6_turnSetting 28 = .ok (.iload_n 1, 1) := by decide +kernel
theorem dX6_turnSetting_29 : decode cX6_turnSetting 29 = .ok (.iconst 1, 1) := by decide +kernel
theorem dX6_turnSetting_30 : decode cX6_turnSetting 30 = .ok (.if_icmp .ne 23, 3) := by decide +kernel
theorem dX6_turnSetting_33 : decode cX6_turnSetting 33 = .ok (.iload_n 2, 1) := by decide +kernel
theorem dX6_turnSetting_34 : decode cX6_turnSetting 34 = .ok (.invokestatic 80, 3) := by decide +kernel
theorem dX6_turnSetting_37 : decode cX6_turnSetting 37 = .ok (.ifCond .eq 16, 3) := by decide +kernel
theorem dX6_turnSetting_40 : decode cX6_turnSetting 40 = .ok (.aload_n 0, 1) := by decide +kernel
theorem dX6_turnSetting_41 : decode cX6_turnSetting 41 = .ok (.getfield 15, 3) := by decide +kernel
theorem dX6_turnSetting_44 : decode cX6_turnSetting 44 = .ok (.istore_n 3, 1) := by decide +kernel
theorem dX6_turnSetting_45 : decode cX6_turnSetting 45 = .ok (.aload_n 0, 1) := by decide +kernel
theorem dX6_turnSetting_46 : decode cX6_turnSetting 46 = .ok (.iload_n 2, 1) := by decide +kernel
theorem dX6_turnSetting_47 : decode cX6_turnSetting 47 = .ok (.putfield 15, 3) := by decide +kernel
theorem dX6_turnSetting_50 : decode cX6_turnSetting 50 = .ok (.goto 6, 3) := by decide +kernel
theorem dX6_turnSetting_53 : decode cX6_turnSetting 53 = .ok (.bipush (-2), 2) := by decide +kernel
theorem dX6_turnSetting_55 : decode cX6_turnSetting 55 = .ok (.istore_n 3, 1) := by decide +kernel
theorem dX6_turnSetting_56 : decode cX6_turnSetting 56 = .ok (.iload_n 3, 1) := by decide +kernel
theorem dX6_turnSetting_57 : decode cX6_turnSetting 57 = .ok (.ireturn, 1) := by decide +kernel
theorem dX6_setKey_0 : decode cX6_setKey 0 = .ok (.iload_n 1, 1) := by decide +kernel
theorem dX6_setKey_1 : decode cX6_setKey 1 = .ok (.invokestatic 84, 3) := by decide +kernel
theorem dX6_setKey_4 : decode cX6_setKey 4 = .ok (.ifCond .ne 5, 3) := by decide +kernel
theorem dX6_setKey_7 : decode cX6_setKey 7 = .ok (.iconst (-1), 1) := by decide +kernel
theorem dX6_setKey_8 : decode cX6_setKey 8 = .ok (.ireturn, 1) := by decide +kernel
theorem dX6_setKey_9 : decode cX6_setKey 9 = .ok (.iload_n 2, 1) := by decide +kernel
theorem dX6_setKey_10 : decode cX6_setKey 10 = .ok (.invokestatic 80, 3) := by decide +kernel
theorem dX6_setKey_13 : decode cX6_setKey 13 = .ok (.ifCond .ne 6, 3) := by decide +kernel
theorem dX6_setKey_16 : decode cX6_setKey 16 = .ok (.bipush (-2), 2) := by decide +kernel
theorem dX6_setKey_18 : decode cX6_setKey 18 = .ok (.ireturn, 1) := by decide +kernel
theorem dX6_setKey_19 : decode cX6_setKey 19 = .ok (.aload_n 0, 1) := by decide +kernel
theorem dX6_setKey_20 : decode cX6_setKey 20 = .ok (.getfield 37, 3) := by decide +kernel
theorem dX6_setKey_23 : decode cX6_setKey 23 = .ok (.invokevirtual 87, 3) := by decide +kernel
theorem dX6_setKey_26 : decode cX6_setKey 26 = .ok (.ifCond .eq 6, 3) := by decide +kernel
theorem dX6_setKey_29 : decode cX6_setKey 29 = .ok (.bipush (-4), 2) := by decide +kernel
theorem dX6_setKey_31 : decode cX6_setKey 31 = .ok (.ireturn, 1) := by decide +kernel
theorem dX6_setKey_32 : decode cX6_setKey 32 = .ok (.aload_n 0, 1) := by decide +kernel
theorem dX6_setKey_33 : decode cX6_setKey 33 = .ok (.getfield 30, 3) := by decide +kernel
theorem dX6_setKey_36 : decode cX6_setKey 36 = .ok (.iload_n 1, 1) := by decide +kernel
theorem dX6_setKey_37 : decode cX6_setKey 37 = .ok (.iload_n 2, 1) := by decide +kernel
theorem dX6_setKey_38 : decode cX6_setKey 38 = .ok (.invokevirtual 91, 3) := by decide +kernel
theorem dX6_setKey_41 : decode cX6_setKey 41 = .ok (.aload_n 0, 1) := by decide +kernel
theorem dX6_setKey_42 : decode cX6_setKey 42 = .ok (.getfield 37, 3) := by decide +kernel
theorem dX6_setKey_45 : decode cX6_setKey 45 = .ok (.iload_n 1, 1) := by decide +kernel
theorem dX6_setKey_46 : decode cX6_setKey 46 = .ok (.iload_n 2, 1) := by decide +kernel
theorem dX6_setKey_47 : decode cX6_setKey 47 = .ok (.aload_n 0, 1) := by decide +kernel
theorem dX6_setKey_48 : decode cX6_setKey 48 = .ok (.getfield 18, 3) := by decide +kernel
theorem dX6_setKey_51 : decode cX6_setKey 51 = .ok (.invokevirtual 95, 3) := by decide +kernel
theorem dX6_setKey_54 : decode cX6_setKey 54 = .ok (.ireturn, 1) := by decide +kernel
theorem dX6_removeKey_0 : decode cX6_removeKey 0 = .ok (.iload_n 1, 1) := by decide +kernel
theorem dX6_removeKey_1 : decode cX6_removeKey 1 = .ok (.invokestatic 84, 3) := by decide +kernel
theorem dX6_removeKey_4 : decode cX6_removeKey 4 = .ok (.ifCond .ne 5, 3) := by decide +kernel
theorem dX6_removeKey_7 : decode cX6_removeKey 7 = .ok (.iconst (-1), 1) := by decide +kernel
theorem dX6_removeKey_8 : decode cX6_removeKey 8 = .ok (.ireturn, 1) := by decide +kernel
theorem dX6_removeKey_9 : decode cX6_removeKey 9 = .ok (.aload_n 0, 1) := by decide +kernel
theorem dX6_removeKey_10 : decode cX6_removeKey 10 = .ok (.getfield 37, 3) := by decide +kernel
theorem dX6_removeKey_13 : decode cX6_removeKey 13 = .ok (.invokevirtual 87, 3) := by decide +kernel
theorem dX6_removeKey_16 : decode cX6_removeKey 16 = .ok (.ifCond .eq 6, 3) := by decide +kernel
theorem dX6_removeKey_19 : decode cX6_removeKey 19 = .ok (.bipush (-4), 2) := by decide +kernel
theorem dX6_removeKey_21 : decode cX6_removeKey 21 = .ok (.ireturn, 1) := by decide +kernel
theorem dX6_removeKey_22 : decode cX6_removeKey 22 = .ok (.aload_n 0, 1) := by decide +kernel
theorem dX6_removeKey_23 : decode cX6_removeKey 23 = .ok (.getfield 30, 3) := by decide +kernel
theorem dX6_removeKey_26 : decode cX6_removeKey 26 = .ok (.iload_n 1, 1) := by decide +kernel
theorem dX6_removeKey_27 : decode cX6_removeKey 27 = .ok (.invokevirtual 99, 3) := by decide +kernel
theorem dX6_removeKey_30 : decode cX6_removeKey 30 = .ok (.bipush (-6), 2) := by decide +kernel
theorem dX6_removeKey_32 : decode cX6_removeKey 32 = .ok (.if_icmp .ne 6, 3) := by decide +kernel
theorem dX6_removeKey_35 : decode cX6_removeKey 35 = .ok (.bipush (-5), 2) := by decide +kernel
theorem dX6_removeKey_37 : decode cX6_removeKey 37 = .ok (.ireturn, 1) := by decide +kernel
theorem dX6_removeKey_38 : decode cX6_removeKey 38 = .ok (.aload_n 0, 1) := by decide +kernel
theorem dX6_removeKey_39 : decode cX6_removeKey 39 = .ok (.getfield 30, 3) := by decide +kernel
theorem dX6_removeKey_42 : decode cX6_removeKey 42 = .ok (.iload_n 1, 1) := by decide +kernel
theorem dX6_removeKey_43 : decode cX6_removeKey 43 = .ok (.bipush (-6), 2) := by decide +kernel
theorem dX6_removeKey_45 : decode cX6_removeKey 45 = .ok (.invokevirtual 91, 3) := by decide +kernel
theorem dX6_removeKey_48 : decode cX6_removeKey 48 = .ok (.aload_n 0, 1) := by decide +kernel
theorem dX6_removeKey_49 : decode cX6_removeKey 49 = .ok (.getfield 37, 3) := by decide +kernel
theorem dX6_removeKey_52 : decode cX6_removeKey 52 = .ok (.iload_n 1, 1) := by decide +kernel
theorem dX6_removeKey_53 : decode cX6_removeKey 53 = .ok (.bipush (-6), 2) := by decide +kernel
theorem dX6_removeKey_55 : decode cX6_removeKey 55 = .ok (.aload_n 0, 1) := by decide +kernel
theorem dX6_removeKey_56 : decode cX6_removeKey 56 = .ok (.getfield 18, 3) := by decide +kernel
theorem dX6_removeKey_59 : decode cX6_removeKey 59 = .ok (.invokevirtual 95, 3) := by decide +kernel
theorem dX6_removeKey_62 : decode cX6_removeKey 62 = .ok (.ireturn, 1) := by decide +kernel
theorem dX6_letPass_0 : decode cX6_letPass 0 = .ok (.iload_n 1, 1) := by decide +kernel
theorem dX6_letPass_1 : decode cX6_letPass 1 = .ok (.iconst 1, 1) := by decide +kernel
theorem dX6_letPass_2 : decode cX6_letPass 2 = .ok (.if_icmp .lt 10, 3) := by decide +kernel
theorem dX6_letPass_5 : decode cX6_letPass 5 = .ok (.iload_n 1, 1) := by decide +kernel
theorem dX6_letPass_6 : decode cX6_letPass 6 = .ok (.invokestatic 80, 3) := by decide +kernel
theorem dX6_letPass_9 : decode cX6_letPass 9 = .ok (.ifCond .ne 6, 3) := by decide +kernel
theorem dX6_letPass_12 : decode cX6_letPass 12 = .ok (.bipush (-2), 2) := by decide +kernel
theorem dX6_letPass_14 : decode cX6_letPass 14 = .ok (.ireturn, 1) := by decide +kernel
theorem dX6_letPass_15 : decode cX6_letPass 15 = .ok (.aload_n 0, 1) := by decide +kernel
theorem dX6_letPass_16 : decode cX6_letPass 16 = .ok (.getfield 18, 3) := by decide +kernel
theorem dX6_letPass_19 : decode cX6_letPass 19 = .ok (.iload_n 1, 1) := by decide +kernel
theorem dX6_letPass_20 : decode cX6_letPass 20 = .ok (.iadd, 1) := by decide +kernel
theorem dX6_letPass_21 : decode cX6_letPass 21 = .ok (.ldc 103, 2) := by decide +kernel
theorem dX6_letPass_23 : decode cX6_letPass 23 = .ok (.if_icmp .le 6, 3) := by decide +kernel
theorem dX6_letPass_26 : decode cX6_letPass 26 = .ok (.bipush (-4), 2) := by decide +kernel
theorem dX6_letPass_28 : decode cX6_letPass 28 = .ok (.ireturn, 1) := by decide +kernel
theorem dX6_letPass_29 : decode cX6_letPass 29 = .ok (.aload_n 0, 1) := by decide +kernel
theorem dX6_letPass_30 : decode cX6_letPass 30 = .ok (.dup, 1) := by decide +kernel
theorem dX6_letPass_31 : decode cX6_letPass 31 = .ok (.getfield 18, 3) := by decide +kernel
theorem dX6_letPass_34 : decode cX6_letPass 34 = .ok (.iload_n 1, 1) := by decide +kernel
theorem dX6_letPass_35 : decode cX6_letPass 35 = .ok (.iadd, 1) := by decide +kernel
theorem dX6_letPass_36 : decode cX6_letPass 36 = .ok (.putfield 18, 3) := by decide +kernel
theorem dX6_letPass_39 : decode cX6_letPass 39 = .ok (.aload_n 0, 1) := by decide +kernel
theorem dX6_letPass_40 : decode cX6_letPass 40 = .ok (.getfield 18, 3) := by decide +kernel
theorem dX6_letPass_43 : decode cX6_letPass 43 = .ok (.ireturn, 1) := by decide +kernel
theorem dX6_thinFeed_0 : decode cX6_thinFeed 0 = .ok (.aload_n 0, 1) := by decide +kernel
theorem dX6_thinFeed_1 : decode cX6_thinFeed 1 = .ok (.getfield 37, 3) := by decide +kernel
theorem dX6_thinFeed_4 : decode cX6_thinFeed 4 = .ok (.aload_n 0, 1) := by decide +kernel
theorem dX6_thinFeed_5 : decode cX6_thinFeed 5 = .ok (.getfield 37, 3) := by decide +kernel
theorem dX6_thinFeed_8 : decode cX6_thinFeed 8 = .ok (.aload_n 0, 1) := by decide +kernel
theorem dX6_thinFeed_9 : decode cX6_thinFeed 9 = .ok (.getfield 9, 3) := by decide +kernel
theorem dX6_thinFeed_12 : decode cX6_thinFeed 12 = .ok (.aload_n 0, 1) := by decide +kernel
theorem dX6_thinFeed_13 : decode cX6_thinFeed 13 = .ok (.getfield 15, 3) := by decide +kernel
theorem dX6_thinFeed_16 : decode cX6_thinFeed 16 = .ok (.aload_n 0, 1) := by decide +kernel
theorem dX6_thinFeed_17 : decode cX6_thinFeed 17 = .ok (.getfield 18, 3) := by decide +kernel
theorem dX6_thinFeed_20 : decode cX6_thinFeed 20 = .ok (.invokevirtual 104, 3) := by decide +kernel
theorem dX6_thinFeed_23 : decode cX6_thinFeed 23 = .ok (.putfield 107, 3) := by decide +kernel
theorem dX6_thinFeed_26 : decode cX6_thinFeed 26 = .ok (.aload_n 0, 1) := by decide +kernel
theorem dX6_thinFeed_27 : decode cX6_thinFeed 27 = .ok (.getfield 37, 3) := by decide +kernel
theorem dX6_thinFeed_30 : decode cX6_thinFeed 30 = .ok (.aload_n 0, 1) := by decide +kernel
theorem dX6_thinFeed_31 : decode cX6_thinFeed 31 = .ok (.getfield 9, 3) := by decide +kernel
theorem dX6_thinFeed_34 : decode cX6_thinFeed 34 = .ok (.aload_n 0, 1) := by decide +kernel
theorem dX6_thinFeed_35 : decode cX6_thinFeed 35 = .ok (.getfield 15, 3) := by decide +kernel
theorem dX6_thinFeed_38 : decode cX6_thinFeed 38 = .ok (.aload_n 0, 1) := by decide +kernel
theorem dX6_thinFeed_39 : decode cX6_thinFeed 39 = .ok (.getfield 18, 3) := by decide +kernel
theorem dX6_thinFeed_42 : decode cX6_thinFeed 42 = .ok (.invokevirtual 110, 3) := by decide +kernel
theorem dX6_thinFeed_45 : decode cX6_thinFeed 45 = .ok (.ireturn, 1) := by decide +kernel
theorem dX6_makeSnapshot_0 : decode cX6_makeSnapshot 0 = .ok (.aload_n 0, 1) := by decide +kernel
theorem dX6_makeSnapshot_1 : decode cX6_makeSnapshot 1 = .ok (.getfield 24, 3) := by decide +kernel
theorem dX6_makeSnapshot_4 : decode cX6_makeSnapshot 4 = .ok (.iconst 4, 1) := by decide +kernel
theorem dX6_makeSnapshot_5 : decode cX6_makeSnapshot 5 = .ok (.if_icmp .ge 13, 3) := by decide +kernel
theorem dX6_makeSnapshot_8 : decode cX6_makeSnapshot 8 = .ok (.aload_n 0, 1) := by decide +kernel
theorem dX6_makeSnapshot_9 : decode cX6_makeSnapshot 9 = .ok (.dup, 1) := by decide +kernel
theorem dX6_makeSnapshot_10 : decode cX6_makeSnapshot 10 = .ok (.getfield 24, 3) := by decide +kernel
theorem dX6_makeSnapshot_13 : decode cX6_makeSnapshot 13 = .ok (.iconst 1, 1) := by decide +kernel
theorem dX6_makeSnapshot_14 : decode cX6_makeSnapshot 14 = .ok (.iadd, 1) := by decide +kernel
theorem dX6_makeSnapshot_15 : decode cX6_makeSnapshot 15 = .ok (.putfield 24, 3) := by decide +kernel
theorem dX6_makeSnapshot_18 : decode cX6_makeSnapshot 18 = .ok (.aload_n 0, 1) := by decide +kernel
theorem dX6_makeSnapshot_19 : decode cX6_makeSnapshot 19 = .ok (.getfield 24, 3) := by decide +kernel
theorem dX6_makeSnapshot_22 : decode cX6_makeSnapshot 22 = .ok (.iconst 1, 1) := by decide +kernel
theorem dX6_makeSnapshot_23 : decode cX6_makeSnapshot 23 = .ok (.isub, 1) := by decide +kernel
theorem dX6_makeSnapshot_24 : decode cX6_makeSnapshot 24 = .ok (.istore_n 1, 1) := by decide +kernel
theorem dX6_makeSnapshot_25 : decode cX6_makeSnapshot 25 = .ok (.iload_n 1, 1) := by decide +kernel
theorem dX6_makeSnapshot_26 : decode cX6_makeSnapshot 26 = .ok (.ifCond .le 24, 3) := by decide +kernel
theorem dX6_makeSnapshot_29 : decode cX6_makeSnapshot 29 = .ok (.aload_n 0, 1) := by decide +kernel
theorem dX6_makeSnapshot_30 : decode cX6_makeSnapshot 30 = .ok (.iload_n 1, 1) := by decide +kernel
theorem dX6_makeSnapshot_31 : decode cX6_makeSnapshot 31 = .ok (.iconst 1, 1) := by decide +kernel
theorem dX6_makeSnapshot_32 : decode cX6_makeSnapshot 32 = .ok (.isub, 1) := by decide +kernel
theorem dX6_makeSnapshot_33 : decode cX6_makeSnapshot 33 = .ok (.invokevirtual 69, 3) := by decide +kernel
theorem dX6_makeSnapshot_36 : decode cX6_makeSnapshot 36 = .ok (.aload_n 0, 1) := by decide +kernel
theorem dX6_makeSnapshot_37 : decode cX6_makeSnapshot 37 = .ok (.iload_n 1, 1) := by decide +kernel
theorem dX6_makeSnapshot_38 : decode cX6_makeSnapshot 38 = .ok (.invokevirtual 69, 3) := by decide +kernel
theorem dX6_makeSnapshot_41 : decode cX6_makeSnapshot 41 = .ok (.invokestatic 73, 3) := by decide +kernel
theorem dX6_makeSnapshot_44 : decode cX6_makeSnapshot 44 = .ok (.iinc 1 (-1), 3) := by decide +kernel
theorem dX6_makeSnapshot_47 : decode cX6_makeSnapshot 47 = .ok (.goto (-22), 3) := by decide +kernel
theorem dX6_makeSnapshot_50 : decode cX6_makeSnapshot 50 = .ok (.aload_n 0, 1) := by decide +kernel
theorem dX6_makeSnapshot_51 : decode cX6_makeSnapshot 51 = .ok (.iconst 0, 1) := by decide +kernel
theorem dX6_makeSnapshot_52 : decode cX6_makeSnapshot 52 = .ok (.invokevirtual 69, 3) := by decide +kernel
theorem dX6_makeSnapshot_55 : decode cX6_makeSnapshot 55 = .ok (.astore_n 1, 1) := by decide +kernel
theorem dX6_makeSnapshot_56 : decode cX6_makeSnapshot 56 = .ok (.aload_n 1, 1) := by decide +kernel
theorem dX6_makeSnapshot_57 : decode cX6_makeSnapshot 57 = .ok (.ifnull 25, 3) := by decide +kernel
theorem dX6_makeSnapshot_60 : decode cX6_makeSnapshot 60 = .ok (.aload_n 1, 1) := by decide +kernel
theorem dX6_makeSnapshot_61 : decode cX6_makeSnapshot 61 = .ok (.aload_n 0, 1) := by decide +kernel
theorem dX6_makeSnapshot_62 : decode cX6_makeSnapshot 62 = .ok (.getfield 37, 3) := by decide +kernel
theorem dX6_makeSnapshot_65 : decode cX6_makeSnapshot 65 = .ok (.getfield 113, 3) := by decide +kernel
theorem dX6_makeSnapshot_68 : decode cX6_makeSnapshot 68 = .ok (.putfield 116, 3) := by decide +kernel
theorem dX6_makeSnapshot_71 : decode cX6_makeSnapshot 71 = .ok (.aload_n 1, 1) := by decide +kernel
theorem dX6_makeSnapshot_72 : decode cX6_makeSnapshot 72 = .ok (.getfield 119, 3) := by decide +kernel
theorem dX6_makeSnapshot_75 : decode cX6_makeSnapshot 75 = .ok (.aload_n 0, 1) := by decide +kernel
theorem dX6_makeSnapshot_76 : decode cX6_makeSnapshot 76 = .ok (.getfield 30, 3) := by decide +kernel
theorem dX6_makeSnapshot_79 : decode cX6_makeSnapshot 79 = .ok (.invokevirtual 55, 3) := by decide +kernel
theorem dX6_makeSnapshot_82 : decode cX6_makeSnapshot 82 = .ok (.aload_n 0, 1) := by decide +kernel
theorem dX6_makeSnapshot_83 : decode cX6_makeSnapshot 83 = .ok (.getfield 37, 3) := by decide +kernel
theorem dX6_makeSnapshot_86 : decode cX6_makeSnapshot 86 = .ok (.getfield 113, 3) := by decide +kernel
theorem dX6_makeSnapshot_89 : decode cX6_makeSnapshot 89 = .ok (.ireturn, 1) := by decide +kernel
theorem dX6_addReader_0 : decode cX6_addReader 0 = .ok (.aload_n 0, 1) := by decide +kernel
theorem dX6_addReader_1 : decode cX6_addReader 1 = .ok (.getfield 21, 3) := by decide +kernel
theorem dX6_addReader_4 : decode cX6_addReader 4 = .ok (.bipush 6, 2) := by decide +kernel
theorem dX6_addReader_6 : decode cX6_addReader 6 = .ok (.if_icmp .lt 6, 3) := by decide +kernel
theorem dX6_addReader_9 : decode cX6_addReader 9 = .ok (.bipush (-4), 2) := by decide +kernel
theorem dX6_addReader_11 : decode cX6_addReader 11 = .ok (.ireturn, 1) := by decide +kernel
theorem dX6_addReader_12 : decode cX6_addReader 12 = .ok (.aload_n 0, 1) := by decide +kernel
theorem dX6_addReader_13 : decode cX6_addReader 13 = .ok (.getfield 21, 3) := by decide +kernel
theorem dX6_addReader_16 : decode cX6_addReader 16 = .ok (.istore_n 1, 1) := by decide +kernel
theorem dX6_addReader_17 : decode cX6_addReader 17 = .ok (.aload_n 0, 1) := by decide +kernel
theorem dX6_addReader_18 : decode cX6_addReader 18 = .ok (.dup, 1) := by decide +kernel
theorem dX6_addReader_19 : decode cX6_addReader 19 = .ok (.getfield 21, 3) := by decide +kernel
theorem dX6_addReader_22 : decode cX6_addReader 22 = .ok (.iconst 1, 1) := by decide +kernel
theorem dX6_addReader_23 : decode cX6_addReader 23 = .ok (.iadd, 1) := by decide +kernel
theorem dX6_addReader_24 : decode cX6_addReader 24 = .ok (.putfield 21, 3) := by decide +kernel
theorem dX6_addReader_27 : decode cX6_addReader 27 = .ok (.aload_n 0, 1) := by decide +kernel
theorem dX6_addReader_28 : decode cX6_addReader 28 = .ok (.iload_n 1, 1) := by decide +kernel
theorem dX6_addReader_29 : decode cX6_addReader 29 = .ok (.invokevirtual 62, 3) := by decide +kernel
theorem dX6_addReader_32 : decode cX6_addReader 32 = .ok (.astore_n 2, 1) := by decide +kernel
theorem dX6_addReader_33 : decode cX6_addReader 33 = .ok (.aload_n 2, 1) := by decide +kernel
theorem dX6_addReader_34 : decode cX6_addReader 34 = .ok (.ifnull 12, 3) := by decide +kernel
theorem dX6_addReader_37 : decode cX6_addReader 37 = .ok (.aload_n 2, 1) := by decide +kernel
theorem dX6_addReader_38 : decode cX6_addReader 38 = .ok (.invokevirtual 120, 3) := by decide +kernel
theorem dX6_addReader_41 : decode cX6_addReader 41 = .ok (.aload_n 2, 1) := by decide +kernel
theorem dX6_addReader_42 : decode cX6_addReader 42 = .ok (.iconst 0, 1) := by decide +kernel
theorem dX6_addReader_43 : decode cX6_addReader 43 = .ok (.putfield 123, 3) := by decide +kernel
theorem dX6_addReader_46 : decode cX6_addReader 46 = .ok (.iload_n 1, 1) := by decide +kernel
theorem dX6_addReader_47 : decode cX6_addReader 47 = .ok (.ireturn, 1) := by decide +kernel
theorem dX6_letRead_0 : decode cX6_letRead 0 = .ok (.aload_n 0, 1) := by decide +kernel
theorem dX6_letRead_1 : decode cX6_letRead 1 = .ok (.iload_n 1, 1) := by decide +kernel
theorem dX6_letRead_2 : decode cX6_letRead 2 = .ok (.invokevirtual 62, 3) := by decide +kernel
theorem dX6_letRead_5 : decode cX6_letRead 5 = .ok (.astore_n 3, 1) := by decide +kernel
theorem dX6_letRead_6 : decode cX6_letRead 6 = .ok (.aload_n 3, 1) := by decide +kernel
theorem dX6_letRead_7 : decode cX6_letRead 7 = .ok (.ifnonnull 5, 3) := by decide +kernel
theorem dX6_letRead_10 : decode cX6_letRead 10 = .ok (.iconst (-1), 1) := by decide +kernel
theorem dX6_letRead_11 : decode cX6_letRead 11 = .ok (.ireturn, 1) := by decide +kernel
theorem dX6_letRead_12 : decode cX6_letRead 12 = .ok (.iload_n 2, 1) := by decide +kernel
theorem dX6_letRead_13 : decode cX6_letRead 13 = .ok (.iconst 1, 1) := by decide +kernel
theorem dX6_letRead_14 : decode cX6_letRead 14 = .ok (.if_icmp .lt 9, 3) := by decide +kernel
theorem dX6_letRead_17 : decode cX6_letRead 17 = .ok (.iload_n 2, 1) := by decide +kernel
theorem dX6_letRead_18 : decode cX6_letRead 18 = .ok (.bipush 99, 2) := by decide +kernel
theorem dX6_letRead_20 : decode cX6_letRead 20 = .ok (.if_icmp .le 6, 3) := by decide +kernel
theorem dX6_letRead_23 : decode cX6_letRead 23 = .ok (.bipush (-2), 2) := by decide +kernel
theorem dX6_letRead_25 : decode cX6_letRead 25 = .ok (.ireturn, 1) := by decide +kernel
theorem dX6_letRead_26 : decode cX6_letRead 26 = .ok (.aload_n 3, 1) := by decide +kernel
theorem dX6_letRead_27 : decode cX6_letRead 27 = .ok (.getfield 126, 3) := by decide +kernel
theorem dX6_letRead_30 : decode cX6_letRead 30 = .ok (.aload_n 0, 1) := by decide +kernel
theorem dX6_letRead_31 : decode cX6_letRead 31 = .ok (.getfield 37, 3) := by decide +kernel
theorem dX6_letRead_34 : decode cX6_letRead 34 = .ok (.getfield 107, 3) := by decide +kernel
theorem dX6_letRead_37 : decode cX6_letRead 37 = .ok (.invokestatic 129, 3) := by decide +kernel
theorem dX6_letRead_40 : decode cX6_letRead 40 = .ok (.ifCond .eq 6, 3) := by decide +kernel
theorem dX6_letRead_43 : decode cX6_letRead 43 = .ok (.bipush (-5), 2) := by decide +kernel
theorem dX6_letRead_45 : decode cX6_letRead 45 = .ok (.ireturn, 1) := by decide +kernel
theorem dX6_letRead_46 : decode cX6_letRead 46 = .ok (.aload_n 3, 1) := by decide +kernel
theorem dX6_letRead_47 : decode cX6_letRead 47 = .ok (.aload_n 0, 1) := by decide +kernel
theorem dX6_letRead_48 : decode cX6_letRead 48 = .ok (.getfield 37, 3) := by decide +kernel
theorem dX6_letRead_51 : decode cX6_letRead 51 = .ok (.iload_n 2, 1) := by decide +kernel
theorem dX6_letRead_52 : decode cX6_letRead 52 = .ok (.invokevirtual 133, 3) := by decide +kernel
theorem dX6_letRead_55 : decode cX6_letRead 55 = .ok (.ireturn, 1) := by decide +kernel
theorem dX6_letConfirm_0 : decode cX6_letConfirm 0 = .ok (.aload_n 0, 1) := by decide +kernel
theorem dX6_letConfirm_1 : decode cX6_letConfirm 1 = .ok (.iload_n 1, 1) := by decide +kernel
theorem dX6_letConfirm_2 : decode cX6_letConfirm 2 = .ok (.invokevirtual 62, 3) := by decide +kernel
theorem dX6_letConfirm_5 : decode cX6_letConfirm 5 = .ok (.astore_n 2, 1) := by decide +kernel
theorem dX6_letConfirm_6 : decode cX6_letConfirm 6 = .ok (.aload_n 2, 1) := by decide +kernel
theorem dX6_letConfirm_7 : decode cX6_letConfirm 7 = .ok (.ifnonnull 5, 3) := by decide +kernel
theorem dX6_letConfirm_10 : decode cX6_letConfirm 10 = .ok (.iconst (-1), 1) := by decide +kernel
theorem dX6_letConfirm_11 : decode cX6_letConfirm 11 = .ok (.ireturn, 1) := by decide +kernel
theorem dX6_letConfirm_12 : decode cX6_letConfirm 12 = .ok (.aload_n 2, 1) := by decide +kernel
theorem dX6_letConfirm_13 : decode cX6_letConfirm 13 = .ok (.invokevirtual 137, 3) := by decide +kernel
theorem dX6_letConfirm_16 : decode cX6_letConfirm 16 = .ok (.aload_n 2, 1) := by decide +kernel
theorem dX6_letConfirm_17 : decode cX6_letConfirm 17 = .ok (.getfield 126, 3) := by decide +kernel
theorem dX6_letConfirm_20 : decode cX6_letConfirm 20 = .ok (.ireturn, 1) := by decide +kernel
theorem dX6_letGoBack_0 : decode cX6_letGoBack 0 = .ok (.aload_n 0, 1) := by decide +kernel
theorem dX6_letGoBack_1 : decode cX6_letGoBack 1 = .ok (.iload_n 1, 1) := by decide +kernel
theorem dX6_letGoBack_2 : decode cX6_letGoBack 2 = .ok (.invokevirtual 62, 3) := by decide +kernel
theorem dX6_letGoBack_5 : decode cX6_letGoBack 5 = .ok (.astore_n 2, 1) := by decide +kernel
theorem dX6_letGoBack_6 : decode cX6_letGoBack 6 = .ok (.aload_n 2, 1) := by decide +kernel
theorem dX6_letGoBack_7 : decode cX6_letGoBack 7 = .ok (.ifnonnull 5, 3) := by decide +kernel
theorem dX6_letGoBack_10 : decode cX6_letGoBack 10 = .ok (.iconst (-1), 1) := by decide +kernel
theorem dX6_letGoBack_11 : decode cX6_letGoBack 11 = .ok (.ireturn, 1) := by decide +kernel
theorem dX6_letGoBack_12 : decode cX6_letGoBack 12 = .ok (.aload_n 2, 1) := by decide +kernel
theorem dX6_letGoBack_13 : decode cX6_letGoBack 13 = .ok (.invokevirtual 140, 3) := by decide +kernel
theorem dX6_letGoBack_16 : decode cX6_letGoBack 16 = .ok (.aload_n 2, 1) := by decide +kernel
theorem dX6_letGoBack_17 : decode cX6_letGoBack 17 = .ok (.getfield 126, 3) := by decide +kernel
theorem dX6_letGoBack_20 : decode cX6_letGoBack 20 = .ok (.ireturn, 1) := by decide +kernel
theorem dX6_letBeginAnew_0 : decode cX6_letBeginAnew 0 = .ok (.aload_n 0, 1) := by decide +kernel
theorem dX6_letBeginAnew_1 : decode cX6_letBeginAnew 1 = .ok (.iload_n 1, 1) := by decide +kernel
theorem dX6_letBeginAnew_2 : decode cX6_letBeginAnew 2 = .ok (.invokevirtual 62, 3) := by decide +kernel
theorem dX6_letBeginAnew_5 : decode cX6_letBeginAnew 5 = .ok (.astore_n 2, 1) := by decide +kernel
theorem dX6_letBeginAnew_6 : decode cX6_letBeginAnew 6 = .ok (.aload_n 2, 1) := by decide +kernel
theorem dX6_letBeginAnew_7 : decode cX6_letBeginAnew 7 = .ok (.ifnonnull 5, 3) := by decide +kernel
theorem dX6_letBeginAnew_10 : decode cX6_letBeginAnew 10 = .ok (.iconst (-1), 1) := by decide +kernel
theorem dX6_letBeginAnew_11 : decode cX6_letBeginAnew 11 = .ok (.ireturn, 1) := by decide +kernel
theorem dX6_letBeginAnew_12 : decode cX6_letBeginAnew 12 = .ok (.aload_n 2, 1) := by decide +kernel
theorem dX6_letBeginAnew_13 : decode cX6_letBeginAnew 13 = .ok (.invokevirtual 120, 3) := by decide +kernel
theorem dX6_letBeginAnew_16 : decode cX6_letBeginAnew 16 = .ok (.aload_n 0, 1) := by decide +kernel
theorem dX6_letBeginAnew_17 : decode cX6_letBeginAnew 17 = .ok (.getfield 37, 3) := by decide +kernel
theorem dX6_letBeginAnew_20 : decode cX6_letBeginAnew 20 = .ok (.aload_n 2, 1) := by decide +kernel
theorem dX6_letBeginAnew_21 : decode cX6_letBeginAnew 21 = .ok (.getfield 126, 3) := by decide +kernel
theorem dX6_letBeginAnew_24 : decode cX6_letBeginAnew 24 = .ok (.invokevirtual 143, 3) := by decide +kernel
theorem dX6_letBeginAnew_27 : decode cX6_letBeginAnew 27 = .ok (.ireturn, 1) := by decide +kernel
theorem dX6_letLoad_0 : decode cX6_letLoad 0 = .ok (.aload_n 0, 1) := by decide +kernel
theorem dX6_letLoad_1 : decode cX6_letLoad 1 = .ok (.iload_n 1, 1) := by decide +kernel
theorem dX6_letLoad_2 : decode cX6_letLoad 2 = .ok (.invokevirtual 62, 3) := by decide +kernel
theorem dX6_letLoad_5 : decode cX6_letLoad 5 = .ok (.astore_n 3, 1) := by decide +kernel
theorem dX6_letLoad_6 : decode cX6_letLoad 6 = .ok (.aload_n 0, 1) := by decide +kernel
theorem dX6_letLoad_7 : decode cX6_letLoad 7 = .ok (.iload_n 2, 1) := by decide +kernel
theorem dX6_letLoad_8 : decode cX6_letLoad 8 = .ok (.invokevirtual 69, 3) := by decide +kernel
theorem dX6_letLoad_11 : decode cX6_letLoad 11 = .ok (.astore 4, 2) := by decide +kernel
theorem dX6_letLoad_13 : decode cX6_letLoad 13 = .ok (.aload_n 3, 1) := by decide +kernel
theorem dX6_letLoad_14 : decode cX6_letLoad 14 = .ok (.ifnull 8, 3) := by decide +kernel
theorem dX6_letLoad_17 : decode cX6_letLoad 17 = .ok (.aload 4, 2) := by decide +kernel
theorem dX6_letLoad_19 : decode cX6_letLoad 19 = .ok (.ifnonnull 5, 3) := by decide +kernel
theorem dX6_letLoad_22 : decode cX6_letLoad 22 = .ok (.iconst (-1), 1) := by decide +kernel
theorem dX6_letLoad_23 : decode cX6_letLoad 23 = .ok (.ireturn, 1) := by decide +kernel
theorem dX6_letLoad_24 : decode cX6_letLoad 24 = .ok (.aload 4, 2) := by decide +kernel
theorem dX6_letLoad_26 : decode cX6_letLoad 26 = .ok (.getfield 116, 3) := by decide +kernel
theorem dX6_letLoad_29 : decode cX6_letLoad 29 = .ok (.aload_n 0, 1) := by decide +kernel
theorem dX6_letLoad_30 : decode cX6_letLoad 30 = .ok (.getfield 37, 3) := by decide +kernel
theorem dX6_letLoad_33 : decode cX6_letLoad 33 = .ok (.getfield 107, 3) := by decide +kernel
theorem dX6_letLoad_36 : decode cX6_letLoad 36 = .ok (.invokestatic 129, 3) := by decide +kernel
theorem dX6_letLoad_39 : decode cX6_letLoad 39 = .ok (.ifCond .eq 6, 3) := by decide +kernel
theorem dX6_letLoad_42 : decode cX6_letLoad 42 = .ok (.bipush (-5), 2) := by decide +kernel
theorem dX6_letLoad_44 : decode cX6_letLoad 44 = .ok (.ireturn, 1) := by decide +kernel
theorem dX6_letLoad_45 : decode cX6_letLoad 45 = .ok (.aload_n 3, 1) := by decide +kernel
theorem dX6_letLoad_46 : decode cX6_letLoad 46 = .ok (.aload 4, 2) := by decide +kernel
theorem dX6_letLoad_48 : decode cX6_letLoad 48 = .ok (.invokevirtual 146, 3) := by decide +kernel
theorem dX6_letLoad_51 : decode cX6_letLoad 51 = .ok (.aload_n 3, 1) := by decide +kernel
theorem dX6_letLoad_52 : decode cX6_letLoad 52 = .ok (.getfield 126, 3) := by decide +kernel
theorem dX6_letLoad_55 : decode cX6_letLoad 55 = .ok (.ireturn, 1) := by decide +kernel
theorem dX6_lateBelow_0 : decode cX6_lateBelow 0 = .ok (.iconst 0, 1) := by decide +kernel
theorem dX6_lateBelow_1 : decode cX6_lateBelow 1 = .ok (.istore_n 2, 1) := by decide +kernel
theorem dX6_lateBelow_2 : decode cX6_lateBelow 2 = .ok (.iconst 0, 1) := by decide +kernel
theorem dX6_lateBelow_3 : decode cX6_lateBelow 3 = .ok (.istore_n 3, 1) := by decide +kernel
theorem dX6_lateBelow_4 : decode cX6_lateBelow 4 = .ok (.iload_n 3, 1) := by decide +kernel
theorem dX6_lateBelow_5 : decode cX6_lateBelow 5 = .ok (.aload_n 0, 1) := by decide +kernel
theorem dX6_lateBelow_6 : decode cX6_lateBelow 6 = .ok (.getfield 21, 3) := by decide +kernel
theorem dX6_lateBelow_9 : decode cX6_lateBelow 9 = .ok (.if_icmp .ge 39, 3) := by decide +kernel
theorem dX6_lateBelow_12 : decode cX6_lateBelow 12 = .ok (.aload_n 0, 1) := by decide +kernel
theorem dX6_lateBelow_13 : decode cX6_lateBelow 13 = .ok (.iload_n 3, 1) := by decide +kernel
theorem dX6_lateBelow_14 : decode cX6_lateBelow 14 = .ok (.invokevirtual 62, 3) := by decide +kernel
theorem dX6_lateBelow_17 : decode cX6_lateBelow 17 = .ok (.astore 4, 2) := by decide +kernel
theorem dX6_lateBelow_19 : decode cX6_lateBelow 19 = .ok (.aload 4, 2) := by decide +kernel
theorem dX6_lateBelow_21 : decode cX6_lateBelow 21 = .ok (.ifnull 21, 3) := by decide +kernel
theorem dX6_lateBelow_24 : decode cX6_lateBelow 24 = .ok (.aload 4, 2) := by decide +kernel
theorem dX6_lateBelow_26 : decode cX6_lateBelow 26 = .ok (.getfield 126, 3) := by decide +kernel
theorem dX6_lateBelow_29 : decode cX6_lateBelow 29 = .ok (.iload_n 1, 1) := by decide +kernel
theorem dX6_lateBelow_30 : decode cX6_lateBelow 30 = .ok (.invokestatic 129, 3) := by decide +kernel
theorem dX6_lateBelow_33 : decode cX6_lateBelow 33 = .ok (.ifCond .eq 9, 3) := by decide +kernel
theorem dX6_lateBelow_36 : decode cX6_lateBelow 36 = .ok (.iload_n 2, 1) := by decide +kernel
theorem dX6_lateBelow_37 : decode cX6_lateBelow 37 = .ok (.iconst 1, 1) := by decide +kernel
theorem dX6_lateBelow_38 : decode cX6_lateBelow 38 = .ok (.iload_n 3, 1) := by decide +kernel
theorem dX6_lateBelow_39 : decode cX6_lateBelow 39 = .ok (.ishl, 1) := by decide +kernel
theorem dX6_lateBelow_40 : decode cX6_lateBelow 40 = .ok (.ior, 1) := by decide +kernel
theorem dX6_lateBelow_41 : decode cX6_lateBelow 41 = .ok (.istore_n 2, 1) := by decide +kernel
theorem dX6_lateBelow_42 : decode cX6_lateBelow 42 = .ok (.iinc 3 1, 3) := by decide +kernel
theorem dX6_lateBelow_45 : decode cX6_lateBelow 45 = .ok (.goto (-41), 3) := by decide +kernel
theorem dX6_lateBelow_48 : decode cX6_lateBelow 48 = .ok (.iload_n 2, 1) := by decide +kernel
theorem dX6_lateBelow_49 : decode cX6_lateBelow 49 = .ok (.ireturn, 1) := by decide +kernel
theorem dX6_entriesOnWay_0 : decode cX6_entriesOnWay 0 = .ok (.iload_n 2, 1) := by decide +kernel
theorem dX6_entriesOnWay_1 : decode cX6_entriesOnWay 1 = .ok (.iconst 5, 1) := by decide +kernel
theorem dX6_entriesOnWay_2 : decode cX6_entriesOnWay 2 = .ok (.if_icmp .ne 11, 3) := by decide +kernel
theorem dX6_entriesOnWay_5 : decode cX6_entriesOnWay 5 = .ok (.aload_n 0, 1) := by decide +kernel
theorem dX6_entriesOnWay_6 : decode cX6_entriesOnWay 6 = .ok (.getfield 37, 3) := by decide +kernel
theorem dX6_entriesOnWay_9 : decode cX6_entriesOnWay 9 = .ok (.getfield 149, 3) := by decide +kernel
theorem dX6_entriesOnWay_12 : decode cX6_entriesOnWay 12 = .ok (.ireturn, 1) := by decide +kernel
theorem dX6_entriesOnWay_13 : decode cX6_entriesOnWay 13 = .ok (.iload_n 2, 1) := by decide +kernel
theorem dX6_entriesOnWay_14 : decode cX6_entriesOnWay 14 = .ok (.ifCond .ne 12, 3) := by decide +kernel
theorem dX6_entriesOnWay_17 : decode cX6_entriesOnWay 17 = .ok (.aload_n 0, 1) := by decide +kernel
theorem dX6_entriesOnWay_18 : decode cX6_entriesOnWay 18 = .ok (.aload_n 1, 1) := by decide +kernel
theorem dX6_entriesOnWay_19 : decode cX6_entriesOnWay 19 = .ok (.getfield 126, 3) := by decide +kernel
theorem dX6_entriesOnWay_22 : decode cX6_entriesOnWay 22 = .ok (.invokevirtual 152, 3) := by decide +kernel
theorem dX6_entriesOnWay_25 : decode cX6_entriesOnWay 25 = .ok (.ireturn, 1) := by decide +kernel
theorem dX6_entriesOnWay_26 : decode cX6_entriesOnWay 26 = .ok (.aload_n 0, 1) := by decide +kernel
theorem dX6_entriesOnWay_27 : decode cX6_entriesOnWay 27 = .ok (.iload_n 2, 1) := by decide +kernel
theorem dX6_entriesOnWay_28 : decode cX6_entriesOnWay 28 = .ok (.iconst 1, 1) := by decide +kernel
theorem dX6_entriesOnWay_29 : decode cX6_entriesOnWay 29 = .ok (.isub, 1) := by decide +kernel
theorem dX6_entriesOnWay_30 : decode cX6_entriesOnWay 30 = .ok (.invokevirtual 69, 3) := by decide +kernel
theorem dX6_entriesOnWay_33 : decode cX6_entriesOnWay 33 = .ok (.astore_n 3, 1) := by decide +kernel
theorem dX6_entriesOnWay_34 : decode cX6_entriesOnWay 34 = .ok (.aload_n 3, 1) := by decide +kernel
theorem dX6_entriesOnWay_35 : decode cX6_entriesOnWay 35 = .ok (.ifnonnull 8, 3) := by decide +kernel
theorem dX6_entriesOnWay_38 : decode cX6_entriesOnWay 38 = .ok (.bipush (-6), 2) := by decide +kernel
theorem dX6_entriesOnWay_40 : decode cX6_entriesOnWay 40 = .ok (.goto 11, 3) := by decide +kernel
theorem dX6_entriesOnWay_43 : decode cX6_entriesOnWay 43 = .ok (.aload_n 0, 1) := by decide +kernel
theorem dX6_entriesOnWay_44 : decode cX6_entriesOnWay 44 = .ok (.aload_n 3, 1) := by decide +kernel
theorem dX6_entriesOnWay_45 : decode cX6_entriesOnWay 45 = .ok (.getfield 116, 3) := by decide +kernel
theorem dX6_entriesOnWay_48 : decode cX6_entriesOnWay 48 = .ok (.invokevirtual 152, 3) := by decide +kernel
theorem dX6_entriesOnWay_51 : decode cX6_entriesOnWay 51 = .ok (.ireturn, 1) := by decide +kernel
theorem dX6_aheadUnlessLate_0 : decode cX6_aheadUnlessLate 0 = .ok (.iload_n 1, 1) := by decide +kernel
theorem dX6_aheadUnlessLate_1 : decode cX6_aheadUnlessLate 1 = .ok (.aload_n 0, 1) := by decide +kernel
theorem dX6_aheadUnlessLate_2 : decode cX6_aheadUnlessLate 2 = .ok (.getfield 37, 3) := by decide +kernel
theorem dX6_aheadUnlessLate_5 : decode cX6_aheadUnlessLate 5 = .ok (.getfield 107, 3) := by decide +kernel
theorem dX6_aheadUnlessLate_8 : decode cX6_aheadUnlessLate 8 = .ok (.invokestatic 129, 3) := by decide +kernel
theorem dX6_aheadUnlessLate_11 : decode cX6_aheadUnlessLate 11 = .ok (.ifCond .eq 8, 3) := by decide +kernel
theorem dX6_aheadUnlessLate_14 : decode cX6_aheadUnlessLate 14 = .ok (.bipush (-6), 2) := by decide +kernel
theorem dX6_aheadUnlessLate_16 : decode cX6_aheadUnlessLate 16 = .ok (.goto 11, 3) := by decide +kernel
theorem dX6_aheadUnlessLate_19 : decode cX6_aheadUnlessLate 19 = .ok (.aload_n 0, 1) := by decide +kernel
theorem dX6_aheadUnlessLate_20 : decode cX6_aheadUnlessLate 20 = .ok (.getfield 37, 3) := by decide +kernel
theorem dX6_aheadUnlessLate_23 : decode cX6_aheadUnlessLate 23 = .ok (.iload_n 1, 1) := by decide +kernel
theorem dX6_aheadUnlessLate_24 : decode cX6_aheadUnlessLate 24 = .ok (.invokevirtual 143, 3) := by decide +kernel
theorem dX6_aheadUnlessLate_27 : decode cX6_aheadUnlessLate 27 = .ok (.ireturn, 1) := by decide +kernel
theorem dX6_shortestWay_0 : decode cX6_shortestWay 0 = .ok (.iconst 5, 1) := by decide +kernel
theorem dX6_shortestWay_1 : decode cX6_shortestWay 1 = .ok (.istore_n 2, 1) := by decide +kernel
theorem dX6_shortestWay_2 : decode cX6_shortestWay 2 = .ok (.aload_n 0, 1) := by decide +kernel
theorem dX6_shortestWay_3 : decode cX6_shortestWay 3 = .ok (.aload_n 1, 1) := by decide +kernel
theorem dX6_shortestWay_4 : decode cX6_shortestWay 4 = .ok (.iload_n 2, 1) := by decide +kernel
theorem dX6_shortestWay_5 : decode cX6_shortestWay 5 = .ok (.invokevirtual 155, 3) := by decide +kernel
theorem dX6_shortestWay_8 : decode cX6_shortestWay 8 = .ok (.istore_n 3, 1) := by decide +kernel
theorem dX6_shortestWay_9 : decode cX6_shortestWay 9 = .ok (.iconst 4, 1) := by decide +kernel
theorem dX6_shortestWay_10 : decode cX6_shortestWay 10 = .ok (.istore 4, 2) := by decide +kernel
theorem dX6_shortestWay_12 : decode cX6_shortestWay 12 = .ok (.iload 4, 2) := by decide +kernel
theorem dX6_shortestWay_14 : decode cX6_shortestWay 14 = .ok (.ifCond .lt 37, 3) := by decide +kernel
theorem dX6_shortestWay_17 : decode cX6_shortestWay 17 = .ok (.aload_n 0, 1) := by decide +kernel
theorem dX6_shortestWay_18 : decode cX6_shortestWay 18 = .ok (.aload_n 1, 1) := by decide +kernel
theorem dX6_shortestWay_19 : decode cX6_shortestWay 19 = .ok (.iload 4, 2) := by decide +kernel
theorem dX6_shortestWay_21 : decode cX6_shortestWay 21 = .ok (.invokevirtual 155, 3) := by decide +kernel
theorem dX6_shortestWay_24 : decode cX6_shortestWay 24 = .ok (.istore 5, 2) := by decide +kernel
theorem dX6_shortestWay_26 : decode cX6_shortestWay 26 = .ok (.iload 5, 2) := by decide +kernel
theorem dX6_shortestWay_28 : decode cX6_shortestWay 28 = .ok (.bipush (-6), 2) := by decide +kernel
theorem dX6_shortestWay_30 : decode cX6_shortestWay 30 = .ok (.if_icmp .eq 15, 3) := by decide +kernel
theorem dX6_shortestWay_33 : decode cX6_shortestWay 33 = .ok (.iload 5, 2) := by decide +kernel
theorem dX6_shortestWay_35 : decode cX6_shortestWay 35 = .ok (.iload_n 3, 1) := by decide +kernel
theorem dX6_shortestWay_36 : decode cX6_shortestWay 36 = .ok (.if_icmp .gt 9, 3) := by decide +kernel
theorem dX6_shortestWay_39 : decode cX6_shortestWay 39 = .ok (.iload 4, 2) := by decide +kernel
theorem dX6_shortestWay_41 : decode cX6_shortestWay 41 = .ok (.istore_n 2, 1) := by decide +kernel
theorem dX6_shortestWay_42 : decode cX6_shortestWay 42 = .ok (.iload 5, 2) := by decide +kernel
theorem dX6_shortestWay_44 : decode cX6_shortestWay 44 = .ok (.istore_n 3, 1) := by decide +kernel
theorem dX6_shortestWay_45 : decode cX6_shortestWay 45 = .ok (.iinc 4 (-1), 3) := by decide +kernel
theorem dX6_shortestWay_48 : decode cX6_shortestWay 48 = .ok (.goto (-36), 3) := by decide +kernel
theorem dX6_shortestWay_51 : decode cX6_shortestWay 51 = .ok (.iload_n 2, 1) := by decide +kernel
theorem dX6_shortestWay_52 : decode cX6_shortestWay 52 = .ok (.ireturn, 1) := by decide +kernel
theorem dX7_init_0 : decode cX7_init 0 = .ok (.aload_n 0, 1) := by decide +kernel
theorem dX7_init_1 : decode cX7_init 1 = .ok (.invokespecial 3, 3) := by decide +kernel
theorem dX7_init_4 : decode cX7_init 4 = .ok (.aload_n 0, 1) := by decide +kernel
theorem dX7_init_5 : decode cX7_init 5 = .ok (.bipush 12, 2) := by decide +kernel
theorem dX7_init_7 : decode cX7_init 7 = .ok (.newarray .int, 2) := by decide +kernel
theorem dX7_init_9 : decode cX7_init 9 = .ok (.putfield 9, 3) := by decide +kernel
theorem dX7_init_12 : decode cX7_init 12 = .ok (.aload_n 0, 1) := by decide +kernel
theorem dX7_init_13 : decode cX7_init 13 = .ok (.invokevirtual 15, 3) := by decide +kernel
theorem dX7_init_16 : decode cX7_init 16 = .ok (.return_, 1) := by decide +kernel
theorem dX7_clear_0 : decode cX7_clear 0 = .ok (.iconst 0, 1) := by decide +kernel
theorem dX7_clear_1 : decode cX7_clear 1 = .ok (.istore_n 1, 1) := by decide +kernel
theorem dX7_clear_2 : decode cX7_clear 2 = .ok (.iload_n 1, 1) := by decide +kernel
theorem dX7_clear_3 : decode cX7_clear 3 = .ok (.bipush 12, 2) := by decide +kernel
theorem dX7_clear_5 : decode cX7_clear 5 = .ok (.if_icmp .ge 19, 3) := by decide +kernel
theorem dX7_clear_8 : decode cX7_clear 8 = .ok (.aload_n 0, 1) := by decide +kernel
theorem dX7_clear_9 : decode cX7_clear 9 = .ok (.getfield 9, 3) := by decide +kernel
theorem dX7_clear_12 : decode cX7_clear 12 = .ok (.iload_n 1, 1) := by decide +kernel
theorem dX7_clear_13 : decode cX7_clear 13 = .ok (.bipush (-6), 2) := by decide +kernel
theorem dX7_clear_15 : decode cX7_clear 15 = .ok (.invokestatic 18, 3) := by decide +kernel
theorem dX7_clear_18 : decode cX7_clear 18 = .ok (.iinc 1 1, 3) := by decide +kernel
theorem dX7_clear_21 : decode cX7_clear 21 = .ok (.goto (-19), 3) := by decide +kernel
theorem dX7_clear_24 : decode cX7_clear 24 = .ok (.return_, 1) := by decide +kernel
theorem dX7_copyFrom_0 : decode cX7_copyFrom 0 = .ok (.aload_n 1, 1) := by decide +kernel
theorem dX7_copyFrom_1 : decode cX7_copyFrom 1 = .ok (.getfield 9, 3) := by decide +kernel
theorem dX7_copyFrom_4 : decode cX7_copyFrom 4 = .ok (.aload_n 0, 1) := by decide +kernel
theorem dX7_copyFrom_5 : decode cX7_copyFrom 5 = .ok (.getfield 9, 3) := by decide +kernel
theorem dX7_copyFrom_8 : decode cX7_copyFrom 8 = .ok (.invokestatic 22, 3) := by decide +kernel
theorem dX7_copyFrom_11 : decode cX7_copyFrom 11 = .ok (.return_, 1) := by decide +kernel
theorem dX7_of_0 : decode cX7_of 0 = .ok (.aload_n 0, 1) := by decide +kernel
theorem dX7_of_1 : decode cX7_of 1 = .ok (.getfield 9, 3) := by decide +kernel
theorem dX7_of_4 : decode cX7_of 4 = .ok (.iload_n 1, 1) := by decide +kernel
theorem dX7_of_5 : decode cX7_of 5 = .ok (.invokestatic 26, 3) := by decide +kernel
theorem dX7_of_8 : decode cX7_of 8 = .ok (.ireturn, 1) := by decide +kernel
theorem dX7_change_0 : decode cX7_change 0 = .ok (.aload_n 0, 1) := by decide +kernel
theorem dX7_change_1 : decode cX7_change 1 = .ok (.getfield 9, 3) := by decide +kernel
theorem dX7_change_4 : decode cX7_change 4 = .ok (.iload_n 1, 1) := by decide +kernel
theorem dX7_change_5 : decode cX7_change 5 = .ok (.iload_n 2, 1) := by decide +kernel
theorem dX7_change_6 : decode cX7_change 6 = .ok (.invokestatic 18, 3) := by decide +kernel
theorem dX7_change_9 : decode cX7_change 9 = .ok (.return_, 1) := by decide +kernel
theorem dX7_howMany_0 : decode cX7_howMany 0 = .ok (.iconst 0, 1) := by decide +kernel
theorem dX7_howMany_1 : decode cX7_howMany 1 = .ok (.istore_n 1, 1) := by decide +kernel
theorem dX7_howMany_2 : decode cX7_howMany 2 = .ok (.iconst 0, 1) := by decide +kernel
theorem dX7_howMany_3 : decode cX7_howMany 3 = .ok (.istore_n 2, 1) := by decide +kernel
theorem dX7_howMany_4 : decode cX7_howMany 4 = .ok (.iload_n 2, 1) := by decide +kernel
theorem dX7_howMany_5 : decode cX7_howMany 5 = .ok (.bipush 12, 2) := by decide +kernel
theorem dX7_howMany_7 : decode cX7_howMany 7 = .ok (.if_icmp .ge 22, 3) := by decide +kernel
theorem dX7_howMany_10 : decode cX7_howMany 10 = .ok (.aload_n 0, 1) := by decide +kernel
theorem dX7_howMany_11 : decode cX7_howMany 11 = .ok (.iload_n 2, 1) := by decide +kernel
theorem dX7_howMany_12 : decode cX7_howMany 12 = .ok (.invokevirtual 30, 3) := by decide +kernel
theorem dX7_howMany_15 : decode cX7_howMany 15 = .ok (.bipush (-6), 2) := by decide +kernel
theorem dX7_howMany_17 : decode cX7_howMany 17 = .ok (.if_icmp .eq 6, 3) := by decide +kernel
theorem dX7_howMany_20 : decode cX7_howMany 20 = .ok (.iinc 1 1, 3) := by decide +kernel
theorem dX7_howMany_23 : decode cX7_howMany 23 = .ok (.iinc 2 1, 3) := by decide +kernel
theorem dX7_howMany_26 : decode cX7_howMany 26 = .ok (.goto (-22), 3) := by decide +kernel
theorem dX7_howMany_29 : decode cX7_howMany 29 = .ok (.iload_n 1, 1) := by decide +kernel
theorem dX7_howMany_30 : decode cX7_howMany 30 = .ok (.ireturn, 1) := by decide +kernel
theorem dX7_differingFrom_0 : decode cX7_differingFrom 0 = .ok (.iconst 0, 1) := by decide +kernel
theorem dX7_differingFrom_1 : decode cX7_differingFrom 1 = .ok (.istore_n 2, 1) := by decide +kernel
theorem dX7_differingFrom_2 : decode cX7_differingFrom 2 = .ok (.iconst 0, 1) := by decide +kernel
theorem dX7_differingFrom_3 : decode cX7_differingFrom 3 = .ok (.istore_n 3, 1) := by decide +kernel
theorem dX7_differingFrom_4 : decode cX7_differingFrom 4 = .ok (.iload_n 3, 1) := by decide +kernel
theorem dX7_differingFrom_5 : decode cX7_differingFrom 5 = .ok (.bipush 12, 2) := by decide +kernel
theorem dX7_differingFrom_7 : decode cX7_differingFrom 7 = .ok (.if_icmp .ge 28, 3) := by decide +kernel
theorem dX7_differingFrom_10 : decode cX7_differingFrom 10 = .ok (.aload_n 0, 1) := by decide +kernel
theorem dX7_differingFrom_11 : decode cX7_differingFrom 11 = .ok (.iload_n 3, 1) := by decide +kernel
theorem dX7_differingFrom_12 : decode cX7_differingFrom 12 = .ok (.invokevirtual 30, 3) := by decide +kernel
theorem dX7_differingFrom_15 : decode cX7_differingFrom 15 = .ok (.aload_n 1, 1) := by decide +kernel
theorem dX7_differingFrom_16 : decode cX7_differingFrom 16 = .ok (.iload_n 3, 1) := by decide +kernel
theorem dX7_differingFrom_17 : decode cX7_differingFrom 17 = .ok (.invokevirtual 30, 3) := by decide +kernel
theorem dX7_differingFrom_20 : decode cX7_differingFrom 20 = .ok (.if_icmp .eq 9, 3) := by decide +kernel
theorem dX7_differingFrom_23 : decode cX7_differingFrom 23 = .ok (.iload_n 2, 1) := by decide +kernel
theorem dX7_differingFrom_24 : decode cX7_differingFrom 24 = .ok (.iconst 1, 1) := by decide +kernel
theorem dX7_differingFrom_25 : decode cX7_differingFrom 25 = .ok (.iload_n 3, 1) := by decide +kernel
theorem dX7_differingFrom_26 : decode cX7_differingFrom 26 = .ok (.ishl, 1) := by decide +kernel
theorem dX7_differingFrom_27 : decode cX7_differingFrom 27 = .ok (.ior, 1) := by decide +kernel
theorem dX7_differingFrom_28 : decode cX7_differingFrom 28 = .ok (.istore_n 2, 1) := by decide +kernel
theorem dX7_differingFrom_29 : decode cX7_differingFrom 29 = .ok (.iinc 3 1, 3) := by decide +kernel
theorem dX7_differingFrom_32 : decode cX7_differingFrom 32 = .ok (.goto (-28), 3) := by decide +kernel
theorem dX7_differingFrom_35 : decode cX7_differingFrom 35 = .ok (.iload_n 2, 1) := by decide +kernel
theorem dX7_differingFrom_36 : decode cX7_differingFrom 36 = .ok (.ireturn, 1) := by decide +kernel
theorem dX8_init_0 : decode cX8_init 0 = .ok (.aload_n 0, 1) := by decide +kernel
theorem dX8_init_1 : decode cX8_init 1 = .ok (.invokespecial 1, 3) := by decide +kernel
theorem dX8_init_4 : decode cX8_init 4 = .ok (.aload_n 0, 1) := by decide +kernel
theorem dX8_init_5 : decode cX8_init 5 = .ok (.new 7, 3) := by decide +kernel
theorem dX8_init_8 : decode cX8_init 8 = .ok (.dup, 1) := by decide +kernel
theorem dX8_init_9 : decode cX8_init 9 = .ok (.invokespecial 9, 3) := by decide +kernel
theorem dX8_init_12 : decode cX8_init 12 = .ok (.putfield 10, 3) := by decide +kernel
theorem dX8_init_15 : decode cX8_init 15 = .ok (.aload_n 0, 1) := by decide +kernel
theorem dX8_init_16 : decode cX8_init 16 = .ok (.new 16, 3) := by decide +kernel
theorem dX8_init_19 : decode cX8_init 19 = .ok (.dup, 1) := by decide +kernel
theorem dX8_init_20 : decode cX8_init 20 = .ok (.invokespecial 18, 3) := by decide +kernel
theorem dX8_init_23 : decode cX8_init 23 = .ok (.putfield 19, 3) := by decide +kernel
theorem dX8_init_26 : decode cX8_init 26 = .ok (.aload_n 0, 1) := by decide +kernel
theorem dX8_init_27 : decode cX8_init 27 = .ok (.new 23, 3) := by decide +kernel
theorem dX8_init_30 : decode cX8_init 30 = .ok (.dup, 1) := by decide +kernel
theorem dX8_init_31 : decode cX8_init 31 = .ok (.invokespecial 25, 3) := by decide +kernel
theorem dX8_init_34 : decode cX8_init 34 = .ok (.putfield 26, 3) := by decide +kernel
theorem dX8_init_37 : decode cX8_init 37 = .ok (.aload_n 0, 1) := by decide +kernel
theorem dX8_init_38 : decode cX8_init 38 = .ok (.iconst 2, 1) := by decide +kernel
theorem dX8_init_39 : decode cX8_init 39 = .ok (.anewarray 30, 3) := by decide +kernel
theorem dX8_init_42 : decode cX8_init 42 = .ok (.putfield 32, 3) := by decide +kernel
theorem dX8_init_45 : decode cX8_init 45 = .ok (.iconst 0, 1) := by decide +kernel
theorem dX8_init_46 : decode cX8_init 46 = .ok (.istore_n 1, 1) := by decide +kernel
theorem dX8_init_47 : decode cX8_init 47 = .ok (.iload_n 1, 1) := by decide +kernel
theorem dX8_init_48 : decode cX8_init 48 = .ok (.aload_n 0, 1) := by decide +kernel
theorem dX8_init_49 : decode cX8_init 49 = .ok (.getfield 32, 3) := by decide +kernel
theorem dX8_init_52 : decode cX8_init 52 = .ok (.arraylength, 1) := by decide +kernel
theorem dX8_init_53 : decode cX8_init 53 = .ok (.if_icmp .ge 22, 3) := by decide +kernel
theorem dX8_init_56 : decode cX8_init 56 = .ok (.aload_n 0, 1) := by decide +kernel
theorem dX8_init_57 : decode cX8_init 57 = .ok (.getfield 32, 3) := by decide +kernel
theorem dX8_init_60 : decode cX8_init 60 = .ok (.iload_n 1, 1) := by decide +kernel
theorem dX8_init_61 : decode cX8_init 61 = .ok (.new 30, 3) := by decide +kernel
theorem dX8_init_64 : decode cX8_init 64 = .ok (.dup, 1) := by decide +kernel
theorem dX8_init_65 : decode cX8_init 65 = .ok (.invokespecial 36, 3) := by decide +kernel
theorem dX8_init_68 : decode cX8_init 68 = .ok (.aastore, 1) := by decide +kernel
theorem dX8_init_69 : decode cX8_init 69 = .ok (.iinc 1 1, 3) := by decide +kernel
theorem dX8_init_72 : decode cX8_init 72 = .ok (.goto (-25), 3) := by decide +kernel
theorem dX8_init_75 : decode cX8_init 75 = .ok (.return_, 1) := by decide +kernel
theorem dX8_turn_0 : decode cX8_turn 0 = .ok (.aload_n 0, 1) := by decide +kernel
theorem dX8_turn_1 : decode cX8_turn 1 = .ok (.getfield 19, 3) := by decide +kernel
theorem dX8_turn_4 : decode cX8_turn 4 = .ok (.aload_n 0, 1) := by decide +kernel
theorem dX8_turn_5 : decode cX8_turn 5 = .ok (.getfield 10, 3) := by decide +kernel
theorem dX8_turn_8 : decode cX8_turn 8 = .ok (.invokevirtual 37, 3) := by decide +kernel
theorem dX8_turn_11 : decode cX8_turn 11 = .ok (.aload_n 0, 1) := by decide +kernel
theorem dX8_turn_12 : decode cX8_turn 12 = .ok (.getfield 19, 3) := by decide +kernel
theorem dX8_turn_15 : decode cX8_turn 15 = .ok (.aload_n 0, 1) := by decide +kernel
theorem dX8_turn_16 : decode cX8_turn 16 = .ok (.getfield 10, 3) := by decide +kernel
theorem dX8_turn_19 : decode cX8_turn 19 = .ok (.iload_n 1, 1) := by decide +kernel
theorem dX8_turn_20 : decode cX8_turn 20 = .ok (.iload_n 2, 1) := by decide +kernel
theorem dX8_turn_21 : decode cX8_turn 21 = .ok (.invokevirtual 41, 3) := by decide +kernel
theorem dX8_turn_24 : decode cX8_turn 24 = .ok (.invokevirtual 45, 3) := by decide +kernel
theorem dX8_turn_27 : decode cX8_turn 27 = .ok (.ireturn, 1) := by decide +kernel
theorem dX8_set_0 : decode cX8_set 0 = .ok (.aload_n 0, 1) := by decide +kernel
theorem dX8_set_1 : decode cX8_set 1 = .ok (.getfield 19, 3) := by decide +kernel
theorem dX8_set_4 : decode cX8_set 4 = .ok (.aload_n 0, 1) := by decide +kernel
theorem dX8_set_5 : decode cX8_set 5 = .ok (.getfield 10, 3) := by decide +kernel
theorem dX8_set_8 : decode cX8_set 8 = .ok (.invokevirtual 37, 3) := by decide +kernel
theorem dX8_set_11 : decode cX8_set 11 = .ok (.aload_n 0, 1) := by decide +kernel
theorem dX8_set_12 : decode cX8_set 12 = .ok (.getfield 19, 3) := by decide +kernel
theorem dX8_set_15 : decode cX8_set 15 = .ok (.aload_n 0, 1) := by decide +kernel
theorem dX8_set_16 : decode cX8_set 16 = .ok (.getfield 10, 3) := by decide +kernel
theorem dX8_set_19 : decode cX8_set 19 = .ok (.iload_n 1, 1) := by decide +kernel
theorem dX8_set_20 : decode cX8_set 20 = .ok (.iload_n 2, 1) := by decide +kernel
theorem dX8_set_21 : decode cX8_set 21 = .ok (.invokevirtual 49, 3) := by decide +kernel
theorem dX8_set_24 : decode cX8_set 24 = .ok (.invokevirtual 45, 3) := by decide +kernel
theorem dX8_set_27 : decode cX8_set 27 = .ok (.ireturn, 1) := by decide +kernel
theorem dX8_remove_0 : decode cX8_remove 0 = .ok (.aload_n 0, 1) := by decide +kernel
theorem dX8_remove_1 : decode cX8_remove 1 = .ok (.getfield 19, 3) := by decide +kernel
theorem dX8_remove_4 : decode cX8_remove 4 = .ok (.aload_n 0, 1) := by decide +kernel
theorem dX8_remove_5 : decode cX8_remove 5 = .ok (.getfield 10, 3) := by decide +kernel
theorem dX8_remove_8 : decode cX8_remove 8 = .ok (.invokevirtual 37, 3) := by decide +kernel
theorem dX8_remove_11 : decode cX8_remove 11 = .ok (.aload_n 0, 1) := by decide +kernel
theorem dX8_remove_12 : decode cX8_remove 12 = .ok (.getfield 19, 3) := by decide +kernel
theorem dX8_remove_15 : decode cX8_remove 15 = .ok (.aload_n 0, 1) := by decide +kernel
theorem dX8_remove_16 : decode cX8_remove 16 = .ok (.getfield 10, 3) := by decide +kernel
theorem dX8_remove_19 : decode cX8_remove 19 = .ok (.iload_n 1, 1) := by decide +kernel
theorem dX8_remove_20 : decode cX8_remove 20 = .ok (.invokevirtual 52, 3) := by decide +kernel
theorem dX8_remove_23 : decode cX8_remove 23 = .ok (.invokevirtual 45, 3) := by decide +kernel
theorem dX8_remove_26 : decode cX8_remove 26 = .ok (.ireturn, 1) := by decide +kernel
theorem dX8_pass_0 : decode cX8_pass 0 = .ok (.aload_n 0, 1) := by decide +kernel
theorem dX8_pass_1 : decode cX8_pass 1 = .ok (.getfield 19, 3) := by decide +kernel
theorem dX8_pass_4 : decode cX8_pass 4 = .ok (.aload_n 0, 1) := by decide +kernel
theorem dX8_pass_5 : decode cX8_pass 5 = .ok (.getfield 10, 3) := by decide +kernel
theorem dX8_pass_8 : decode cX8_pass 8 = .ok (.invokevirtual 37, 3) := by decide +kernel
theorem dX8_pass_11 : decode cX8_pass 11 = .ok (.aload_n 0, 1) := by decide +kernel
theorem dX8_pass_12 : decode cX8_pass 12 = .ok (.getfield 19, 3) := by decide +kernel
theorem dX8_pass_15 : decode cX8_pass 15 = .ok (.aload_n 0, 1) := by decide +kernel
theorem dX8_pass_16 : decode cX8_pass 16 = .ok (.getfield 10, 3) := by decide +kernel
theorem dX8_pass_19 : decode cX8_pass 19 = .ok (.iload_n 1, 1) := by decide +kernel
theorem dX8_pass_20 : decode cX8_pass 20 = .ok (.invokevirtual 55, 3) := by decide +kernel
theorem dX8_pass_23 : decode cX8_pass 23 = .ok (.invokevirtual 45, 3) := by decide +kernel
theorem dX8_pass_26 : decode cX8_pass 26 = .ok (.ireturn, 1) := by decide +kernel
theorem dX8_thin_0 : decode cX8_thin 0 = .ok (.aload_n 0, 1) := by decide +kernel
theorem dX8_thin_1 : decode cX8_thin 1 = .ok (.getfield 19, 3) := by decide +kernel
theorem dX8_thin_4 : decode cX8_thin 4 = .ok (.aload_n 0, 1) := by decide +kernel
theorem dX8_thin_5 : decode cX8_thin 5 = .ok (.getfield 10, 3) := by decide +kernel
theorem dX8_thin_8 : decode cX8_thin 8 = .ok (.invokevirtual 37, 3) := by decide +kernel
theorem dX8_thin_11 : decode cX8_thin 11 = .ok (.aload_n 0, 1) := by decide +kernel
theorem dX8_thin_12 : decode cX8_thin 12 = .ok (.getfield 19, 3) := by decide +kernel
theorem dX8_thin_15 : decode cX8_thin 15 = .ok (.aload_n 0, 1) := by decide +kernel
theorem dX8_thin_16 : decode cX8_thin 16 = .ok (.getfield 10, 3) := by decide +kernel
theorem dX8_thin_19 : decode cX8_thin 19 = .ok (.invokevirtual 58, 3) := by decide +kernel
theorem dX8_thin_22 : decode cX8_thin 22 = .ok (.invokevirtual 45, 3) := by decide +kernel
theorem dX8_thin_25 : decode cX8_thin 25 = .ok (.ireturn, 1) := by decide +kernel
theorem dX8_snapshot_0 : decode cX8_snapshot 0 = .ok (.aload_n 0, 1) := by decide +kernel
theorem dX8_snapshot_1 : decode cX8_snapshot 1 = .ok (.getfield 19, 3) := by decide +kernel
theorem dX8_snapshot_4 : decode cX8_snapshot 4 = .ok (.aload_n 0, 1) := by decide +kernel
theorem dX8_snapshot_5 : decode cX8_snapshot 5 = .ok (.getfield 10, 3) := by decide +kernel
theorem dX8_snapshot_8 : decode cX8_snapshot 8 = .ok (.invokevirtual 37, 3) := by decide +kernel
theorem dX8_snapshot_11 : decode cX8_snapshot 11 = .ok (.aload_n 0, 1) := by decide +kernel
theorem dX8_snapshot_12 : decode cX8_snapshot 12 = .ok (.getfield 19, 3) := by decide +kernel
theorem dX8_snapshot_15 : decode cX8_snapshot 15 = .ok (.aload_n 0, 1) := by decide +kernel
theorem dX8_snapshot_16 : decode cX8_snapshot 16 = .ok (.getfield 10, 3) := by decide +kernel
theorem dX8_snapshot_19 : decode cX8_snapshot 19 = .ok (.invokevirtual 62, 3) := by decide +kernel
theorem dX8_snapshot_22 : decode cX8_snapshot 22 = .ok (.invokevirtual 45, 3) := by decide +kernel
theorem dX8_snapshot_25 : decode cX8_snapshot 25 = .ok (.ireturn, 1) := by decide +kernel
theorem dX8_reader_0 : decode cX8_reader 0 = .ok (.aload_n 0, 1) := by decide +kernel
theorem dX8_reader_1 : decode cX8_reader 1 = .ok (.getfield 19, 3) := by decide +kernel
theorem dX8_reader_4 : decode cX8_reader 4 = .ok (.aload_n 0, 1) := by decide +kernel
theorem dX8_reader_5 : decode cX8_reader 5 = .ok (.getfield 10, 3) := by decide +kernel
theorem dX8_reader_8 : decode cX8_reader 8 = .ok (.invokevirtual 37, 3) := by decide +kernel
theorem dX8_reader_11 : decode cX8_reader 11 = .ok (.aload_n 0, 1) := by decide +kernel
theorem dX8_reader_12 : decode cX8_reader 12 = .ok (.getfield 19, 3) := by decide +kernel
theorem dX8_reader_15 : decode cX8_reader 15 = .ok (.aload_n 0, 1) := by decide +kernel
theorem dX8_reader_16 : decode cX8_reader 16 = .ok (.getfield 10, 3) := by decide +kernel
theorem dX8_reader_19 : decode cX8_reader 19 = .ok (.invokevirtual 65, 3) := by decide +kernel
theorem dX8_reader_22 : decode cX8_reader 22 = .ok (.invokevirtual 45, 3) := by decide +kernel
theorem dX8_reader_25 : decode cX8_reader 25 = .ok (.ireturn, 1) := by decide +kernel
theorem dX8_read_0 : decode cX8_read 0 = .ok (.aload_n 0, 1) := by decide +kernel
theorem dX8_read_1 : decode cX8_read 1 = .ok (.getfield 19, 3) := by decide +kernel
theorem dX8_read_4 : decode cX8_read 4 = .ok (.aload_n 0, 1) := by decide +kernel
theorem dX8_read_5 : decode cX8_read 5 = .ok (.getfield 10, 3) := by decide +kernel
theorem dX8_read_8 : decode cX8_read 8 = .ok (.invokevirtual 37, 3) := by decide +kernel
theorem dX8_read_11 : decode cX8_read 11 = .ok (.aload_n 0, 1) := by decide +kernel
theorem dX8_read_12 : decode cX8_read 12 = .ok (.getfield 19, 3) := by decide +kernel
theorem dX8_read_15 : decode cX8_read 15 = .ok (.aload_n 0, 1) := by decide +kernel
theorem dX8_read_16 : decode cX8_read 16 = .ok (.getfield 10, 3) := by decide +kernel
theorem dX8_read_19 : decode cX8_read 19 = .ok (.iload_n 1, 1) := by decide +kernel
theorem dX8_read_20 : decode cX8_read 20 = .ok (.iload_n 2, 1) := by decide +kernel
theorem dX8_read_21 : decode cX8_read 21 = .ok (.invokevirtual 68, 3) := by decide +kernel
theorem dX8_read_24 : decode cX8_read 24 = .ok (.invokevirtual 45, 3) := by decide +kernel
theorem dX8_read_27 : decode cX8_read 27 = .ok (.ireturn, 1) := by decide +kernel
theorem dX8_confirm_0 : decode cX8_confirm 0 = .ok (.aload_n 0, 1) := by decide +kernel
theorem dX8_confirm_1 : decode cX8_confirm 1 = .ok (.getfield 19, 3) := by decide +kernel
theorem dX8_confirm_4 : decode cX8_confirm 4 = .ok (.aload_n 0, 1) := by decide +kernel
theorem dX8_confirm_5 : decode cX8_confirm 5 = .ok (.getfield 10, 3) := by decide +kernel
theorem dX8_confirm_8 : decode cX8_confirm 8 = .ok (.invokevirtual 37, 3) := by decide +kernel
theorem dX8_confirm_11 : decode cX8_confirm 11 = .ok (.aload_n 0, 1) := by decide +kernel
theorem dX8_confirm_12 : decode cX8_confirm 12 = .ok (.getfield 19, 3) := by decide +kernel
theorem dX8_confirm_15 : decode cX8_confirm 15 = .ok (.aload_n 0, 1) := by decide +kernel
theorem dX8_confirm_16 : decode cX8_confirm 16 = .ok (.getfield 10, 3) := by decide +kernel
theorem dX8_confirm_19 : decode cX8_confirm 19 = .ok (.iload_n 1, 1) := by decide +kernel
theorem dX8_confirm_20 : decode cX8_confirm 20 = .ok (.invokevirtual 71, 3) := by decide +kernel
theorem dX8_confirm_23 : decode cX8_confirm 23 = .ok (.invokevirtual 45, 3) := by decide +kernel
theorem dX8_confirm_26 : decode cX8_confirm 26 = .ok (.ireturn, 1) := by decide +kernel
theorem dX8_goBack_0 : decode cX8_goBack 0 = .ok (.aload_n 0, 1) := by decide +kernel
theorem dX8_goBack_1 : decode cX8_goBack 1 = .ok (.getfield 19, 3) := by decide +kernel
theorem dX8_goBack_4 : decode cX8_goBack 4 = .ok (.aload_n 0, 1) := by decide +kernel
theorem dX8_goBack_5 : decode cX8_goBack 5 = .ok (.getfield 10, 3) := by decide +kernel
theorem dX8_goBack_8 : decode cX8_goBack 8 = .ok (.invokevirtual 37, 3) := by decide +kernel
theorem dX8_goBack_11 : decode cX8_goBack 11 = .ok (.aload_n 0, 1) := by decide +kernel
theorem dX8_goBack_12 : decode cX8_goBack 12 = .ok (.getfield 19, 3) := by decide +kernel
theorem dX8_goBack_15 : decode cX8_goBack 15 = .ok (.aload_n 0, 1) := by decide +kernel
theorem dX8_goBack_16 : decode cX8_goBack 16 = .ok (.getfield 10, 3) := by decide +kernel
theorem dX8_goBack_19 : decode cX8_goBack 19 = .ok (.iload_n 1, 1) := by decide +kernel
theorem dX8_goBack_20 : decode cX8_goBack 20 = .ok (.invokevirtual 74, 3) := by decide +kernel
theorem dX8_goBack_23 : decode cX8_goBack 23 = .ok (.invokevirtual 45, 3) := by decide +kernel
theorem dX8_goBack_26 : decode cX8_goBack 26 = .ok (.ireturn, 1) := by decide +kernel
theorem dX8_beginAnew_0 : decode cX8_beginAnew 0 = .ok (.aload_n 0, 1) := by decide +kernel
theorem dX8_beginAnew_1 : decode cX8_beginAnew 1 = .ok (.getfield 19, 3) := by decide +kernel
theorem dX8_beginAnew_4 : decode cX8_beginAnew 4 = .ok (.aload_n 0, 1) := by decide +kernel
theorem dX8_beginAnew_5 : decode cX8_beginAnew 5 = .ok (.getfield 10, 3) := by decide +kernel
theorem dX8_beginAnew_8 : decode cX8_beginAnew 8 = .ok (.invokevirtual 37, 3) := by decide +kernel
theorem dX8_beginAnew_11 : decode cX8_beginAnew 11 = .ok (.aload_n 0, 1) := by decide +kernel
theorem dX8_beginAnew_12 : decode cX8_beginAnew 12 = .ok (.getfield 19, 3) := by decide +kernel
theorem dX8_beginAnew_15 : decode cX8_beginAnew 15 = .ok (.aload_n 0, 1) := by decide +kernel
theorem dX8_beginAnew_16 : decode cX8_beginAnew 16 = .ok (.getfield 10, 3) := by decide +kernel
theorem dX8_beginAnew_19 : decode cX8_beginAnew 19 = .ok (.iload_n 1, 1) := by decide +kernel
theorem dX8_beginAnew_20 : decode cX8_beginAnew 20 = .ok (.invokevirtual 77, 3) := by decide +kernel
theorem dX8_beginAnew_23 : decode cX8_beginAnew 23 = .ok (.invokevirtual 45, 3) := by decide +kernel
theorem dX8_beginAnew_26 : decode cX8_beginAnew 26 = .ok (.ireturn, 1) := by decide +kernel
theorem dX8_load_0 : decode cX8_load 0 = .ok (.aload_n 0, 1) := by decide +kernel
theorem dX8_load_1 : decode cX8_load 1 = .ok (.getfield 19, 3) := by decide +kernel
theorem dX8_load_4 : decode cX8_load 4 = .ok (.aload_n 0, 1) := by decide +kernel
theorem dX8_load_5 : decode cX8_load 5 = .ok (.getfield 10, 3) := by decide +kernel
theorem dX8_load_8 : decode cX8_load 8 = .ok (.invokevirtual 37, 3) := by decide +kernel
theorem dX8_load_11 : decode cX8_load 11 = .ok (.aload_n 0, 1) := by decide +kernel
theorem dX8_load_12 : decode cX8_load 12 = .ok (.getfield 19, 3) := by decide +kernel
theorem dX8_load_15 : decode cX8_load 15 = .ok (.aload_n 0, 1) := by decide +kernel
theorem dX8_load_16 : decode cX8_load 16 = .ok (.getfield 10, 3) := by decide +kernel
theorem dX8_load_19 : decode cX8_load 19 = .ok (.iload_n 1, 1) := by decide +kernel
theorem dX8_load_20 : decode cX8_load 20 = .ok (.iload_n 2, 1) := by decide +kernel
theorem dX8_load_21 : decode cX8_load 21 = .ok (.invokevirtual 80, 3) := by decide +kernel
theorem dX8_load_24 : decode cX8_load 24 = .ok (.invokevirtual 45, 3) := by decide +kernel
theorem dX8_load_27 : decode cX8_load 27 = .ok (.ireturn, 1) := by decide +kernel
theorem dX8_table_0 : decode cX8_table 0 = .ok (.iload_n 1, 1) := by decide +kernel
theorem dX8_table_1 : decode cX8_table 1 = .ok (.invokestatic 83, 3) := by decide +kernel
theorem dX8_table_4 : decode cX8_table 4 = .ok (.ifCond .eq 17, 3) := by decide +kernel
theorem dX8_table_7 : decode cX8_table 7 = .ok (.aload_n 0, 1) := by decide +kernel
theorem dX8_table_8 : decode cX8_table 8 = .ok (.getfield 10, 3) := by decide +kernel
theorem dX8_table_11 : decode cX8_table 11 = .ok (.getfield 87, 3) := by decide +kernel
theorem dX8_table_14 : decode cX8_table 14 = .ok (.iload_n 1, 1) := by decide +kernel
theorem dX8_table_15 : decode cX8_table 15 = .ok (.invokevirtual 91, 3) := by decide +kernel
theorem dX8_table_18 : decode cX8_table 18 = .ok (.goto 4, 3) := by decide +kernel
theorem dX8_table_21 : decode cX8_table 21 = .ok (.iconst (-1), 1) := by decide +kernel
theorem dX8_table_22 : decode cX8_table 22 = .ok (.ireturn, 1) := by decide +kernel
theorem dX8_view_0 : decode cX8_view 0 = .ok (.aload_n 0, 1) := by decide +kernel
theorem dX8_view_1 : decode cX8_view 1 = .ok (.getfield 10, 3) := by decide +kernel
theorem dX8_view_4 : decode cX8_view 4 = .ok (.iload_n 1, 1) := by decide +kernel
theorem dX8_view_5 : decode cX8_view 5 = .ok (.invokevirtual 96, 3) := by decide +kernel
theorem dX8_view_8 : decode cX8_view 8 = .ok (.astore_n 3, 1) := by decide +kernel
theorem dX8_view_9 : decode cX8_view 9 = .ok (.aload_n 3, 1) := by decide +kernel
theorem dX8_view_10 : decode cX8_view 10 = .ok (.ifnull 10, 3) := by decide +kernel
theorem dX8_view_13 : decode cX8_view 13 = .ok (.iload_n 2, 1) := by decide +kernel
theorem dX8_view_14 : decode cX8_view 14 = .ok (.invokestatic 83, 3) := by decide +kernel
theorem dX8_view_17 : decode cX8_view 17 = .ok (.ifCond .ne 5, 3) := by decide +kernel
theorem dX8_view_20 : decode cX8_view 20 = .ok (.iconst (-1), 1) := by decide +kernel
theorem dX8_view_21 : decode cX8_view 21 = .ok (.ireturn, 1) := by decide +kernel
theorem dX8_view_22 : decode cX8_view 22 = .ok (.aload_n 3, 1) := by decide +kernel
theorem dX8_view_23 : decode cX8_view 23 = .ok (.getfield 100, 3) := by decide +kernel
theorem dX8_view_26 : decode cX8_view 26 = .ok (.iload_n 2, 1) := by decide +kernel
theorem dX8_view_27 : decode cX8_view 27 = .ok (.invokevirtual 91, 3) := by decide +kernel
theorem dX8_view_30 : decode cX8_view 30 = .ok (.ireturn, 1) := by decide +kernel
theorem dX8_entry_0 : decode cX8_entry 0 = .ok (.aload_n 0, 1) := by decide +kernel
theorem dX8_entry_1 : decode cX8_entry 1 = .ok (.getfield 10, 3) := by decide +kernel
theorem dX8_entry_4 : decode cX8_entry 4 = .ok (.getfield 105, 3) := by decide +kernel
theorem dX8_entry_7 : decode cX8_entry 7 = .ok (.astore_n 3, 1) := by decide +kernel
theorem dX8_entry_8 : decode cX8_entry 8 = .ok (.iload_n 1, 1) := by decide +kernel
theorem dX8_entry_9 : decode cX8_entry 9 = .ok (.ifCond .lt 11, 3) := by decide +kernel
theorem dX8_entry_12 : decode cX8_entry 12 = .ok (.iload_n 1, 1) := by decide +kernel
theorem dX8_entry_13 : decode cX8_entry 13 = .ok (.aload_n 3, 1) := by decide +kernel
theorem dX8_entry_14 : decode cX8_entry 14 = .ok (.getfield 109, 3) := by decide +kernel
theorem dX8_entry_17 : decode cX8_entry 17 = .ok (.if_icmp .lt 5, 3) := by decide +kernel
theorem dX8_entry_20 : decode cX8_entry 20 = .ok (.iconst (-1), 1) := by decide +kernel
theorem dX8_entry_21 : decode cX8_entry 21 = .ok (.ireturn, 1) := by decide +kernel
theorem dX8_entry_22 : decode cX8_entry 22 = .ok (.iload_n 2, 1) := by decide +kernel
theorem dX8_entry_23 : decode cX8_entry 23 = .ok (.tableswitch 86 0 5 #[37, 43, 49, 55, 61, 70], 37) := by decide +kernel
theorem dX8_entry_60 : decode cX8_entry 60 = .ok (.aload_n 3, 1) := by decide +kernel
theorem dX8_entry_61 : decode cX8_entry 61 = .ok (.iload_n 1, 1) := by decide +kernel
theorem dX8_entry_62 : decode cX8_entry 62 = .ok (.invokevirtual 115, 3) := by decide +kernel
theorem dX8_entry_65 : decode cX8_entry 65 = .ok (.ireturn, 1) := by decide +kernel
theorem dX8_entry_66 : decode cX8_entry 66 = .ok (.aload_n 3, 1) := by decide +kernel
theorem dX8_entry_67 : decode cX8_entry 67 = .ok (.iload_n 1, 1) := by decide +kernel
theorem dX8_entry_68 : decode cX8_entry 68 = .ok (.invokevirtual 118, 3) := by decide +kernel
theorem dX8_entry_71 : decode cX8_entry 71 = .ok (.ireturn, 1) := by decide +kernel
theorem dX8_entry_72 : decode cX8_entry 72 = .ok (.aload_n 3, 1) := by decide +kernel
theorem dX8_entry_73 : decode cX8_entry 73 = .ok (.iload_n 1, 1) := by decide +kernel
theorem dX8_entry_74 : decode cX8_entry 74 = .ok (.invokevirtual 121, 3) := by decide +kernel
theorem dX8_entry_77 : decode cX8_entry 77 = .ok (.ireturn, 1) := by decide +kernel
theorem dX8_entry_78 : decode cX8_entry 78 = .ok (.aload_n 3, 1) := by decide +kernel
theorem dX8_entry_79 : decode cX8_entry 79 = .ok (.iload_n 1, 1) := by decide +kernel
theorem dX8_entry_80 : decode cX8_entry 80 = .ok (.invokevirtual 124, 3) := by decide +kernel
theorem dX8_entry_83 : decode cX8_entry 83 = .ok (.ireturn, 1) := by decide +kernel
theorem dX8_entry_84 : decode cX8_entry 84 = .ok (.aload_n 3, 1) := by decide +kernel
theorem dX8_entry_85 : decode cX8_entry 85 = .ok (.iload_n 1, 1) := by decide +kernel
theorem dX8_entry_86 : decode cX8_entry 86 = .ok (.invokevirtual 127, 3) := by decide +kernel
theorem dX8_entry_89 : decode cX8_entry 89 = .ok (.invokestatic 130, 3) := by decide +kernel
theorem dX8_entry_92 : decode cX8_entry 92 = .ok (.ireturn, 1) := by decide +kernel
theorem dX8_entry_93 : decode cX8_entry 93 = .ok (.aload_n 3, 1) := by decide +kernel
theorem dX8_entry_94 : decode cX8_entry 94 = .ok (.iload_n 1, 1) := by decide +kernel
theorem dX8_entry_95 : decode cX8_entry 95 = .ok (.aload_n 0, 1) := by decide +kernel
theorem dX8_entry_96 : decode cX8_entry 96 = .ok (.getfield 10, 3) := by decide +kernel
theorem dX8_entry_99 : decode cX8_entry 99 = .ok (.getfield 134, 3) := by decide +kernel
theorem dX8_entry_102 : decode cX8_entry 102 = .ok (.invokevirtual 137, 3) := by decide +kernel
theorem dX8_entry_105 : decode cX8_entry 105 = .ok (.invokestatic 130, 3) := by decide +kernel
theorem dX8_entry_108 : decode cX8_entry 108 = .ok (.ireturn, 1) := by decide +kernel
theorem dX8_entry_109 : decode cX8_entry 109 = .ok (.bipush (-2), 2) := by decide +kernel
theorem dX8_entry_111 : decode cX8_entry 111 = .ok (.ireturn, 1) := by decide +kernel
theorem dX8_ofReader_0 : decode cX8_ofReader 0 = .ok (.aload_n 0, 1) := by decide +kernel
theorem dX8_ofReader_1 : decode cX8_ofReader 1 = .ok (.getfield 10, 3) := by decide +kernel
theorem dX8_ofReader_4 : decode cX8_ofReader 4 = .ok (.iload_n 1, 1) := by decide +kernel
theorem dX8_ofReader_5 : decode cX8_ofReader 5 = .ok (.invokevirtual 96, 3) := by decide +kernel
theorem dX8_ofReader_8 : decode cX8_ofReader 8 = .ok (.astore_n 3, 1) := by decide +kernel
theorem dX8_ofReader_9 : decode cX8_ofReader 9 = .ok (.aload_n 3, 1) := by decide +kernel
theorem dX8_ofReader_10 : decode cX8_ofReader 10 = .ok (.ifnonnull 5, 3) := by decide +kernel
theorem dX8_ofReader_13 : decode cX8_ofReader 13 = .ok (.iconst (-1), 1) := by decide +kernel
theorem dX8_ofReader_14 : decode cX8_ofReader 14 = .ok (.ireturn, 1) := by decide +kernel
theorem dX8_ofReader_15 : decode cX8_ofReader 15 = .ok (.iload_n 2, 1) := by decide +kernel
theorem dX8_ofReader_16 : decode cX8_ofReader 16 = .ok (.tableswitch 125 0 6 #[44, 49, 54, 69, 90, 95, 110], 44) := by decide +kernel
theorem dX8_ofReader_60 : decode cX8_ofReader 60 = .ok (.aload_n 3, 1) := by decide +kernel
theorem dX8_ofReader_61 : decode cX8_ofReader 61 = .ok (.getfield 141, 3) := by decide +kernel
theorem dX8_ofReader_64 : decode cX8_ofReader 64 = .ok (.ireturn, 1) := by decide +kernel
theorem dX8_ofReader_65 : decode cX8_ofReader 65 = .ok (.aload_n 3, 1) := by decide +kernel
theorem dX8_ofReader_66 : decode cX8_ofReader 66 = .ok (.getfield 144, 3) := by decide +kernel
theorem dX8_ofReader_69 : decode cX8_ofReader 69 = .ok (.ireturn, 1) := by decide +kernel
theorem dX8_ofReader_70 : decode cX8_ofReader 70 = .ok (.aload_n 0, 1) := by decide +kernel
theorem dX8_ofReader_71 : decode cX8_ofReader 71 = .ok (.getfield 10, 3) := by decide +kernel
theorem dX8_ofReader_74 : decode cX8_ofReader 74 = .ok (.getfield 105, 3) := by decide +kernel
theorem dX8_ofReader_77 : decode cX8_ofReader 77 = .ok (.aload_n 3, 1) := by decide +kernel
theorem dX8_ofReader_78 : decode cX8_ofReader 78 = .ok (.getfield 141, 3) := by decide +kernel
theorem dX8_ofReader_81 : decode cX8_ofReader 81 = .ok (.invokevirtual 147, 3) := by decide +kernel
theorem dX8_ofReader_84 : decode cX8_ofReader 84 = .ok (.ireturn, 1) := by decide +kernel
theorem dX8_ofReader_85 : decode cX8_ofReader 85 = .ok (.aload_n 3, 1) := by decide +kernel
theorem dX8_ofReader_86 : decode cX8_ofReader 86 = .ok (.getfield 141, 3) := by decide +kernel
theorem dX8_ofReader_89 : decode cX8_ofReader 89 = .ok (.aload_n 0, 1) := by decide +kernel
theorem dX8_ofReader_90 : decode cX8_ofReader 90 = .ok (.getfield 10, 3) := by decide +kernel
theorem dX8_ofReader_93 : decode cX8_ofReader 93 = .ok (.getfield 105, 3) := by decide +kernel
theorem dX8_ofReader_96 : decode cX8_ofReader 96 = .ok (.getfield 150, 3) := by decide +kernel
theorem dX8_ofReader_99 : decode cX8_ofReader 99 = .ok (.invokestatic 153, 3) := by decide +kernel
theorem dX8_ofReader_102 : decode cX8_ofReader 102 = .ok (.invokestatic 130, 3) := by decide +kernel
theorem dX8_ofReader_105 : decode cX8_ofReader 105 = .ok (.ireturn, 1) := by decide +kernel
theorem dX8_ofReader_106 : decode cX8_ofReader 106 = .ok (.aload_n 3, 1) := by decide +kernel
theorem dX8_ofReader_107 : decode cX8_ofReader 107 = .ok (.getfield 156, 3) := by decide +kernel
theorem dX8_ofReader_110 : decode cX8_ofReader 110 = .ok (.ireturn, 1) := by decide +kernel
theorem dX8_ofReader_111 : decode cX8_ofReader 111 = .ok (.aload_n 3, 1) := by decide +kernel
theorem dX8_ofReader_112 : decode cX8_ofReader 112 = .ok (.getfield 100, 3) := by decide +kernel
theorem dX8_ofReader_115 : decode cX8_ofReader 115 = .ok (.aload_n 0, 1) := by decide +kernel
theorem dX8_ofReader_116 : decode cX8_ofReader 116 = .ok (.getfield 10, 3) := by decide +kernel
theorem dX8_ofReader_119 : decode cX8_ofReader 119 = .ok (.getfield 87, 3) := by decide +kernel
theorem dX8_ofReader_122 : decode cX8_ofReader 122 = .ok (.invokevirtual 159, 3) := by decide +kernel
theorem dX8_ofReader_125 : decode cX8_ofReader 125 = .ok (.ireturn, 1) := by decide +kernel
theorem dX8_ofReader_126 : decode cX8_ofReader 126 = .ok (.aload_n 3, 1) := by decide +kernel
theorem dX8_ofReader_127 : decode cX8_ofReader 127 = .ok (.getfield 163, 3) := by decide +kernel
theorem dX8_ofReader_130 : decode cX8_ofReader 130 = .ok (.aload_n 0, 1) := by decide +kernel
theorem dX8_ofReader_131 : decode cX8_ofReader 131 = .ok (.getfield 10, 3) := by decide +kernel
theorem dX8_ofReader_134 : decode cX8_ofReader 134 = .ok (.getfield 87, 3) := by decide +kernel
theorem dX8_ofReader_137 : decode cX8_ofReader 137 = .ok (.invokevirtual 159, 3) := by decide +kernel
theorem dX8_ofReader_140 : decode cX8_ofReader 140 = .ok (.ireturn, 1) := by decide +kernel
theorem dX8_ofReader_141 : decode cX8_ofReader 141 = .ok (.bipush (-2), 2) := by decide +kernel
theorem dX8_ofReader_143 : decode cX8_ofReader 143 = .ok (.ireturn, 1) := by decide +kernel
theorem dX8_ofSnapshot_0 : decode cX8_ofSnapshot 0 = .ok (.aload_n 0, 1) := by decide +kernel
theorem dX8_ofSnapshot_1 : decode cX8_ofSnapshot 1 = .ok (.getfield 10, 3) := by decide +kernel
theorem dX8_ofSnapshot_4 : decode cX8_ofSnapshot 4 = .ok (.iload_n 1, 1) := by decide +kernel
theorem dX8_ofSnapshot_5 : decode cX8_ofSnapshot 5 = .ok (.invokevirtual 166, 3) := by decide +kernel
theorem dX8_ofSnapshot_8 : decode cX8_ofSnapshot 8 = .ok (.astore_n 3, 1) := by decide +kernel
theorem dX8_ofSnapshot_9 : decode cX8_ofSnapshot 9 = .ok (.aload_n 3, 1) := by decide +kernel
theorem dX8_ofSnapshot_10 : decode cX8_ofSnapshot 10 = .ok (.ifnonnull 5, 3) := by decide +kernel
theorem dX8_ofSnapshot_13 : decode cX8_ofSnapshot 13 = .ok (.iconst (-1), 1) := by decide +kernel
theorem dX8_ofSnapshot_14 : decode cX8_ofSnapshot 14 = .ok (.ireturn, 1) := by decide +kernel
theorem dX8_ofSnapshot_15 : decode cX8_ofSnapshot 15 = .ok (.iload_n 2, 1) := by decide +kernel
theorem dX8_ofSnapshot_16 : decode cX8_ofSnapshot 16 = .ok (.tableswitch 56 0 2 #[28, 33, 41], 28) := by decide +kernel
theorem dX8_ofSnapshot_44 : decode cX8_ofSnapshot 44 = .ok (.aload_n 3, 1) := by decide +kernel
theorem dX8_ofSnapshot_45 : decode cX8_ofSnapshot 45 = .ok (.getfield 170, 3) := by decide +kernel
theorem dX8_ofSnapshot_48 : decode cX8_ofSnapshot 48 = .ok (.ireturn, 1) := by decide +kernel
theorem dX8_ofSnapshot_49 : decode cX8_ofSnapshot 49 = .ok (.aload_n 3, 1) := by decide +kernel
theorem dX8_ofSnapshot_50 : decode cX8_ofSnapshot 50 = .ok (.getfield 175, 3) := by decide +kernel
theorem dX8_ofSnapshot_53 : decode cX8_ofSnapshot 53 = .ok (.invokevirtual 176, 3) := by decide +kernel
theorem dX8_ofSnapshot_56 : decode cX8_ofSnapshot 56 = .ok (.ireturn, 1) := by decide +kernel
theorem dX8_ofSnapshot_57 : decode cX8_ofSnapshot 57 = .ok (.aload_n 0, 1) := by decide +kernel
theorem dX8_ofSnapshot_58 : decode cX8_ofSnapshot 58 = .ok (.getfield 10, 3) := by decide +kernel
theorem dX8_ofSnapshot_61 : decode cX8_ofSnapshot 61 = .ok (.getfield 105, 3) := by decide +kernel
theorem dX8_ofSnapshot_64 : decode cX8_ofSnapshot 64 = .ok (.aload_n 3, 1) := by decide +kernel
theorem dX8_ofSnapshot_65 : decode cX8_ofSnapshot 65 = .ok (.getfield 170, 3) := by decide +kernel
theorem dX8_ofSnapshot_68 : decode cX8_ofSnapshot 68 = .ok (.invokevirtual 147, 3) := by decide +kernel
theorem dX8_ofSnapshot_71 : decode cX8_ofSnapshot 71 = .ok (.ireturn, 1) := by decide +kernel
theorem dX8_ofSnapshot_72 : decode cX8_ofSnapshot 72 = .ok (.bipush (-2), 2) := by decide +kernel
theorem dX8_ofSnapshot_74 : decode cX8_ofSnapshot 74 = .ok (.ireturn, 1) := by decide +kernel
theorem dX8_count_0 : decode cX8_count 0 = .ok (.iload_n 1, 1) := by decide +kernel
theorem dX8_count_1 : decode cX8_count 1 = .ok (.tableswitch 196 0 12 #[67, 78, 89, 100, 108, 119, 130, 138, 156, 164, 172, 180, 188], 67) := by decide +kernel
theorem dX8_count_68 : decode cX8_count 68 = .ok (.aload_n 0, 1) := by decide +kernel
theorem dX8_count_69 : decode cX8_count 69 = .ok (.getfield 10, 3) := by decide +kernel
theorem dX8_count_72 : decode cX8_count 72 = .ok (.getfield 105, 3) := by decide +kernel
theorem dX8_count_75 : decode cX8_count 75 = .ok (.getfield 109, 3) := by decide +kernel
theorem dX8_count_78 : decode cX8_count 78 = .ok (.ireturn, 1) := by decide +kernel
theorem dX8_count_79 : decode cX8_count 79 = .ok (.aload_n 0, 1) := by decide +kernel
theorem dX8_count_80 : decode cX8_count 80 = .ok (.getfield 10, 3) := by decide +kernel
theorem dX8_count_83 : decode cX8_count 83 = .ok (.getfield 105, 3) := by decide +kernel
theorem dX8_count_86 : decode cX8_count 86 = .ok (.getfield 179, 3) := by decide +kernel
theorem dX8_count_89 : decode cX8_count 89 = .ok (.ireturn, 1) := by decide +kernel
theorem dX8_count_90 : decode cX8_count 90 = .ok (.aload_n 0, 1) := by decide +kernel
theorem dX8_count_91 : decode cX8_count 91 = .ok (.getfield 10, 3) := by decide +kernel
theorem dX8_count_94 : decode cX8_count 94 = .ok (.getfield 87, 3) := by decide +kernel
theorem dX8_count_97 : decode cX8_count 97 = .ok (.invokevirtual 176, 3) := by decide +kernel
theorem dX8_count_100 : decode cX8_count 100 = .ok (.ireturn, 1) := by decide +kernel
theorem dX8_count_101 : decode cX8_count 101 = .ok (.aload_n 0, 1) := by decide +kernel
theorem dX8_count_102 : decode cX8_count 102 = .ok (.getfield 10, 3) := by decide +kernel
theorem dX8_count_105 : decode cX8_count 105 = .ok (.getfield 182, 3) := by decide +kernel
theorem dX8_count_108 : decode cX8_count 108 = .ok (.ireturn, 1) := by decide +kernel
theorem dX8_count_109 : decode cX8_count 109 = .ok (.aload_n 0, 1) := by decide +kernel
theorem dX8_count_110 : decode cX8_count 110 = .ok (.getfield 10, 3) := by decide +kernel
theorem dX8_count_113 : decode cX8_count 113 = .ok (.getfield 105, 3) := by decide +kernel
theorem dX8_count_116 : decode cX8_count 116 = .ok (.getfield 150, 3) := by decide +kernel
theorem dX8_count_119 : decode cX8_count 119 = .ok (.ireturn, 1) := by decide +kernel
theorem dX8_count_120 : decode cX8_count 120 = .ok (.aload_n 0, 1) := by decide +kernel
theorem dX8_count_121 : decode cX8_count 121 = .ok (.getfield 10, 3) := by decide +kernel
theorem dX8_count_124 : decode cX8_count 124 = .ok (.getfield 105, 3) := by decide +kernel
theorem dX8_count_127 : decode cX8_count 127 = .ok (.getfield 185, 3) := by decide +kernel
theorem dX8_count_130 : decode cX8_count 130 = .ok (.ireturn, 1) := by decide +kernel
theorem dX8_count_131 : decode cX8_count 131 = .ok (.aload_n 0, 1) := by decide +kernel
theorem dX8_count_132 : decode cX8_count 132 = .ok (.getfield 10, 3) := by decide +kernel
theorem dX8_count_135 : decode cX8_count 135 = .ok (.getfield 188, 3) := by decide +kernel
theorem dX8_count_138 : decode cX8_count 138 = .ok (.ireturn, 1) := by decide +kernel
theorem dX8_count_139 : decode cX8_count 139 = .ok (.aload_n 0, 1) := by decide +kernel
theorem dX8_count_140 : decode cX8_count 140 = .ok (.getfield 10, 3) := by decide +kernel
theorem dX8_count_143 : decode cX8_count 143 = .ok (.aload_n 0, 1) := by decide +kernel
theorem dX8_count_144 : decode cX8_count 144 = .ok (.getfield 10, 3) := by decide +kernel
theorem dX8_count_147 : decode cX8_count 147 = .ok (.getfield 105, 3) := by decide +kernel
theorem dX8_count_150 : decode cX8_count 150 = .ok (.getfield 150, 3) := by decide +kernel
theorem dX8_count_153 : decode cX8_count 153 = .ok (.invokevirtual 191, 3) := by decide +kernel
theorem dX8_count_156 : decode cX8_count 156 = .ok (.ireturn, 1) := by decide +kernel
theorem dX8_count_157 : decode cX8_count 157 = .ok (.aload_n 0, 1) := by decide +kernel
theorem dX8_count_158 : decode cX8_count 158 = .ok (.getfield 10, 3) := by decide +kernel
theorem dX8_count_161 : decode cX8_count 161 = .ok (.getfield 194, 3) := by decide +kernel
theorem dX8_count_164 : decode cX8_count 164 = .ok (.ireturn, 1) := by decide +kernel
theorem dX8_count_165 : decode cX8_count 165 = .ok (.aload_n 0, 1) := by decide +kernel
theorem dX8_count_166 : decode cX8_count 166 = .ok (.getfield 10, 3) := by decide +kernel
theorem dX8_count_169 : decode cX8_count 169 = .ok (.getfield 134, 3) := by decide +kernel
theorem dX8_count_172 : decode cX8_count 172 = .ok (.ireturn, 1) := by decide +kernel
theorem dX8_count_173 : decode cX8_count 173 = .ok (.aload_n 0, 1) := by decide +kernel
theorem dX8_count_174 : decode cX8_count 174 = .ok (.getfield 10, 3) := by decide +kernel
theorem dX8_count_177 : decode cX8_count 177 = .ok (.getfield 197, 3) := by decide +kernel
theorem dX8_count_180 : decode cX8_count 180 = .ok (.ireturn, 1) := by decide +kernel
theorem dX8_count_181 : decode cX8_count 181 = .ok (.aload_n 0, 1) := by decide +kernel
theorem dX8_count_182 : decode cX8_count 182 = .ok (.getfield 26, 3) := by decide +kernel
theorem dX8_count_185 : decode cX8_count 185 = .ok (.getfield 200, 3) := by decide +kernel
theorem dX8_count_188 : decode cX8_count 188 = .ok (.ireturn, 1) := by decide +kernel
theorem dX8_count_189 : decode cX8_count 189 = .ok (.aload_n 0, 1) := by decide +kernel
theorem dX8_count_190 : decode cX8_count 190 = .ok (.getfield 19, 3) := by decide +kernel
theorem dX8_count_193 : decode cX8_count 193 = .ok (.getfield 203, 3) := by decide +kernel
theorem dX8_count_196 : decode cX8_count 196 = .ok (.ireturn, 1) := by decide +kernel
theorem dX8_count_197 : decode cX8_count 197 = .ok (.bipush (-2), 2) := by decide +kernel
theorem dX8_count_199 : decode cX8_count 199 = .ok (.ireturn, 1) := by decide +kernel
theorem dX8_leftIn_0 : decode cX8_leftIn 0 = .ok (.iload_n 1, 1) := by decide +kernel
theorem dX8_leftIn_1 : decode cX8_leftIn 1 = .ok (.invokestatic 204, 3) := by decide +kernel
theorem dX8_leftIn_4 : decode cX8_leftIn 4 = .ok (.ifCond .ne 6, 3) := by decide +kernel
theorem dX8_leftIn_7 : decode cX8_leftIn 7 = .ok (.bipush (-2), 2) := by decide +kernel
theorem dX8_leftIn_9 : decode cX8_leftIn 9 = .ok (.ireturn, 1) := by decide +kernel
theorem dX8_leftIn_10 : decode cX8_leftIn 10 = .ok (.aload_n 0, 1) := by decide +kernel
theorem dX8_leftIn_11 : decode cX8_leftIn 11 = .ok (.getfield 10, 3) := by decide +kernel
theorem dX8_leftIn_14 : decode cX8_leftIn 14 = .ok (.getfield 105, 3) := by decide +kernel
theorem dX8_leftIn_17 : decode cX8_leftIn 17 = .ok (.aload_n 0, 1) := by decide +kernel
theorem dX8_leftIn_18 : decode cX8_leftIn 18 = .ok (.getfield 10, 3) := by decide +kernel
theorem dX8_leftIn_21 : decode cX8_leftIn 21 = .ok (.getfield 134, 3) := by decide +kernel
theorem dX8_leftIn_24 : decode cX8_leftIn 24 = .ok (.aload_n 0, 1) := by decide +kernel
theorem dX8_leftIn_25 : decode cX8_leftIn 25 = .ok (.getfield 10, 3) := by decide +kernel
theorem dX8_leftIn_28 : decode cX8_leftIn 28 = .ok (.getfield 197, 3) := by decide +kernel
theorem dX8_leftIn_31 : decode cX8_leftIn 31 = .ok (.aload_n 0, 1) := by decide +kernel
theorem dX8_leftIn_32 : decode cX8_leftIn 32 = .ok (.getfield 10, 3) := by decide +kernel
theorem dX8_leftIn_35 : decode cX8_leftIn 35 = .ok (.getfield 182, 3) := by decide +kernel
theorem dX8_leftIn_38 : decode cX8_leftIn 38 = .ok (.iload_n 1, 1) := by decide +kernel
theorem dX8_leftIn_39 : decode cX8_leftIn 39 = .ok (.iadd, 1) := by decide +kernel
theorem dX8_leftIn_40 : decode cX8_leftIn 40 = .ok (.invokevirtual 207, 3) := by decide +kernel
theorem dX8_leftIn_43 : decode cX8_leftIn 43 = .ok (.ireturn, 1) := by decide +kernel
theorem dX8_shortest_0 : decode cX8_shortest 0 = .ok (.aload_n 0, 1) := by decide +kernel
theorem dX8_shortest_1 : decode cX8_shortest 1 = .ok (.getfield 10, 3) := by decide +kernel
theorem dX8_shortest_4 : decode cX8_shortest 4 = .ok (.iload_n 1, 1) := by decide +kernel
theorem dX8_shortest_5 : decode cX8_shortest 5 = .ok (.invokevirtual 96, 3) := by decide +kernel
theorem dX8_shortest_8 : decode cX8_shortest 8 = .ok (.astore_n 3, 1) := by decide +kernel
theorem dX8_shortest_9 : decode cX8_shortest 9 = .ok (.aload_n 3, 1) := by decide +kernel
theorem dX8_shortest_10 : decode cX8_shortest 10 = .ok (.ifnonnull 5, 3) := by decide +kernel
theorem dX8_shortest_13 : decode cX8_shortest 13 = .ok (.iconst (-1), 1) := by decide +kernel
theorem dX8_shortest_14 : decode cX8_shortest 14 = .ok (.ireturn, 1) := by decide +kernel
theorem dX8_shortest_15 : decode cX8_shortest 15 = .ok (.iload_n 2, 1) := by decide +kernel
theorem dX8_shortest_16 : decode cX8_shortest 16 = .ok (.ifCond .lt 8, 3) := by decide +kernel
theorem dX8_shortest_19 : decode cX8_shortest 19 = .ok (.iload_n 2, 1) := by decide +kernel
theorem dX8_shortest_20 : decode cX8_shortest 20 = .ok (.iconst 1, 1) := by decide +kernel
theorem dX8_shortest_21 : decode cX8_shortest 21 = .ok (.if_icmp .le 6, 3) := by decide +kernel
theorem dX8_shortest_24 : decode cX8_shortest 24 = .ok (.bipush (-2), 2) := by decide +kernel
theorem dX8_shortest_26 : decode cX8_shortest 26 = .ok (.ireturn, 1) := by decide +kernel
theorem dX8_shortest_27 : decode cX8_shortest 27 = .ok (.aload_n 0, 1) := by decide +kernel
theorem dX8_shortest_28 : decode cX8_shortest 28 = .ok (.getfield 10, 3) := by decide +kernel
theorem dX8_shortest_31 : decode cX8_shortest 31 = .ok (.aload_n 3, 1) := by decide +kernel
theorem dX8_shortest_32 : decode cX8_shortest 32 = .ok (.invokevirtual 214, 3) := by decide +kernel
theorem dX8_shortest_35 : decode cX8_shortest 35 = .ok (.istore 4, 2) := by decide +kernel
theorem dX8_shortest_37 : decode cX8_shortest 37 = .ok (.iload_n 2, 1) := by decide +kernel
theorem dX8_shortest_38 : decode cX8_shortest 38 = .ok (.ifCond .ne 8, 3) := by decide +kernel
theorem dX8_shortest_41 : decode cX8_shortest 41 = .ok (.iload 4, 2) := by decide +kernel
theorem dX8_shortest_43 : decode cX8_shortest 43 = .ok (.goto 13, 3) := by decide +kernel
theorem dX8_shortest_46 : decode cX8_shortest 46 = .ok (.aload_n 0, 1) := by decide +kernel
theorem dX8_shortest_47 : decode cX8_shortest 47 = .ok (.getfield 10, 3) := by decide +kernel
theorem dX8_shortest_50 : decode cX8_shortest 50 = .ok (.aload_n 3, 1) := by decide +kernel
theorem dX8_shortest_51 : decode cX8_shortest 51 = .ok (.iload 4, 2) := by decide +kernel
theorem dX8_shortest_53 : decode cX8_shortest 53 = .ok (.invokevirtual 218, 3) := by decide +kernel
theorem dX8_shortest_56 : decode cX8_shortest 56 = .ok (.ireturn, 1) := by decide +kernel
theorem dX8_isKey_0 : decode cX8_isKey 0 = .ok (.iload_n 0, 1) := by decide +kernel
theorem dX8_isKey_1 : decode cX8_isKey 1 = .ok (.ifCond .lt 13, 3) := by decide +kernel
theorem dX8_isKey_4 : decode cX8_isKey 4 = .ok (.iload_n 0, 1) := by decide +kernel
theorem dX8_isKey_5 : decode cX8_isKey 5 = .ok (.bipush 12, 2) := by decide +kernel
theorem dX8_isKey_7 : decode cX8_isKey 7 = .ok (.if_icmp .ge 7, 3) := by decide +kernel
theorem dX8_isKey_10 : decode cX8_isKey 10 = .ok (.iconst 1, 1) := by decide +kernel
theorem dX8_isKey_11 : decode cX8_isKey 11 = .ok (.goto 4, 3) := by decide +kernel
theorem dX8_isKey_14 : decode cX8_isKey 14 = .ok (.iconst 0, 1) := by decide +kernel
theorem dX8_isKey_15 : decode cX8_isKey 15 = .ok (.ireturn, 1) := by decide +kernel
theorem dX8_isNumber_0 : decode cX8_isNumber 0 = .ok (.iload_n 0, 1) := by decide +kernel
theorem dX8_isNumber_1 : decode cX8_isNumber 1 = .ok (.ifCond .lt 14, 3) := by decide +kernel
theorem dX8_isNumber_4 : decode cX8_isNumber 4 = .ok (.iload_n 0, 1) := by decide +kernel
theorem dX8_isNumber_5 : decode cX8_isNumber 5 = .ok (.sipush 999, 3) := by decide +kernel
theorem dX8_isNumber_8 : decode cX8_isNumber 8 = .ok (.if_icmp .gt 7, 3) := by decide +kernel
theorem dX8_isNumber_11 : decode cX8_isNumber 11 = .ok (.iconst 1, 1) := by decide +kernel
theorem dX8_isNumber_12 : decode cX8_isNumber 12 = .ok (.goto 4, 3) := by decide +kernel
theorem dX8_isNumber_15 : decode cX8_isNumber 15 = .ok (.iconst 0, 1) := by decide +kernel
theorem dX8_isNumber_16 : decode cX8_isNumber 16 = .ok (.ireturn, 1) := by decide +kernel
theorem dX8_isLate_0 : decode cX8_isLate 0 = .ok (.iload_n 0, 1) := by decide +kernel
theorem dX8_isLate_1 : decode cX8_isLate 1 = .ok (.ifCond .le 12, 3) := by decide +kernel
theorem dX8_isLate_4 : decode cX8_isLate 4 = .ok (.iload_n 0, 1) := by decide +kernel
theorem dX8_isLate_5 : decode cX8_isLate 5 = .ok (.iload_n 1, 1) := by decide +kernel
theorem dX8_isLate_6 : decode cX8_isLate 6 = .ok (.if_icmp .ge 7, 3) := by decide +kernel
theorem dX8_isLate_9 : decode cX8_isLate 9 = .ok (.iconst 1, 1) := by decide +kernel
theorem dX8_isLate_10 : decode cX8_isLate 10 = .ok (.goto 4, 3) := by decide +kernel
theorem dX8_isLate_13 : decode cX8_isLate 13 = .ok (.iconst 0, 1) := by decide +kernel
theorem dX8_isLate_14 : decode cX8_isLate 14 = .ok (.ireturn, 1) := by decide +kernel
theorem dX8_oneIf_0 : decode cX8_oneIf 0 = .ok (.iload_n 0, 1) := by decide +kernel
theorem dX8_oneIf_1 : decode cX8_oneIf 1 = .ok (.ifCond .eq 7, 3) := by decide +kernel
theorem dX8_oneIf_4 : decode cX8_oneIf 4 = .ok (.iconst 1, 1) := by decide +kernel
theorem dX8_oneIf_5 : decode cX8_oneIf 5 = .ok (.goto 4, 3) := by decide +kernel
theorem dX8_oneIf_8 : decode cX8_oneIf 8 = .ok (.iconst 0, 1) := by decide +kernel
theorem dX8_oneIf_9 : decode cX8_oneIf 9 = .ok (.ireturn, 1) := by decide +kernel
theorem dX8_at_0 : decode cX8_at 0 = .ok (.iload_n 1, 1) := by decide +kernel
theorem dX8_at_1 : decode cX8_at 1 = .ok (.ifCond .lt 9, 3) := by decide +kernel
theorem dX8_at_4 : decode cX8_at 4 = .ok (.iload_n 1, 1) := by decide +kernel
theorem dX8_at_5 : decode cX8_at 5 = .ok (.aload_n 0, 1) := by decide +kernel
theorem dX8_at_6 : decode cX8_at 6 = .ok (.arraylength, 1) := by decide +kernel
theorem dX8_at_7 : decode cX8_at 7 = .ok (.if_icmp .lt 5, 3) := by decide +kernel
theorem dX8_at_10 : decode cX8_at 10 = .ok (.iconst 0, 1) := by decide +kernel
theorem dX8_at_11 : decode cX8_at 11 = .ok (.ireturn, 1) := by decide +kernel
theorem dX8_at_12 : decode cX8_at 12 = .ok (.aload_n 0, 1) := by decide +kernel
theorem dX8_at_13 : decode cX8_at 13 = .ok (.iload_n 1, 1) := by decide +kernel
theorem dX8_at_14 : decode cX8_at 14 = .ok (.iaload, 1) := by decide +kernel
theorem dX8_at_15 : decode cX8_at 15 = .ok (.ireturn, 1) := by decide +kernel
theorem dX8_layAt_0 : decode cX8_layAt 0 = .ok (.iload_n 1, 1) := by decide +kernel
theorem dX8_layAt_1 : decode cX8_layAt 1 = .ok (.ifCond .lt 13, 3) := by decide +kernel
theorem dX8_layAt_4 : decode cX8_layAt 4 = .ok (.iload_n 1, 1) := by decide +kernel
theorem dX8_layAt_5 : decode cX8_layAt 5 = .ok (.aload_n 0, 1) := by decide +kernel
theorem dX8_layAt_6 : decode cX8_layAt 6 = .ok (.arraylength, 1) := by decide +kernel
theorem dX8_layAt_7 : decode cX8_layAt 7 = .ok (.if_icmp .ge 7, 3) := by decide +kernel
theorem dX8_layAt_10 : decode cX8_layAt 10 = .ok (.aload_n 0, 1) := by decide +kernel
theorem dX8_layAt_11 : decode cX8_layAt 11 = .ok (.iload_n 1, 1) := by decide +kernel
theorem dX8_layAt_12 : decode cX8_layAt 12 = .ok (.iload_n 2, 1) := by decide +kernel
theorem dX8_layAt_13 : decode cX8_layAt 13 = .ok (.iastore, 1) := by decide +kernel
theorem dX8_layAt_14 : decode cX8_layAt 14 = .ok (.return_, 1) := by decide +kernel
theorem dX8_copyRow_0 : decode cX8_copyRow 0 = .ok (.iconst 0, 1) := by decide +kernel
theorem dX8_copyRow_1 : decode cX8_copyRow 1 = .ok (.istore_n 2, 1) := by decide +kernel
theorem dX8_copyRow_2 : decode cX8_copyRow 2 = .ok (.iload_n 2, 1) := by decide +kernel
theorem dX8_copyRow_3 : decode cX8_copyRow 3 = .ok (.aload_n 0, 1) := by decide +kernel
theorem dX8_copyRow_4 : decode cX8_copyRow 4 = .ok (.arraylength, 1) := by decide +kernel
theorem dX8_copyRow_5 : decode cX8_copyRow 5 = .ok (.if_icmp .ge 21, 3) := by decide +kernel
theorem dX8_copyRow_8 : decode cX8_copyRow 8 = .ok (.iload_n 2, 1) := by decide +kernel
theorem dX8_copyRow_9 : decode cX8_copyRow 9 = .ok (.aload_n 1, 1) := by decide +kernel
theorem dX8_copyRow_10 : decode cX8_copyRow 10 = .ok (.arraylength, 1) := by decide +kernel
theorem dX8_copyRow_11 : decode cX8_copyRow 11 = .ok (.if_icmp .ge 15, 3) := by decide +kernel
theorem dX8_copyRow_14 : decode cX8_copyRow 14 = .ok (.aload_n 1, 1) := by decide +kernel
theorem dX8_copyRow_15 : decode cX8_copyRow 15 = .ok (.iload_n 2, 1) := by decide +kernel
theorem dX8_copyRow_16 : decode cX8_copyRow 16 = .ok (.aload_n 0, 1) := by decide +kernel
theorem dX8_copyRow_17 : decode cX8_copyRow 17 = .ok (.iload_n 2, 1) := by decide +kernel
theorem dX8_copyRow_18 : decode cX8_copyRow 18 = .ok (.iaload, 1) := by decide +kernel
theorem dX8_copyRow_19 : decode cX8_copyRow 19 = .ok (.iastore, 1) := by decide +kernel
theorem dX8_copyRow_20 : decode cX8_copyRow 20 = .ok (.iinc 2 1, 3) := by decide +kernel
theorem dX8_copyRow_23 : decode cX8_copyRow 23 = .ok (.goto (-21), 3) := by decide +kernel
theorem dX8_copyRow_26 : decode cX8_copyRow 26 = .ok (.return_, 1) := by decide +kernel
end
section
theorem dL_low_0 : decode cL_low 0 = .ok (.iload_n 0, 1) := by decide +kernel
theorem dL_low_1 : decode cL_low 1 = .ok (.ldc 7, 2) := by decide +kernel
theorem dL_low_3 : decode cL_low 3 = .ok (.iand, 1) := by decide +kernel
theorem dL_low_4 : decode cL_low 4 = .ok (.iload_n 1, 1) := by decide +kernel
theorem dL_low_5 : decode cL_low 5 = .ok (.irem, 1) := by decide +kernel
theorem dL_low_6 : decode cL_low 6 = .ok (.ireturn, 1) := by decide +kernel
theorem dL_cell_0 : decode cL_cell 0 = .ok (.iload_n 1, 1) := by decide +kernel
theorem dL_cell_1 : decode cL_cell 1 = .ok (.aload_n 0, 1) := by decide +kernel
theorem dL_cell_2 : decode cL_cell 2 = .ok (.arraylength, 1) := by decide +kernel
theorem dL_cell_3 : decode cL_cell 3 = .ok (.if_icmp .ge 9, 3) := by decide +kernel
theorem dL_cell_6 : decode cL_cell 6 = .ok (.aload_n 0, 1) := by decide +kernel
theorem dL_cell_7 : decode cL_cell 7 = .ok (.iload_n 1, 1) := by decide +kernel
theorem dL_cell_8 : decode cL_cell 8 = .ok (.iaload, 1) := by decide +kernel
theorem dL_cell_9 : decode cL_cell 9 = .ok (.goto 11, 3) := by decide +kernel
theorem dL_cell_12 : decode cL_cell 12 = .ok (.ldc 8, 2) := by decide +kernel
theorem dL_cell_14 : decode cL_cell 14 = .ok (.iload_n 1, 1) := by decide +kernel
theorem dL_cell_15 : decode cL_cell 15 = .ok (.imul, 1) := by decide +kernel
theorem dL_cell_16 : decode cL_cell 16 = .ok (.sipush 977, 3) := by decide +kernel
theorem dL_cell_19 : decode cL_cell 19 = .ok (.iadd, 1) := by decide +kernel
theorem dL_cell_20 : decode cL_cell 20 = .ok (.ireturn, 1) := by decide +kernel
theorem dL_act_0 : decode cL_act 0 = .ok (.aload_n 1, 1) := by decide +kernel
theorem dL_act_1 : decode cL_act 1 = .ok (.iload_n 2, 1) := by decide +kernel
theorem dL_act_2 : decode cL_act 2 = .ok (.iconst 1, 1) := by decide +kernel
theorem dL_act_3 : decode cL_act 3 = .ok (.iadd, 1) := by decide +kernel
theorem dL_act_4 : decode cL_act 4 = .ok (.invokestatic 9, 3) := by decide +kernel
theorem dL_act_7 : decode cL_act 7 = .ok (.istore_n 3, 1) := by decide +kernel
theorem dL_act_8 : decode cL_act 8 = .ok (.aload_n 1, 1) := by decide +kernel
theorem dL_act_9 : decode cL_act 9 = .ok (.iload_n 2, 1) := by decide +kernel
theorem dL_act_10 : decode cL_act 10 = .ok (.iconst 2, 1) := by decide +kernel
theorem dL_act_11 : decode cL_act 11 = .ok (.iadd, 1) := by decide +kernel
theorem dL_act_12 : decode cL_act 12 = .ok (.invokestatic 9, 3) := by decide +kernel
theorem dL_act_15 : decode cL_act 15 = .ok (.istore 4, 2) := by decide +kernel
theorem dL_act_17 : decode cL_act 17 = .ok (.iload_n 3, 1) := by decide +kernel
theorem dL_act_18 : decode cL_act 18 = .ok (.iconst 4, 1) := by decide +kernel
theorem dL_act_19 : decode cL_act 19 = .ok (.invokestatic 15, 3) := by decide +kernel
theorem dL_act_22 : decode cL_act 22 = .ok (.istore 5, 2) := by decide +kernel
theorem dL_act_24 : decode cL_act 24 = .ok (.aload_n 1, 1) := by decide +kernel
theorem dL_act_25 : decode cL_act 25 = .ok (.iload_n 2, 1) := by decide +kernel
theorem dL_act_26 : decode cL_act 26 = .ok (.invokestatic 9, 3) := by decide +kernel
theorem dL_act_29 : decode cL_act 29 = .ok (.bipush 16, 2) := by decide +kernel
theorem dL_act_31 : decode cL_act 31 = .ok (.invokestatic 15, 3) := by decide +kernel
theorem dL_act_34 : decode cL_act 34 = .ok (.tableswitch 237 0 14 #[74, 74, 74, 74, 74, 93, 93, 104, 118, 123, 123, 139, 146, 169, 200], 74) := by decide +kernel
theorem dL_act_108 : decode cL_act 108 = .ok (.aload_n 0, 1) := by decide +kernel
theorem dL_act_109 : decode cL_act 109 = .ok (.iload_n 3, 1) := by decide +kernel
theorem dL_act_110 : decode cL_act 110 = .ok (.bipush 6, 2) := by decide +kernel
theorem dL_act_112 : decode cL_act 112 = .ok (.invokestatic 15, 3) := by decide +kernel
theorem dL_act_115 : decode cL_act 115 = .ok (.iload 4, 2) := by decide +kernel
theorem dL_act_117 : decode cL_act 117 = .ok (.sipush 1000, 3) := by decide +kernel
theorem dL_act_120 : decode cL_act 120 = .ok (.invokestatic 15, 3) := by decide +kernel
theorem dL_act_123 : decode cL_act 123 = .ok (.invokevirtual 19, 3) := by decide +kernel
theorem dL_act_126 : decode cL_act 126 = .ok (.ireturn, 1) := by decide +kernel
theorem dL_act_127 : decode cL_act 127 = .ok (.aload_n 0, 1) := by decide +kernel
theorem dL_act_128 : decode cL_act 128 = .ok (.iload_n 3, 1) := by decide +kernel
theorem dL_act_129 : decode cL_act 129 = .ok (.bipush 6, 2) := by decide +kernel
theorem dL_act_131 : decode cL_act 131 = .ok (.invokestatic 15, 3) := by decide +kernel
theorem dL_act_134 : decode cL_act 134 = .ok (.invokevirtual 24, 3) := by decide +kernel
theorem dL_act_137 : decode cL_act 137 = .ok (.ireturn, 1) := by decide +kernel
theorem dL_act_138 : decode cL_act 138 = .ok (.aload_n 0, 1) := by decide +kernel
theorem dL_act_139 : decode cL_act 139 = .ok (.iconst 1, 1) := by decide +kernel
theorem dL_act_140 : decode cL_act 140 = .ok (.iload 4, 2) := by decide +kernel
theorem dL_act_142 : decode cL_act 142 = .ok (.bipush 40, 2) := by decide +kernel
theorem dL_act_144 : decode cL_act 144 = .ok (.invokestatic 15, 3) := by decide +kernel
theorem dL_act_147 : decode cL_act 147 = .ok (.iadd, 1) := by decide +kernel
theorem dL_act_148 : decode cL_act 148 = .ok (.invokevirtual 28, 3) := by decide +kernel
theorem dL_act_151 : decode cL_act 151 = .ok (.ireturn, 1) := by decide +kernel
theorem dL_act_152 : decode cL_act 152 = .ok (.aload_n 0, 1) := by decide +kernel
theorem dL_act_153 : decode cL_act 153 = .ok (.invokevirtual 31, 3) := by decide +kernel
theorem dL_act_156 : decode cL_act 156 = .ok (.ireturn, 1) := by decide +kernel
theorem dL_act_157 : decode cL_act 157 = .ok (.aload_n 0, 1) := by decide +kernel
theorem dL_act_158 : decode cL_act 158 = .ok (.iload 5, 2) := by decide +kernel
theorem dL_act_160 : decode cL_act 160 = .ok (.iconst 1, 1) := by decide +kernel
theorem dL_act_161 : decode cL_act 161 = .ok (.iload 4, 2) := by decide +kernel
theorem dL_act_163 : decode cL_act 163 = .ok (.bipush 9, 2) := by decide +kernel
theorem dL_act_165 : decode cL_act 165 = .ok (.invokestatic 15, 3) := by decide +kernel
theorem dL_act_168 : decode cL_act 168 = .ok (.iadd, 1) := by decide +kernel
theorem dL_act_169 : decode cL_act 169 = .ok (.invokevirtual 35, 3) := by decide +kernel
theorem dL_act_172 : decode cL_act 172 = .ok (.ireturn, 1) := by decide +kernel
theorem dL_act_173 : decode cL_act 173 = .ok (.aload_n 0, 1) := by decide +kernel
theorem dL_act_174 : decode cL_act 174 = .ok (.iload 5, 2) := by decide +kernel
theorem dL_act_176 : decode cL_act 176 = .ok (.invokevirtual 38, 3) := by decide +kernel
theorem dL_act_179 : decode cL_act 179 = .ok (.ireturn, 1) := by decide +kernel
theorem dL_act_180 : decode cL_act 180 = .ok (.iload 4, 2) := by decide +kernel
theorem dL_act_182 : decode cL_act 182 = .ok (.iconst 2, 1) := by decide +kernel
theorem dL_act_183 : decode cL_act 183 = .ok (.invokestatic 15, 3) := by decide +kernel
theorem dL_act_186 : decode cL_act 186 = .ok (.ifCond .ne 12, 3) := by decide +kernel
theorem dL_act_189 : decode cL_act 189 = .ok (.aload_n 0, 1) := by decide +kernel
theorem dL_act_190 : decode cL_act 190 = .ok (.iload 5, 2) := by decide +kernel
theorem dL_act_192 : decode cL_act 192 = .ok (.invokevirtual 41, 3) := by decide +kernel
theorem dL_act_195 : decode cL_act 195 = .ok (.goto 7, 3) := by decide +kernel
theorem dL_act_198 : decode cL_act 198 = .ok (.aload_n 0, 1) := by decide +kernel
theorem dL_act_199 : decode cL_act 199 = .ok (.invokevirtual 44, 3) := by decide +kernel
theorem dL_act_202 : decode cL_act 202 = .ok (.ireturn, 1) := by decide +kernel
theorem dL_act_203 : decode cL_act 203 = .ok (.iload 4, 2) := by decide +kernel
theorem dL_act_205 : decode cL_act 205 = .ok (.iconst 3, 1) := by decide +kernel
theorem dL_act_206 : decode cL_act 206 = .ok (.invokestatic 15, 3) := by decide +kernel
theorem dL_act_209 : decode cL_act 209 = .ok (.ifCond .ne 12, 3) := by decide +kernel
theorem dL_act_212 : decode cL_act 212 = .ok (.aload_n 0, 1) := by decide +kernel
theorem dL_act_213 : decode cL_act 213 = .ok (.iload 5, 2) := by decide +kernel
theorem dL_act_215 : decode cL_act 215 = .ok (.invokevirtual 47, 3) := by decide +kernel
theorem dL_act_218 : decode cL_act 218 = .ok (.goto 15, 3) := by decide +kernel
theorem dL_act_221 : decode cL_act 221 = .ok (.aload_n 0, 1) := by decide +kernel
theorem dL_act_222 : decode cL_act 222 = .ok (.iload 5, 2) := by decide +kernel
theorem dL_act_224 : decode cL_act 224 = .ok (.iload 4, 2) := by decide +kernel
theorem dL_act_226 : decode cL_act 226 = .ok (.iconst 4, 1) := by decide +kernel
theorem dL_act_227 : decode cL_act 227 = .ok (.invokestatic 15, 3) := by decide +kernel
theorem dL_act_230 : decode cL_act 230 = .ok (.invokevirtual 50, 3) := by decide +kernel
theorem dL_act_233 : decode cL_act 233 = .ok (.ireturn, 1) := by decide +kernel
theorem dL_act_234 : decode cL_act 234 = .ok (.iload 4, 2) := by decide +kernel
theorem dL_act_236 : decode cL_act 236 = .ok (.iconst 2, 1) := by decide +kernel
theorem dL_act_237 : decode cL_act 237 = .ok (.invokestatic 15, 3) := by decide +kernel
theorem dL_act_240 : decode cL_act 240 = .ok (.ifCond .ne 19, 3) := by decide +kernel
theorem dL_act_243 : decode cL_act 243 = .ok (.aload_n 0, 1) := by decide +kernel
theorem dL_act_244 : decode cL_act 244 = .ok (.iconst 0, 1) := by decide +kernel
theorem dL_act_245 : decode cL_act 245 = .ok (.iconst 1, 1) := by decide +kernel
theorem dL_act_246 : decode cL_act 246 = .ok (.iload_n 3, 1) := by decide +kernel
theorem dL_act_247 : decode cL_act 247 = .ok (.bipush 20, 2) := by decide +kernel
theorem dL_act_249 : decode cL_act 249 = .ok (.invokestatic 15, 3) := by decide +kernel
theorem dL_act_252 : decode cL_act 252 = .ok (.iadd, 1) := by decide +kernel
theorem dL_act_253 : decode cL_act 253 = .ok (.invokevirtual 53, 3) := by decide +kernel
theorem dL_act_256 : decode cL_act 256 = .ok (.goto 14, 3) := by decide +kernel
theorem dL_act_259 : decode cL_act 259 = .ok (.aload_n 0, 1) := by decide +kernel
theorem dL_act_260 : decode cL_act 260 = .ok (.iconst 1, 1) := by decide +kernel
theorem dL_act_261 : decode cL_act 261 = .ok (.iload_n 3, 1) := by decide +kernel
theorem dL_act_262 : decode cL_act 262 = .ok (.bipush 60, 2) := by decide +kernel
theorem dL_act_264 : decode cL_act 264 = .ok (.invokestatic 15, 3) := by decide +kernel
theorem dL_act_267 : decode cL_act 267 = .ok (.invokevirtual 53, 3) := by decide +kernel
theorem dL_act_270 : decode cL_act 270 = .ok (.ireturn, 1) := by decide +kernel
theorem dL_act_271 : decode cL_act 271 = .ok (.aload_n 0, 1) := by decide +kernel
theorem dL_act_272 : decode cL_act 272 = .ok (.invokevirtual 56, 3) := by decide +kernel
theorem dL_act_275 : decode cL_act 275 = .ok (.ireturn, 1) := by decide +kernel
theorem dL_feed_0 : decode cL_feed 0 = .ok (.iconst (-1), 1) := by decide +kernel
theorem dL_feed_1 : decode cL_feed 1 = .ok (.istore_n 1, 1) := by decide +kernel
theorem dL_feed_2 : decode cL_feed 2 = .ok (.iconst 0, 1) := by decide +kernel
theorem dL_feed_3 : decode cL_feed 3 = .ok (.istore_n 2, 1) := by decide +kernel
theorem dL_feed_4 : decode cL_feed 4 = .ok (.iconst 0, 1) := by decide +kernel
theorem dL_feed_5 : decode cL_feed 5 = .ok (.istore_n 3, 1) := by decide +kernel
theorem dL_feed_6 : decode cL_feed 6 = .ok (.aload_n 0, 1) := by decide +kernel
theorem dL_feed_7 : decode cL_feed 7 = .ok (.iconst 0, 1) := by decide +kernel
theorem dL_feed_8 : decode cL_feed 8 = .ok (.invokevirtual 59, 3) := by decide +kernel
theorem dL_feed_11 : decode cL_feed 11 = .ok (.bipush 60, 2) := by decide +kernel
theorem dL_feed_13 : decode cL_feed 13 = .ok (.if_icmp .gt 39, 3) := by decide +kernel
theorem dL_feed_16 : decode cL_feed 16 = .ok (.aload_n 0, 1) := by decide +kernel
theorem dL_feed_17 : decode cL_feed 17 = .ok (.iconst 0, 1) := by decide +kernel
theorem dL_feed_18 : decode cL_feed 18 = .ok (.invokevirtual 59, 3) := by decide +kernel
theorem dL_feed_21 : decode cL_feed 21 = .ok (.aload_n 0, 1) := by decide +kernel
theorem dL_feed_22 : decode cL_feed 22 = .ok (.iconst 5, 1) := by decide +kernel
theorem dL_feed_23 : decode cL_feed 23 = .ok (.invokevirtual 59, 3) := by decide +kernel
theorem dL_feed_26 : decode cL_feed 26 = .ok (.iadd, 1) := by decide +kernel
theorem dL_feed_27 : decode cL_feed 27 = .ok (.aload_n 0, 1) := by decide +kernel
theorem dL_feed_28 : decode cL_feed 28 = .ok (.iconst 1, 1) := by decide +kernel
theorem dL_feed_29 : decode cL_feed 29 = .ok (.invokevirtual 59, 3) := by decide +kernel
theorem dL_feed_32 : decode cL_feed 32 = .ok (.if_icmp .ne 20, 3) := by decide +kernel
theorem dL_feed_35 : decode cL_feed 35 = .ok (.aload_n 0, 1) := by decide +kernel
theorem dL_feed_36 : decode cL_feed 36 = .ok (.iconst 4, 1) := by decide +kernel
theorem dL_feed_37 : decode cL_feed 37 = .ok (.invokevirtual 59, 3) := by decide +kernel
theorem dL_feed_40 : decode cL_feed 40 = .ok (.aload_n 0, 1) := by decide +kernel
theorem dL_feed_41 : decode cL_feed 41 = .ok (.iconst 1, 1) := by decide +kernel
theorem dL_feed_42 : decode cL_feed 42 = .ok (.invokevirtual 59, 3) := by decide +kernel
theorem dL_feed_45 : decode cL_feed 45 = .ok (.if_icmp .gt 7, 3) := by decide +kernel
theorem dL_feed_48 : decode cL_feed 48 = .ok (.iconst 1, 1) := by decide +kernel
theorem dL_feed_49 : decode cL_feed 49 = .ok (.goto 4, 3) := by decide +kernel
theorem dL_feed_52 : decode cL_feed 52 = .ok (.iconst 0, 1) := by decide +kernel
theorem dL_feed_53 : decode cL_feed 53 = .ok (.istore 4, 2) := by decide +kernel
theorem dL_feed_55 : decode cL_feed 55 = .ok (.iconst 0, 1) := by decide +kernel
theorem dL_feed_56 : decode cL_feed 56 = .ok (.istore 5, 2) := by decide +kernel
theorem dL_feed_58 : decode cL_feed 58 = .ok (.iload 5, 2) := by decide +kernel
theorem dL_feed_60 : decode cL_feed 60 = .ok (.aload_n 0, 1) := by decide +kernel
theorem dL_feed_61 : decode cL_feed 61 = .ok (.iconst 0, 1) := by decide +kernel
theorem dL_feed_62 : decode cL_feed 62 = .ok (.invokevirtual 59, 3) := by decide +kernel
theorem dL_feed_65 : decode cL_feed 65 = .ok (.if_icmp .ge 132, 3) := by decide +kernel
theorem dL_feed_68 : decode cL_feed 68 = .ok (.iload 4, 2) := by decide +kernel
theorem dL_feed_70 : decode cL_feed 70 = .ok (.ifCond .eq 127, 3) := by decide +kernel
theorem dL_feed_73 : decode cL_feed 73 = .ok (.aload_n 0, 1) := by decide +kernel
theorem dL_feed_74 : decode cL_feed 74 = .ok (.iload 5, 2) := by decide +kernel
theorem dL_feed_76 : decode cL_feed 76 = .ok (.iconst 0, 1) := by decide +kernel
theorem dL_feed_77 : decode cL_feed 77 = .ok (.invokevirtual 62, 3) := by decide +kernel
theorem dL_feed_80 : decode cL_feed 80 = .ok (.iload_n 1, 1) := by decide +kernel
theorem dL_feed_81 : decode cL_feed 81 = .ok (.if_icmp .le 48, 3) := by decide +kernel
theorem dL_feed_84 : decode cL_feed 84 = .ok (.aload_n 0, 1) := by decide +kernel
theorem dL_feed_85 : decode cL_feed 85 = .ok (.iload 5, 2) := by decide +kernel
theorem dL_feed_87 : decode cL_feed 87 = .ok (.iconst 0, 1) := by decide +kernel
theorem dL_feed_88 : decode cL_feed 88 = .ok (.invokevirtual 62, 3) := by decide +kernel
theorem dL_feed_91 : decode cL_feed 91 = .ok (.aload_n 0, 1) := by decide +kernel
theorem dL_feed_92 : decode cL_feed 92 = .ok (.iconst 1, 1) := by decide +kernel
theorem dL_feed_93 : decode cL_feed 93 = .ok (.invokevirtual 59, 3) := by decide +kernel
theorem dL_feed_96 : decode cL_feed 96 = .ok (.if_icmp .ge 33, 3) := by decide +kernel
theorem dL_feed_99 : decode cL_feed 99 = .ok (.aload_n 0, 1) := by decide +kernel
theorem dL_feed_100 : decode cL_feed 100 = .ok (.iload 5, 2) := by decide +kernel
theorem dL_feed_102 : decode cL_feed 102 = .ok (.iconst 3, 1) := by decide +kernel
theorem dL_feed_103 : decode cL_feed 103 = .ok (.invokevirtual 62, 3) := by decide +kernel
theorem dL_feed_106 : decode cL_feed 106 = .ok (.iload_n 2, 1) := by decide +kernel
theorem dL_feed_107 : decode cL_feed 107 = .ok (.if_icmp .lt 22, 3) := by decide +kernel
theorem dL_feed_110 : decode cL_feed 110 = .ok (.aload_n 0, 1) := by decide +kernel
theorem dL_feed_111 : decode cL_feed 111 = .ok (.iload 5, 2) := by decide +kernel
theorem dL_feed_113 : decode cL_feed 113 = .ok (.iconst 3, 1) := by decide +kernel
theorem dL_feed_114 : decode cL_feed 114 = .ok (.invokevirtual 62, 3) := by decide +kernel
theorem dL_feed_117 : decode cL_feed 117 = .ok (.aload_n 0, 1) := by decide +kernel
theorem dL_feed_118 : decode cL_feed 118 = .ok (.iconst 3, 1) := by decide +kernel
theorem dL_feed_119 : decode cL_feed 119 = .ok (.invokevirtual 59, 3) := by decide +kernel
theorem dL_feed_122 : decode cL_feed 122 = .ok (.if_icmp .gt 7, 3) := by decide +kernel
theorem dL_feed_125 : decode cL_feed 125 = .ok (.iconst 1, 1) := by decide +kernel
theorem dL_feed_126 : decode cL_feed 126 = .ok (.goto 4, 3) := by decide +kernel
theorem dL_feed_129 : decode cL_feed 129 = .ok (.iconst 0, 1) := by decide +kernel
theorem dL_feed_130 : decode cL_feed 130 = .ok (.istore 4, 2) := by decide +kernel
theorem dL_feed_132 : decode cL_feed 132 = .ok (.iload 4, 2) := by decide +kernel
theorem dL_feed_134 : decode cL_feed 134 = .ok (.ifCond .eq 38, 3) := by decide +kernel
theorem dL_feed_137 : decode cL_feed 137 = .ok (.aload_n 0, 1) := by decide +kernel
theorem dL_feed_138 : decode cL_feed 138 = .ok (.iload 5, 2) := by decide +kernel
theorem dL_feed_140 : decode cL_feed 140 = .ok (.iconst 4, 1) := by decide +kernel
theorem dL_feed_141 : decode cL_feed 141 = .ok (.invokevirtual 62, 3) := by decide +kernel
theorem dL_feed_144 : decode cL_feed 144 = .ok (.ifCond .eq 24, 3) := by decide +kernel
theorem dL_feed_147 : decode cL_feed 147 = .ok (.aload_n 0, 1) := by decide +kernel
theorem dL_feed_148 : decode cL_feed 148 = .ok (.aload_n 0, 1) := by decide +kernel
theorem dL_feed_149 : decode cL_feed 149 = .ok (.iload 5, 2) := by decide +kernel
theorem dL_feed_151 : decode cL_feed 151 = .ok (.iconst 1, 1) := by decide +kernel
theorem dL_feed_152 : decode cL_feed 152 = .ok (.invokevirtual 62, 3) := by decide +kernel
theorem dL_feed_155 : decode cL_feed 155 = .ok (.invokevirtual 65, 3) := by decide +kernel
theorem dL_feed_158 : decode cL_feed 158 = .ok (.aload_n 0, 1) := by decide +kernel
theorem dL_feed_159 : decode cL_feed 159 = .ok (.iload 5, 2) := by decide +kernel
theorem dL_feed_161 : decode cL_feed 161 = .ok (.iconst 2, 1) := by decide +kernel
theorem dL_feed_162 : decode cL_feed 162 = .ok (.invokevirtual 62, 3) := by decide +kernel
theorem dL_feed_165 : decode cL_feed 165 = .ok (.if_icmp .ne 7, 3) := by decide +kernel
theorem dL_feed_168 : decode cL_feed 168 = .ok (.iconst 1, 1) := by decide +kernel
theorem dL_feed_169 : decode cL_feed 169 = .ok (.goto 4, 3) := by decide +kernel
theorem dL_feed_172 : decode cL_feed 172 = .ok (.iconst 0, 1) := by decide +kernel
theorem dL_feed_173 : decode cL_feed 173 = .ok (.istore 4, 2) := by decide +kernel
theorem dL_feed_175 : decode cL_feed 175 = .ok (.aload_n 0, 1) := by decide +kernel
theorem dL_feed_176 : decode cL_feed 176 = .ok (.iload 5, 2) := by decide +kernel
theorem dL_feed_178 : decode cL_feed 178 = .ok (.iconst 0, 1) := by decide +kernel
theorem dL_feed_179 : decode cL_feed 179 = .ok (.invokevirtual 62, 3) := by decide +kernel
theorem dL_feed_182 : decode cL_feed 182 = .ok (.istore_n 1, 1) := by decide +kernel
theorem dL_feed_183 : decode cL_feed 183 = .ok (.aload_n 0, 1) := by decide +kernel
theorem dL_feed_184 : decode cL_feed 184 = .ok (.iload 5, 2) := by decide +kernel
theorem dL_feed_186 : decode cL_feed 186 = .ok (.iconst 3, 1) := by decide +kernel
theorem dL_feed_187 : decode cL_feed 187 = .ok (.invokevirtual 62, 3) := by decide +kernel
theorem dL_feed_190 : decode cL_feed 190 = .ok (.istore_n 2, 1) := by decide +kernel
theorem dL_feed_191 : decode cL_feed 191 = .ok (.iinc 5 1, 3) := by decide +kernel
theorem dL_feed_194 : decode cL_feed 194 = .ok (.goto (-136), 3) := by decide +kernel
theorem dL_feed_197 : decode cL_feed 197 = .ok (.iconst 0, 1) := by decide +kernel
theorem dL_feed_198 : decode cL_feed 198 = .ok (.istore 5, 2) := by decide +kernel
theorem dL_feed_200 : decode cL_feed 200 = .ok (.iload 5, 2) := by decide +kernel
theorem dL_feed_202 : decode cL_feed 202 = .ok (.bipush 12, 2) := by decide +kernel
theorem dL_feed_204 : decode cL_feed 204 = .ok (.if_icmp .ge 100, 3) := by decide +kernel
theorem dL_feed_207 : decode cL_feed 207 = .ok (.iload 4, 2) := by decide +kernel
theorem dL_feed_209 : decode cL_feed 209 = .ok (.ifCond .eq 95, 3) := by decide +kernel
theorem dL_feed_212 : decode cL_feed 212 = .ok (.iconst 0, 1) := by decide +kernel
theorem dL_feed_213 : decode cL_feed 213 = .ok (.istore 6, 2) := by decide +kernel
theorem dL_feed_215 : decode cL_feed 215 = .ok (.iconst 0, 1) := by decide +kernel
theorem dL_feed_216 : decode cL_feed 216 = .ok (.istore 7, 2) := by decide +kernel
theorem dL_feed_218 : decode cL_feed 218 = .ok (.iload 7, 2) := by decide +kernel
theorem dL_feed_220 : decode cL_feed 220 = .ok (.aload_n 0, 1) := by decide +kernel
theorem dL_feed_221 : decode cL_feed 221 = .ok (.iconst 0, 1) := by decide +kernel
theorem dL_feed_222 : decode cL_feed 222 = .ok (.invokevirtual 59, 3) := by decide +kernel
theorem dL_feed_225 : decode cL_feed 225 = .ok (.if_icmp .ge 33, 3) := by decide +kernel
theorem dL_feed_228 : decode cL_feed 228 = .ok (.iload 6, 2) := by decide +kernel
theorem dL_feed_230 : decode cL_feed 230 = .ok (.ifCond .ne 15, 3) := by decide +kernel
theorem dL_feed_233 : decode cL_feed 233 = .ok (.aload_n 0, 1) := by decide +kernel
theorem dL_feed_234 : decode cL_feed 234 = .ok (.iload 7, 2) := by decide +kernel
theorem dL_feed_236 : decode cL_feed 236 = .ok (.iconst 1, 1) := by decide +kernel
theorem dL_feed_237 : decode cL_feed 237 = .ok (.invokevirtual 62, 3) := by decide +kernel
theorem dL_feed_240 : decode cL_feed 240 = .ok (.iload 5, 2) := by decide +kernel
theorem dL_feed_242 : decode cL_feed 242 = .ok (.if_icmp .ne 7, 3) := by decide +kernel
theorem dL_feed_245 : decode cL_feed 245 = .ok (.iconst 1, 1) := by decide +kernel
theorem dL_feed_246 : decode cL_feed 246 = .ok (.goto 4, 3) := by decide +kernel
theorem dL_feed_249 : decode cL_feed 249 = .ok (.iconst 0, 1) := by decide +kernel
theorem dL_feed_250 : decode cL_feed 250 = .ok (.istore 6, 2) := by decide +kernel
theorem dL_feed_252 : decode cL_feed 252 = .ok (.iinc 7 1, 3) := by decide +kernel
theorem dL_feed_255 : decode cL_feed 255 = .ok (.goto (-37), 3) := by decide +kernel
theorem dL_feed_258 : decode cL_feed 258 = .ok (.iload_n 3, 1) := by decide +kernel
theorem dL_feed_259 : decode cL_feed 259 = .ok (.aload_n 0, 1) := by decide +kernel
theorem dL_feed_260 : decode cL_feed 260 = .ok (.iload 5, 2) := by decide +kernel
theorem dL_feed_262 : decode cL_feed 262 = .ok (.invokevirtual 65, 3) := by decide +kernel
theorem dL_feed_265 : decode cL_feed 265 = .ok (.ifCond .lt 7, 3) := by decide +kernel
theorem dL_feed_268 : decode cL_feed 268 = .ok (.iconst 1, 1) := by decide +kernel
theorem dL_feed_269 : decode cL_feed 269 = .ok (.goto 4, 3) := by decide +kernel
theorem dL_feed_272 : decode cL_feed 272 = .ok (.iconst 0, 1) := by decide +kernel
theorem dL_feed_273 : decode cL_feed 273 = .ok (.iadd, 1) := by decide +kernel
theorem dL_feed_274 : decode cL_feed 274 = .ok (.istore_n 3, 1) := by decide +kernel
theorem dL_feed_275 : decode cL_feed 275 = .ok (.iload 6, 2) := by decide +kernel
theorem dL_feed_277 : decode cL_feed 277 = .ok (.ifCond .ne 14, 3) := by decide +kernel
theorem dL_feed_280 : decode cL_feed 280 = .ok (.aload_n 0, 1) := by decide +kernel
theorem dL_feed_281 : decode cL_feed 281 = .ok (.iload 5, 2) := by decide +kernel
theorem dL_feed_283 : decode cL_feed 283 = .ok (.invokevirtual 65, 3) := by decide +kernel
theorem dL_feed_286 : decode cL_feed 286 = .ok (.bipush (-6), 2) := by decide +kernel
theorem dL_feed_288 : decode cL_feed 288 = .ok (.if_icmp .ne 7, 3) := by decide +kernel
theorem dL_feed_291 : decode cL_feed 291 = .ok (.iconst 1, 1) := by decide +kernel
theorem dL_feed_292 : decode cL_feed 292 = .ok (.goto 4, 3) := by decide +kernel
theorem dL_feed_295 : decode cL_feed 295 = .ok (.iconst 0, 1) := by decide +kernel
theorem dL_feed_296 : decode cL_feed 296 = .ok (.istore 4, 2) := by decide +kernel
theorem dL_feed_298 : decode cL_feed 298 = .ok (.iinc 5 1, 3) := by decide +kernel
theorem dL_feed_301 : decode cL_feed 301 = .ok (.goto (-101), 3) := by decide +kernel
theorem dL_feed_304 : decode cL_feed 304 = .ok (.iload 4, 2) := by decide +kernel
theorem dL_feed_306 : decode cL_feed 306 = .ok (.ifCond .eq 16, 3) := by decide +kernel
theorem dL_feed_309 : decode cL_feed 309 = .ok (.aload_n 0, 1) := by decide +kernel
theorem dL_feed_310 : decode cL_feed 310 = .ok (.iconst 2, 1) := by decide +kernel
theorem dL_feed_311 : decode cL_feed 311 = .ok (.invokevirtual 59, 3) := by decide +kernel
theorem dL_feed_314 : decode cL_feed 314 = .ok (.iload_n 3, 1) := by decide +kernel
theorem dL_feed_315 : decode cL_feed 315 = .ok (.if_icmp .ne 7, 3) := by decide +kernel
theorem dL_feed_318 : decode cL_feed 318 = .ok (.iconst 1, 1) := by decide +kernel
theorem dL_feed_319 : decode cL_feed 319 = .ok (.goto 4, 3) := by decide +kernel
theorem dL_feed_322 : decode cL_feed 322 = .ok (.iconst 0, 1) := by decide +kernel
theorem dL_feed_323 : decode cL_feed 323 = .ok (.ireturn, 1) := by decide +kernel
theorem dL_readers_0 : decode cL_readers 0 = .ok (.iconst 1, 1) := by decide +kernel
theorem dL_readers_1 : decode cL_readers 1 = .ok (.istore_n 1, 1) := by decide +kernel
theorem dL_readers_2 : decode cL_readers 2 = .ok (.iconst 0, 1) := by decide +kernel
theorem dL_readers_3 : decode cL_readers 3 = .ok (.istore_n 2, 1) := by decide +kernel
theorem dL_readers_4 : decode cL_readers 4 = .ok (.iload_n 2, 1) := by decide +kernel
theorem dL_readers_5 : decode cL_readers 5 = .ok (.aload_n 0, 1) := by decide +kernel
theorem dL_readers_6 : decode cL_readers 6 = .ok (.bipush 6, 2) := by decide +kernel
theorem dL_readers_8 : decode cL_readers 8 = .ok (.invokevirtual 59, 3) := by decide +kernel
theorem dL_readers_11 : decode cL_readers 11 = .ok (.if_icmp .ge 254, 3) := by decide +kernel
theorem dL_readers_14 : decode cL_readers 14 = .ok (.iload_n 1, 1) := by decide +kernel
theorem dL_readers_15 : decode cL_readers 15 = .ok (.ifCond .eq 250, 3) := by decide +kernel
theorem dL_readers_18 : decode cL_readers 18 = .ok (.iconst 0, 1) := by decide +kernel
theorem dL_readers_19 : decode cL_readers 19 = .ok (.istore_n 3, 1) := by decide +kernel
theorem dL_readers_20 : decode cL_readers 20 = .ok (.iconst 0, 1) := by decide +kernel
theorem dL_readers_21 : decode cL_readers 21 = .ok (.istore 4, 2) := by decide +kernel
theorem dL_readers_23 : decode cL_readers 23 = .ok (.iconst 0, 1) := by decide +kernel
theorem dL_readers_24 : decode cL_readers 24 = .ok (.istore 5, 2) := by decide +kernel
theorem dL_readers_26 : decode cL_readers 26 = .ok (.iload 5, 2) := by decide +kernel
theorem dL_readers_28 : decode cL_readers 28 = .ok (.aload_n 0, 1) := by decide +kernel
theorem dL_readers_29 : decode cL_readers 29 = .ok (.iconst 0, 1) := by decide +kernel
theorem dL_readers_30 : decode cL_readers 30 = .ok (.invokevirtual 59, 3) := by decide +kernel
theorem dL_readers_33 : decode cL_readers 33 = .ok (.if_icmp .ge 33, 3) := by decide +kernel
theorem dL_readers_36 : decode cL_readers 36 = .ok (.iload_n 3, 1) := by decide +kernel
theorem dL_readers_37 : decode cL_readers 37 = .ok (.aload_n 0, 1) := by decide +kernel
theorem dL_readers_38 : decode cL_readers 38 = .ok (.iload 5, 2) := by decide +kernel
theorem dL_readers_40 : decode cL_readers 40 = .ok (.iconst 0, 1) := by decide +kernel
theorem dL_readers_41 : decode cL_readers 41 = .ok (.invokevirtual 62, 3) := by decide +kernel
theorem dL_readers_44 : decode cL_readers 44 = .ok (.aload_n 0, 1) := by decide +kernel
theorem dL_readers_45 : decode cL_readers 45 = .ok (.iload_n 2, 1) := by decide +kernel
theorem dL_readers_46 : decode cL_readers 46 = .ok (.iconst 0, 1) := by decide +kernel
theorem dL_readers_47 : decode cL_readers 47 = .ok (.invokevirtual 68, 3) := by decide +kernel
theorem dL_readers_50 : decode cL_readers 50 = .ok (.if_icmp .lt 7, 3) := by decide +kernel
theorem dL_readers_53 : decode cL_readers 53 = .ok (.iconst 1, 1) := by decide +kernel
theorem dL_readers_54 : decode cL_readers 54 = .ok (.goto 4, 3) := by decide +kernel
theorem dL_readers_57 : decode cL_readers 57 = .ok (.iconst 0, 1) := by decide +kernel
theorem dL_readers_58 : decode cL_readers 58 = .ok (.iadd, 1) := by decide +kernel
theorem dL_readers_59 : decode cL_readers 59 = .ok (.istore_n 3, 1) := by decide +kernel
theorem dL_readers_60 : decode cL_readers 60 = .ok (.iinc 5 1, 3) := by decide +kernel
theorem dL_readers_63 : decode cL_readers 63 = .ok (.goto (-37), 3) := by decide +kernel
theorem dL_readers_66 : decode cL_readers 66 = .ok (.iconst 0, 1) := by decide +kernel
theorem dL_readers_67 : decode cL_readers 67 = .ok (.istore 5, 2) := by decide +kernel
theorem dL_readers_69 : decode cL_readers 69 = .ok (.iload 5, 2) := by decide +kernel
theorem dL_readers_71 : decode cL_readers 71 = .ok (.bipush 12, 2) := by decide +kernel
theorem dL_readers_73 : decode cL_readers 73 = .ok (.if_icmp .ge 38, 3) := by decide +kernel
theorem dL_readers_76 : decode cL_readers 76 = .ok (.iload 4, 2) := by decide +kernel
theorem dL_readers_78 : decode cL_readers 78 = .ok (.aload_n 0, 1) := by decide +kernel
theorem dL_readers_79 : decode cL_readers 79 = .ok (.iload_n 2, 1) := by decide +kernel
theorem dL_readers_80 : decode cL_readers 80 = .ok (.iload 5, 2) := by decide +kernel
theorem dL_readers_82 : decode cL_readers 82 = .ok (.invokevirtual 71, 3) := by decide +kernel
theorem dL_readers_85 : decode cL_readers 85 = .ok (.aload_n 0, 1) := by decide +kernel
theorem dL_readers_86 : decode cL_readers 86 = .ok (.iload 5, 2) := by decide +kernel
theorem dL_readers_88 : decode cL_readers 88 = .ok (.invokevirtual 65, 3) := by decide +kernel
theorem dL_readers_91 : decode cL_readers 91 = .ok (.if_icmp .ne 7, 3) := by decide +kernel
theorem dL_readers_94 : decode cL_readers 94 = .ok (.iconst 0, 1) := by decide +kernel
theorem dL_readers_95 : decode cL_readers 95 = .ok (.goto 7, 3) := by decide +kernel
theorem dL_readers_98 : decode cL_readers 98 = .ok (.iconst 1, 1) := by decide +kernel
theorem dL_readers_99 : decode cL_readers 99 = .ok (.iload 5, 2) := by decide +kernel
theorem dL_readers_101 : decode cL_readers 101 = .ok (.ishl, 1) := by decide +kernel
theorem dL_readers_102 : decode cL_readers 102 = .ok (.ior, 1) := by decide +kernel
theorem dL_readers_103 : decode cL_readers 103 = .ok (.istore 4, 2) := by decide +kernel
theorem dL_readers_105 : decode cL_readers 105 = .ok (.iinc 5 1, 3) := by decide +kernel
theorem dL_readers_108 : decode cL_readers 108 = .ok (.goto (-39), 3) := by decide +kernel
theorem dL_readers_111 : decode cL_readers 111 = .ok (.aload_n 0, 1) := by decide +kernel
theorem dL_readers_112 : decode cL_readers 112 = .ok (.iload_n 2, 1) := by decide +kernel
theorem dL_readers_113 : decode cL_readers 113 = .ok (.iconst 0, 1) := by decide +kernel
theorem dL_readers_114 : decode cL_readers 114 = .ok (.invokevirtual 68, 3) := by decide +kernel
theorem dL_readers_117 : decode cL_readers 117 = .ok (.ifCond .le 21, 3) := by decide +kernel
theorem dL_readers_120 : decode cL_readers 120 = .ok (.aload_n 0, 1) := by decide +kernel
theorem dL_readers_121 : decode cL_readers 121 = .ok (.iload_n 2, 1) := by decide +kernel
theorem dL_readers_122 : decode cL_readers 122 = .ok (.iconst 0, 1) := by decide +kernel
theorem dL_readers_123 : decode cL_readers 123 = .ok (.invokevirtual 68, 3) := by decide +kernel
theorem dL_readers_126 : decode cL_readers 126 = .ok (.aload_n 0, 1) := by decide +kernel
theorem dL_readers_127 : decode cL_readers 127 = .ok (.iconst 4, 1) := by decide +kernel
theorem dL_readers_128 : decode cL_readers 128 = .ok (.invokevirtual 59, 3) := by decide +kernel
theorem dL_readers_131 : decode cL_readers 131 = .ok (.if_icmp .ge 7, 3) := by decide +kernel
theorem dL_readers_134 : decode cL_readers 134 = .ok (.iconst 1, 1) := by decide +kernel
theorem dL_readers_135 : decode cL_readers 135 = .ok (.goto 4, 3) := by decide +kernel
theorem dL_readers_138 : decode cL_readers 138 = .ok (.iconst 0, 1) := by decide +kernel
theorem dL_readers_139 : decode cL_readers 139 = .ok (.istore 5, 2) := by decide +kernel
theorem dL_readers_141 : decode cL_readers 141 = .ok (.aload_n 0, 1) := by decide +kernel
theorem dL_readers_142 : decode cL_readers 142 = .ok (.iload_n 2, 1) := by decide +kernel
theorem dL_readers_143 : decode cL_readers 143 = .ok (.iconst 2, 1) := by decide +kernel
theorem dL_readers_144 : decode cL_readers 144 = .ok (.invokevirtual 68, 3) := by decide +kernel
theorem dL_readers_147 : decode cL_readers 147 = .ok (.iload_n 3, 1) := by decide +kernel
theorem dL_readers_148 : decode cL_readers 148 = .ok (.if_icmp .ne 57, 3) := by decide +kernel
theorem dL_readers_151 : decode cL_readers 151 = .ok (.aload_n 0, 1) := by decide +kernel
theorem dL_readers_152 : decode cL_readers 152 = .ok (.iload_n 2, 1) := by decide +kernel
theorem dL_readers_153 : decode cL_readers 153 = .ok (.iconst 5, 1) := by decide +kernel
theorem dL_readers_154 : decode cL_readers 154 = .ok (.invokevirtual 68, 3) := by decide +kernel
theorem dL_readers_157 : decode cL_readers 157 = .ok (.iload 4, 2) := by decide +kernel
theorem dL_readers_159 : decode cL_readers 159 = .ok (.if_icmp .ne 46, 3) := by decide +kernel
theorem dL_readers_162 : decode cL_readers 162 = .ok (.aload_n 0, 1) := by decide +kernel
theorem dL_readers_163 : decode cL_readers 163 = .ok (.iload_n 2, 1) := by decide +kernel
theorem dL_readers_164 : decode cL_readers 164 = .ok (.iconst 3, 1) := by decide +kernel
theorem dL_readers_165 : decode cL_readers 165 = .ok (.invokevirtual 68, 3) := by decide +kernel
theorem dL_readers_168 : decode cL_readers 168 = .ok (.iconst 1, 1) := by decide +kernel
theorem dL_readers_169 : decode cL_readers 169 = .ok (.if_icmp .ne 7, 3) := by decide +kernel
theorem dL_readers_172 : decode cL_readers 172 = .ok (.iconst 1, 1) := by decide +kernel
theorem dL_readers_173 : decode cL_readers 173 = .ok (.goto 4, 3) := by decide +kernel
theorem dL_readers_176 : decode cL_readers 176 = .ok (.iconst 0, 1) := by decide +kernel
theorem dL_readers_177 : decode cL_readers 177 = .ok (.iload 5, 2) := by decide +kernel
theorem dL_readers_179 : decode cL_readers 179 = .ok (.if_icmp .ne 26, 3) := by decide +kernel
theorem dL_readers_182 : decode cL_readers 182 = .ok (.aload_n 0, 1) := by decide +kernel
theorem dL_readers_183 : decode cL_readers 183 = .ok (.bipush 7, 2) := by decide +kernel
theorem dL_readers_185 : decode cL_readers 185 = .ok (.invokevirtual 59, 3) := by decide +kernel
theorem dL_readers_188 : decode cL_readers 188 = .ok (.iload_n 2, 1) := by decide +kernel
theorem dL_readers_189 : decode cL_readers 189 = .ok (.ishr, 1) := by decide +kernel
theorem dL_readers_190 : decode cL_readers 190 = .ok (.iconst 1, 1) := by decide +kernel
theorem dL_readers_191 : decode cL_readers 191 = .ok (.iand, 1) := by decide +kernel
theorem dL_readers_192 : decode cL_readers 192 = .ok (.aload_n 0, 1) := by decide +kernel
theorem dL_readers_193 : decode cL_readers 193 = .ok (.iload_n 2, 1) := by decide +kernel
theorem dL_readers_194 : decode cL_readers 194 = .ok (.iconst 3, 1) := by decide +kernel
theorem dL_readers_195 : decode cL_readers 195 = .ok (.invokevirtual 68, 3) := by decide +kernel
theorem dL_readers_198 : decode cL_readers 198 = .ok (.if_icmp .ne 7, 3) := by decide +kernel
theorem dL_readers_201 : decode cL_readers 201 = .ok (.iconst 1, 1) := by decide +kernel
theorem dL_readers_202 : decode cL_readers 202 = .ok (.goto 4, 3) := by decide +kernel
theorem dL_readers_205 : decode cL_readers 205 = .ok (.iconst 0, 1) := by decide +kernel
theorem dL_readers_206 : decode cL_readers 206 = .ok (.istore_n 1, 1) := by decide +kernel
theorem dL_readers_207 : decode cL_readers 207 = .ok (.iload_n 1, 1) := by decide +kernel
theorem dL_readers_208 : decode cL_readers 208 = .ok (.ifCond .eq 49, 3) := by decide +kernel
theorem dL_readers_211 : decode cL_readers 211 = .ok (.aload_n 0, 1) := by decide +kernel
theorem dL_readers_212 : decode cL_readers 212 = .ok (.iload_n 2, 1) := by decide +kernel
theorem dL_readers_213 : decode cL_readers 213 = .ok (.iconst 0, 1) := by decide +kernel
theorem dL_readers_214 : decode cL_readers 214 = .ok (.invokevirtual 68, 3) := by decide +kernel
theorem dL_readers_217 : decode cL_readers 217 = .ok (.aload_n 0, 1) := by decide +kernel
theorem dL_readers_218 : decode cL_readers 218 = .ok (.iconst 1, 1) := by decide +kernel
theorem dL_readers_219 : decode cL_readers 219 = .ok (.invokevirtual 59, 3) := by decide +kernel
theorem dL_readers_222 : decode cL_readers 222 = .ok (.if_icmp .gt 35, 3) := by decide +kernel
theorem dL_readers_225 : decode cL_readers 225 = .ok (.iload 5, 2) := by decide +kernel
theorem dL_readers_227 : decode cL_readers 227 = .ok (.ifCond .ne 12, 3) := by decide +kernel
theorem dL_readers_230 : decode cL_readers 230 = .ok (.iload_n 3, 1) := by decide +kernel
theorem dL_readers_231 : decode cL_readers 231 = .ok (.ifCond .gt 8, 3) := by decide +kernel
theorem dL_readers_234 : decode cL_readers 234 = .ok (.iload 4, 2) := by decide +kernel
theorem dL_readers_236 : decode cL_readers 236 = .ok (.ifCond .ne 21, 3) := by decide +kernel
theorem dL_readers_239 : decode cL_readers 239 = .ok (.aload_n 0, 1) := by decide +kernel
theorem dL_readers_240 : decode cL_readers 240 = .ok (.iload_n 2, 1) := by decide +kernel
theorem dL_readers_241 : decode cL_readers 241 = .ok (.iconst 1, 1) := by decide +kernel
theorem dL_readers_242 : decode cL_readers 242 = .ok (.invokevirtual 74, 3) := by decide +kernel
theorem dL_readers_245 : decode cL_readers 245 = .ok (.aload_n 0, 1) := by decide +kernel
theorem dL_readers_246 : decode cL_readers 246 = .ok (.iconst 0, 1) := by decide +kernel
theorem dL_readers_247 : decode cL_readers 247 = .ok (.invokevirtual 59, 3) := by decide +kernel
theorem dL_readers_250 : decode cL_readers 250 = .ok (.if_icmp .gt 7, 3) := by decide +kernel
theorem dL_readers_253 : decode cL_readers 253 = .ok (.iconst 1, 1) := by decide +kernel
theorem dL_readers_254 : decode cL_readers 254 = .ok (.goto 4, 3) := by decide +kernel
theorem dL_readers_257 : decode cL_readers 257 = .ok (.iconst 0, 1) := by decide +kernel
theorem dL_readers_258 : decode cL_readers 258 = .ok (.istore_n 1, 1) := by decide +kernel
theorem dL_readers_259 : decode cL_readers 259 = .ok (.iinc 2 1, 3) := by decide +kernel
theorem dL_readers_262 : decode cL_readers 262 = .ok (.goto (-258), 3) := by decide +kernel
theorem dL_readers_265 : decode cL_readers 265 = .ok (.aload_n 0, 1) := by decide +kernel
theorem dL_readers_266 : decode cL_readers 266 = .ok (.iconst 1, 1) := by decide +kernel
theorem dL_readers_267 : decode cL_readers 267 = .ok (.invokevirtual 59, 3) := by decide +kernel
theorem dL_readers_270 : decode cL_readers 270 = .ok (.istore_n 2, 1) := by decide +kernel
theorem dL_readers_271 : decode cL_readers 271 = .ok (.iconst 0, 1) := by decide +kernel
theorem dL_readers_272 : decode cL_readers 272 = .ok (.istore_n 3, 1) := by decide +kernel
theorem dL_readers_273 : decode cL_readers 273 = .ok (.iload_n 3, 1) := by decide +kernel
theorem dL_readers_274 : decode cL_readers 274 = .ok (.aload_n 0, 1) := by decide +kernel
theorem dL_readers_275 : decode cL_readers 275 = .ok (.bipush 8, 2) := by decide +kernel
theorem dL_readers_277 : decode cL_readers 277 = .ok (.invokevirtual 59, 3) := by decide +kernel
theorem dL_readers_280 : decode cL_readers 280 = .ok (.if_icmp .ge 47, 3) := by decide +kernel
theorem dL_readers_283 : decode cL_readers 283 = .ok (.iload_n 1, 1) := by decide +kernel
theorem dL_readers_284 : decode cL_readers 284 = .ok (.ifCond .eq 43, 3) := by decide +kernel
theorem dL_readers_287 : decode cL_readers 287 = .ok (.aload_n 0, 1) := by decide +kernel
theorem dL_readers_288 : decode cL_readers 288 = .ok (.iload_n 3, 1) := by decide +kernel
theorem dL_readers_289 : decode cL_readers 289 = .ok (.iconst 0, 1) := by decide +kernel
theorem dL_readers_290 : decode cL_readers 290 = .ok (.invokevirtual 77, 3) := by decide +kernel
theorem dL_readers_293 : decode cL_readers 293 = .ok (.iload_n 2, 1) := by decide +kernel
theorem dL_readers_294 : decode cL_readers 294 = .ok (.if_icmp .gt 18, 3) := by decide +kernel
theorem dL_readers_297 : decode cL_readers 297 = .ok (.aload_n 0, 1) := by decide +kernel
theorem dL_readers_298 : decode cL_readers 298 = .ok (.iload_n 3, 1) := by decide +kernel
theorem dL_readers_299 : decode cL_readers 299 = .ok (.iconst 1, 1) := by decide +kernel
theorem dL_readers_300 : decode cL_readers 300 = .ok (.invokevirtual 77, 3) := by decide +kernel
theorem dL_readers_303 : decode cL_readers 303 = .ok (.bipush 12, 2) := by decide +kernel
theorem dL_readers_305 : decode cL_readers 305 = .ok (.if_icmp .gt 7, 3) := by decide +kernel
theorem dL_readers_308 : decode cL_readers 308 = .ok (.iconst 1, 1) := by decide +kernel
theorem dL_readers_309 : decode cL_readers 309 = .ok (.goto 4, 3) := by decide +kernel
theorem dL_readers_312 : decode cL_readers 312 = .ok (.iconst 0, 1) := by decide +kernel
theorem dL_readers_313 : decode cL_readers 313 = .ok (.istore_n 1, 1) := by decide +kernel
theorem dL_readers_314 : decode cL_readers 314 = .ok (.aload_n 0, 1) := by decide +kernel
theorem dL_readers_315 : decode cL_readers 315 = .ok (.iload_n 3, 1) := by decide +kernel
theorem dL_readers_316 : decode cL_readers 316 = .ok (.iconst 0, 1) := by decide +kernel
theorem dL_readers_317 : decode cL_readers 317 = .ok (.invokevirtual 77, 3) := by decide +kernel
theorem dL_readers_320 : decode cL_readers 320 = .ok (.istore_n 2, 1) := by decide +kernel
theorem dL_readers_321 : decode cL_readers 321 = .ok (.iinc 3 1, 3) := by decide +kernel
theorem dL_readers_324 : decode cL_readers 324 = .ok (.goto (-51), 3) := by decide +kernel
theorem dL_readers_327 : decode cL_readers 327 = .ok (.iload_n 1, 1) := by decide +kernel
theorem dL_readers_328 : decode cL_readers 328 = .ok (.ifCond .eq 17, 3) := by decide +kernel
theorem dL_readers_331 : decode cL_readers 331 = .ok (.aload_n 0, 1) := by decide +kernel
theorem dL_readers_332 : decode cL_readers 332 = .ok (.bipush 8, 2) := by decide +kernel
theorem dL_readers_334 : decode cL_readers 334 = .ok (.invokevirtual 59, 3) := by decide +kernel
theorem dL_readers_337 : decode cL_readers 337 = .ok (.iconst 4, 1) := by decide +kernel
theorem dL_readers_338 : decode cL_readers 338 = .ok (.if_icmp .gt 7, 3) := by decide +kernel
theorem dL_readers_341 : decode cL_readers 341 = .ok (.iconst 1, 1) := by decide +kernel
theorem dL_readers_342 : decode cL_readers 342 = .ok (.goto 4, 3) := by decide +kernel
theorem dL_readers_345 : decode cL_readers 345 = .ok (.iconst 0, 1) := by decide +kernel
theorem dL_readers_346 : decode cL_readers 346 = .ok (.ireturn, 1) := by decide +kernel
theorem dL_law_0 : decode cL_law 0 = .ok (.new 20, 3) := by decide +kernel
theorem dL_law_3 : decode cL_law 3 = .ok (.dup, 1) := by decide +kernel
theorem dL_law_4 : decode cL_law 4 = .ok (.invokespecial 80, 3) := by decide +kernel
theorem dL_law_7 : decode cL_law 7 = .ok (.astore_n 1, 1) := by decide +kernel
theorem dL_law_8 : decode cL_law 8 = .ok (.iconst 1, 1) := by decide +kernel
theorem dL_law_9 : decode cL_law 9 = .ok (.istore_n 2, 1) := by decide +kernel
theorem dL_law_10 : decode cL_law 10 = .ok (.aload_n 0, 1) := by decide +kernel
theorem dL_law_11 : decode cL_law 11 = .ok (.arraylength, 1) := by decide +kernel
theorem dL_law_12 : decode cL_law 12 = .ok (.iconst 3, 1) := by decide +kernel
theorem dL_law_13 : decode cL_law 13 = .ok (.idiv, 1) := by decide +kernel
theorem dL_law_14 : decode cL_law 14 = .ok (.bipush 40, 2) := by decide +kernel
theorem dL_law_16 : decode cL_law 16 = .ok (.if_icmp .le 8, 3) := by decide +kernel
theorem dL_law_19 : decode cL_law 19 = .ok (.bipush 40, 2) := by decide +kernel
theorem dL_law_21 : decode cL_law 21 = .ok (.goto 7, 3) := by decide +kernel
theorem dL_law_24 : decode cL_law 24 = .ok (.aload_n 0, 1) := by decide +kernel
theorem dL_law_25 : decode cL_law 25 = .ok (.arraylength, 1) := by decide +kernel
theorem dL_law_26 : decode cL_law 26 = .ok (.iconst 3, 1) := by decide +kernel
theorem dL_law_27 : decode cL_law 27 = .ok (.idiv, 1) := by decide +kernel
theorem dL_law_28 : decode cL_law 28 = .ok (.istore_n 3, 1) := by decide +kernel
theorem dL_law_29 : decode cL_law 29 = .ok (.iconst 0, 1) := by decide +kernel
theorem dL_law_30 : decode cL_law 30 = .ok (.istore 4, 2) := by decide +kernel
theorem dL_law_32 : decode cL_law 32 = .ok (.iload 4, 2) := by decide +kernel
theorem dL_law_34 : decode cL_law 34 = .ok (.iload_n 3, 1) := by decide +kernel
theorem dL_law_35 : decode cL_law 35 = .ok (.if_icmp .ge 125, 3) := by decide +kernel
theorem dL_law_38 : decode cL_law 38 = .ok (.iload_n 2, 1) := by decide +kernel
theorem dL_law_39 : decode cL_law 39 = .ok (.ifCond .eq 121, 3) := by decide +kernel
theorem dL_law_42 : decode cL_law 42 = .ok (.aload_n 1, 1) := by decide +kernel
theorem dL_law_43 : decode cL_law 43 = .ok (.bipush 12, 2) := by decide +kernel
theorem dL_law_45 : decode cL_law 45 = .ok (.invokevirtual 59, 3) := by decide +kernel
theorem dL_law_48 : decode cL_law 48 = .ok (.istore 5, 2) := by decide +kernel
theorem dL_law_50 : decode cL_law 50 = .ok (.aload_n 1, 1) := by decide +kernel
theorem dL_law_51 : decode cL_law 51 = .ok (.iconst 1, 1) := by decide +kernel
theorem dL_law_52 : decode cL_law 52 = .ok (.invokevirtual 59, 3) := by decide +kernel
theorem dL_law_55 : decode cL_law 55 = .ok (.istore 6, 2) := by decide +kernel
theorem dL_law_57 : decode cL_law 57 = .ok (.aload_n 1, 1) := by decide +kernel
theorem dL_law_58 : decode cL_law 58 = .ok (.iconst 5, 1) := by decide +kernel
theorem dL_law_59 : decode cL_law 59 = .ok (.invokevirtual 59, 3) := by decide +kernel
theorem dL_law_62 : decode cL_law 62 = .ok (.istore 7, 2) := by decide +kernel
theorem dL_law_64 : decode cL_law 64 = .ok (.aload_n 1, 1) := by decide +kernel
theorem dL_law_65 : decode cL_law 65 = .ok (.aload_n 0, 1) := by decide +kernel
theorem dL_law_66 : decode cL_law 66 = .ok (.iconst 3, 1) := by decide +kernel
theorem dL_law_67 : decode cL_law 67 = .ok (.iload 4, 2) := by decide +kernel
theorem dL_law_69 : decode cL_law 69 = .ok (.imul, 1) := by decide +kernel
theorem dL_law_70 : decode cL_law 70 = .ok (.invokestatic 81, 3) := by decide +kernel
theorem dL_law_73 : decode cL_law 73 = .ok (.istore 8, 2) := by decide +kernel
theorem dL_law_75 : decode cL_law 75 = .ok (.iload 8, 2) := by decide +kernel
theorem dL_law_77 : decode cL_law 77 = .ok (.ifCond .ge 34, 3) := by decide +kernel
theorem dL_law_80 : decode cL_law 80 = .ok (.aload_n 1, 1) := by decide +kernel
theorem dL_law_81 : decode cL_law 81 = .ok (.bipush 12, 2) := by decide +kernel
theorem dL_law_83 : decode cL_law 83 = .ok (.invokevirtual 59, 3) := by decide +kernel
theorem dL_law_86 : decode cL_law 86 = .ok (.iload 5, 2) := by decide +kernel
theorem dL_law_88 : decode cL_law 88 = .ok (.if_icmp .ne 27, 3) := by decide +kernel
theorem dL_law_91 : decode cL_law 91 = .ok (.aload_n 1, 1) := by decide +kernel
theorem dL_law_92 : decode cL_law 92 = .ok (.iconst 1, 1) := by decide +kernel
theorem dL_law_93 : decode cL_law 93 = .ok (.invokevirtual 59, 3) := by decide +kernel
theorem dL_law_96 : decode cL_law 96 = .ok (.iload 6, 2) := by decide +kernel
theorem dL_law_98 : decode cL_law 98 = .ok (.if_icmp .ne 17, 3) := by decide +kernel
theorem dL_law_101 : decode cL_law 101 = .ok (.aload_n 1, 1) := by decide +kernel
theorem dL_law_102 : decode cL_law 102 = .ok (.iconst 5, 1) := by decide +kernel
theorem dL_law_103 : decode cL_law 103 = .ok (.invokevirtual 59, 3) := by decide +kernel
theorem dL_law_106 : decode cL_law 106 = .ok (.iload 7, 2) := by decide +kernel
theorem dL_law_108 : decode cL_law 108 = .ok (.if_icmp .ne 7, 3) := by decide +kernel
theorem dL_law_111 : decode cL_law 111 = .ok (.iconst 1, 1) := by decide +kernel
theorem dL_law_112 : decode cL_law 112 = .ok (.goto 4, 3) := by decide +kernel
theorem dL_law_115 : decode cL_law 115 = .ok (.iconst 0, 1) := by decide +kernel
theorem dL_law_116 : decode cL_law 116 = .ok (.istore_n 2, 1) := by decide +kernel
theorem dL_law_117 : decode cL_law 117 = .ok (.iload_n 2, 1) := by decide +kernel
theorem dL_law_118 : decode cL_law 118 = .ok (.ifCond .eq 34, 3) := by decide +kernel
theorem dL_law_121 : decode cL_law 121 = .ok (.aload_n 1, 1) := by decide +kernel
theorem dL_law_122 : decode cL_law 122 = .ok (.invokestatic 85, 3) := by decide +kernel
theorem dL_law_125 : decode cL_law 125 = .ok (.ifCond .eq 27, 3) := by decide +kernel
theorem dL_law_128 : decode cL_law 128 = .ok (.aload_n 1, 1) := by decide +kernel
theorem dL_law_129 : decode cL_law 129 = .ok (.invokestatic 89, 3) := by decide +kernel
theorem dL_law_132 : decode cL_law 132 = .ok (.ifCond .eq 20, 3) := by decide +kernel
theorem dL_law_135 : decode cL_law 135 = .ok (.aload_n 1, 1) := by decide +kernel
theorem dL_law_136 : decode cL_law 136 = .ok (.iconst 0, 1) := by decide +kernel
theorem dL_law_137 : decode cL_law 137 = .ok (.invokevirtual 92, 3) := by decide +kernel
theorem dL_law_140 : decode cL_law 140 = .ok (.aload_n 1, 1) := by decide +kernel
theorem dL_law_141 : decode cL_law 141 = .ok (.iconst 0, 1) := by decide +kernel
theorem dL_law_142 : decode cL_law 142 = .ok (.invokevirtual 59, 3) := by decide +kernel
theorem dL_law_145 : decode cL_law 145 = .ok (.if_icmp .gt 7, 3) := by decide +kernel
theorem dL_law_148 : decode cL_law 148 = .ok (.iconst 1, 1) := by decide +kernel
theorem dL_law_149 : decode cL_law 149 = .ok (.goto 4, 3) := by decide +kernel
theorem dL_law_152 : decode cL_law 152 = .ok (.iconst 0, 1) := by decide +kernel
theorem dL_law_153 : decode cL_law 153 = .ok (.istore_n 2, 1) := by decide +kernel
theorem dL_law_154 : decode cL_law 154 = .ok (.iinc 4 1, 3) := by decide +kernel
theorem dL_law_157 : decode cL_law 157 = .ok (.goto (-125), 3) := by decide +kernel
theorem dL_law_160 : decode cL_law 160 = .ok (.iload_n 2, 1) := by decide +kernel
theorem dL_law_161 : decode cL_law 161 = .ok (.ireturn, 1) := by decide +kernel
end
section
/-! ===== memory as a function of addresses; a method's run from a frame as a predicate (Rn), a method's contract (EvA) ===== -/
abbrev MK : Type := MethodName × ByteArray × Nat × Option FieldType
abbrev Cl : Type := (Nat × vp_A) ⊕ (Nat × List Value)
abbrev Mm : Type := Nat → Option Cl
/-- launch, the classes' numbers, the array classes' numbers, the first own address, the script's address and cell -/
abbrev GG : Type := Launch × va_G × (Nat → ClassId) × Nat × Nat × Cell
abbrev gD (G : GG) : va_G := G.2.1
abbrev gA (G : GG) : Nat → ClassId := G.2.2.1
abbrev gLo (G : GG) : Nat := G.2.2.2.1
abbrev gB (G : GG) : Nat := G.2.2.2.2.1
abbrev gS (G : GG) : Cell := G.2.2.2.2.2
def trc (dA : Nat → ClassId) (c : Cl) : va_E := match c with
  | .inl a => .inl (dA a.1, a.2)
  | .inr o => .inr o
abbrev vtys (dA : Nat → ClassId) : List (ClassId × FieldType) := [(dA 0, .int), (dA 1, .int), (dA 2, .object RX6), (dA 3, .object RX3), (dA 4, .object RX5), (dA 5, .object RX4)]
def MemA (G : GG) (μ : Mm) (H : Heap) : Prop := (H[gB G]? = some (gS G) ∧ gB G < gLo G) ∧ ∀ (a : Nat) (c : Cl), μ a = some c → va_at (gD G) classes (a, trc (gA G) c) H ∧ gLo G ≤ a
def KnA (G : GG) (U : State) : Prop := va_K (gD G) classes (vtys (gA G)) U ∧ (∀ q ∈ nestL, va_Nw (.methodLinkNest q.1 q.2.1 q.2.2.1 q.2.2.2) U) ∧ (va_AO RX6 U ∧ va_AO RX3 U ∧ va_AO RX5 U ∧ va_AO RX4 U) ∧ U.isArrayOf (gS G) .int ∧ (gS G).vm ≠ .unknown
def lvh (ls : Array Slot) (n : Nat) (L : List (Option Value)) : Prop := L.length = n ∧ ls.size = n ∧ lv_wf ls ∧ ∀ (i : Nat) (v : Value), L[i]? = some (some v) → ls[i]? = some (.val v)
def CtxA (G : GG) (d : Nat) (K : MK) (p : Program) (R : Room) (s : State) (m : MethodId) (args : Array Value) (meth : Method) (c : Code) : Prop :=
  (p.tables.exec = Jvm.exec ∧ c.code = K.2.1 ∧ c.maxLocals = K.2.2.1 ∧ s.vm.findClass K.1.cls = some m.cls ∧ ∀ w ∈ lwT, w.before args s = true) ∧ (meth.sig.returnType = K.2.2.2 ∧ meth.locks = false ∧ (K.1.name = "<init>" → meth.name = K.1.name)) ∧ KnA G s ∧ gLo G ≤ s.heap.size ∧ d ≤ R.frames ∧ 34 * d ≤ R.locals
def RetA (K : MK) (pc : Nat) (r : Option Value) : Prop := match r with
  | none => K.2.2.2 = none ∧ decode K.2.1 pc = .ok (.return_, 1)
  | some (.int v) => ∃ ty, K.2.2.2 = some ty ∧ narrow ty (.int v) = .int v ∧ decode K.2.1 pc = .ok (.ireturn, 1)
  | some .null => ∃ C, K.2.2.2 = some (.object C) ∧ decode K.2.1 pc = .ok (.areturn, 1)
  | some (.ref _) => ∃ C, K.2.2.2 = some (.object C) ∧ decode K.2.1 pc = .ok (.areturn, 1)
  | _ => False
abbrev own (G : GG) : Nat → Prop := fun q => gLo G ≤ q
def EndA (G : GG) (K : MK) (p : Program) (e : Env) (R : Room) (s : State) (m : MethodId) (args : Array Value) (below : List Frame) (meth : Method) (c : Code) (szF : Nat) (Q : Option Value → Mm → Prop) (Z : State → Prop) : Prop :=
  ∀ (r : Option Value) (μ' : Mm) (H' : Heap) (locs' : List Loc) (pc' : Nat) (ls' : Array Slot), Q r μ' → MemA G μ' H' → H'.size = szF → va_S (own G) s.heap H' locs' → RetA K pc' r → W p G.1 e R s m args below meth c H' locs' R.cells R.slots Z (F0 m pc' ls' r.toList)
def Rn (G : GG) (d : Nat) (K : MK) (pc : Nat) (L : List (Option Value)) (st : List Value) (μ : Mm) (sz mc ms : Nat) (Q : Option Value → Mm → Prop) : Prop :=
  ∀ (p : Program) (e : Env) (R : Room) (s : State) (m : MethodId) (args : Array Value) (below : List Frame) (meth : Method) (c : Code) (H : Heap) (locs : List Loc) (cells slots : Nat) (ls : Array Slot) (Z : State → Prop),
    CtxA G d K p R s m args meth c → lvh ls K.2.2.1 L → MemA G μ H → H.size = sz → va_S (own G) s.heap H locs → cells + mc ≤ R.cells → slots + ms ≤ R.slots → EndA G K p e R s m args below meth c (sz + mc) Q Z → W p G.1 e R s m args below meth c H locs cells slots Z (F0 m pc ls st)
def QcA (G : GG) (szF : Nat) (Q : Option Value → Mm → Prop) : Array Value → State → Outcome → State → Prop := fun _ st oc t => ∃ (r : Option Value) (μ' : Mm), oc = .returned r ∧ Q r μ' ∧ MemA G μ' t.heap ∧ t.heap.size = szF ∧ va_F (own G) st t
def PcA (G : GG) (av : List Value) (μ : Mm) (sz : Nat) : Array Value → State → Prop := va_Pc av (fun U => U.heap.size = sz ∧ MemA G μ U.heap ∧ KnA G U)
def EvA (G : GG) (d : Nat) (K : MK) (av : List Value) (μ : Mm) (sz mc ms : Nat) (Q : Option Value → Mm → Prop) : Prop :=
  gLo G ≤ sz → Met G.1 K.1 (.code K.1 K.2.1 K.2.2.1 K.2.2.2 :: lwT) ({ frames := d, cells := mc, slots := ms, locals := 34 * d }) (PcA G av μ sz) (QcA G (sz + mc) Q) mc ms (own G)
-- answers by their kinds
abbrev rI (Q : Int32 → Mm → Prop) : Option Value → Mm → Prop := fun r μ => ∃ v : Int32, r = some (.int v) ∧ Q v μ
abbrev rV (Q : Mm → Prop) : Option Value → Mm → Prop := fun r μ => r = none ∧ Q μ
abbrev rR (Q : Option Nat → Mm → Prop) : Option Value → Mm → Prop := fun r μ => ∃ o : Option Nat, r = some (va_rf o) ∧ Q o μ
-- memory
def mset (μ : Mm) (a : Nat) (c : Cl) : Mm := fun q => if q = a then some c else μ q
theorem mset_same {μ : Mm} {a : Nat} {c : Cl} : mset μ a c a = some c := if_pos rfl
theorem mset_ne {μ : Mm} {a b : Nat} {c : Cl} (h : b ≠ a) : mset μ a c b = μ b := if_neg h
theorem mset_mset {μ : Mm} {a : Nat} {c c' : Cl} : mset (mset μ a c) a c' = mset μ a c' := by
  funext q
  unfold mset
  by_cases h : q = a
  · rw [if_pos h, if_pos h]
  · rw [if_neg h, if_neg h, if_neg h]
theorem mset_id {μ : Mm} {a : Nat} {c : Cl} (h : μ a = some c) : mset μ a c = μ := by
  funext q
  unfold mset
  by_cases hq : q = a
  · rw [if_pos hq, hq, h]
  · rw [if_neg hq]
theorem MemA.set {G : GG} {μ : Mm} {H H1 : Heap} {a : Nat} {c0 c : Cl} (h : MemA G μ H) (h0 : μ a = some c0) (hc : va_at (gD G) classes (a, trc (gA G) c) H1) (oq : ∀ q : Nat, q ≠ a → H1[q]? = H[q]?) : MemA G (mset μ a c) H1 := by
  have hlo := (h.2 a c0 h0).2
  have hb := h.1.2
  refine ⟨⟨(oq _ (by omega)).trans h.1.1, hb⟩, fun q e hq => ?_⟩
  by_cases e1 : q = a
  · subst e1
    rw [mset_same] at hq
    cases hq
    exact ⟨hc, hlo⟩
  · rw [mset_ne e1] at hq
    obtain ⟨h1, h2⟩ := h.2 q e hq
    exact ⟨h1.kept (oq q e1), h2⟩
theorem MemA.push {G : GG} {μ : Mm} {H H1 : Heap} {c : Cl} (h : MemA G μ H) (hlo : gLo G ≤ H.size) (hc : va_at (gD G) classes (H.size, trc (gA G) c) H1) (oq : ∀ q : Nat, q < H.size → H1[q]? = H[q]?) : MemA G (mset μ H.size c) H1 := by
  have hb := h.1.2
  refine ⟨⟨(oq _ (by omega)).trans h.1.1, hb⟩, fun q e hq => ?_⟩
  by_cases e1 : q = H.size
  · subst e1
    rw [mset_same] at hq
    cases hq
    exact ⟨hc, hlo⟩
  · rw [mset_ne e1] at hq
    obtain ⟨h1, h2⟩ := h.2 q e hq
    exact ⟨h1.kept (oq q h1.lt), h2⟩
theorem MemA.lt {G : GG} {μ : Mm} {H : Heap} {a : Nat} {c : Cl} (h : MemA G μ H) (ha : μ a = some c) : a < H.size := (h.2 a c ha).1.lt
theorem KnA.alike {G : GG} {s U : State} (h : KnA G s) (hW : s.WarmedH U.vm) : KnA G U := by
  obtain ⟨h1, h2, ⟨h3, h4, h5, h6⟩, h7, h8⟩ := h
  exact ⟨va_K.moved hW.alike h1, fun q hq => va_Nw.warmM hW (h2 q hq), ⟨h3.moved hW.alike, h4.moved hW.alike, h5.moved hW.alike, h6.moved hW.alike⟩, State.isArrayOf_alike hW.alike h7, h8⟩
theorem KnA.same {G : GG} {s U : State} (h : KnA G s) (hv : s.vm = U.vm) : KnA G U := by
  obtain ⟨h1, h2, ⟨h3, h4, h5, h6⟩, h7, h8⟩ := h
  have hA : s.vm.Alike U.vm := by rw [hv]; exact Vm.Alike.refl U.vm
  exact ⟨va_K.moved hA h1, fun q hq => va_Nw.same rfl hv (h2 q hq), ⟨h3.moved hA, h4.moved hA, h5.moved hA, h6.moved hA⟩, State.isArrayOf_alike hA h7, h8⟩
theorem PcA.blind {G : GG} {av : List Value} {μ : Mm} {sz : Nat} : FrameBlind (PcA G av μ sz) := fun a U g mk ⟨h1, h2, h3, h4⟩ => ⟨h1, h2, h3, h4.same rfl⟩
theorem PcA.at {G : GG} {av : List Value} {μ : Mm} {sz : Nat} {s U : State} {H : Heap} (hK : KnA G s) (hM : MemA G μ H) (hz : H.size = sz) (hU : U.heap = H) (hW : s.WarmedH U.vm) : PcA G av μ sz av.toArray U := ⟨rfl, by rw [hU]; exact hz, by rw [hU]; exact hM, hK.alike hW⟩
-- locals
def entL : List Value → List (Option Value)
  | [] => []
  | v :: vs => if v.category = 2 then some v :: none :: entL vs else some v :: entL vs
def ent (av : List Value) (n : Nat) : List (Option Value) := entL av ++ List.replicate (n - (entL av).length) none
theorem entL_len (vs : List Value) : (entL vs).length = (lg_sl vs).length := by
  induction vs with
  | nil => rfl
  | cons v t ih =>
    by_cases h : v.category = 2 <;> simp [entL, lg_sl, h] at ih ⊢ <;> omega
theorem entL_args (vs : List Value) : ∀ (k i : Nat) (v : Value), (entL vs)[i]? = some (some v) → (k + i, v) ∈ lv_args k vs := by
  induction vs with
  | nil => intro k i v h; simp [entL] at h
  | cons w t ih =>
    intro k i v h
    by_cases hc : w.category = 2
    · simp only [entL, hc, if_true] at h
      simp only [lv_args, hc, if_true]
      match i, h with
      | 0, h => simp at h; subst h; exact List.mem_cons_self
      | 1, h => simp at h
      | i + 2, h =>
        have := ih (k + 2) i v (by simpa using h)
        exact List.mem_cons_of_mem _ (by rw [show k + (i + 2) = k + 2 + i by omega]; exact this)
    · simp only [entL, hc, if_false] at h
      simp only [lv_args, hc, if_false]
      match i, h with
      | 0, h => simp at h; subst h; exact List.mem_cons_self
      | i + 1, h =>
        have := ih (k + 1) i v (by simpa using h)
        exact List.mem_cons_of_mem _ (by rw [show k + (i + 1) = k + 1 + i by omega]; exact this)
theorem lvh.entry (vs : List Value) {n : Nat} (h : (lg_sl vs).length ≤ n) : lvh ((lg_sl vs ++ List.replicate (n - (lg_sl vs).length) Slot.unset).toArray) n (ent vs n) := by
  obtain ⟨h1, h2, h3⟩ := lv_entry vs h
  refine ⟨by unfold ent; rw [List.length_append, List.length_replicate, entL_len]; omega, h1, h2, fun i v hi => ?_⟩
  have hi2 : (entL vs)[i]? = some (some v) := by
    unfold ent at hi
    by_cases hl : i < (entL vs).length
    · rw [List.getElem?_append_left hl] at hi
      exact hi
    · rw [List.getElem?_append_right (by omega)] at hi
      have := List.mem_of_getElem? hi
      rw [List.mem_replicate] at this
      cases this.2
  have := entL_args vs 0 i v hi2
  rw [Nat.zero_add] at this
  exact h3 (i, v) this
def okst (L : List (Option Value)) (i : Nat) : Bool := match L[i - 1]? with
  | some (some w) => w.category == 1
  | _ => true
theorem lvh.store {ls : Array Slot} {n : Nat} {L : List (Option Value)} {i : Nat} {v : Value} (h : lvh ls n L) (hi : i < n) (hc : v.category = 1) (ho : okst L i = true) : ∃ ls', storeLocals ls i v = some ls' ∧ lvh ls' n (L.set i (some v)) := by
  obtain ⟨h1, h2, h3, h4⟩ := h
  have key : ∀ l : List (Nat × Value), lv_has ls n l → ∃ ls', storeLocals ls i v = some ls' ∧ lv_has ls' n ((i, v) :: l.filter (fun q => !(q.1 == i) && !(q.1 + 1 == i && q.2.category == 2))) := fun l hl => lv_store1 hl hi hc
  obtain ⟨ls', e1, h5, h6, h7⟩ := key [] ⟨h2, h3, fun q hq => absurd hq List.not_mem_nil⟩
  refine ⟨ls', e1, by rw [List.length_set]; exact h1, h5, h6, fun j w hj => ?_⟩
  by_cases hji : j = i
  · subst hji
    rw [List.getElem?_set_self (by omega)] at hj
    cases hj
    exact h7 (j, v) List.mem_cons_self
  · rw [List.getElem?_set_ne (Ne.symm hji)] at hj
    have hw := h4 j w hj
    obtain ⟨ls2, e2, -, -, h8⟩ := key [(j, w)] ⟨h2, h3, fun q hq => by rw [List.mem_singleton.mp hq]; exact hw⟩
    have e3 : ls' = ls2 := Option.some.inj (e1.symm.trans e2)
    subst e3
    refine h8 (j, w) (List.mem_cons_of_mem _ (List.mem_filter.mpr ⟨List.mem_singleton.mpr rfl, ?_⟩))
    simp only [Bool.and_eq_true, Bool.not_eq_true', beq_eq_false_iff_ne, ne_eq, Bool.and_eq_false_iff]
    refine ⟨hji, ?_⟩
    by_cases hj1 : j + 1 = i
    · right
      have e4 : i - 1 = j := by omega
      unfold okst at ho
      rw [e4, hj] at ho
      have : w.category = 1 := by simpa using ho
      omega
    · exact Or.inl hj1
def lmask : List Bool → List (Option Value) → List (Option Value)
  | b :: bs, o :: L => (if b then o else none) :: lmask bs L
  | _, L => L
theorem lmask_len : ∀ (bs : List Bool) (L : List (Option Value)), (lmask bs L).length = L.length
  | [], L => by simp [lmask]
  | _ :: _, [] => by simp [lmask]
  | b :: bs, o :: L => by simp [lmask, lmask_len bs L]
theorem lmask_get : ∀ (bs : List Bool) (L : List (Option Value)) (i : Nat) (v : Value), (lmask bs L)[i]? = some (some v) → L[i]? = some (some v)
  | [], L, i, v, h => by simpa [lmask] using h
  | _ :: _, [], i, v, h => by simp [lmask] at h
  | b :: bs, o :: L, i, v, h => by
    cases i with
    | zero =>
      cases b
      · simp [lmask] at h
      · simpa [lmask] using h
    | succ i =>
      have := lmask_get bs L i v (by simpa [lmask] using h)
      simpa using this
theorem lvh.mask {ls : Array Slot} {n : Nat} {L : List (Option Value)} (bs : List Bool) (h : lvh ls n L) : lvh ls n (lmask bs L) := ⟨by rw [lmask_len]; exact h.1, h.2.1, h.2.2.1, fun i v hi => h.2.2.2 i v (lmask_get bs L i v hi)⟩
/-! ===== from a run to a contract ===== -/
theorem EvA.of {G : GG} {d : Nat} {K : MK} {av : List Value} {μ : Mm} {sz mc ms : Nat} {Q : Option Value → Mm → Prop} (hp : plainName K.1.cls = true) (hn : (lg_sl av).length ≤ K.2.2.1) {L : List (Option Value)} (hL : ent av K.2.2.1 = L) (h : Rn G d K 0 L [] μ sz mc ms Q) : EvA G d K av μ sz mc ms Q := by
  intro hlo
  refine Met.ofW (cc := K.2.1) (maxL := K.2.2.1) (ret := K.2.2.2) hp rfl ?_
  intro p e s m args below meth c s₁ B hml hv
  obtain ⟨rfl, hsz, hM, hK⟩ := hv
  have hts0 := atoms_spec (ws := Cond.code K.1 K.2.1 K.2.2.1 K.2.2.2 :: lwT) B.pre
  have hl := lvh.entry av hn
  rw [hL] at hl
  rw [lg_entry_eq]
  refine h p e _ s m _ below meth c s.heap [] 0 0 _ _ ⟨⟨B.exec, B.bytes, hml, findClass_of_methodNamed B.named, fun w hw => hts0 w (List.mem_cons_of_mem _ hw)⟩, ⟨B.returns, B.notSynchronized, fun _ => (name_of_methodNamed B.named B.method).1⟩, hK, by omega, Nat.le_refl _, Nat.le_refl _⟩ hl hM hsz va_S.rf (Nat.le_of_eq (Nat.zero_add _)) (Nat.le_of_eq (Nat.zero_add _)) ?_
  intro r μ' H' locs' pc' ls' hQ hM' hz' hS' hR
  have hlocks := B.notSynchronized
  have hq : ∀ t : State, t.heap = H' → s.WarmedH t.vm → QcA G (sz + mc) Q av.toArray s (.returned r) t := fun t ht _ => ⟨r, μ', rfl, hQ, by rw [ht]; exact hM', by rw [ht]; exact hz', hS'.F ht⟩
  match r, hQ, hR, hq with
  | none, hQ, hR, hq => exact W.vret B.exec B.bytes (B.returns.trans hR.1) hq hS'.2.2 hR.2 hlocks
  | some (.int v), hQ, hR, hq =>
    obtain ⟨ty, r1, r2, r3⟩ := hR
    exact W.zret B.exec B.bytes (B.returns.trans r1) r2 hq hS'.2.2 r3 hlocks
  | some .null, hQ, hR, hq =>
    obtain ⟨C, r1, r3⟩ := hR
    exact W.aret B.exec B.bytes (B.returns.trans r1) (Or.inl ⟨_, rfl⟩) (Or.inl rfl) hq hS'.2.2 r3 hlocks
  | some (.ref a), hQ, hR, hq =>
    obtain ⟨C, r1, r3⟩ := hR
    exact W.aret B.exec B.bytes (B.returns.trans r1) (Or.inl ⟨_, rfl⟩) (Or.inr ⟨a, rfl⟩) hq hS'.2.2 r3 hlocks
theorem EvA.imp {G : GG} {d : Nat} {K : MK} {av : List Value} {μ : Mm} {sz mc ms : Nat} {Q Q' : Option Value → Mm → Prop} (h : EvA G d K av μ sz mc ms Q) (hQ : ∀ r μ', Q r μ' → Q' r μ') : EvA G d K av μ sz mc ms Q' := by
  intro hlo p e ha hc hk s m args below hf hpre hP hk2
  obtain ⟨k, o, h1, h2, h3, ⟨r, μ', q1, q2, q3⟩, q4⟩ := h hlo p e ha hc hk s m args below hf hpre hP hk2
  exact ⟨k, o, h1, h2, h3, ⟨r, μ', q1, hQ _ _ q2, q3⟩, q4⟩
end
section
theorem lwG {w : Cond} (hw : w ∈ lwT) : GoodIn lwT (w :: lwT) := fun z hz => (List.mem_cons.mp hz).elim (fun e => e ▸ lwT_good w hw) (lwT_good z)
section RULES
variable {G : GG} {d : Nat} {K : MK} {pc : Nat} {L : List (Option Value)} {st : List Value} {μ : Mm} {sz mc ms : Nat} {Q : Option Value → Mm → Prop}
theorem Rn.iconst {pc1 : Nat} {n : Int} {v : Int32} (hd : decode K.2.1 pc = .ok (.iconst n, 1)) (hp : pc + 1 = pc1) (hv : Int32.ofInt n = v) (h : Rn G d K pc1 L (.int v :: st) μ sz mc ms Q) : Rn G d K (pc) L (st) μ sz mc ms Q := by
  subst hp
  intro p e R s m args below meth c H locs cells slots ls Z C hl hM hz hS hc hs hE
  exact lv_iconst C.1.1 C.1.2.1 hd hv (h p e R s m args below meth c H locs cells slots ls Z C hl hM hz hS hc hs hE)
theorem Rn.bipush {pc1 : Nat} {n : Int} {v : Int32} (hd : decode K.2.1 pc = .ok (.bipush n, 2)) (hp : pc + 2 = pc1) (hv : (Int8.ofInt n).toInt32 = v) (h : Rn G d K pc1 L (.int v :: st) μ sz mc ms Q) : Rn G d K (pc) L (st) μ sz mc ms Q := by
  subst hp
  intro p e R s m args below meth c H locs cells slots ls Z C hl hM hz hS hc hs hE
  exact lv_bipush C.1.1 C.1.2.1 hd hv (h p e R s m args below meth c H locs cells slots ls Z C hl hM hz hS hc hs hE)
theorem Rn.sipush {pc1 : Nat} {n : Int} {v : Int32} (hd : decode K.2.1 pc = .ok (.sipush n, 3)) (hp : pc + 3 = pc1) (hv : (Int16.ofInt n).toInt32 = v) (h : Rn G d K pc1 L (.int v :: st) μ sz mc ms Q) : Rn G d K (pc) L (st) μ sz mc ms Q := by
  subst hp
  intro p e R s m args below meth c H locs cells slots ls Z C hl hM hz hS hc hs hE
  exact lv_sipush C.1.1 C.1.2.1 hd hv (h p e R s m args below meth c H locs cells slots ls Z C hl hM hz hS hc hs hE)
theorem Rn.null {pc1 : Nat}  (hd : decode K.2.1 pc = .ok (.aconst_null, 1)) (hp : pc + 1 = pc1)  (h : Rn G d K pc1 L (.null :: st) μ sz mc ms Q) : Rn G d K (pc) L (st) μ sz mc ms Q := by
  subst hp
  intro p e R s m args below meth c H locs cells slots ls Z C hl hM hz hS hc hs hE
  exact lv_null C.1.1 C.1.2.1 hd  (h p e R s m args below meth c H locs cells slots ls Z C hl hM hz hS hc hs hE)
theorem Rn.iload_n {pc1 : Nat} {k : Fin 4} {i : Nat} {x : Int32} (hd : decode K.2.1 pc = .ok (.iload_n k, 1)) (hp : pc + 1 = pc1) (hi : (k : Nat) = i) (hL : L[i]? = some (some (.int x))) (h : Rn G d K pc1 L (.int x :: st) μ sz mc ms Q) : Rn G d K (pc) L (st) μ sz mc ms Q := by
  subst hp
  intro p e R s m args below meth c H locs cells slots ls Z C hl hM hz hS hc hs hE
  exact lv_iload_n C.1.1 C.1.2.1 hd hi (hl.2.2.2 _ _ hL) (h p e R s m args below meth c H locs cells slots ls Z C hl hM hz hS hc hs hE)
theorem Rn.iload {pc1 : Nat} {i : Nat} {x : Int32} (hd : decode K.2.1 pc = .ok (.iload i, 2)) (hp : pc + 2 = pc1) (hL : L[i]? = some (some (.int x))) (h : Rn G d K pc1 L (.int x :: st) μ sz mc ms Q) : Rn G d K (pc) L (st) μ sz mc ms Q := by
  subst hp
  intro p e R s m args below meth c H locs cells slots ls Z C hl hM hz hS hc hs hE
  exact lv_iload C.1.1 C.1.2.1 hd (hl.2.2.2 _ _ hL) (h p e R s m args below meth c H locs cells slots ls Z C hl hM hz hS hc hs hE)
theorem Rn.aload_n {pc1 : Nat} {k : Fin 4} {i : Nat} {x : Nat} (hd : decode K.2.1 pc = .ok (.aload_n k, 1)) (hp : pc + 1 = pc1) (hi : (k : Nat) = i) (hL : L[i]? = some (some (.ref x))) (h : Rn G d K pc1 L (.ref x :: st) μ sz mc ms Q) : Rn G d K (pc) L (st) μ sz mc ms Q := by
  subst hp
  intro p e R s m args below meth c H locs cells slots ls Z C hl hM hz hS hc hs hE
  exact lv_aload_n C.1.1 C.1.2.1 hd hi (hl.2.2.2 _ _ hL) (h p e R s m args below meth c H locs cells slots ls Z C hl hM hz hS hc hs hE)
theorem Rn.aload {pc1 : Nat} {i : Nat} {x : Nat} (hd : decode K.2.1 pc = .ok (.aload i, 2)) (hp : pc + 2 = pc1) (hL : L[i]? = some (some (.ref x))) (h : Rn G d K pc1 L (.ref x :: st) μ sz mc ms Q) : Rn G d K (pc) L (st) μ sz mc ms Q := by
  subst hp
  intro p e R s m args below meth c H locs cells slots ls Z C hl hM hz hS hc hs hE
  exact lv_aload C.1.1 C.1.2.1 hd (hl.2.2.2 _ _ hL) (h p e R s m args below meth c H locs cells slots ls Z C hl hM hz hS hc hs hE)
theorem Rn.lload_n {pc1 : Nat} {k : Fin 4} {i : Nat} {x : Int64} (hd : decode K.2.1 pc = .ok (.lload_n k, 1)) (hp : pc + 1 = pc1) (hi : (k : Nat) = i) (hL : L[i]? = some (some (.long x))) (h : Rn G d K pc1 L (.long x :: st) μ sz mc ms Q) : Rn G d K (pc) L (st) μ sz mc ms Q := by
  subst hp
  intro p e R s m args below meth c H locs cells slots ls Z C hl hM hz hS hc hs hE
  exact lv_lload_n C.1.1 C.1.2.1 hd hi (hl.2.2.2 _ _ hL) (h p e R s m args below meth c H locs cells slots ls Z C hl hM hz hS hc hs hE)
theorem Rn.lload {pc1 : Nat} {i : Nat} {x : Int64} (hd : decode K.2.1 pc = .ok (.lload i, 2)) (hp : pc + 2 = pc1) (hL : L[i]? = some (some (.long x))) (h : Rn G d K pc1 L (.long x :: st) μ sz mc ms Q) : Rn G d K (pc) L (st) μ sz mc ms Q := by
  subst hp
  intro p e R s m args below meth c H locs cells slots ls Z C hl hM hz hS hc hs hE
  exact lv_lload C.1.1 C.1.2.1 hd (hl.2.2.2 _ _ hL) (h p e R s m args below meth c H locs cells slots ls Z C hl hM hz hS hc hs hE)
theorem Rn.aload_nN {pc1 : Nat} {k : Fin 4} {i : Nat} (hd : decode K.2.1 pc = .ok (.aload_n k, 1)) (hp : pc + 1 = pc1) (hi : (k : Nat) = i) (hL : L[i]? = some (some .null)) (h : Rn G d K pc1 L (.null :: st) μ sz mc ms Q) : Rn G d K (pc) L (st) μ sz mc ms Q := by
  subst hp
  intro p e R s m args below meth c H locs cells slots ls Z C hl hM hz hS hc hs hE
  exact lv_aload_nN C.1.1 C.1.2.1 hd hi (hl.2.2.2 _ _ hL) (h p e R s m args below meth c H locs cells slots ls Z C hl hM hz hS hc hs hE)
theorem Rn.aloadN {pc1 : Nat} {i : Nat} (hd : decode K.2.1 pc = .ok (.aload i, 2)) (hp : pc + 2 = pc1) (hL : L[i]? = some (some .null)) (h : Rn G d K pc1 L (.null :: st) μ sz mc ms Q) : Rn G d K (pc) L (st) μ sz mc ms Q := by
  subst hp
  intro p e R s m args below meth c H locs cells slots ls Z C hl hM hz hS hc hs hE
  exact lv_aloadN C.1.1 C.1.2.1 hd (hl.2.2.2 _ _ hL) (h p e R s m args below meth c H locs cells slots ls Z C hl hM hz hS hc hs hE)
theorem Rn.aload_nq {pc1 : Nat} {k : Fin 4} {i : Nat} {x : Option Nat} (hd : decode K.2.1 pc = .ok (.aload_n k, 1)) (hp : pc + 1 = pc1) (hi : (k : Nat) = i) (hL : L[i]? = some (some (va_rf x))) (h : Rn G d K pc1 L (va_rf x :: st) μ sz mc ms Q) : Rn G d K (pc) L (st) μ sz mc ms Q := by
  subst hp
  cases x with
  | none => exact Rn.aload_nN hd rfl hi hL h
  | some a => exact Rn.aload_n hd rfl hi hL h
theorem Rn.istore_n {pc1 : Nat} {k : Fin 4} {i : Nat} {x : Int32} {L' : List (Option Value)} (hd : decode K.2.1 pc = .ok (.istore_n k, 1)) (hp : pc + 1 = pc1) (hi : (k : Nat) = i) (hn : i < K.2.2.1) (ho : okst L i = true) (hL : L.set i (some (.int x)) = L') (h : Rn G d K pc1 L' (st) μ sz mc ms Q) : Rn G d K (pc) L (.int x :: st) μ sz mc ms Q := by
  subst hp
  subst hi
  intro p e R s m args below meth c H locs cells slots ls Z C hl hM hz hS hc hs hE
  obtain ⟨ls', e', h'⟩ := hl.store (v := (.int x)) hn rfl ho
  intro T hT X
  rw [hL] at h'
  obtain ⟨t, a, b⟩ := h p e R s m args below meth c H locs cells slots ls' Z C h' hM hz hS hc hs hE T hT X
  have hexec := C.1.1
  have hb := C.1.2.1
  refine ⟨t, ?_, b⟩
  jvm_step X.here [X.here.top, ↓top_set X.here.top, hexec, hb, hd, e']
  exact a
theorem Rn.istore {pc1 : Nat} {i : Nat} {x : Int32} {L' : List (Option Value)} (hd : decode K.2.1 pc = .ok (.istore i, 2)) (hp : pc + 2 = pc1) (hn : i < K.2.2.1) (ho : okst L i = true) (hL : L.set i (some (.int x)) = L') (h : Rn G d K pc1 L' (st) μ sz mc ms Q) : Rn G d K (pc) L (.int x :: st) μ sz mc ms Q := by
  subst hp
  intro p e R s m args below meth c H locs cells slots ls Z C hl hM hz hS hc hs hE
  obtain ⟨ls', e', h'⟩ := hl.store (v := (.int x)) hn rfl ho
  intro T hT X
  rw [hL] at h'
  obtain ⟨t, a, b⟩ := h p e R s m args below meth c H locs cells slots ls' Z C h' hM hz hS hc hs hE T hT X
  have hexec := C.1.1
  have hb := C.1.2.1
  refine ⟨t, ?_, b⟩
  jvm_step X.here [X.here.top, ↓top_set X.here.top, hexec, hb, hd, e']
  exact a
theorem Rn.astore_n {pc1 : Nat} {k : Fin 4} {i : Nat} {x : Nat} {L' : List (Option Value)} (hd : decode K.2.1 pc = .ok (.astore_n k, 1)) (hp : pc + 1 = pc1) (hi : (k : Nat) = i) (hn : i < K.2.2.1) (ho : okst L i = true) (hL : L.set i (some (.ref x)) = L') (h : Rn G d K pc1 L' (st) μ sz mc ms Q) : Rn G d K (pc) L (.ref x :: st) μ sz mc ms Q := by
  subst hp
  subst hi
  intro p e R s m args below meth c H locs cells slots ls Z C hl hM hz hS hc hs hE
  obtain ⟨ls', e', h'⟩ := hl.store (v := (.ref x)) hn rfl ho
  intro T hT X
  rw [hL] at h'
  obtain ⟨t, a, b⟩ := h p e R s m args below meth c H locs cells slots ls' Z C h' hM hz hS hc hs hE T hT X
  have hexec := C.1.1
  have hb := C.1.2.1
  refine ⟨t, ?_, b⟩
  jvm_step X.here [X.here.top, ↓top_set X.here.top, hexec, hb, hd, e', Value.isRef]
  exact a
theorem Rn.astore {pc1 : Nat} {i : Nat} {x : Nat} {L' : List (Option Value)} (hd : decode K.2.1 pc = .ok (.astore i, 2)) (hp : pc + 2 = pc1) (hn : i < K.2.2.1) (ho : okst L i = true) (hL : L.set i (some (.ref x)) = L') (h : Rn G d K pc1 L' (st) μ sz mc ms Q) : Rn G d K (pc) L (.ref x :: st) μ sz mc ms Q := by
  subst hp
  intro p e R s m args below meth c H locs cells slots ls Z C hl hM hz hS hc hs hE
  obtain ⟨ls', e', h'⟩ := hl.store (v := (.ref x)) hn rfl ho
  intro T hT X
  rw [hL] at h'
  obtain ⟨t, a, b⟩ := h p e R s m args below meth c H locs cells slots ls' Z C h' hM hz hS hc hs hE T hT X
  have hexec := C.1.1
  have hb := C.1.2.1
  refine ⟨t, ?_, b⟩
  jvm_step X.here [X.here.top, ↓top_set X.here.top, hexec, hb, hd, e', Value.isRef]
  exact a
theorem Rn.astore_nN {pc1 : Nat} {k : Fin 4} {i : Nat} {L' : List (Option Value)} (hd : decode K.2.1 pc = .ok (.astore_n k, 1)) (hp : pc + 1 = pc1) (hi : (k : Nat) = i) (hn : i < K.2.2.1) (ho : okst L i = true) (hL : L.set i (some (.null)) = L') (h : Rn G d K pc1 L' (st) μ sz mc ms Q) : Rn G d K (pc) L (.null :: st) μ sz mc ms Q := by
  subst hp
  subst hi
  intro p e R s m args below meth c H locs cells slots ls Z C hl hM hz hS hc hs hE
  obtain ⟨ls', e', h'⟩ := hl.store (v := (.null)) hn rfl ho
  intro T hT X
  rw [hL] at h'
  obtain ⟨t, a, b⟩ := h p e R s m args below meth c H locs cells slots ls' Z C h' hM hz hS hc hs hE T hT X
  have hexec := C.1.1
  have hb := C.1.2.1
  refine ⟨t, ?_, b⟩
  jvm_step X.here [X.here.top, ↓top_set X.here.top, hexec, hb, hd, e', Value.isRef]
  exact a
theorem Rn.astoreN {pc1 : Nat} {i : Nat} {L' : List (Option Value)} (hd : decode K.2.1 pc = .ok (.astore i, 2)) (hp : pc + 2 = pc1) (hn : i < K.2.2.1) (ho : okst L i = true) (hL : L.set i (some (.null)) = L') (h : Rn G d K pc1 L' (st) μ sz mc ms Q) : Rn G d K (pc) L (.null :: st) μ sz mc ms Q := by
  subst hp
  intro p e R s m args below meth c H locs cells slots ls Z C hl hM hz hS hc hs hE
  obtain ⟨ls', e', h'⟩ := hl.store (v := (.null)) hn rfl ho
  intro T hT X
  rw [hL] at h'
  obtain ⟨t, a, b⟩ := h p e R s m args below meth c H locs cells slots ls' Z C h' hM hz hS hc hs hE T hT X
  have hexec := C.1.1
  have hb := C.1.2.1
  refine ⟨t, ?_, b⟩
  jvm_step X.here [X.here.top, ↓top_set X.here.top, hexec, hb, hd, e', Value.isRef]
  exact a
theorem Rn.astore_nq {pc1 : Nat} {k : Fin 4} {i : Nat} {x : Option Nat} {L' : List (Option Value)} (hd : decode K.2.1 pc = .ok (.astore_n k, 1)) (hp : pc + 1 = pc1) (hi : (k : Nat) = i) (hn : i < K.2.2.1) (ho : okst L i = true) (hL : L.set i (some (va_rf x)) = L') (h : Rn G d K pc1 L' (st) μ sz mc ms Q) : Rn G d K (pc) L (va_rf x :: st) μ sz mc ms Q := by
  subst hp
  cases x with
  | none => exact Rn.astore_nN hd rfl hi hn ho hL h
  | some a => exact Rn.astore_n hd rfl hi hn ho hL h
theorem Rn.iinc {pc1 : Nat} {i : Nat} {n : Int} {x v : Int32} {L' : List (Option Value)} (hd : decode K.2.1 pc = .ok (.iinc i n, 3)) (hp : pc + 3 = pc1) (hx : L[i]? = some (some (.int x))) (hv : x + Int32.ofInt n = v) (hn : i < K.2.2.1) (ho : okst L i = true) (hL : L.set i (some (.int v)) = L') (h : Rn G d K pc1 L' (st) μ sz mc ms Q) : Rn G d K (pc) L (st) μ sz mc ms Q := by
  subst hp
  subst hv
  intro p e R s m args below meth c H locs cells slots ls Z C hl hM hz hS hc hs hE
  have hg := hl.2.2.2 _ _ hx
  obtain ⟨ls', e', h'⟩ := hl.store (v := (.int (x + Int32.ofInt n))) hn rfl ho
  intro T hT X
  rw [hL] at h'
  obtain ⟨t, a, b⟩ := h p e R s m args below meth c H locs cells slots ls' Z C h' hM hz hS hc hs hE T hT X
  have hexec := C.1.1
  have hb := C.1.2.1
  refine ⟨t, ?_, b⟩
  jvm_step X.here [X.here.top, ↓top_set X.here.top, hexec, hb, hd, hg, e']
  exact a
theorem Rn.iadd {pc1 : Nat} {x y v : Int32} (hd : decode K.2.1 pc = .ok (.iadd, 1)) (hp : pc + 1 = pc1) (hv : x + y = v) (h : Rn G d K pc1 L (.int v :: st) μ sz mc ms Q) : Rn G d K (pc) L (.int y :: .int x :: st) μ sz mc ms Q := by
  subst hp
  subst hv
  intro p e R s m args below meth c H locs cells slots ls Z C hl hM hz hS hc hs hE
  exact lv_iadd C.1.1 C.1.2.1 hd (h p e R s m args below meth c H locs cells slots ls Z C hl hM hz hS hc hs hE)
theorem Rn.isub {pc1 : Nat} {x y v : Int32} (hd : decode K.2.1 pc = .ok (.isub, 1)) (hp : pc + 1 = pc1) (hv : x - y = v) (h : Rn G d K pc1 L (.int v :: st) μ sz mc ms Q) : Rn G d K (pc) L (.int y :: .int x :: st) μ sz mc ms Q := by
  subst hp
  subst hv
  intro p e R s m args below meth c H locs cells slots ls Z C hl hM hz hS hc hs hE
  exact lv_isub C.1.1 C.1.2.1 hd (h p e R s m args below meth c H locs cells slots ls Z C hl hM hz hS hc hs hE)
theorem Rn.imul {pc1 : Nat} {x y v : Int32} (hd : decode K.2.1 pc = .ok (.imul, 1)) (hp : pc + 1 = pc1) (hv : x * y = v) (h : Rn G d K pc1 L (.int v :: st) μ sz mc ms Q) : Rn G d K (pc) L (.int y :: .int x :: st) μ sz mc ms Q := by
  subst hp
  subst hv
  intro p e R s m args below meth c H locs cells slots ls Z C hl hM hz hS hc hs hE
  exact lv_imul C.1.1 C.1.2.1 hd (h p e R s m args below meth c H locs cells slots ls Z C hl hM hz hS hc hs hE)
theorem Rn.ior {pc1 : Nat} {x y v : Int32} (hd : decode K.2.1 pc = .ok (.ior, 1)) (hp : pc + 1 = pc1) (hv : (x ||| y) = v) (h : Rn G d K pc1 L (.int v :: st) μ sz mc ms Q) : Rn G d K (pc) L (.int y :: .int x :: st) μ sz mc ms Q := by
  subst hp
  subst hv
  intro p e R s m args below meth c H locs cells slots ls Z C hl hM hz hS hc hs hE
  exact lv_ior C.1.1 C.1.2.1 hd (h p e R s m args below meth c H locs cells slots ls Z C hl hM hz hS hc hs hE)
theorem Rn.iand {pc1 : Nat} {x y v : Int32} (hd : decode K.2.1 pc = .ok (.iand, 1)) (hp : pc + 1 = pc1) (hv : (x &&& y) = v) (h : Rn G d K pc1 L (.int v :: st) μ sz mc ms Q) : Rn G d K (pc) L (.int y :: .int x :: st) μ sz mc ms Q := by
  subst hp
  subst hv
  intro p e R s m args below meth c H locs cells slots ls Z C hl hM hz hS hc hs hE
  exact lv_iand C.1.1 C.1.2.1 hd (h p e R s m args below meth c H locs cells slots ls Z C hl hM hz hS hc hs hE)
theorem Rn.ishl {pc1 : Nat} {x y v : Int32} (hd : decode K.2.1 pc = .ok (.ishl, 1)) (hp : pc + 1 = pc1) (hv : x <<< (y &&& 31) = v) (h : Rn G d K pc1 L (.int v :: st) μ sz mc ms Q) : Rn G d K (pc) L (.int y :: .int x :: st) μ sz mc ms Q := by
  subst hp
  subst hv
  intro p e R s m args below meth c H locs cells slots ls Z C hl hM hz hS hc hs hE
  exact lv_ishl C.1.1 C.1.2.1 hd (h p e R s m args below meth c H locs cells slots ls Z C hl hM hz hS hc hs hE)
theorem Rn.idiv {pc1 : Nat} {x y v : Int32} (hd : decode K.2.1 pc = .ok (.idiv, 1)) (hp : pc + 1 = pc1) (hne : ¬ y = 0) (hv : x / y = v) (h : Rn G d K pc1 L (.int v :: st) μ sz mc ms Q) : Rn G d K (pc) L (.int y :: .int x :: st) μ sz mc ms Q := by
  subst hp
  subst hv
  intro p e R s m args below meth c H locs cells slots ls Z C hl hM hz hS hc hs hE
  exact lv_idiv C.1.1 C.1.2.1 hd hne (h p e R s m args below meth c H locs cells slots ls Z C hl hM hz hS hc hs hE)
theorem Rn.irem {pc1 : Nat} {x y v : Int32} (hd : decode K.2.1 pc = .ok (.irem, 1)) (hp : pc + 1 = pc1) (hne : ¬ y = 0) (hv : x - x / y * y = v) (h : Rn G d K pc1 L (.int v :: st) μ sz mc ms Q) : Rn G d K (pc) L (.int y :: .int x :: st) μ sz mc ms Q := by
  subst hp
  subst hv
  intro p e R s m args below meth c H locs cells slots ls Z C hl hM hz hS hc hs hE
  exact lv_irem C.1.1 C.1.2.1 hd hne (h p e R s m args below meth c H locs cells slots ls Z C hl hM hz hS hc hs hE)
theorem Rn.ishr {pc1 : Nat} {x y v : Int32} (hd : decode K.2.1 pc = .ok (.ishr, 1)) (hp : pc + 1 = pc1) (hv : x >>> (y &&& 31) = v) (h : Rn G d K pc1 L (.int v :: st) μ sz mc ms Q) : Rn G d K (pc) L (.int y :: .int x :: st) μ sz mc ms Q := by
  subst hp
  subst hv
  intro p e R s m args below meth c H locs cells slots ls Z C hl hM hz hS hc hs hE
  exact lv_ishr C.1.1 C.1.2.1 hd (h p e R s m args below meth c H locs cells slots ls Z C hl hM hz hS hc hs hE)
theorem Rn.i2l {pc1 : Nat} {x : Int32} {v : Int64} (hd : decode K.2.1 pc = .ok (.i2l, 1)) (hp : pc + 1 = pc1) (hv : x.toInt64 = v) (h : Rn G d K pc1 L (.long v :: st) μ sz mc ms Q) : Rn G d K (pc) L (.int x :: st) μ sz mc ms Q := by
  subst hp
  intro p e R s m args below meth c H locs cells slots ls Z C hl hM hz hS hc hs hE
  exact lv_i2l C.1.1 C.1.2.1 hd hv (h p e R s m args below meth c H locs cells slots ls Z C hl hM hz hS hc hs hE)
theorem Rn.l2i {pc1 : Nat} {x : Int64} {v : Int32} (hd : decode K.2.1 pc = .ok (.l2i, 1)) (hp : pc + 1 = pc1) (hv : x.toInt32 = v) (h : Rn G d K pc1 L (.int v :: st) μ sz mc ms Q) : Rn G d K (pc) L (.long x :: st) μ sz mc ms Q := by
  subst hp
  intro p e R s m args below meth c H locs cells slots ls Z C hl hM hz hS hc hs hE
  exact lv_l2i C.1.1 C.1.2.1 hd hv (h p e R s m args below meth c H locs cells slots ls Z C hl hM hz hS hc hs hE)
theorem Rn.lushr {pc1 : Nat} {x : Int64} {y : Int32} {v : Int64} (hd : decode K.2.1 pc = .ok (.lushr, 1)) (hp : pc + 1 = pc1) (hv : (x.toUInt64 >>> (y.toInt64.toUInt64 &&& Int64.toUInt64 63)).toInt64 = v) (h : Rn G d K pc1 L (.long v :: st) μ sz mc ms Q) : Rn G d K (pc) L (.int y :: .long x :: st) μ sz mc ms Q := by
  subst hp
  intro p e R s m args below meth c H locs cells slots ls Z C hl hM hz hS hc hs hE
  exact lv_lushr C.1.1 C.1.2.1 hd hv (h p e R s m args below meth c H locs cells slots ls Z C hl hM hz hS hc hs hE)
theorem Rn.lshl {pc1 : Nat} {x : Int64} {y : Int32} {v : Int64} (hd : decode K.2.1 pc = .ok (.lshl, 1)) (hp : pc + 1 = pc1) (hv : x <<< (y.toInt64 &&& 63) = v) (h : Rn G d K pc1 L (.long v :: st) μ sz mc ms Q) : Rn G d K (pc) L (.int y :: .long x :: st) μ sz mc ms Q := by
  subst hp
  intro p e R s m args below meth c H locs cells slots ls Z C hl hM hz hS hc hs hE
  exact lv_lshl C.1.1 C.1.2.1 hd hv (h p e R s m args below meth c H locs cells slots ls Z C hl hM hz hS hc hs hE)
theorem Rn.lshr {pc1 : Nat} {x : Int64} {y : Int32} {v : Int64} (hd : decode K.2.1 pc = .ok (.lshr, 1)) (hp : pc + 1 = pc1) (hv : x >>> (y.toInt64 &&& 63) = v) (h : Rn G d K pc1 L (.long v :: st) μ sz mc ms Q) : Rn G d K (pc) L (.int y :: .long x :: st) μ sz mc ms Q := by
  subst hp
  intro p e R s m args below meth c H locs cells slots ls Z C hl hM hz hS hc hs hE
  exact lv_lshr C.1.1 C.1.2.1 hd hv (h p e R s m args below meth c H locs cells slots ls Z C hl hM hz hS hc hs hE)
theorem Rn.land {pc1 : Nat} {x y v : Int64} (hd : decode K.2.1 pc = .ok (.land, 1)) (hp : pc + 1 = pc1) (hv : (x &&& y) = v) (h : Rn G d K pc1 L (.long v :: st) μ sz mc ms Q) : Rn G d K (pc) L (.long y :: .long x :: st) μ sz mc ms Q := by
  subst hp
  subst hv
  intro p e R s m args below meth c H locs cells slots ls Z C hl hM hz hS hc hs hE
  exact lv_land C.1.1 C.1.2.1 hd (h p e R s m args below meth c H locs cells slots ls Z C hl hM hz hS hc hs hE)
theorem Rn.lor {pc1 : Nat} {x y v : Int64} (hd : decode K.2.1 pc = .ok (.lor, 1)) (hp : pc + 1 = pc1) (hv : (x ||| y) = v) (h : Rn G d K pc1 L (.long v :: st) μ sz mc ms Q) : Rn G d K (pc) L (.long y :: .long x :: st) μ sz mc ms Q := by
  subst hp
  subst hv
  intro p e R s m args below meth c H locs cells slots ls Z C hl hM hz hS hc hs hE
  exact lv_lor C.1.1 C.1.2.1 hd (h p e R s m args below meth c H locs cells slots ls Z C hl hM hz hS hc hs hE)
theorem Rn.dup {pc1 : Nat} {va : Value} (hd : decode K.2.1 pc = .ok (.dup, 1)) (hp : pc + 1 = pc1) (hva : va.category = 1) (h : Rn G d K pc1 L (va :: va :: st) μ sz mc ms Q) : Rn G d K (pc) L (va :: st) μ sz mc ms Q := by
  subst hp
  intro p e R s m args below meth c H locs cells slots ls Z C hl hM hz hS hc hs hE
  exact lv_dup C.1.1 C.1.2.1 hd hva (h p e R s m args below meth c H locs cells slots ls Z C hl hM hz hS hc hs hE)
theorem Rn.pop {pc1 : Nat} {va : Value} (hd : decode K.2.1 pc = .ok (.pop, 1)) (hp : pc + 1 = pc1) (hva : va.category = 1) (h : Rn G d K pc1 L (st) μ sz mc ms Q) : Rn G d K (pc) L (va :: st) μ sz mc ms Q := by
  subst hp
  intro p e R s m args below meth c H locs cells slots ls Z C hl hM hz hS hc hs hE
  exact lv_pop C.1.1 C.1.2.1 hd hva (h p e R s m args below meth c H locs cells slots ls Z C hl hM hz hS hc hs hE)
theorem Rn.dup2 {pc1 : Nat} {va vb : Value} (hd : decode K.2.1 pc = .ok (.dup2, 1)) (hp : pc + 1 = pc1) (hva : va.category = 1) (hvb : vb.category = 1) (h : Rn G d K pc1 L (va :: vb :: va :: vb :: st) μ sz mc ms Q) : Rn G d K (pc) L (va :: vb :: st) μ sz mc ms Q := by
  subst hp
  intro p e R s m args below meth c H locs cells slots ls Z C hl hM hz hS hc hs hE
  exact lv_dup2_11 C.1.1 C.1.2.1 hd hva hvb (h p e R s m args below meth c H locs cells slots ls Z C hl hM hz hS hc hs hE)
theorem Rn.if_eq {pc1 : Nat} {x : Int32} {off : Int} (tgt : Nat) (hd : decode K.2.1 pc = .ok (.ifCond .eq off, 3)) (hp : pc + 3 = pc1) (ht : (pc : Int) + off = (tgt : Int)) (kt : x = nI 0 → Rn G d K (tgt) L (st) μ sz mc ms Q) (kf : ¬ x = nI 0 → Rn G d K pc1 L (st) μ sz mc ms Q) : Rn G d K (pc) L (.int x :: st) μ sz mc ms Q := by
  subst hp
  intro p e R s m args below meth c H locs cells slots ls Z C hl hM hz hS hc hs hE
  rw [nI_0] at kt kf
  exact lv_if_eq C.1.1 C.1.2.1 hd ht (fun q => kt q p e R s m args below meth c H locs cells slots ls Z C hl hM hz hS hc hs hE) (fun q => kf q p e R s m args below meth c H locs cells slots ls Z C hl hM hz hS hc hs hE)
theorem Rn.if_ne {pc1 : Nat} {x : Int32} {off : Int} (tgt : Nat) (hd : decode K.2.1 pc = .ok (.ifCond .ne off, 3)) (hp : pc + 3 = pc1) (ht : (pc : Int) + off = (tgt : Int)) (kt : ¬ x = nI 0 → Rn G d K (tgt) L (st) μ sz mc ms Q) (kf : x = nI 0 → Rn G d K pc1 L (st) μ sz mc ms Q) : Rn G d K (pc) L (.int x :: st) μ sz mc ms Q := by
  subst hp
  intro p e R s m args below meth c H locs cells slots ls Z C hl hM hz hS hc hs hE
  rw [nI_0] at kt kf
  exact lv_if_ne C.1.1 C.1.2.1 hd ht (fun q => kt q p e R s m args below meth c H locs cells slots ls Z C hl hM hz hS hc hs hE) (fun q => kf q p e R s m args below meth c H locs cells slots ls Z C hl hM hz hS hc hs hE)
theorem Rn.if_lt {pc1 : Nat} {x : Int32} {off : Int} (tgt : Nat) (hd : decode K.2.1 pc = .ok (.ifCond .lt off, 3)) (hp : pc + 3 = pc1) (ht : (pc : Int) + off = (tgt : Int)) (kt : x < nI 0 → Rn G d K (tgt) L (st) μ sz mc ms Q) (kf : ¬ x < nI 0 → Rn G d K pc1 L (st) μ sz mc ms Q) : Rn G d K (pc) L (.int x :: st) μ sz mc ms Q := by
  subst hp
  intro p e R s m args below meth c H locs cells slots ls Z C hl hM hz hS hc hs hE
  rw [nI_0] at kt kf
  exact lv_if_lt C.1.1 C.1.2.1 hd ht (fun q => kt q p e R s m args below meth c H locs cells slots ls Z C hl hM hz hS hc hs hE) (fun q => kf q p e R s m args below meth c H locs cells slots ls Z C hl hM hz hS hc hs hE)
theorem Rn.if_ge {pc1 : Nat} {x : Int32} {off : Int} (tgt : Nat) (hd : decode K.2.1 pc = .ok (.ifCond .ge off, 3)) (hp : pc + 3 = pc1) (ht : (pc : Int) + off = (tgt : Int)) (kt : nI 0 ≤ x → Rn G d K (tgt) L (st) μ sz mc ms Q) (kf : ¬ nI 0 ≤ x → Rn G d K pc1 L (st) μ sz mc ms Q) : Rn G d K (pc) L (.int x :: st) μ sz mc ms Q := by
  subst hp
  intro p e R s m args below meth c H locs cells slots ls Z C hl hM hz hS hc hs hE
  rw [nI_0] at kt kf
  exact lv_if_ge C.1.1 C.1.2.1 hd ht (fun q => kt q p e R s m args below meth c H locs cells slots ls Z C hl hM hz hS hc hs hE) (fun q => kf q p e R s m args below meth c H locs cells slots ls Z C hl hM hz hS hc hs hE)
theorem Rn.if_gt {pc1 : Nat} {x : Int32} {off : Int} (tgt : Nat) (hd : decode K.2.1 pc = .ok (.ifCond .gt off, 3)) (hp : pc + 3 = pc1) (ht : (pc : Int) + off = (tgt : Int)) (kt : nI 0 < x → Rn G d K (tgt) L (st) μ sz mc ms Q) (kf : ¬ nI 0 < x → Rn G d K pc1 L (st) μ sz mc ms Q) : Rn G d K (pc) L (.int x :: st) μ sz mc ms Q := by
  subst hp
  intro p e R s m args below meth c H locs cells slots ls Z C hl hM hz hS hc hs hE
  rw [nI_0] at kt kf
  exact lv_if_gt C.1.1 C.1.2.1 hd ht (fun q => kt q p e R s m args below meth c H locs cells slots ls Z C hl hM hz hS hc hs hE) (fun q => kf q p e R s m args below meth c H locs cells slots ls Z C hl hM hz hS hc hs hE)
theorem Rn.if_le {pc1 : Nat} {x : Int32} {off : Int} (tgt : Nat) (hd : decode K.2.1 pc = .ok (.ifCond .le off, 3)) (hp : pc + 3 = pc1) (ht : (pc : Int) + off = (tgt : Int)) (kt : x ≤ nI 0 → Rn G d K (tgt) L (st) μ sz mc ms Q) (kf : ¬ x ≤ nI 0 → Rn G d K pc1 L (st) μ sz mc ms Q) : Rn G d K (pc) L (.int x :: st) μ sz mc ms Q := by
  subst hp
  intro p e R s m args below meth c H locs cells slots ls Z C hl hM hz hS hc hs hE
  rw [nI_0] at kt kf
  exact lv_if_le C.1.1 C.1.2.1 hd ht (fun q => kt q p e R s m args below meth c H locs cells slots ls Z C hl hM hz hS hc hs hE) (fun q => kf q p e R s m args below meth c H locs cells slots ls Z C hl hM hz hS hc hs hE)
theorem Rn.icmp_eq {pc1 : Nat} {x y : Int32} {off : Int} (tgt : Nat) (hd : decode K.2.1 pc = .ok (.if_icmp .eq off, 3)) (hp : pc + 3 = pc1) (ht : (pc : Int) + off = (tgt : Int)) (kt : x = y → Rn G d K (tgt) L (st) μ sz mc ms Q) (kf : ¬ x = y → Rn G d K pc1 L (st) μ sz mc ms Q) : Rn G d K (pc) L (.int y :: .int x :: st) μ sz mc ms Q := by
  subst hp
  intro p e R s m args below meth c H locs cells slots ls Z C hl hM hz hS hc hs hE
  exact lv_icmp_eq C.1.1 C.1.2.1 hd ht (fun q => kt q p e R s m args below meth c H locs cells slots ls Z C hl hM hz hS hc hs hE) (fun q => kf q p e R s m args below meth c H locs cells slots ls Z C hl hM hz hS hc hs hE)
theorem Rn.icmp_ne {pc1 : Nat} {x y : Int32} {off : Int} (tgt : Nat) (hd : decode K.2.1 pc = .ok (.if_icmp .ne off, 3)) (hp : pc + 3 = pc1) (ht : (pc : Int) + off = (tgt : Int)) (kt : ¬ x = y → Rn G d K (tgt) L (st) μ sz mc ms Q) (kf : x = y → Rn G d K pc1 L (st) μ sz mc ms Q) : Rn G d K (pc) L (.int y :: .int x :: st) μ sz mc ms Q := by
  subst hp
  intro p e R s m args below meth c H locs cells slots ls Z C hl hM hz hS hc hs hE
  exact lv_icmp_ne C.1.1 C.1.2.1 hd ht (fun q => kt q p e R s m args below meth c H locs cells slots ls Z C hl hM hz hS hc hs hE) (fun q => kf q p e R s m args below meth c H locs cells slots ls Z C hl hM hz hS hc hs hE)
theorem Rn.icmp_lt {pc1 : Nat} {x y : Int32} {off : Int} (tgt : Nat) (hd : decode K.2.1 pc = .ok (.if_icmp .lt off, 3)) (hp : pc + 3 = pc1) (ht : (pc : Int) + off = (tgt : Int)) (kt : x < y → Rn G d K (tgt) L (st) μ sz mc ms Q) (kf : ¬ x < y → Rn G d K pc1 L (st) μ sz mc ms Q) : Rn G d K (pc) L (.int y :: .int x :: st) μ sz mc ms Q := by
  subst hp
  intro p e R s m args below meth c H locs cells slots ls Z C hl hM hz hS hc hs hE
  exact lv_icmp_lt C.1.1 C.1.2.1 hd ht (fun q => kt q p e R s m args below meth c H locs cells slots ls Z C hl hM hz hS hc hs hE) (fun q => kf q p e R s m args below meth c H locs cells slots ls Z C hl hM hz hS hc hs hE)
theorem Rn.icmp_ge {pc1 : Nat} {x y : Int32} {off : Int} (tgt : Nat) (hd : decode K.2.1 pc = .ok (.if_icmp .ge off, 3)) (hp : pc + 3 = pc1) (ht : (pc : Int) + off = (tgt : Int)) (kt : y ≤ x → Rn G d K (tgt) L (st) μ sz mc ms Q) (kf : ¬ y ≤ x → Rn G d K pc1 L (st) μ sz mc ms Q) : Rn G d K (pc) L (.int y :: .int x :: st) μ sz mc ms Q := by
  subst hp
  intro p e R s m args below meth c H locs cells slots ls Z C hl hM hz hS hc hs hE
  exact lv_icmp_ge C.1.1 C.1.2.1 hd ht (fun q => kt q p e R s m args below meth c H locs cells slots ls Z C hl hM hz hS hc hs hE) (fun q => kf q p e R s m args below meth c H locs cells slots ls Z C hl hM hz hS hc hs hE)
theorem Rn.icmp_gt {pc1 : Nat} {x y : Int32} {off : Int} (tgt : Nat) (hd : decode K.2.1 pc = .ok (.if_icmp .gt off, 3)) (hp : pc + 3 = pc1) (ht : (pc : Int) + off = (tgt : Int)) (kt : y < x → Rn G d K (tgt) L (st) μ sz mc ms Q) (kf : ¬ y < x → Rn G d K pc1 L (st) μ sz mc ms Q) : Rn G d K (pc) L (.int y :: .int x :: st) μ sz mc ms Q := by
  subst hp
  intro p e R s m args below meth c H locs cells slots ls Z C hl hM hz hS hc hs hE
  exact lv_icmp_gt C.1.1 C.1.2.1 hd ht (fun q => kt q p e R s m args below meth c H locs cells slots ls Z C hl hM hz hS hc hs hE) (fun q => kf q p e R s m args below meth c H locs cells slots ls Z C hl hM hz hS hc hs hE)
theorem Rn.icmp_le {pc1 : Nat} {x y : Int32} {off : Int} (tgt : Nat) (hd : decode K.2.1 pc = .ok (.if_icmp .le off, 3)) (hp : pc + 3 = pc1) (ht : (pc : Int) + off = (tgt : Int)) (kt : x ≤ y → Rn G d K (tgt) L (st) μ sz mc ms Q) (kf : ¬ x ≤ y → Rn G d K pc1 L (st) μ sz mc ms Q) : Rn G d K (pc) L (.int y :: .int x :: st) μ sz mc ms Q := by
  subst hp
  intro p e R s m args below meth c H locs cells slots ls Z C hl hM hz hS hc hs hE
  exact lv_icmp_le C.1.1 C.1.2.1 hd ht (fun q => kt q p e R s m args below meth c H locs cells slots ls Z C hl hM hz hS hc hs hE) (fun q => kf q p e R s m args below meth c H locs cells slots ls Z C hl hM hz hS hc hs hE)
theorem Rn.goto {off : Int} (tgt : Nat) (hd : decode K.2.1 pc = .ok (.goto off, 3)) (ht : (pc : Int) + off = (tgt : Int)) (h : Rn G d K (tgt) L (st) μ sz mc ms Q) : Rn G d K (pc) L (st) μ sz mc ms Q := by
  intro p e R s m args below meth c H locs cells slots ls Z C hl hM hz hS hc hs hE
  exact lv_goto C.1.1 C.1.2.1 hd ht (h p e R s m args below meth c H locs cells slots ls Z C hl hM hz hS hc hs hE)
theorem Rn.ifnonnull {x : Nat} {off : Int} (tgt : Nat) (hd : decode K.2.1 pc = .ok (.ifnonnull off, 3)) (ht : (pc : Int) + off = (tgt : Int)) (h : Rn G d K (tgt) L (st) μ sz mc ms Q) : Rn G d K (pc) L (.ref x :: st) μ sz mc ms Q := by
  intro p e R s m args below meth c H locs cells slots ls Z C hl hM hz hS hc hs hE
  exact lv_ifnonnull C.1.1 C.1.2.1 hd ht (h p e R s m args below meth c H locs cells slots ls Z C hl hM hz hS hc hs hE)
theorem Rn.ifnull {pc1 : Nat} {x : Nat} {off : Int} (hd : decode K.2.1 pc = .ok (.ifnull off, 3)) (hp : pc + 3 = pc1) (h : Rn G d K pc1 L (st) μ sz mc ms Q) : Rn G d K (pc) L (.ref x :: st) μ sz mc ms Q := by
  subst hp
  intro p e R s m args below meth c H locs cells slots ls Z C hl hM hz hS hc hs hE
  exact lv_ifnull C.1.1 C.1.2.1 hd (h p e R s m args below meth c H locs cells slots ls Z C hl hM hz hS hc hs hE)
theorem Rn.ifnonnullN {pc1 : Nat} {off : Int} (hd : decode K.2.1 pc = .ok (.ifnonnull off, 3)) (hp : pc + 3 = pc1) (h : Rn G d K pc1 L (st) μ sz mc ms Q) : Rn G d K (pc) L (.null :: st) μ sz mc ms Q := by
  subst hp
  intro p e R s m args below meth c H locs cells slots ls Z C hl hM hz hS hc hs hE
  exact lv_ifnonnullN C.1.1 C.1.2.1 hd (h p e R s m args below meth c H locs cells slots ls Z C hl hM hz hS hc hs hE)
theorem Rn.ifnullN {off : Int} (tgt : Nat) (hd : decode K.2.1 pc = .ok (.ifnull off, 3)) (ht : (pc : Int) + off = (tgt : Int)) (h : Rn G d K (tgt) L (st) μ sz mc ms Q) : Rn G d K (pc) L (.null :: st) μ sz mc ms Q := by
  intro p e R s m args below meth c H locs cells slots ls Z C hl hM hz hS hc hs hE
  exact lv_ifnullN C.1.1 C.1.2.1 hd ht (h p e R s m args below meth c H locs cells slots ls Z C hl hM hz hS hc hs hE)
theorem Rn.lookup {dflt : Int} {ps : Array (Int × Int)} {len : Nat} {x : Int32} {off : Int} (tgt : Nat) (hd : decode K.2.1 pc = .ok (.lookupswitch dflt ps, len)) (hp : (ps.toList.zip (ps.toList.drop 1)).all (fun (a, next) => a.1 < next.1) = true) (ho : Op.lookupswitch.offset ps.toList dflt x.toInt = off) (ht : (pc : Int) + off = (tgt : Int)) (h : Rn G d K (tgt) L (st) μ sz mc ms Q) : Rn G d K (pc) L (.int x :: st) μ sz mc ms Q := by
  intro p e R s m args below meth c H locs cells slots ls Z C hl hM hz hS hc hs hE
  exact lv_lookup C.1.1 C.1.2.1 hd hp ho ht (h p e R s m args below meth c H locs cells slots ls Z C hl hM hz hS hc hs hE)
theorem Rn.tableOut {dflt lo hi : Int} {offs : Array Int} {len : Nat} {x : Int32} (tgt : Nat) (hd : decode K.2.1 pc = .ok (.tableswitch dflt lo hi offs, len)) (hx : x.toInt < lo ∨ hi < x.toInt) (ht : (pc : Int) + dflt = (tgt : Int)) (h : Rn G d K (tgt) L (st) μ sz mc ms Q) : Rn G d K (pc) L (.int x :: st) μ sz mc ms Q := by
  intro p e R s m args below meth c H locs cells slots ls Z C hl hM hz hS hc hs hE
  exact lv_tableOut C.1.1 C.1.2.1 hd hx ht (h p e R s m args below meth c H locs cells slots ls Z C hl hM hz hS hc hs hE)
theorem Rn.tableIn {dflt lo hi : Int} {offs : Array Int} {len : Nat} {x : Int32} {off : Int} (tgt : Nat) (hd : decode K.2.1 pc = .ok (.tableswitch dflt lo hi offs, len)) (h1 : ¬ x.toInt < lo) (h2 : ¬ hi < x.toInt) (ho : offs[(x.toInt - lo).toNat]? = some off) (ht : (pc : Int) + off = (tgt : Int)) (h : Rn G d K (tgt) L (st) μ sz mc ms Q) : Rn G d K (pc) L (.int x :: st) μ sz mc ms Q := by
  intro p e R s m args below meth c H locs cells slots ls Z C hl hM hz hS hc hs hE
  exact lv_tableIn C.1.1 C.1.2.1 hd h1 h2 ho ht (h p e R s m args below meth c H locs cells slots ls Z C hl hM hz hS hc hs hE)
theorem Rn.ldc {pc1 : Nat} {idx : Nat} {v : Int32} (hd : decode K.2.1 pc = .ok (.ldc idx, 2)) (hp : pc + 2 = pc1) (hq : Cond.constant K.1.cls idx v ∈ lwT) (h : Rn G d K pc1 L (.int v :: st) μ sz mc ms Q) : Rn G d K (pc) L (st) μ sz mc ms Q := by
  subst hp
  intro p e R s m args below meth c H locs cells slots ls Z C hl hM hz hS hc hs hE
  exact lv_ldc C.1.1 C.1.2.1 C.1.2.2.2.1 (C.1.2.2.2.2 _ hq) hd (h p e R s m args below meth c H locs cells slots ls Z C hl hM hz hS hc hs hE)
theorem Rn.ldc2 {pc1 : Nat} {idx : Nat} {v : Int64} (hd : decode K.2.1 pc = .ok (.ldc2_w idx, 3)) (hp : pc + 3 = pc1) (hq : Cond.constantLong K.1.cls idx v ∈ lwT) (h : Rn G d K pc1 L (.long v :: st) μ sz mc ms Q) : Rn G d K (pc) L (st) μ sz mc ms Q := by
  subst hp
  intro p e R s m args below meth c H locs cells slots ls Z C hl hM hz hS hc hs hE
  exact lv_ldc2 C.1.1 C.1.2.1 C.1.2.2.2.1 (C.1.2.2.2.2 _ hq) hd (h p e R s m args below meth c H locs cells slots ls Z C hl hM hz hS hc hs hE)
theorem Rn.mask (bs : List Bool) {L' : List (Option Value)} (hL : lmask bs L = L') (h : Rn G d K pc L' st μ sz mc ms Q) : Rn G d K (pc) L (st) μ sz mc ms Q := by
  intro p e R s m args below meth c H locs cells slots ls Z C hl hM hz hS hc hs hE
  exact h p e R s m args below meth c H locs cells slots ls Z C (hL ▸ hl.mask bs) hM hz hS hc hs hE
theorem Rn.imp {Q' : Option Value → Mm → Prop} (h : Rn G d K pc L st μ sz mc ms Q') (hQ : ∀ r μ', Q' r μ' → Q r μ') : Rn G d K (pc) L (st) μ sz mc ms Q := by
  intro p e R s m args below meth c H locs cells slots ls Z C hl hM hz hS hc hs hE
  exact h p e R s m args below meth c H locs cells slots ls Z C hl hM hz hS hc hs (fun r μ' H' locs' pc' ls' hq => hE r μ' H' locs' pc' ls' (hQ _ _ hq))
-- the end
theorem Rn.ireturn {v : Int32} {ty : FieldType} (hd : decode K.2.1 pc = .ok (.ireturn, 1)) (hr : K.2.2.2 = some ty) (hn : narrow ty (.int v) = .int v) (hQ : Q (some (.int v)) μ) : Rn G d K pc L [.int v] μ sz 0 ms Q := by
  intro p e R s m args below meth c H locs cells slots ls Z C hl hM hz hS hc hs hE
  exact W.widen (by omega) (by omega) (hE _ _ _ _ _ _ hQ hM (by omega) hS ⟨ty, hr, hn, hd⟩)
theorem Rn.vreturn (hd : decode K.2.1 pc = .ok (.return_, 1)) (hr : K.2.2.2 = none) (hQ : Q none μ) : Rn G d K pc L [] μ sz 0 ms Q := by
  intro p e R s m args below meth c H locs cells slots ls Z C hl hM hz hS hc hs hE
  exact W.widen (by omega) (by omega) (hE _ _ _ _ _ _ hQ hM (by omega) hS ⟨hr, hd⟩)
theorem Rn.areturn {o : Option Nat} {C : String} (hd : decode K.2.1 pc = .ok (.areturn, 1)) (hr : K.2.2.2 = some (.object C)) (hQ : Q (some (va_rf o)) μ) : Rn G d K pc L [va_rf o] μ sz 0 ms Q := by
  intro p e R s m args below meth c H locs cells slots ls Z C2 hl hM hz hS hc hs hE
  cases o with
  | none => exact W.widen (by omega) (by omega) (hE _ _ _ _ _ _ hQ hM (by omega) hS ⟨C, hr, hd⟩)
  | some a => exact W.widen (by omega) (by omega) (hE _ _ _ _ _ _ hQ hM (by omega) hS ⟨C, hr, hd⟩)
-- fields
theorem Rn.getfield {pc1 : Nat} {idx ci k a : Nat} {fs : List Value} {v : Value} (hd : decode K.2.1 pc = .ok (.getfield idx, 3)) (hp : pc + 3 = pc1) (hf : FOk ci k K.1.cls idx) (hμ : μ a = some (.inr (ci, fs))) (hv : fs[k]? = some v) (h : Rn G d K pc1 L (v :: st) μ sz mc ms Q) : Rn G d K pc L (.ref a :: st) μ sz mc ms Q := by
  subst hp
  intro p e R s m args below meth c H locs cells slots ls Z C hl hM hz hS hc hs hE
  obtain ⟨C0, T0, N0, f1, f2, f3, f4⟩ := hf
  have hP : va_P (gD G) classes [(a, .inr (ci, fs))] H := fun k q hq => by
    have hk : k < 1 := (List.getElem?_eq_some_iff.mp hq).1
    rw [show k = 0 by omega] at hq
    cases hq
    exact (hM.2 a _ hμ).1
  exact va_get C.1.1 C.1.2.1 C.1.2.2.2.2 f3 C.1.2.2.2.1 C.2.2.1.1 hP 0 rfl f1 k f2 (C.1.2.2.2.2 _ f4) (fun _ h9 => h9) hv hd (h p e R s m args below meth c H locs cells slots ls Z C hl hM hz hS hc hs hE)
theorem Rn.putfield {pc1 : Nat} {idx ci k a : Nat} {fin : Bool} {ty : FieldType} {fs fs' : List Value} {v : Value} (hd : decode K.2.1 pc = .ok (.putfield idx, 3)) (hp : pc + 3 = pc1) (hf : POk ci k K.1.cls idx fin ty) (hfi : fin = true → K.1.name = "<init>") (hμ : μ a = some (.inr (ci, fs))) (hl0 : k < fs.length) (hn : narrow ty v = v) (hfit : fits ty v = true) (hfs : fs.set k v = fs') (h : Rn G d K pc1 L st (mset μ a (.inr (ci, fs'))) sz mc ms Q) : Rn G d K pc L (v :: .ref a :: st) μ sz mc ms Q := by
  subst hp
  subst hfs
  intro p e R s m args below meth c H locs cells slots ls Z C hl hM hz hS hc hs hE
  obtain ⟨C0, T0, N0, ty0, f1, f2, f3, f4, f5, f6, f7, f8, f9⟩ := hf
  have hK := C.2.2.1.1
  have hts := C.1.2.2.2.2
  have hown := C.1.2.2.2.1
  obtain ⟨⟨r, h1, cell, q1, q2, q3, q4⟩, hlo⟩ := hM.2 a _ hμ
  have hr : r = (C0, T0, N0) := Option.some.inj (h1.symm.trans f1)
  subst hr
  have hap := va_apart (own := K.1.cls) hts f3 ty0 f5 f6 hK f1
  obtain ⟨hSl, hfc, kC, hkC, hkind⟩ := hK.1 ci _ f1
  obtain ⟨cf, kf, fi, f, hi, hsl⟩ := hSl k f2
  have hlay := hts _ (f3 _ (u_in_lay f2))
  unfold u_lay at hlay
  have hst := (u_facts hfc hkC (u_lays hts f3 f2) hi).1
  have fin1 : ∀ H1 : Heap, H1[a]? = some (cell.setSlot f.slot v) → H1.size = H.size → (∀ q, q ≠ a → H1[q]? = H[q]?) → W p G.1 e R s m args below meth c H1 (locs ++ [⟨a, f.slot⟩]) cells slots Z (F0 m (pc + 3) ls st) := by
    intro H1 e1 e2 e3
    rw [hsl] at e1
    have hat : va_at (gD G) classes (a, trc (gA G) (.inr (ci, fs.set k v))) H1 := ⟨_, f1, t_OB.to (V := updV (vp_V fs) k v) ⟨_, e1, q2, q3, t_set q4 hap f2 v⟩ (fun j _ => vp_updV_set hl0 v j)⟩
    exact h p e R s m args below meth c H1 _ cells slots ls Z C hl (hM.set hμ hat e3) (e2.trans hz) (hS.put e2 e3 hlo) hc hs hE
  cases hfin : fin with
  | false =>
    rw [if_neg (by rw [f7, hfin]; decide)] at hlay
    have h6 := u_store hfc hkC hkind hlay hi f8 hn hfit
    exact W.putK C.1.1 C.1.2.1 (f := f) ⟨hown, hts _ f4, ⟨_, _, _, hi⟩, hst⟩ (by rw [q2]; exact h6) q1 q3 (by rw [hsl]; exact k2_hasslot (q4 k f2)) rfl rfl hd fin1
  | true =>
    rw [if_pos (by rw [f7, hfin])] at hlay
    have hcf : m.cls = cf := by
      obtain ⟨_, _, c', _, _, _, -, -, hf', -, -, -, hown2, -⟩ := Cond.laysFinal_spec hlay
      have e1 : c' = cf := by have := hi.symm.trans hf'; simp at this; exact this.1.symm
      rw [f9 hfin] at hown2
      rw [← e1]; exact Option.some.inj (hown.symm.trans hown2)
    have h6 := u_fits hfc hkC hkind (Or.inr hlay) hi f8 hn hfit
    exact W.putFinK C.1.1 C.1.2.1 hown (hts _ f4) hi hst hcf ((C.2.1.2.2 (hfi hfin)).trans (hfi hfin)) (by rw [q2]; exact h6) q1 q3 (by rw [hsl]; exact k2_hasslot (q4 k f2)) rfl rfl hd fin1
-- arrays
theorem Rn.iaload {pc1 : Nat} {a n : Nat} {f : Nat → Int32} {i : Int32} (hd : decode K.2.1 pc = .ok (.iaload, 1)) (hp : pc + 1 = pc1) (hμ : μ a = some (.inl (0, n, .inl f))) (hin : vp_in i n) {v : Int32} (hv : f i.toNatClampNeg = v) (h : Rn G d K pc1 L (.int v :: st) μ sz mc ms Q) : Rn G d K pc L (.int i :: .ref a :: st) μ sz mc ms Q := by
  subst hp
  subst hv
  intro p e R s m args below meth c H locs cells slots ls Z C hl hM hz hS hc hs hE
  have hP := (hM.2 a _ hμ).1
  have hlt : i.toNatClampNeg < n := Nat.not_le.mp fun q => hin (Or.inr q)
  exact W.iald (v := .int (f i.toNatClampNeg)) C.1.1 C.1.2.1 hP ((C.2.2.1.1.2 0 _ rfl).1 n (fun j => .int (f j))) (fun q => by cases q) (by show ¬ (i < 0 ∨ (arrV _ _ _).slots.size ≤ _); rw [arrV_size]; exact hin) (by show (arrV _ _ _).slots[_]? = _; rw [arrV_read _ _ hlt]) rfl rfl hd (h p e R s m args below meth c H locs cells slots ls Z C hl hM hz hS hc hs hE)
theorem Rn.aaload {pc1 : Nat} {a n t : Nat} {f : Nat → Option Nat} {i : Int32} {ty : String} (hd : decode K.2.1 pc = .ok (.aaload, 1)) (hp : pc + 1 = pc1) (hμ : μ a = some (.inl (t, n, .inr (.inr (.inr (.inr f)))))) (ht : ∀ dA : Nat → ClassId, (vtys dA)[t]? = some (dA t, .object ty)) (hin : vp_in i n) {v : Option Nat} (hv : f i.toNatClampNeg = v) (h : Rn G d K pc1 L (va_rf v :: st) μ sz mc ms Q) : Rn G d K pc L (.int i :: .ref a :: st) μ sz mc ms Q := by
  subst hp
  subst hv
  intro p e R s m args below meth c H locs cells slots ls Z C hl hM hz hS hc hs hE
  have hP := (hM.2 a _ hμ).1
  have hlt : i.toNatClampNeg < n := Nat.not_le.mp fun q => hin (Or.inr q)
  exact W.aald (v := va_rf (f i.toNatClampNeg)) (ty := .object ty) C.1.1 C.1.2.1 hP ((C.2.2.1.1.2 t _ (ht _)).1 n (fun j => va_rf (f j))) rfl (fun q => by cases q) (by show ¬ (i < 0 ∨ (arrV _ _ _).slots.size ≤ _); rw [arrV_size]; exact hin) (by show (arrV _ _ _).slots[_]? = _; rw [arrV_read _ _ hlt]) rfl rfl hd (h p e R s m args below meth c H locs cells slots ls Z C hl hM hz hS hc hs hE)
theorem Rn.alen {pc1 : Nat} {a t : Nat} {x : vp_A} {v : Int32} {ty : FieldType} (hd : decode K.2.1 pc = .ok (.arraylength, 1)) (hp : pc + 1 = pc1) (hμ : μ a = some (.inl (t, x))) (ht : ∀ dA : Nat → ClassId, (vtys dA)[t]? = some (dA t, ty)) (hv : Int32.ofNat x.1 = v) (h : Rn G d K pc1 L (.int v :: st) μ sz mc ms Q) : Rn G d K pc L (.ref a :: st) μ sz mc ms Q := by
  subst hp
  intro p e R s m args below meth c H locs cells slots ls Z C hl hM hz hS hc hs hE
  have hP : va_P (gD G) classes [(a, .inl (gA G t, x))] H := fun k q hq => by
    have hk : k < 1 := (List.getElem?_eq_some_iff.mp hq).1
    rw [show k = 0 by omega] at hq
    cases hq
    exact (hM.2 a _ hμ).1
  exact va_alen C.1.1 C.1.2.1 C.2.2.1.1 hP 0 t rfl (ht _) hv hd (h p e R s m args below meth c H locs cells slots ls Z C hl hM hz hS hc hs hE)
theorem updV_int {f : Nat → Int32} {k : Nat} {x : Int32} : updV (fun j => Value.int (f j)) k (.int x) = fun j => Value.int (upd f k x j) := by
  funext q
  by_cases hq : q = k
  · subst hq
    simp [updV, upd]
  · simp [updV, upd, hq]
theorem Rn.iastore {pc1 : Nat} {a n : Nat} {f f' : Nat → Int32} {i x : Int32} (hd : decode K.2.1 pc = .ok (.iastore, 1)) (hp : pc + 1 = pc1) (hμ : μ a = some (.inl (0, n, .inl f))) (hin : vp_in i n) (hf : upd f i.toNatClampNeg x = f') (h : Rn G d K pc1 L st (mset μ a (.inl (0, n, .inl f'))) sz mc ms Q) : Rn G d K pc L (.int x :: .int i :: .ref a :: st) μ sz mc ms Q := by
  subst hp
  subst hf
  intro p e R s m args below meth c H locs cells slots ls Z C hl hM hz hS hc hs hE
  obtain ⟨hP, hlo⟩ := hM.2 a _ hμ
  refine W.iast C.1.1 C.1.2.1 hP ((C.2.2.1.1.2 0 _ rfl).1 n (fun j => .int (f j))) (fun q => by cases q) (by show ¬ (i < 0 ∨ (arrV _ _ _).slots.size ≤ _); rw [arrV_size]; exact hin) rfl rfl hd fun H1 e1 z oq => ?_
  have hat : va_at (gD G) classes (a, trc (gA G) (.inl (0, n, .inl (upd f i.toNatClampNeg x)))) H1 := by
    show H1[a]? = some (vp_cell _ _)
    rw [e1, vp_cell_i, vp_cell_i, arrV_store, updV_int]
  exact h p e R s m args below meth c H1 _ cells slots ls Z C hl (hM.set hμ hat oq) (z.trans hz) (hS.put z oq hlo) hc hs hE
theorem Rn.aastore {pc1 : Nat} {a n t v ci : Nat} {f f' : Nat → Option Nat} {i : Int32} {r : vw_C} {vs : List Value} (hd : decode K.2.1 pc = .ok (.aastore, 1)) (hp : pc + 1 = pc1) (hμ : μ a = some (.inl (t, n, .inr (.inr (.inr (.inr f)))))) (ht : ∀ dA : Nat → ClassId, (vtys dA)[t]? = some (dA t, .object r.1)) (hv : μ v = some (.inr (ci, vs))) (hci : classes[ci]? = some r) (hin : vp_in i n) (hf : va_up f i.toNatClampNeg (some v) = f') (h : Rn G d K pc1 L st (mset μ a (.inl (t, n, .inr (.inr (.inr (.inr f')))))) sz mc ms Q) : Rn G d K pc L (.ref v :: .int i :: .ref a :: st) μ sz mc ms Q := by
  subst hp
  subst hf
  intro p e R s m args below meth c H locs cells slots ls Z C hl hM hz hS hc hs hE
  have hlt : i.toNatClampNeg < n := Nat.not_le.mp fun q => hin (Or.inr q)
  have h0 : ¬ i < 0 := fun q => hin (Or.inl q)
  have hK := C.2.2.1.1
  obtain ⟨hP, hlo⟩ := hM.2 a _ hμ
  obtain ⟨⟨r', hr', cellV, g1, g2, g3, -⟩, -⟩ := hM.2 v _ hv
  have hcls := (hK.1 ci r hci).2
  obtain ⟨kA, comp, k1, k2, k3, -⟩ := (hK.2 t _ (ht _)).2
  have hcomp : comp = (gD G).1 ci := Option.some.inj (k3.symm.trans hcls.1)
  subst hcomp
  obtain ⟨kC, hkC, -⟩ := hcls.2
  refine W.aast C.1.1 C.1.2.1 hP (fun q h => by cases h) (fun h => by cases h) k1 k2 rfl hkC ⟨h0, by show _ < (arrV _ _ _).slots.size; rw [arrV_size]; exact hlt⟩ g1 (fun q h => by rw [g3] at h; cases h) (by rw [g2]; exact hkC) (by rw [g2]; exact va_assign hcls) rfl rfl hd fun H1 e1 z oq => ?_
  have hat : va_at (gD G) classes (a, trc (gA G) (.inl (t, n, .inr (.inr (.inr (.inr (va_up f i.toNatClampNeg (some v)))))))) H1 := by
    show H1[a]? = some (vp_cell _ _)
    rw [e1, vp_cell_q, vp_cell_q, arrV_store]
    congr 2
    funext q
    by_cases hq : q = i.toNatClampNeg
    · subst hq
      simp [updV, va_up, va_rf]
    · simp [updV, va_up, hq]
  exact h p e R s m args below meth c H1 _ cells slots ls Z C hl (hM.set hμ hat oq) (z.trans hz) (hS.put z oq hlo) hc hs hE
-- making
theorem va_S.grow {A : Nat → Prop} {H0 H H1 : Heap} {locs : List Loc} (h : va_S A H0 H locs) (z : H1.size = H.size + 1) (oq : ∀ q : Nat, q < H.size → H1[q]? = H[q]?) : va_S A H0 H1 locs := ⟨by have := h.1; omega, fun x h1 h2 => (oq x (Nat.lt_of_lt_of_le h1 h.1)).trans (h.2.1 x h1 h2), h.2.2⟩
theorem Rn.newobj {pc1 : Nat} {idx ci N0 : Nat} {C0 : String} {T0 : u_T} {fs : List Value} (ty0 : Nat → FieldType) (hd : decode K.2.1 pc = .ok (.new idx, 3)) (hp : pc + 3 = pc1) (hq : Cond.classLink K.1.cls idx C0 ∈ lwT) (hi : Cond.instantiable C0 N0 ∈ lwT) (hini : Cond.initialized C0 ∈ lwT) (hcl : classes[ci]? = some (C0, T0, N0)) (hin : ∀ w ∈ u_ws C0 T0 N0, w ∈ lwT) (hty : ∀ k, k < N0 → parseFieldDescriptor (T0 k).2.2.1 = some (ty0 k)) (hfs : ∀ j, j < N0 → defaultValue (ty0 j) = vp_V fs j) (h : Rn G d K pc1 L (.ref sz :: st) (mset μ sz (.inr (ci, fs))) (sz + 1) mc ms Q) : Rn G d K pc L st μ sz (mc + 1) (ms + N0) Q := by
  subst hp
  intro p e R s m args below meth c H locs cells slots ls Z C hl hM hz hS hc hs hE
  have hts := C.1.2.2.2.2
  have hKn := C.2.2.1.1.1 ci _ hcl
  subst hz
  have hlo := C.2.2.2.1
  refine W.newcK C.1.1 C.1.2.1 C.1.2.2.2.1 (hts _ hq) (hts _ hi) (hts _ hini) rfl hd (by omega) (by omega) hKn.2.1 rfl fun H1 kC hkC e1 z1 o1 => ?_
  have hat : va_at (gD G) classes (H.size, trc (gA G) (.inr (ci, fs))) H1 := ⟨_, hcl, (u_born ty0 hts hin hKn hkC e1 hty).to hfs⟩
  exact h p e R s m args below meth c H1 locs (cells + 1) (slots + N0) ls Z C hl (hM.push (Nat.le_trans hlo hS.1) hat o1) z1 (hS.grow z1 o1) (by omega) (by omega) (by rw [show H.size + 1 + mc = H.size + (mc + 1) by omega]; exact hE)
theorem Rn.newints {pc1 : Nat} {i : Int32} {n : Nat} (hd : decode K.2.1 pc = .ok (.newarray .int, 2)) (hp : pc + 2 = pc1) (hq : Cond.arrayClass .int ∈ lwT) (hi : ¬ i < 0) (hn : i.toNatClampNeg = n) (hb : n * 4 ≤ 536870912) (h : Rn G d K pc1 L (.ref sz :: st) (mset μ sz (.inl (0, n, .inl (fun _ => 0)))) (sz + 1) mc ms Q) : Rn G d K pc L (.int i :: st) μ sz (mc + 1) (ms + n) Q := by
  subst hp
  intro p e R s m args below meth c H locs cells slots ls Z C hl hM hz hS hc hs hE
  subst hz
  have hlo := C.2.2.2.1
  refine va_newaK (atype := .int) C.1.1 C.1.2.1 (C.1.2.2.2.2 _ hq) rfl hd rfl hi hn hb (by omega) (by omega) rfl fun H1 cA e1 z1 o1 hAr hNm => ?_
  have hcA : cA = gA G 0 := Option.some.inj (hNm.symm.trans (C.2.2.1.1.2 0 _ rfl).2)
  subst hcA
  exact h p e R s m args below meth c H1 locs (cells + 1) (slots + n) ls Z C hl (hM.push (Nat.le_trans hlo hS.1) (show H1[H.size]? = some (vp_cell _ _) from e1) o1) z1 (hS.grow z1 o1) (by omega) (by omega) (by rw [show H.size + 1 + mc = H.size + (mc + 1) by omega]; exact hE)
theorem Rn.newrefs {pc1 : Nat} {idx t n : Nat} {C0 : String} {i : Int32} (hd : decode K.2.1 pc = .ok (.anewarray idx, 3)) (hp : pc + 3 = pc1) (hq : Cond.classLink K.1.cls idx C0 ∈ lwT) (hAO : ∀ U : State, (va_AO RX6 U ∧ va_AO RX3 U ∧ va_AO RX5 U ∧ va_AO RX4 U) → va_AO C0 U) (ht : ∀ dA : Nat → ClassId, (vtys dA)[t]? = some (dA t, .object C0)) (hi : ¬ i < 0) (hn : i.toNatClampNeg = n) (hb : n * 4 ≤ 536870912) (h : Rn G d K pc1 L (.ref sz :: st) (mset μ sz (.inl (t, n, .inr (.inr (.inr (.inr (fun _ => none))))))) (sz + 1) mc ms Q) : Rn G d K pc L (.int i :: st) μ sz (mc + 1) (ms + n) Q := by
  subst hp
  intro p e R s m args below meth c H locs cells slots ls Z C hl hM hz hS hc hs hE
  subst hz
  subst hn
  have hlo := C.2.2.2.1
  refine W.anew C.1.1 C.1.2.1 C.1.2.2.2.1 (C.1.2.2.2.2 _ hq) (va_AO.use (hAO s C.2.2.1.2.2.1)) rfl hd rfl hi hb (by omega) (by omega) fun cA kA comp f1 f2 f3 f4 => ?_
  generalize hH1 : H.push ({ cls := cA, slots := Array.replicate i.toNatClampNeg .null, vm := .none } : Cell) = H1
  have z1 : H1.size = H.size + 1 := by rw [← hH1, Array.size_push]
  have e1 : H1[H.size]? = some (arrV cA i.toNatClampNeg (fun _ => .null)) := by rw [← hH1, Array.getElem?_push_size, ← arrV_new]
  have o1 : ∀ q : Nat, q < H.size → H1[q]? = H[q]? := fun q hq => by rw [← hH1, Array.getElem?_push, if_neg (Nat.ne_of_lt hq)]
  obtain ⟨kA2, comp2, g1, g2, g3, g4⟩ := (C.2.2.1.1.2 t _ (ht _)).2
  have hcA : cA = gA G t := Option.some.inj (f1.symm.trans g4)
  subst hcA
  exact h p e R s m args below meth c H1 locs (cells + 1) (slots + i.toNatClampNeg) ls Z C hl (hM.push (Nat.le_trans hlo hS.1) (show H1[H.size]? = some (vp_cell _ _) from e1) o1) z1 (hS.grow z1 o1) (by omega) (by omega) (by rw [show H.size + 1 + mc = H.size + (mc + 1) by omega]; exact hE)
-- the script
theorem Rn.sld {pc1 : Nat} {i : Int32} {v : Int32} (hd : decode K.2.1 pc = .ok (.iaload, 1)) (hp : pc + 1 = pc1) (hin : vp_in i (gS G).slots.size) (hv : (gS G).slots[i.toNatClampNeg]? = some (.int v)) (h : Rn G d K pc1 L (.int v :: st) μ sz mc ms Q) : Rn G d K pc L (.int i :: .ref (gB G) :: st) μ sz mc ms Q := by
  subst hp
  intro p e R s m args below meth c H locs cells slots ls Z C hl hM hz hS hc hs hE
  exact W.iald (v := .int v) C.1.1 C.1.2.1 hM.1.1 C.2.2.1.2.2.2.1 C.2.2.1.2.2.2.2 hin hv rfl rfl hd (h p e R s m args below meth c H locs cells slots ls Z C hl hM hz hS hc hs hE)
theorem Rn.slen {pc1 : Nat} {v : Int32} (hd : decode K.2.1 pc = .ok (.arraylength, 1)) (hp : pc + 1 = pc1) (hv : (gS G).slots.size.toInt32 = v) (h : Rn G d K pc1 L (.int v :: st) μ sz mc ms Q) : Rn G d K pc L (.ref (gB G) :: st) μ sz mc ms Q := by
  subst hp
  intro p e R s m args below meth c H locs cells slots ls Z C hl hM hz hS hc hs hE
  exact W.alen (n := v) C.1.1 C.1.2.1 hM.1.1 C.2.2.1.2.2.2.1 hv rfl rfl hd (h p e R s m args below meth c H locs cells slots ls Z C hl hM hz hS hc hs hE)
-- Object's constructor, Math
theorem Rn.objInit {pc1 : Nat} {idx a : Nat} (hd : decode K.2.1 pc = .ok (.invokespecial idx, 3)) (hp : pc + 3 = pc1) (hq : Cond.methodLink K.1.cls idx objectInit ∈ lwT) (hcat : (st.map fun v => v.category).sum ≤ 8) (hdd : 1 ≤ d) (h : Rn G d K pc1 L st μ sz mc ms Q) : Rn G d K pc L (.ref a :: st) μ sz mc ms Q := by
  subst hp
  intro p e R s m args below meth c H locs cells slots ls Z C hl hM hz hS hc hs hE
  have hts := C.1.2.2.2.2
  have h1 := C.2.2.2.2
  exact W.objInit C.1.1 C.1.2.1 C.1.2.2.2.1 (hts _ hq) (hts _ qoi_inst) (hts _ qoi_code) rfl (by rw [C.1.2.2.1]; exact hl.2.1) rfl hd (by omega) (by show 2 * 0 + _ + 12 ≤ _; omega) (h p e R s m args below meth c H locs cells slots ls Z C hl hM hz hS hc hs hE)
theorem Rn.mmax {pc1 : Nat} {idx : Nat} {x y v : Int32} (hd : decode K.2.1 pc = .ok (.invokestatic idx, 3)) (hp : pc + 3 = pc1) (hq : Cond.methodLink K.1.cls idx Lib.Math.max.name ∈ lwT) (hcat : (st.map fun v => v.category).sum ≤ 8) (hdd : 1 ≤ d) (hv : (if x < y then y else x) = v) (h : Rn G d K pc1 L (.int v :: st) μ sz mc ms Q) : Rn G d K pc L (.int y :: .int x :: st) μ sz mc ms Q := by
  subst hp
  subst hv
  intro p e R s m args below meth c H locs cells slots ls Z C hl hM hz hS hc hs hE
  have hts := C.1.2.2.2.2
  have h1 := C.2.2.2.2
  exact va_mmax C.1.1 C.1.2.1 (C.1.2.2.1.trans hl.2.1.symm) C.1.2.2.2.1 (hts _ hq) (hts _ qmax_st) (hts _ qini_J9) (hts _ qmax_code) (by omega) (by omega) (by omega) (by omega) hd (h p e R s m args below meth c H locs cells slots ls Z C hl hM hz hS hc hs hE)
theorem Rn.mmin {pc1 : Nat} {idx : Nat} {x y v : Int32} (hd : decode K.2.1 pc = .ok (.invokestatic idx, 3)) (hp : pc + 3 = pc1) (hq : Cond.methodLink K.1.cls idx Lib.Math.min.name ∈ lwT) (hcat : (st.map fun v => v.category).sum ≤ 8) (hdd : 1 ≤ d) (hv : (if y < x then y else x) = v) (h : Rn G d K pc1 L (.int v :: st) μ sz mc ms Q) : Rn G d K pc L (.int y :: .int x :: st) μ sz mc ms Q := by
  subst hp
  subst hv
  intro p e R s m args below meth c H locs cells slots ls Z C hl hM hz hS hc hs hE
  have hts := C.1.2.2.2.2
  have h1 := C.2.2.2.2
  exact va_mmin C.1.1 C.1.2.1 (C.1.2.2.1.trans hl.2.1.symm) C.1.2.2.2.1 (hts _ hq) (hts _ qmin_st) (hts _ qini_J9) (hts _ qmin_code) (by omega) (by omega) (by omega) (by omega) hd (h p e R s m args below meth c H locs cells slots ls Z C hl hM hz hS hc hs hE)

-- calls
theorem Rn.runs {mc1 ms1 : Nat} {stk : List Value} {a : Array Value} {Q' : Option Value → Mm → Prop}
    (hrun : ∀ (p : Program) (e : Env) (R : Room) (s : State) (m : MethodId) (args : Array Value) (below : List Frame) (meth : Method) (c : Code) (H : Heap) (locs : List Loc) (cells slots : Nat) (ls : Array Slot), CtxA G d K p R s m args meth c → lvh ls K.2.2.1 L → MemA G μ H → H.size = sz → gLo G ≤ sz → cells + mc1 ≤ R.cells → slots + ms1 ≤ R.slots → va_Run p G.1 e R s m args below meth c H locs cells slots mc1 ms1 (F0 m pc ls stk) st (QcA G (sz + mc1) Q' a) (own G))
    (hk : ∀ (r : Option Value) (μ' : Mm), Q' r μ' → Rn G d K (pc + 3) L (r.toList ++ st) μ' (sz + mc1) mc ms Q) : Rn G d K pc L stk μ sz (mc1 + mc) (ms1 + ms) Q := by
  intro p e R s m args below meth c H locs cells slots ls Z C hl hM hz hS hc hs hE
  intro T hT X
  have hlo := Nat.le_trans C.2.2.2.1 (Nat.le_trans hS.1 (Nat.le_of_eq hz))
  obtain ⟨v, st₀, t, T', L', h0, X', hL', e1, e2, ⟨r, μ', hv, hQ, hM', hz', hz2, hF⟩, stp⟩ := hrun p e R s m args below meth c H locs cells slots ls C hl hM hz hlo (by omega) (by omega) T hT X
  cases hv
  rw [h0] at hF hz2
  have hS' : va_S (own G) s.heap T'.heap (locs ++ L') := by
    refine ⟨Nat.le_trans hS.1 (by rw [e1]; exact hz2), fun q h1 h2 => by rw [e1, hF q (Nat.lt_of_lt_of_le h1 hS.1) h2]; exact hS.2.1 q h1 h2, fun q hq => ?_⟩
    rcases List.mem_append.mp hq with h | h
    · exact hS.2.2 q h
    · exact hL' q h
  obtain ⟨t2, a1, b1⟩ := hk _ μ' hQ p e R s m args below meth c T'.heap (locs ++ L') (cells + mc1) (slots + ms1) ls Z C hl (by rw [e1]; exact hM') (by rw [e1]; exact hz') hS' (by omega) (by omega) (by rw [Nat.add_assoc]; exact hE) T' rfl X'
  exact ⟨t2, stp t2 a1, b1⟩
theorem calls_room {d d' n : Nat} {R : Room} (h1 : d ≤ R.frames) (h2 : 34 * d ≤ R.locals) (hd : d' < d) (hn : n ≤ 15) : d' + 1 ≤ R.frames ∧ 8 + (n + 11) + 34 * d' ≤ R.locals := by omega
theorem Rn.callV {pc1 : Nat} {K' : MK} {d' n idx a ci mc1 ms1 : Nat} {As : List Value} {stk : List Value} {r : vw_C} {fs : List Value} {Q' : Option Value → Mm → Prop} (hd : decode K.2.1 pc = .ok (.invokevirtual idx, 3)) (hp : pc + 3 = pc1) (hq : Cond.methodLink K.1.cls idx K'.1 ∈ lwT) (ho : VOk K' n) (hμ : μ a = some (.inr (ci, fs))) (hci : classes[ci]? = some r) (hcn : r.1 = K'.1.cls) (hn : As.length = n) (hst : As.reverse ++ .ref a :: st = stk) (hcat : (st.map fun v => v.category).sum ≤ 8) (hdd : d' < d) (hml : K'.2.2.1 ≤ 15) (hE' : EvA G d' K' (.ref a :: As) μ sz mc1 ms1 Q') (hk : ∀ (r : Option Value) (μ' : Mm), Q' r μ' → Rn G d K pc1 L (r.toList ++ st) μ' (sz + mc1) mc ms Q) : Rn G d K pc L stk μ sz (mc1 + mc) (ms1 + ms) Q := by
  subst hp
  subst hst
  refine Rn.runs (a := (Value.ref a :: As).toArray) (fun p e R s m args below meth c H locs cells slots ls C hl hM hz hlo hc hs => ?_) hk
  have hts := C.1.2.2.2.2
  obtain ⟨⟨b1, b2, b3, b4⟩, b5, b6⟩ := ho
  have hK := C.2.2.1
  obtain ⟨⟨r', hr', cellV, g1, g2, g3, -⟩, -⟩ := hM.2 a _ hμ
  have hcls := (hK.1.1 ci r hci).2
  exact va_runV (C := K'.1.cls) C.1 (hE' hlo) ⟨callB_of n hts (lwG b1) rfl rfl rfl (hts _ b2) (hts _ hq) ⟨b3.1, b3.2.1, b3.2.2⟩ (calls_room C.2.2.2.2.1 C.2.2.2.2.2 hdd hml), hts _ b5, hts _ b6⟩ ⟨PcA.blind, ⟨cellV, g1, by rw [g3]; rfl, by rw [g2, ← hcn]; exact hcls.1⟩, fun U hU hW => PcA.at hK hM hz hU hW⟩ rfl hn hl.2.1 rfl (lv_room hcat) hd ⟨hc, hs⟩
theorem Rn.callS {pc1 : Nat} {K' : MK} {d' n idx mc1 ms1 : Nat} {As : List Value} {stk : List Value} {Q' : Option Value → Mm → Prop} (hd : decode K.2.1 pc = .ok (.invokestatic idx, 3)) (hp : pc + 3 = pc1) (hq : Cond.methodLink K.1.cls idx K'.1 ∈ lwT) (ho : SOk K' n) (hn : As.length = n) (hst : As.reverse ++ st = stk) (hcat : (st.map fun v => v.category).sum ≤ 8) (hdd : d' < d) (hml : K'.2.2.1 ≤ 15) (hE' : EvA G d' K' As μ sz mc1 ms1 Q') (hk : ∀ (r : Option Value) (μ' : Mm), Q' r μ' → Rn G d K pc1 L (r.toList ++ st) μ' (sz + mc1) mc ms Q) : Rn G d K pc L stk μ sz (mc1 + mc) (ms1 + ms) Q := by
  subst hp
  subst hst
  refine Rn.runs (a := As.toArray) (fun p e R s m args below meth c H locs cells slots ls C hl hM hz hlo hc hs => ?_) hk
  have hts := C.1.2.2.2.2
  obtain ⟨⟨b1, b2, b3, b4⟩, b5⟩ := ho
  exact va_runS C.1 (hE' hlo) ⟨callB_of n hts (lwG b1) rfl rfl rfl (hts _ b2) (hts _ hq) ⟨b3.1, b3.2.1, b3.2.2⟩ (calls_room C.2.2.2.2.1 C.2.2.2.2.2 hdd hml), hts _ b5⟩ ⟨PcA.blind, fun U hU hW => PcA.at C.2.2.1 hM hz hU hW⟩ rfl hn hl.2.1 rfl (lv_room hcat) hd ⟨hc, hs⟩
theorem Rn.callSN {pc1 : Nat} {K' : MK} {d' n idx mc1 ms1 : Nat} {host : String} {As : List Value} {stk : List Value} {Q' : Option Value → Mm → Prop} (hd : decode K.2.1 pc = .ok (.invokestatic idx, 3)) (hp : pc + 3 = pc1) (hq : (K.1.cls, idx, K'.1, host) ∈ nestL) (ho : SOk K' n) (hn : As.length = n) (hst : As.reverse ++ st = stk) (hcat : (st.map fun v => v.category).sum ≤ 8) (hdd : d' < d) (hml : K'.2.2.1 ≤ 15) (hE' : EvA G d' K' As μ sz mc1 ms1 Q') (hk : ∀ (r : Option Value) (μ' : Mm), Q' r μ' → Rn G d K pc1 L (r.toList ++ st) μ' (sz + mc1) mc ms Q) : Rn G d K pc L stk μ sz (mc1 + mc) (ms1 + ms) Q := by
  subst hp
  subst hst
  refine Rn.runs (a := As.toArray) (fun p e R s m args below meth c H locs cells slots ls C hl hM hz hlo hc hs => ?_) hk
  have hts := C.1.2.2.2.2
  obtain ⟨⟨b1, b2, b3, b4⟩, b5⟩ := ho
  exact va_runSN C.1 (hE' hlo) ⟨va_cnB n hts (lwG b1) rfl rfl rfl (C.2.2.1.2.1 _ hq) (hts _ b2) ⟨b3.1, b3.2.1, b3.2.2⟩ (calls_room C.2.2.2.2.1 C.2.2.2.2.2 hdd hml), hts _ b5, trivial⟩ ⟨PcA.blind, fun U hU hW => PcA.at C.2.2.1 hM hz hU hW⟩ rfl hn hl.2.1 rfl (lv_room hcat) hd ⟨hc, hs⟩
theorem Rn.callI {pc1 : Nat} {K' : MK} {d' n idx a mc1 ms1 : Nat} {As : List Value} {stk : List Value} {Q' : Option Value → Mm → Prop} (hd : decode K.2.1 pc = .ok (.invokespecial idx, 3)) (hp : pc + 3 = pc1) (hq : Cond.methodLink K.1.cls idx K'.1 ∈ lwT) (hret : K'.2.2.2 = none) (ho : IOk K' n) (hn : As.length = n) (hst : As.reverse ++ .ref a :: st = stk) (hcat : (st.map fun v => v.category).sum ≤ 8) (hdd : d' < d) (hml : K'.2.2.1 ≤ 15) (hE' : EvA G d' K' (.ref a :: As) μ sz mc1 ms1 Q') (hk : ∀ (r : Option Value) (μ' : Mm), Q' r μ' → Rn G d K pc1 L (r.toList ++ st) μ' (sz + mc1) mc ms Q) : Rn G d K pc L stk μ sz (mc1 + mc) (ms1 + ms) Q := by
  subst hp
  subst hst
  refine Rn.runs (a := (Value.ref a :: As).toArray) (fun p e R s m args below meth c H locs cells slots ls C hl hM hz hlo hc hs => ?_) hk
  have hts := C.1.2.2.2.2
  obtain ⟨⟨b1, b2, b3, b4⟩, b5, b6⟩ := ho
  exact va_runI C.1 (hE' hlo) ⟨callB_of n hts (lwG b1) (by rw [hret]) rfl rfl (hts _ b2) (hts _ hq) ⟨b3.1, b3.2.1, b3.2.2⟩ (calls_room C.2.2.2.2.1 C.2.2.2.2.2 hdd hml), b5, hts _ b6⟩ ⟨PcA.blind, fun U hU hW => PcA.at C.2.2.1 hM hz hU hW⟩ rfl hn hl.2.1 rfl (lv_room hcat) hd ⟨hc, hs⟩
theorem Rn.callIN {pc1 : Nat} {K' : MK} {d' n idx a mc1 ms1 : Nat} {host : String} {As : List Value} {stk : List Value} {Q' : Option Value → Mm → Prop} (hd : decode K.2.1 pc = .ok (.invokespecial idx, 3)) (hp : pc + 3 = pc1) (hq : (K.1.cls, idx, K'.1, host) ∈ nestL) (hret : K'.2.2.2 = none) (ho : IOk K' n) (hn : As.length = n) (hst : As.reverse ++ .ref a :: st = stk) (hcat : (st.map fun v => v.category).sum ≤ 8) (hdd : d' < d) (hml : K'.2.2.1 ≤ 15) (hE' : EvA G d' K' (.ref a :: As) μ sz mc1 ms1 Q') (hk : ∀ (r : Option Value) (μ' : Mm), Q' r μ' → Rn G d K pc1 L (r.toList ++ st) μ' (sz + mc1) mc ms Q) : Rn G d K pc L stk μ sz (mc1 + mc) (ms1 + ms) Q := by
  subst hp
  subst hst
  refine Rn.runs (a := (Value.ref a :: As).toArray) (fun p e R s m args below meth c H locs cells slots ls C hl hM hz hlo hc hs => ?_) hk
  have hts := C.1.2.2.2.2
  obtain ⟨⟨b1, b2, b3, b4⟩, b5, b6⟩ := ho
  exact va_runIN C.1 (hE' hlo) ⟨va_cnB n hts (lwG b1) (by rw [hret]) rfl rfl (C.2.2.1.2.1 _ hq) (hts _ b2) ⟨b3.1, b3.2.1, b3.2.2⟩ (calls_room C.2.2.2.2.1 C.2.2.2.2.2 hdd hml), b5, hts _ b6⟩ ⟨PcA.blind, fun U hU hW => PcA.at C.2.2.1 hM hz hU hW⟩ rfl hn hl.2.1 rfl (lv_room hcat) hd ⟨hc, hs⟩
end RULES
end
section
section CALLS
variable {G : GG} {d : Nat} {K : MK} {pc : Nat} {L : List (Option Value)} {st : List Value} {μ : Mm} {sz mc ms : Nat} {Q : Option Value → Mm → Prop}
theorem Rn.cV_i {pc1 : Nat} {K' : MK} {d' n idx : Nat} {As : List Value} {stk : List Value} {Qi : Int32 → Mm → Prop} {a ci : Nat} {r : vw_C} {fs : List Value} (hE : EvA G d' K' (.ref a :: As) μ sz 0 0 (rI Qi)) (hd : decode K.2.1 pc = .ok (.invokevirtual idx, 3)) (hp : pc + 3 = pc1) (hq : Cond.methodLink K.1.cls idx K'.1 ∈ lwT) (ho : VOk K' n) (hμ : μ a = some (.inr (ci, fs))) (hci : classes[ci]? = some r) (hcn : r.1 = K'.1.cls) (hn : As.length = n) (hst : As.reverse ++ .ref a :: st = stk) (hcat : (st.map fun v => v.category).sum ≤ 8) (hdd : d' < d) (hml : K'.2.2.1 ≤ 15) (hk : ∀ (v : Int32) (μ' : Mm), Qi v μ' → Rn G d K pc1 L (.int v :: st) μ' sz mc ms Q) : Rn G d K pc L stk μ sz mc ms Q := by
  subst hp
  rw [show mc = 0 + mc from (Nat.zero_add mc).symm, show ms = 0 + ms from (Nat.zero_add ms).symm]
  refine Rn.callV hd rfl hq ho hμ hci hcn hn hst hcat hdd hml hE ?_
  rintro r μ' ⟨v, rfl, hv⟩
  exact hk v μ' hv
theorem Rn.cS_i {pc1 : Nat} {K' : MK} {d' n idx : Nat} {As : List Value} {stk : List Value} {Qi : Int32 → Mm → Prop} (hE : EvA G d' K' As μ sz 0 0 (rI Qi)) (hd : decode K.2.1 pc = .ok (.invokestatic idx, 3)) (hp : pc + 3 = pc1) (hq : Cond.methodLink K.1.cls idx K'.1 ∈ lwT) (ho : SOk K' n) (hn : As.length = n) (hst : As.reverse ++ st = stk) (hcat : (st.map fun v => v.category).sum ≤ 8) (hdd : d' < d) (hml : K'.2.2.1 ≤ 15) (hk : ∀ (v : Int32) (μ' : Mm), Qi v μ' → Rn G d K pc1 L (.int v :: st) μ' sz mc ms Q) : Rn G d K pc L stk μ sz mc ms Q := by
  subst hp
  rw [show mc = 0 + mc from (Nat.zero_add mc).symm, show ms = 0 + ms from (Nat.zero_add ms).symm]
  refine Rn.callS hd rfl hq ho hn hst hcat hdd hml hE ?_
  rintro r μ' ⟨v, rfl, hv⟩
  exact hk v μ' hv
theorem Rn.cN_i {pc1 : Nat} {K' : MK} {d' n idx : Nat} {As : List Value} {stk : List Value} {Qi : Int32 → Mm → Prop} {host : String} (hE : EvA G d' K' As μ sz 0 0 (rI Qi)) (hd : decode K.2.1 pc = .ok (.invokestatic idx, 3)) (hp : pc + 3 = pc1) (hq : (K.1.cls, idx, K'.1, host) ∈ nestL) (ho : SOk K' n) (hn : As.length = n) (hst : As.reverse ++ st = stk) (hcat : (st.map fun v => v.category).sum ≤ 8) (hdd : d' < d) (hml : K'.2.2.1 ≤ 15) (hk : ∀ (v : Int32) (μ' : Mm), Qi v μ' → Rn G d K pc1 L (.int v :: st) μ' sz mc ms Q) : Rn G d K pc L stk μ sz mc ms Q := by
  subst hp
  rw [show mc = 0 + mc from (Nat.zero_add mc).symm, show ms = 0 + ms from (Nat.zero_add ms).symm]
  refine Rn.callSN hd rfl hq ho hn hst hcat hdd hml hE ?_
  rintro r μ' ⟨v, rfl, hv⟩
  exact hk v μ' hv
theorem Rn.cV_v {pc1 : Nat} {K' : MK} {d' n idx : Nat} {As : List Value} {stk : List Value} {Qi : Mm → Prop} {a ci : Nat} {r : vw_C} {fs : List Value} (hE : EvA G d' K' (.ref a :: As) μ sz 0 0 (rV Qi)) (hd : decode K.2.1 pc = .ok (.invokevirtual idx, 3)) (hp : pc + 3 = pc1) (hq : Cond.methodLink K.1.cls idx K'.1 ∈ lwT) (ho : VOk K' n) (hμ : μ a = some (.inr (ci, fs))) (hci : classes[ci]? = some r) (hcn : r.1 = K'.1.cls) (hn : As.length = n) (hst : As.reverse ++ .ref a :: st = stk) (hcat : (st.map fun v => v.category).sum ≤ 8) (hdd : d' < d) (hml : K'.2.2.1 ≤ 15) (hk : ∀ (μ' : Mm), Qi μ' → Rn G d K pc1 L st μ' sz mc ms Q) : Rn G d K pc L stk μ sz mc ms Q := by
  subst hp
  rw [show mc = 0 + mc from (Nat.zero_add mc).symm, show ms = 0 + ms from (Nat.zero_add ms).symm]
  refine Rn.callV hd rfl hq ho hμ hci hcn hn hst hcat hdd hml hE ?_
  rintro r μ' ⟨rfl, hv⟩
  exact hk μ' hv
theorem Rn.cS_v {pc1 : Nat} {K' : MK} {d' n idx : Nat} {As : List Value} {stk : List Value} {Qi : Mm → Prop} (hE : EvA G d' K' As μ sz 0 0 (rV Qi)) (hd : decode K.2.1 pc = .ok (.invokestatic idx, 3)) (hp : pc + 3 = pc1) (hq : Cond.methodLink K.1.cls idx K'.1 ∈ lwT) (ho : SOk K' n) (hn : As.length = n) (hst : As.reverse ++ st = stk) (hcat : (st.map fun v => v.category).sum ≤ 8) (hdd : d' < d) (hml : K'.2.2.1 ≤ 15) (hk : ∀ (μ' : Mm), Qi μ' → Rn G d K pc1 L st μ' sz mc ms Q) : Rn G d K pc L stk μ sz mc ms Q := by
  subst hp
  rw [show mc = 0 + mc from (Nat.zero_add mc).symm, show ms = 0 + ms from (Nat.zero_add ms).symm]
  refine Rn.callS hd rfl hq ho hn hst hcat hdd hml hE ?_
  rintro r μ' ⟨rfl, hv⟩
  exact hk μ' hv
theorem Rn.cN_v {pc1 : Nat} {K' : MK} {d' n idx : Nat} {As : List Value} {stk : List Value} {Qi : Mm → Prop} {host : String} (hE : EvA G d' K' As μ sz 0 0 (rV Qi)) (hd : decode K.2.1 pc = .ok (.invokestatic idx, 3)) (hp : pc + 3 = pc1) (hq : (K.1.cls, idx, K'.1, host) ∈ nestL) (ho : SOk K' n) (hn : As.length = n) (hst : As.reverse ++ st = stk) (hcat : (st.map fun v => v.category).sum ≤ 8) (hdd : d' < d) (hml : K'.2.2.1 ≤ 15) (hk : ∀ (μ' : Mm), Qi μ' → Rn G d K pc1 L st μ' sz mc ms Q) : Rn G d K pc L stk μ sz mc ms Q := by
  subst hp
  rw [show mc = 0 + mc from (Nat.zero_add mc).symm, show ms = 0 + ms from (Nat.zero_add ms).symm]
  refine Rn.callSN hd rfl hq ho hn hst hcat hdd hml hE ?_
  rintro r μ' ⟨rfl, hv⟩
  exact hk μ' hv
theorem Rn.cV_r {pc1 : Nat} {K' : MK} {d' n idx : Nat} {As : List Value} {stk : List Value} {Qi : Option Nat → Mm → Prop} {a ci : Nat} {r : vw_C} {fs : List Value} (hE : EvA G d' K' (.ref a :: As) μ sz 0 0 (rR Qi)) (hd : decode K.2.1 pc = .ok (.invokevirtual idx, 3)) (hp : pc + 3 = pc1) (hq : Cond.methodLink K.1.cls idx K'.1 ∈ lwT) (ho : VOk K' n) (hμ : μ a = some (.inr (ci, fs))) (hci : classes[ci]? = some r) (hcn : r.1 = K'.1.cls) (hn : As.length = n) (hst : As.reverse ++ .ref a :: st = stk) (hcat : (st.map fun v => v.category).sum ≤ 8) (hdd : d' < d) (hml : K'.2.2.1 ≤ 15) (hk : ∀ (v : Option Nat) (μ' : Mm), Qi v μ' → Rn G d K pc1 L (va_rf v :: st) μ' sz mc ms Q) : Rn G d K pc L stk μ sz mc ms Q := by
  subst hp
  rw [show mc = 0 + mc from (Nat.zero_add mc).symm, show ms = 0 + ms from (Nat.zero_add ms).symm]
  refine Rn.callV hd rfl hq ho hμ hci hcn hn hst hcat hdd hml hE ?_
  rintro r μ' ⟨v, rfl, hv⟩
  exact hk v μ' hv
theorem Rn.cS_r {pc1 : Nat} {K' : MK} {d' n idx : Nat} {As : List Value} {stk : List Value} {Qi : Option Nat → Mm → Prop} (hE : EvA G d' K' As μ sz 0 0 (rR Qi)) (hd : decode K.2.1 pc = .ok (.invokestatic idx, 3)) (hp : pc + 3 = pc1) (hq : Cond.methodLink K.1.cls idx K'.1 ∈ lwT) (ho : SOk K' n) (hn : As.length = n) (hst : As.reverse ++ st = stk) (hcat : (st.map fun v => v.category).sum ≤ 8) (hdd : d' < d) (hml : K'.2.2.1 ≤ 15) (hk : ∀ (v : Option Nat) (μ' : Mm), Qi v μ' → Rn G d K pc1 L (va_rf v :: st) μ' sz mc ms Q) : Rn G d K pc L stk μ sz mc ms Q := by
  subst hp
  rw [show mc = 0 + mc from (Nat.zero_add mc).symm, show ms = 0 + ms from (Nat.zero_add ms).symm]
  refine Rn.callS hd rfl hq ho hn hst hcat hdd hml hE ?_
  rintro r μ' ⟨v, rfl, hv⟩
  exact hk v μ' hv
theorem Rn.cN_r {pc1 : Nat} {K' : MK} {d' n idx : Nat} {As : List Value} {stk : List Value} {Qi : Option Nat → Mm → Prop} {host : String} (hE : EvA G d' K' As μ sz 0 0 (rR Qi)) (hd : decode K.2.1 pc = .ok (.invokestatic idx, 3)) (hp : pc + 3 = pc1) (hq : (K.1.cls, idx, K'.1, host) ∈ nestL) (ho : SOk K' n) (hn : As.length = n) (hst : As.reverse ++ st = stk) (hcat : (st.map fun v => v.category).sum ≤ 8) (hdd : d' < d) (hml : K'.2.2.1 ≤ 15) (hk : ∀ (v : Option Nat) (μ' : Mm), Qi v μ' → Rn G d K pc1 L (va_rf v :: st) μ' sz mc ms Q) : Rn G d K pc L stk μ sz mc ms Q := by
  subst hp
  rw [show mc = 0 + mc from (Nat.zero_add mc).symm, show ms = 0 + ms from (Nat.zero_add ms).symm]
  refine Rn.callSN hd rfl hq ho hn hst hcat hdd hml hE ?_
  rintro r μ' ⟨v, rfl, hv⟩
  exact hk v μ' hv
theorem Rn.cI {pc1 : Nat} {K' : MK} {d' n idx mc1 ms1 mc0 ms0 a : Nat} {host : String} {As : List Value} {stk : List Value} {Qi : Mm → Prop} (hE : EvA G d' K' (.ref a :: As) μ sz mc1 ms1 (rV Qi)) (hd : decode K.2.1 pc = .ok (.invokespecial idx, 3)) (hp : pc + 3 = pc1) (hq : Cond.methodLink K.1.cls idx K'.1 ∈ lwT) (hret : K'.2.2.2 = none) (ho : IOk K' n) (hn : As.length = n) (hst : As.reverse ++ .ref a :: st = stk) (hcat : (st.map fun v => v.category).sum ≤ 8) (hdd : d' < d) (hml : K'.2.2.1 ≤ 15) (hm : mc0 = mc1 + mc) (hs : ms0 = ms1 + ms) (hk : ∀ (μ' : Mm), Qi μ' → Rn G d K pc1 L st μ' (sz + mc1) mc ms Q) : Rn G d K pc L stk μ sz mc0 ms0 Q := by
  subst hp
  subst hm
  subst hs
  refine Rn.callI hd rfl hq hret ho hn hst hcat hdd hml hE ?_
  rintro r μ' ⟨rfl, hv⟩
  exact hk μ' hv
theorem Rn.cJ {pc1 : Nat} {K' : MK} {d' n idx mc1 ms1 mc0 ms0 a : Nat} {host : String} {As : List Value} {stk : List Value} {Qi : Mm → Prop} (hE : EvA G d' K' (.ref a :: As) μ sz mc1 ms1 (rV Qi)) (hd : decode K.2.1 pc = .ok (.invokespecial idx, 3)) (hp : pc + 3 = pc1) (hq : (K.1.cls, idx, K'.1, host) ∈ nestL) (hret : K'.2.2.2 = none) (ho : IOk K' n) (hn : As.length = n) (hst : As.reverse ++ .ref a :: st = stk) (hcat : (st.map fun v => v.category).sum ≤ 8) (hdd : d' < d) (hml : K'.2.2.1 ≤ 15) (hm : mc0 = mc1 + mc) (hs : ms0 = ms1 + ms) (hk : ∀ (μ' : Mm), Qi μ' → Rn G d K pc1 L st μ' (sz + mc1) mc ms Q) : Rn G d K pc L stk μ sz mc0 ms0 Q := by
  subst hp
  subst hm
  subst hs
  refine Rn.callIN hd rfl hq hret ho hn hst hcat hdd hml hE ?_
  rintro r μ' ⟨rfl, hv⟩
  exact hk μ' hv
end CALLS
theorem nI_mul (a b : Nat) : nI a * nI b = nI (a * b) := (Int32.ofNat_mul a b).symm
theorem nI_sub {a b : Nat} (h : b ≤ a) : nI a - nI b = nI (a - b) := by
  obtain ⟨c, rfl⟩ := Nat.le.dest h
  rw [← nI_add, Nat.add_sub_cancel_left, Int32.add_comm, Int32.add_sub_cancel]
theorem nI_z : (0 : Int32) = nI 0 := rfl
theorem vp_nI {i : Int32} {j n : Nat} (hi : i = nI j) (hj : j < n) (hn : n < 2 ^ 31) : vp_in i n := by rw [hi]; exact vp_in_nI hj hn
theorem gI {α : Type} {f : Nat → α} {i : Int32} {j : Nat} (hi : i = nI j) (hj : j < 2 ^ 31) : f i.toNatClampNeg = f j := by rw [hi, nI_clamp hj]
theorem updI {f : Nat → Int32} {i x : Int32} {j : Nat} (hi : i = nI j) (hj : j < 2 ^ 31) : upd f i.toNatClampNeg x = upd f j x := by rw [hi, nI_clamp hj]
theorem mget_ne {μ : Mm} {a b : Nat} {c : Cl} {x : Option Cl} (h : b ≠ a) (h2 : μ b = x) : mset μ a c b = x := (mset_ne h).trans h2
/-- nothing outside a stretch has changed -/
def Fr (a b : Nat) (μ μ' : Mm) : Prop := ∀ q, q < a ∨ b ≤ q → μ' q = μ q
theorem Fr.rf {a b : Nat} {μ : Mm} : Fr a b μ μ := fun _ _ => rfl
theorem Fr.trans {a b : Nat} {μ μ1 μ2 : Mm} (h : Fr a b μ μ1) (h2 : Fr a b μ1 μ2) : Fr a b μ μ2 := fun q hq => (h2 q hq).trans (h q hq)
theorem Fr.wide {a b a' b' : Nat} {μ μ' : Mm} (h : Fr a b μ μ') (h1 : a' ≤ a) (h2 : b ≤ b') : Fr a' b' μ μ' := fun q hq => h q (by omega)
theorem Fr.set {a b q : Nat} {μ : Mm} {c : Cl} (h1 : a ≤ q) (h2 : q < b) : Fr a b μ (mset μ q c) := fun x hx => mset_ne (by omega)
abbrev ints (n : Nat) (f : Nat → Int32) : Cl := .inl (0, n, .inl f)
abbrev bools (n : Nat) (f : Nat → Int32) : Cl := .inl (1, n, .inl f)
abbrev refs (t n : Nat) (f : Nat → Option Nat) : Cl := .inl (t, n, .inr (.inr (.inr (.inr f))))
abbrev obj (ci : Nat) (fs : List Value) : Cl := .inr (ci, fs)
/-- a truth value as an int -/
def bI (b : Bool) : Int32 := if b then 1 else 0
theorem bI_t : bI true = nI 1 := rfl
theorem bI_f : bI false = nI 0 := rfl
theorem bI_nar (b : Bool) : narrow .boolean (.int (bI b)) = .int (bI b) := by cases b <;> rfl
theorem bI_0 {b : Bool} (h : bI b = nI 0) : b = false := by cases b <;> first | rfl | exact absurd h (by decide)
theorem bI_n {b : Bool} (h : ¬ bI b = nI 0) : b = true := by cases b <;> first | rfl | exact absurd rfl h
def cpy (n : Nat) (f g : Nat → Int32) : Nat → Int32 := fun j => if j < n then f j else g j
theorem cpy_0 (f g : Nat → Int32) : cpy 0 f g = g := funext fun j => if_neg (by omega)
theorem cpy_upd (n : Nat) (f g : Nat → Int32) : upd (cpy n f g) n (f n) = cpy (n + 1) f g := by
  funext j
  unfold upd cpy
  by_cases h1 : j = n
  · subst h1; rw [if_pos rfl, if_pos (by omega)]
  · rw [if_neg h1]
    by_cases h2 : j < n
    · rw [if_pos h2, if_pos (by omega)]
    · rw [if_neg h2, if_neg (by omega)]
theorem cpy_lt {n j : Nat} {f g : Nat → Int32} (h : j < n) : cpy n f g j = f j := if_pos h
end
section
/-! ===== the small questions, rows of numbers, Values ===== -/
def inB (v lo hi : Int32) : Bool := decide (lo ≤ v) && decide (v ≤ hi)
theorem i32_nlt {x y : Int32} : ¬ x < y ↔ y ≤ x := by rw [Int32.lt_iff_toInt_lt, Int32.le_iff_toInt_le]; omega
theorem i32_nle {x y : Int32} : ¬ x ≤ y ↔ y < x := by rw [Int32.lt_iff_toInt_lt, Int32.le_iff_toInt_le]; omega
theorem inB_t {v lo hi : Int32} (h1 : ¬ v < lo) (h2 : ¬ hi < v) : inB v lo hi = true := by
  unfold inB
  rw [decide_eq_true (i32_nlt.mp h1), decide_eq_true (i32_nlt.mp h2)]; rfl
theorem inB_lo {v lo hi : Int32} (h1 : v < lo) : inB v lo hi = false := by
  unfold inB
  rw [decide_eq_false (i32_nle.mpr h1)]; rfl
theorem inB_hi {v lo hi : Int32} (h1 : hi < v) : inB v lo hi = false := by
  unfold inB
  rw [decide_eq_false (i32_nle.mpr h1), Bool.and_false]
theorem inB_nI {v : Int32} {n : Nat} (hn : n < 2 ^ 31) (h : inB v (nI 0) (nI n) = true) : ∃ j, j ≤ n ∧ v = nI j := by
  unfold inB at h
  rw [Bool.and_eq_true, decide_eq_true_eq, decide_eq_true_eq] at h
  obtain ⟨j, hj, rfl⟩ := nI_of (x := v) (i32_nlt.mpr h.1)
  exact ⟨j, (nI_leI hj hn).mp h.2, rfl⟩
theorem inB_of {j n : Nat} (hj : j ≤ n) (hn : n < 2 ^ 31) : inB (nI j) (nI 0) (nI n) = true := inB_t (nI_nlt (by omega) (by omega)) (nI_nlt hj hn)
theorem i32_lt12 {i : Int32} : nI 12 ≤ i ↔ nI 11 < i := by
  rw [Int32.lt_iff_toInt_lt, Int32.le_iff_toInt_le, nI_toInt (by decide), nI_toInt (by decide)]
  omega
def lateB (p f : Int32) : Bool := decide (nI 0 < p) && decide (p < f)
section LEAF
variable {G : GG} {μ : Mm} {sz : Nat}
theorem eX8_at {a n j : Nat} {i : Int32} {f : Nat → Int32} (h : μ a = some (ints n f)) (hi : i = nI j) (hj : j < n) (hn : n < 2 ^ 31) : EvA G 0 kX8_at [.ref a, .int i] μ sz 0 0 (rI fun v μ' => v = f j ∧ μ' = μ) := by
  refine EvA.of (L := [some (.ref a), some (.int i)]) (by decide +kernel) (Nat.le_of_ble_eq_true rfl) rfl ?_
  refine Rn.iload_n (pc1 := 1)  dX8_at_0 rfl rfl rfl ?_
  refine Rn.if_lt (pc1 := 4) 10 dX8_at_1 rfl (by decide) (fun c1 => ?_) (fun c1 => ?_)
  · exact absurd c1 (by rw [hi]; exact nI_nlt (Nat.zero_le _) (by omega))
  · refine Rn.iload_n (pc1 := 5)  dX8_at_4 rfl rfl rfl ?_
    refine Rn.aload_n (pc1 := 6)  dX8_at_5 rfl rfl rfl ?_
    refine Rn.alen (pc1 := 7) (v := nI n)  dX8_at_6 rfl (by first | assumption | exact mset_same | exact mget_ne (by omega) (by assumption)) (fun _ => rfl) rfl ?_
    refine Rn.icmp_lt (pc1 := 10) 12 dX8_at_7 rfl (by decide) (fun c7 => ?_) (fun c7 => ?_)
    · refine Rn.aload_n (pc1 := 13)  dX8_at_12 rfl rfl rfl ?_
      refine Rn.iload_n (pc1 := 14)  dX8_at_13 rfl rfl rfl ?_
      refine Rn.iaload (pc1 := 15)  dX8_at_14 rfl (by assumption) (vp_nI hi hj hn) (gI hi (by omega)) ?_
      exact Rn.ireturn dX8_at_15 rfl rfl ⟨_, rfl, rfl, rfl⟩
    · exact absurd (by rw [hi]; exact nI_lt hj hn) c7
theorem eX8_layAt {a n j : Nat} {i x : Int32} {f : Nat → Int32} (h : μ a = some (ints n f)) (hi : i = nI j) (hj : j < n) (hn : n < 2 ^ 31) : EvA G 0 kX8_layAt [.ref a, .int i, .int x] μ sz 0 0 (rV fun μ' => μ' = mset μ a (ints n (upd f j x))) := by
  refine EvA.of (L := [some (.ref a), some (.int i), some (.int x)]) (by decide +kernel) (Nat.le_of_ble_eq_true rfl) rfl ?_
  refine Rn.iload_n (pc1 := 1)  dX8_layAt_0 rfl rfl rfl ?_
  refine Rn.if_lt (pc1 := 4) 14 dX8_layAt_1 rfl (by decide) (fun c1 => ?_) (fun c1 => ?_)
  · exact absurd c1 (by rw [hi]; exact nI_nlt (Nat.zero_le _) (by omega))
  · refine Rn.iload_n (pc1 := 5)  dX8_layAt_4 rfl rfl rfl ?_
    refine Rn.aload_n (pc1 := 6)  dX8_layAt_5 rfl rfl rfl ?_
    refine Rn.alen (pc1 := 7) (v := nI n)  dX8_layAt_6 rfl (by first | assumption | exact mset_same | exact mget_ne (by omega) (by assumption)) (fun _ => rfl) rfl ?_
    refine Rn.icmp_ge (pc1 := 10) 14 dX8_layAt_7 rfl (by decide) (fun c7 => ?_) (fun c7 => ?_)
    · exact absurd c7 (by rw [hi]; exact nI_ge hj hn)
    · refine Rn.aload_n (pc1 := 11)  dX8_layAt_10 rfl rfl rfl ?_
      refine Rn.iload_n (pc1 := 12)  dX8_layAt_11 rfl rfl rfl ?_
      refine Rn.iload_n (pc1 := 13)  dX8_layAt_12 rfl rfl rfl ?_
      refine Rn.iastore (pc1 := 14)  dX8_layAt_13 rfl (by assumption) (vp_nI hi hj hn) (updI hi (by omega)) ?_
      exact Rn.vreturn dX8_layAt_14 rfl ⟨rfl, rfl⟩
theorem eX8_copyRow {a b n : Nat} {f g : Nat → Int32} (ha : μ a = some (ints n f)) (hb : μ b = some (ints n g)) (hab : a ≠ b) (hn : n < 2 ^ 31) : EvA G 0 kX8_copyRow [.ref a, .ref b] μ sz 0 0 (rV fun μ' => μ' = mset μ b (ints n (cpy n f g))) := by
  refine EvA.of (L := [some (.ref a), some (.ref b), none]) (by decide +kernel) (Nat.le_of_ble_eq_true rfl) rfl ?_
  have loop : ∀ (m j : Nat), j + m = n → Rn G 0 kX8_copyRow 2 [some (.ref a), some (.ref b), some (.int (nI j))] [] (mset μ b (ints n (cpy j f g))) sz 0 0 (rV fun μ' => μ' = mset μ b (ints n (cpy n f g))) := by
    intro m
    induction m with
    | zero =>
      intro j hj
      obtain rfl : j = n := by omega
      have ha' : mset μ b (ints j (cpy j f g)) a = some (ints j f) := mget_ne hab ha
      refine Rn.iload_n (pc1 := 3)  dX8_copyRow_2 rfl rfl rfl ?_
      refine Rn.aload_n (pc1 := 4)  dX8_copyRow_3 rfl rfl rfl ?_
      refine Rn.alen (pc1 := 5) (v := nI j)  dX8_copyRow_4 rfl (by first | assumption | exact mset_same | exact mget_ne (by omega) (by assumption)) (fun _ => rfl) rfl ?_
      refine Rn.icmp_ge (pc1 := 8) 26 dX8_copyRow_5 rfl (by decide) (fun c5 => ?_) (fun c5 => ?_)
      · exact Rn.vreturn dX8_copyRow_26 rfl ⟨rfl, rfl⟩
      · exact absurd (nI_le (Nat.le_refl j) hn) c5
    | succ m ih =>
      intro j hj
      have ha' : mset μ b (ints n (cpy j f g)) a = some (ints n f) := mget_ne hab ha
      refine Rn.iload_n (pc1 := 3)  dX8_copyRow_2 rfl rfl rfl ?_
      refine Rn.aload_n (pc1 := 4)  dX8_copyRow_3 rfl rfl rfl ?_
      refine Rn.alen (pc1 := 5) (v := nI n)  dX8_copyRow_4 rfl (by first | assumption | exact mset_same | exact mget_ne (by omega) (by assumption)) (fun _ => rfl) rfl ?_
      refine Rn.icmp_ge (pc1 := 8) 26 dX8_copyRow_5 rfl (by decide) (fun c5 => ?_) (fun c5 => ?_)
      · exact absurd c5 (nI_ge (by omega) hn)
      · refine Rn.iload_n (pc1 := 9)  dX8_copyRow_8 rfl rfl rfl ?_
        refine Rn.aload_n (pc1 := 10)  dX8_copyRow_9 rfl rfl rfl ?_
        refine Rn.alen (pc1 := 11) (v := nI n)  dX8_copyRow_10 rfl (by first | assumption | exact mset_same | exact mget_ne (by omega) (by assumption)) (fun _ => rfl) rfl ?_
        refine Rn.icmp_ge (pc1 := 14) 26 dX8_copyRow_11 rfl (by decide) (fun c11 => ?_) (fun c11 => ?_)
        · exact absurd c11 (nI_ge (by omega) hn)
        · refine Rn.aload_n (pc1 := 15)  dX8_copyRow_14 rfl rfl rfl ?_
          refine Rn.iload_n (pc1 := 16)  dX8_copyRow_15 rfl rfl rfl ?_
          refine Rn.aload_n (pc1 := 17)  dX8_copyRow_16 rfl rfl rfl ?_
          refine Rn.iload_n (pc1 := 18)  dX8_copyRow_17 rfl rfl rfl ?_
          refine Rn.iaload (pc1 := 19)  dX8_copyRow_18 rfl (by assumption) (vp_nI rfl (by omega) hn) (gI rfl (by omega)) ?_
          refine Rn.iastore (pc1 := 20)  dX8_copyRow_19 rfl mset_same (vp_nI rfl (by omega) hn) (updI rfl (by omega)) ?_
          rw [mset_mset, cpy_upd]
          refine Rn.iinc (pc1 := 23)  dX8_copyRow_20 rfl rfl (nI_1 j) (by decide) rfl rfl ?_
          refine Rn.goto 2 dX8_copyRow_23 (by decide) ?_
          exact ih (j + 1) (by omega)
  refine Rn.iconst (pc1 := 1) (v := nI 0) dX8_copyRow_0 rfl (by decide) ?_
  refine Rn.istore_n (pc1 := 2)  dX8_copyRow_1 rfl rfl (by decide) rfl rfl ?_
  have := loop n 0 (by omega); rw [cpy_0, mset_id hb] at this; exact this
theorem eX8_isKey {i : Int32} : EvA G 0 kX8_isKey [.int i] μ sz 0 0 (rI fun v μ' => v = bI (inB i (nI 0) (nI 11)) ∧ μ' = μ) := by
  refine EvA.of (L := [some (.int i)]) (by decide +kernel) (Nat.le_of_ble_eq_true rfl) rfl ?_
  refine Rn.iload_n (pc1 := 1)  dX8_isKey_0 rfl rfl rfl ?_
  refine Rn.if_lt (pc1 := 4) 14 dX8_isKey_1 rfl (by decide) (fun c1 => ?_) (fun c1 => ?_)
  · rw [inB_lo c1]
    refine Rn.iconst (pc1 := 15) (v := nI 0) dX8_isKey_14 rfl (by decide) ?_
    exact Rn.ireturn dX8_isKey_15 rfl rfl ⟨_, rfl, rfl, rfl⟩
  · refine Rn.iload_n (pc1 := 5)  dX8_isKey_4 rfl rfl rfl ?_
    refine Rn.bipush (pc1 := 7) (v := nI 12) dX8_isKey_5 rfl (by decide) ?_
    refine Rn.icmp_ge (pc1 := 10) 14 dX8_isKey_7 rfl (by decide) (fun c7 => ?_) (fun c7 => ?_)
    · rw [inB_hi (i32_lt12.mp c7)]
      refine Rn.iconst (pc1 := 15) (v := nI 0) dX8_isKey_14 rfl (by decide) ?_
      exact Rn.ireturn dX8_isKey_15 rfl rfl ⟨_, rfl, rfl, rfl⟩
    · rw [inB_t c1 (fun q => c7 (i32_lt12.mpr q))]
      refine Rn.iconst (pc1 := 11) (v := nI 1) dX8_isKey_10 rfl (by decide) ?_
      refine Rn.goto 15 dX8_isKey_11 (by decide) ?_
      exact Rn.ireturn dX8_isKey_15 rfl rfl ⟨_, rfl, rfl, rfl⟩
theorem eX8_isNumber {i : Int32} : EvA G 0 kX8_isNumber [.int i] μ sz 0 0 (rI fun v μ' => v = bI (inB i (nI 0) (nI 999)) ∧ μ' = μ) := by
  refine EvA.of (L := [some (.int i)]) (by decide +kernel) (Nat.le_of_ble_eq_true rfl) rfl ?_
  refine Rn.iload_n (pc1 := 1)  dX8_isNumber_0 rfl rfl rfl ?_
  refine Rn.if_lt (pc1 := 4) 15 dX8_isNumber_1 rfl (by decide) (fun c1 => ?_) (fun c1 => ?_)
  · rw [inB_lo c1]
    refine Rn.iconst (pc1 := 16) (v := nI 0) dX8_isNumber_15 rfl (by decide) ?_
    exact Rn.ireturn dX8_isNumber_16 rfl rfl ⟨_, rfl, rfl, rfl⟩
  · refine Rn.iload_n (pc1 := 5)  dX8_isNumber_4 rfl rfl rfl ?_
    refine Rn.sipush (pc1 := 8) (v := nI 999) dX8_isNumber_5 rfl (by decide) ?_
    refine Rn.icmp_gt (pc1 := 11) 15 dX8_isNumber_8 rfl (by decide) (fun c8 => ?_) (fun c8 => ?_)
    · rw [inB_hi c8]
      refine Rn.iconst (pc1 := 16) (v := nI 0) dX8_isNumber_15 rfl (by decide) ?_
      exact Rn.ireturn dX8_isNumber_16 rfl rfl ⟨_, rfl, rfl, rfl⟩
    · rw [inB_t c1 c8]
      refine Rn.iconst (pc1 := 12) (v := nI 1) dX8_isNumber_11 rfl (by decide) ?_
      refine Rn.goto 16 dX8_isNumber_12 (by decide) ?_
      exact Rn.ireturn dX8_isNumber_16 rfl rfl ⟨_, rfl, rfl, rfl⟩
theorem eX8_isLate {i x : Int32} : EvA G 0 kX8_isLate [.int i, .int x] μ sz 0 0 (rI fun v μ' => v = bI (lateB i x) ∧ μ' = μ) := by
  refine EvA.of (L := [some (.int i), some (.int x)]) (by decide +kernel) (Nat.le_of_ble_eq_true rfl) rfl ?_
  refine Rn.iload_n (pc1 := 1)  dX8_isLate_0 rfl rfl rfl ?_
  refine Rn.if_le (pc1 := 4) 13 dX8_isLate_1 rfl (by decide) (fun c1 => ?_) (fun c1 => ?_)
  · rw [show lateB i x = false by unfold lateB; rw [decide_eq_false (i32_nlt.mpr c1)]; rfl]
    refine Rn.iconst (pc1 := 14) (v := nI 0) dX8_isLate_13 rfl (by decide) ?_
    exact Rn.ireturn dX8_isLate_14 rfl rfl ⟨_, rfl, rfl, rfl⟩
  · refine Rn.iload_n (pc1 := 5)  dX8_isLate_4 rfl rfl rfl ?_
    refine Rn.iload_n (pc1 := 6)  dX8_isLate_5 rfl rfl rfl ?_
    refine Rn.icmp_ge (pc1 := 9) 13 dX8_isLate_6 rfl (by decide) (fun c6 => ?_) (fun c6 => ?_)
    · rw [show lateB i x = false by unfold lateB; rw [decide_eq_false (i32_nlt.mpr c6), Bool.and_false]]
      refine Rn.iconst (pc1 := 14) (v := nI 0) dX8_isLate_13 rfl (by decide) ?_
      exact Rn.ireturn dX8_isLate_14 rfl rfl ⟨_, rfl, rfl, rfl⟩
    · rw [show lateB i x = true by unfold lateB; rw [decide_eq_true (i32_nle.mp c1), decide_eq_true (i32_nle.mp c6)]; rfl]
      refine Rn.iconst (pc1 := 10) (v := nI 1) dX8_isLate_9 rfl (by decide) ?_
      refine Rn.goto 14 dX8_isLate_10 (by decide) ?_
      exact Rn.ireturn dX8_isLate_14 rfl rfl ⟨_, rfl, rfl, rfl⟩
theorem eX8_oneIf {b : Bool} : EvA G 0 kX8_oneIf [.int (bI b)] μ sz 0 0 (rI fun v μ' => v = bI b ∧ μ' = μ) := by
  refine EvA.of (L := [some (.int (bI b))]) (by decide +kernel) (Nat.le_of_ble_eq_true rfl) rfl ?_
  cases b
  · refine Rn.iload_n (pc1 := 1)  dX8_oneIf_0 rfl rfl rfl ?_
    refine Rn.if_eq (pc1 := 4) 8 dX8_oneIf_1 rfl (by decide) (fun c1 => ?_) (fun c1 => ?_)
    · refine Rn.iconst (pc1 := 9) (v := nI 0) dX8_oneIf_8 rfl (by decide) ?_
      exact Rn.ireturn dX8_oneIf_9 rfl rfl ⟨_, rfl, rfl, rfl⟩
    · exact absurd rfl c1
  · refine Rn.iload_n (pc1 := 1)  dX8_oneIf_0 rfl rfl rfl ?_
    refine Rn.if_eq (pc1 := 4) 8 dX8_oneIf_1 rfl (by decide) (fun c1 => ?_) (fun c1 => ?_)
    · exact absurd c1 (by decide)
    · refine Rn.iconst (pc1 := 5) (v := nI 1) dX8_oneIf_4 rfl (by decide) ?_
      refine Rn.goto 9 dX8_oneIf_5 (by decide) ?_
      exact Rn.ireturn dX8_oneIf_9 rfl rfl ⟨_, rfl, rfl, rfl⟩
/-- a Values object and its row: what it holds for the keys -/
def VA (μ : Mm) (a : Nat) (f : Nat → Int32) : Prop := μ a = some (obj 7 [.ref (a + 1)]) ∧ ∃ g, μ (a + 1) = some (ints 12 g) ∧ ∀ j, j < 12 → g j = f j
theorem VA.fr {μ' : Mm} {a x y : Nat} {f : Nat → Int32} (h : VA μ a f) (hF : Fr x y μ μ') (hd : a + 2 ≤ x ∨ y ≤ a) : VA μ' a f := by
  obtain ⟨h1, g, h2, h3⟩ := h
  exact ⟨(hF a (by omega)).trans h1, g, (hF (a + 1) (by omega)).trans h2, h3⟩
theorem VA.to {a : Nat} {f f' : Nat → Int32} (h : VA μ a f) (hf : ∀ j, j < 12 → f j = f' j) : VA μ a f' := by
  obtain ⟨h1, g, h2, h3⟩ := h
  exact ⟨h1, g, h2, fun j hj => (h3 j hj).trans (hf j hj)⟩
theorem eX7_of {a j : Nat} {i : Int32} {f : Nat → Int32} (h : VA μ a f) (hi : i = nI j) (hj : j < 12) : EvA G 1 kX7_of [.ref a, .int i] μ sz 0 0 (rI fun v μ' => v = f j ∧ μ' = μ) := by
  obtain ⟨h1, g, h2, h3⟩ := h
  refine EvA.of (L := [some (.ref a), some (.int i)]) (by decide +kernel) (Nat.le_of_ble_eq_true rfl) rfl ?_
  refine Rn.aload_n (pc1 := 1)  dX7_of_0 rfl rfl rfl ?_
  refine Rn.getfield (pc1 := 4)  dX7_of_1 rfl fX7_9 (by first | assumption | exact mset_same | exact mget_ne (by omega) (by assumption)) rfl ?_
  refine Rn.iload_n (pc1 := 5)  dX7_of_4 rfl rfl rfl ?_
  refine Rn.cN_i (pc1 := 8) (eX8_at h2 hi hj (by decide)) dX7_of_5 rfl nX7_26 oX8_at rfl rfl (Nat.le_of_ble_eq_true rfl) (by decide) (by decide) (fun v5 μ5 h5 => ?_)
  obtain ⟨rfl, rfl⟩ := h5
  exact Rn.ireturn dX7_of_8 rfl rfl ⟨_, rfl, h3 j hj, rfl⟩
theorem eX7_change {a j : Nat} {i x : Int32} {f : Nat → Int32} (h : VA μ a f) (hi : i = nI j) (hj : j < 12) : EvA G 1 kX7_change [.ref a, .int i, .int x] μ sz 0 0 (rV fun μ' => VA μ' a (upd f j x) ∧ Fr a (a + 2) μ μ') := by
  obtain ⟨h1, g, h2, h3⟩ := h
  refine EvA.of (L := [some (.ref a), some (.int i), some (.int x)]) (by decide +kernel) (Nat.le_of_ble_eq_true rfl) rfl ?_
  refine Rn.aload_n (pc1 := 1)  dX7_change_0 rfl rfl rfl ?_
  refine Rn.getfield (pc1 := 4)  dX7_change_1 rfl fX7_9 (by first | assumption | exact mset_same | exact mget_ne (by omega) (by assumption)) rfl ?_
  refine Rn.iload_n (pc1 := 5)  dX7_change_4 rfl rfl rfl ?_
  refine Rn.iload_n (pc1 := 6)  dX7_change_5 rfl rfl rfl ?_
  refine Rn.cN_v (pc1 := 9) (eX8_layAt h2 hi hj (by decide)) dX7_change_6 rfl nX7_18 oX8_layAt rfl rfl (Nat.le_of_ble_eq_true rfl) (by decide) (by decide) (fun μ6 h6 => ?_)
  subst h6
  refine Rn.vreturn dX7_change_9 rfl ⟨rfl, ⟨mget_ne (by omega) h1, _, mset_same, fun q hq => ?_⟩, Fr.set (by omega) (by omega)⟩
  unfold upd; rw [h3 q hq]
theorem eX7_copyFrom {a b : Nat} {f f' : Nat → Int32} (h : VA μ a f) (hb : VA μ b f') (hd : a + 2 ≤ b ∨ b + 2 ≤ a) : EvA G 1 kX7_copyFrom [.ref a, .ref b] μ sz 0 0 (rV fun μ' => VA μ' a f' ∧ Fr a (a + 2) μ μ') := by
  obtain ⟨h1, g, h2, h3⟩ := h
  obtain ⟨k1, g', k2, k3⟩ := hb
  refine EvA.of (L := [some (.ref a), some (.ref b)]) (by decide +kernel) (Nat.le_of_ble_eq_true rfl) rfl ?_
  refine Rn.aload_n (pc1 := 1)  dX7_copyFrom_0 rfl rfl rfl ?_
  refine Rn.getfield (pc1 := 4)  dX7_copyFrom_1 rfl fX7_9 (by first | assumption | exact mset_same | exact mget_ne (by omega) (by assumption)) rfl ?_
  refine Rn.aload_n (pc1 := 5)  dX7_copyFrom_4 rfl rfl rfl ?_
  refine Rn.getfield (pc1 := 8)  dX7_copyFrom_5 rfl fX7_9 (by first | assumption | exact mset_same | exact mget_ne (by omega) (by assumption)) rfl ?_
  refine Rn.cN_v (pc1 := 11) (eX8_copyRow k2 h2 (by omega) (by decide)) dX7_copyFrom_8 rfl nX7_22 oX8_copyRow rfl rfl (Nat.le_of_ble_eq_true rfl) (by decide) (by decide) (fun μ8 h8 => ?_)
  subst h8
  exact Rn.vreturn dX7_copyFrom_11 rfl ⟨rfl, ⟨mget_ne (by omega) h1, _, mset_same, fun q hq => (cpy_lt hq).trans (k3 q hq)⟩, Fr.set (by omega) (by omega)⟩
theorem eX7_clear {a : Nat} {f : Nat → Int32} (h : VA μ a f) : EvA G 1 kX7_clear [.ref a] μ sz 0 0 (rV fun μ' => VA μ' a (fun _ => -6) ∧ Fr a (a + 2) μ μ') := by
  obtain ⟨h1, g, h2, h3⟩ := h
  refine EvA.of (L := [some (.ref a), none]) (by decide +kernel) (Nat.le_of_ble_eq_true rfl) rfl ?_
  have loop : ∀ (m j : Nat), j + m = 12 → Rn G 1 kX7_clear 2 [some (.ref a), some (.int (nI j))] [] (mset μ (a + 1) (ints 12 (cpy j (fun _ => -6) g))) sz 0 0 (rV fun μ' => VA μ' a (fun _ => -6) ∧ Fr a (a + 2) μ μ') := by
    intro m
    induction m with
    | zero =>
      intro j hj
      obtain rfl : j = 12 := by omega
      refine Rn.iload_n (pc1 := 3)  dX7_clear_2 rfl rfl rfl ?_
      refine Rn.bipush (pc1 := 5) (v := nI 12) dX7_clear_3 rfl (by decide) ?_
      refine Rn.icmp_ge (pc1 := 8) 24 dX7_clear_5 rfl (by decide) (fun c5 => ?_) (fun c5 => ?_)
      · exact Rn.vreturn dX7_clear_24 rfl ⟨rfl, ⟨mget_ne (by omega) h1, _, mset_same, fun q hq => cpy_lt hq⟩, Fr.set (by omega) (by omega)⟩
      · exact absurd (nI_le (Nat.le_refl 12) (by decide)) c5
    | succ m ih =>
      intro j hj
      have h1' : mset μ (a + 1) (ints 12 (cpy j (fun _ => -6) g)) a = some (obj 7 [.ref (a + 1)]) := mget_ne (by omega) h1
      refine Rn.iload_n (pc1 := 3)  dX7_clear_2 rfl rfl rfl ?_
      refine Rn.bipush (pc1 := 5) (v := nI 12) dX7_clear_3 rfl (by decide) ?_
      refine Rn.icmp_ge (pc1 := 8) 24 dX7_clear_5 rfl (by decide) (fun c5 => ?_) (fun c5 => ?_)
      · exact absurd c5 (nI_ge (by omega) (by decide))
      · refine Rn.aload_n (pc1 := 9)  dX7_clear_8 rfl rfl rfl ?_
        refine Rn.getfield (pc1 := 12)  dX7_clear_9 rfl fX7_9 (by first | assumption | exact mset_same | exact mget_ne (by omega) (by assumption)) rfl ?_
        refine Rn.iload_n (pc1 := 13)  dX7_clear_12 rfl rfl rfl ?_
        refine Rn.bipush (pc1 := 15) (v := (-6)) dX7_clear_13 rfl (by decide) ?_
        refine Rn.cN_v (pc1 := 18) (eX8_layAt mset_same rfl (by omega) (by decide)) dX7_clear_15 rfl nX7_18 oX8_layAt rfl rfl (Nat.le_of_ble_eq_true rfl) (by decide) (by decide) (fun μ15 h15 => ?_)
        subst h15
        rw [mset_mset, cpy_upd (f := fun _ => -6)]
        refine Rn.iinc (pc1 := 21)  dX7_clear_18 rfl rfl (nI_1 j) (by decide) rfl rfl ?_
        refine Rn.goto 2 dX7_clear_21 (by decide) ?_
        exact ih (j + 1) (by omega)
  refine Rn.iconst (pc1 := 1) (v := nI 0) dX7_clear_0 rfl (by decide) ?_
  refine Rn.istore_n (pc1 := 2)  dX7_clear_1 rfl rfl (by decide) rfl rfl ?_
  have := loop 12 0 (by omega); rw [cpy_0, mset_id h2] at this; exact this
def cntN (f : Nat → Int32) : Nat → Nat
  | 0 => 0
  | n + 1 => cntN f n + if f n = -6 then 0 else 1
theorem cntN_le (f : Nat → Int32) : ∀ n, cntN f n ≤ n
  | 0 => Nat.le_refl 0
  | n + 1 => by have := cntN_le f n; unfold cntN; split <;> omega
theorem cntN_congr {f g : Nat → Int32} : ∀ n, (∀ j, j < n → f j = g j) → cntN f n = cntN g n
  | 0, _ => rfl
  | n + 1, h => by unfold cntN; rw [cntN_congr n (fun j hj => h j (by omega)), h n (by omega)]
def difN (f g : Nat → Int32) : Nat → Int32
  | 0 => 0
  | n + 1 => if f n = g n then difN f g n else difN f g n ||| (nI 1 <<< (nI n &&& 31))
theorem difN_congr {f g f' g' : Nat → Int32} : ∀ n, (∀ j, j < n → f j = f' j) → (∀ j, j < n → g j = g' j) → difN f g n = difN f' g' n
  | 0, _, _ => rfl
  | n + 1, h, k => by unfold difN; rw [difN_congr n (fun j hj => h j (by omega)) (fun j hj => k j (by omega)), h n (by omega), k n (by omega)]
theorem eX7_howMany {a : Nat} {f : Nat → Int32} (h : VA μ a f) : EvA G 2 kX7_howMany [.ref a] μ sz 0 0 (rI fun v μ' => v = nI (cntN f 12) ∧ μ' = μ) := by
  refine EvA.of (L := [some (.ref a), none, none]) (by decide +kernel) (Nat.le_of_ble_eq_true rfl) rfl ?_
  have h1 := h.1
  have loop : ∀ (m j : Nat), j + m = 12 → Rn G 2 kX7_howMany 4 [some (.ref a), some (.int (nI (cntN f j))), some (.int (nI j))] [] μ sz 0 0 (rI fun v μ' => v = nI (cntN f 12) ∧ μ' = μ) := by
    intro m
    induction m with
    | zero =>
      intro j hj
      obtain rfl : j = 12 := by omega
      refine Rn.iload_n (pc1 := 5)  dX7_howMany_4 rfl rfl rfl ?_
      refine Rn.bipush (pc1 := 7) (v := nI 12) dX7_howMany_5 rfl (by decide) ?_
      refine Rn.icmp_ge (pc1 := 10) 29 dX7_howMany_7 rfl (by decide) (fun c7 => ?_) (fun c7 => ?_)
      · refine Rn.iload_n (pc1 := 30)  dX7_howMany_29 rfl rfl rfl ?_
        exact Rn.ireturn dX7_howMany_30 rfl rfl ⟨_, rfl, rfl, rfl⟩
      · exact absurd (nI_le (Nat.le_refl 12) (by decide)) c7
    | succ m ih =>
      intro j hj
      refine Rn.iload_n (pc1 := 5)  dX7_howMany_4 rfl rfl rfl ?_
      refine Rn.bipush (pc1 := 7) (v := nI 12) dX7_howMany_5 rfl (by decide) ?_
      refine Rn.icmp_ge (pc1 := 10) 29 dX7_howMany_7 rfl (by decide) (fun c7 => ?_) (fun c7 => ?_)
      · exact absurd c7 (nI_ge (by omega) (by decide))
      · refine Rn.aload_n (pc1 := 11)  dX7_howMany_10 rfl rfl rfl ?_
        refine Rn.iload_n (pc1 := 12)  dX7_howMany_11 rfl rfl rfl ?_
        refine Rn.cV_i (pc1 := 15) (eX7_of h rfl (show j < 12 by omega)) dX7_howMany_12 rfl qX7_30 oX7_of (by first | assumption | exact mset_same | exact mget_ne (by omega) (by assumption)) rfl rfl rfl rfl (Nat.le_of_ble_eq_true rfl) (by decide) (by decide) (fun v12 μ12 h12 => ?_)
        obtain ⟨rfl, rfl⟩ := h12
        refine Rn.bipush (pc1 := 17) (v := (-6)) dX7_howMany_15 rfl (by decide) ?_
        refine Rn.icmp_eq (pc1 := 20) 23 dX7_howMany_17 rfl (by decide) (fun c17 => ?_) (fun c17 => ?_)
        · have e : cntN f (j + 1) = cntN f j := by show cntN f j + (if f j = -6 then 0 else 1) = _; rw [if_pos c17, Nat.add_zero]
          refine Rn.iinc (pc1 := 26)  dX7_howMany_23 rfl rfl (nI_1 j) (by decide) rfl rfl ?_
          refine Rn.goto 4 dX7_howMany_26 (by decide) ?_
          have := ih (j + 1) (by omega); rw [e] at this; exact this
        · have e : cntN f (j + 1) = cntN f j + 1 := by show cntN f j + (if f j = -6 then 0 else 1) = _; rw [if_neg c17]
          refine Rn.iinc (pc1 := 23)  dX7_howMany_20 rfl rfl (nI_1 _) (by decide) rfl rfl ?_
          refine Rn.iinc (pc1 := 26)  dX7_howMany_23 rfl rfl (nI_1 j) (by decide) rfl rfl ?_
          refine Rn.goto 4 dX7_howMany_26 (by decide) ?_
          have := ih (j + 1) (by omega); rw [e] at this; exact this
  refine Rn.iconst (pc1 := 1) (v := nI 0) dX7_howMany_0 rfl (by decide) ?_
  refine Rn.istore_n (pc1 := 2)  dX7_howMany_1 rfl rfl (by decide) rfl rfl ?_
  refine Rn.iconst (pc1 := 3) (v := nI 0) dX7_howMany_2 rfl (by decide) ?_
  refine Rn.istore_n (pc1 := 4)  dX7_howMany_3 rfl rfl (by decide) rfl rfl ?_
  exact loop 12 0 (by omega)
theorem eX7_differingFrom {a b : Nat} {f g : Nat → Int32} (h : VA μ a f) (hb : VA μ b g) : EvA G 2 kX7_differingFrom [.ref a, .ref b] μ sz 0 0 (rI fun v μ' => v = difN f g 12 ∧ μ' = μ) := by
  refine EvA.of (L := [some (.ref a), some (.ref b), none, none]) (by decide +kernel) (Nat.le_of_ble_eq_true rfl) rfl ?_
  have h1 := h.1
  have hb1 := hb.1
  have loop : ∀ (m j : Nat), j + m = 12 → Rn G 2 kX7_differingFrom 4 [some (.ref a), some (.ref b), some (.int (difN f g j)), some (.int (nI j))] [] μ sz 0 0 (rI fun v μ' => v = difN f g 12 ∧ μ' = μ) := by
    intro m
    induction m with
    | zero =>
      intro j hj
      obtain rfl : j = 12 := by omega
      refine Rn.iload_n (pc1 := 5)  dX7_differingFrom_4 rfl rfl rfl ?_
      refine Rn.bipush (pc1 := 7) (v := nI 12) dX7_differingFrom_5 rfl (by decide) ?_
      refine Rn.icmp_ge (pc1 := 10) 35 dX7_differingFrom_7 rfl (by decide) (fun c7 => ?_) (fun c7 => ?_)
      · refine Rn.iload_n (pc1 := 36)  dX7_differingFrom_35 rfl rfl rfl ?_
        exact Rn.ireturn dX7_differingFrom_36 rfl rfl ⟨_, rfl, rfl, rfl⟩
      · exact absurd (nI_le (Nat.le_refl 12) (by decide)) c7
    | succ m ih =>
      intro j hj
      refine Rn.iload_n (pc1 := 5)  dX7_differingFrom_4 rfl rfl rfl ?_
      refine Rn.bipush (pc1 := 7) (v := nI 12) dX7_differingFrom_5 rfl (by decide) ?_
      refine Rn.icmp_ge (pc1 := 10) 35 dX7_differingFrom_7 rfl (by decide) (fun c7 => ?_) (fun c7 => ?_)
      · exact absurd c7 (nI_ge (by omega) (by decide))
      · refine Rn.aload_n (pc1 := 11)  dX7_differingFrom_10 rfl rfl rfl ?_
        refine Rn.iload_n (pc1 := 12)  dX7_differingFrom_11 rfl rfl rfl ?_
        refine Rn.cV_i (pc1 := 15) (eX7_of h rfl (show j < 12 by omega)) dX7_differingFrom_12 rfl qX7_30 oX7_of (by first | assumption | exact mset_same | exact mget_ne (by omega) (by assumption)) rfl rfl rfl rfl (Nat.le_of_ble_eq_true rfl) (by decide) (by decide) (fun v12 μ12 h12 => ?_)
        obtain ⟨rfl, rfl⟩ := h12
        refine Rn.aload_n (pc1 := 16)  dX7_differingFrom_15 rfl rfl rfl ?_
        refine Rn.iload_n (pc1 := 17)  dX7_differingFrom_16 rfl rfl rfl ?_
        refine Rn.cV_i (pc1 := 20) (eX7_of hb rfl (show j < 12 by omega)) dX7_differingFrom_17 rfl qX7_30 oX7_of (by first | assumption | exact mset_same | exact mget_ne (by omega) (by assumption)) rfl rfl rfl rfl (Nat.le_of_ble_eq_true rfl) (by decide) (by decide) (fun v17 μ17 h17 => ?_)
        obtain ⟨rfl, rfl⟩ := h17
        refine Rn.icmp_eq (pc1 := 23) 29 dX7_differingFrom_20 rfl (by decide) (fun c20 => ?_) (fun c20 => ?_)
        · have e : difN f g (j + 1) = difN f g j := if_pos c20
          refine Rn.iinc (pc1 := 32)  dX7_differingFrom_29 rfl rfl (nI_1 j) (by decide) rfl rfl ?_
          refine Rn.goto 4 dX7_differingFrom_32 (by decide) ?_
          have := ih (j + 1) (by omega); rw [e] at this; exact this
        · have e : difN f g (j + 1) = difN f g j ||| (nI 1 <<< (nI j &&& 31)) := if_neg c20
          refine Rn.iload_n (pc1 := 24)  dX7_differingFrom_23 rfl rfl rfl ?_
          refine Rn.iconst (pc1 := 25) (v := nI 1) dX7_differingFrom_24 rfl (by decide) ?_
          refine Rn.iload_n (pc1 := 26)  dX7_differingFrom_25 rfl rfl rfl ?_
          refine Rn.ishl (pc1 := 27)  dX7_differingFrom_26 rfl rfl ?_
          refine Rn.ior (pc1 := 28)  dX7_differingFrom_27 rfl rfl ?_
          refine Rn.istore_n (pc1 := 29)  dX7_differingFrom_28 rfl rfl (by decide) rfl rfl ?_
          refine Rn.iinc (pc1 := 32)  dX7_differingFrom_29 rfl rfl (nI_1 j) (by decide) rfl rfl ?_
          refine Rn.goto 4 dX7_differingFrom_32 (by decide) ?_
          have := ih (j + 1) (by omega); rw [e] at this; exact this
  refine Rn.iconst (pc1 := 1) (v := nI 0) dX7_differingFrom_0 rfl (by decide) ?_
  refine Rn.istore_n (pc1 := 2)  dX7_differingFrom_1 rfl rfl (by decide) rfl rfl ?_
  refine Rn.iconst (pc1 := 3) (v := nI 0) dX7_differingFrom_2 rfl (by decide) ?_
  refine Rn.istore_n (pc1 := 4)  dX7_differingFrom_3 rfl rfl (by decide) rfl rfl ?_
  exact loop 12 0 (by omega)
end LEAF
end
section
/-! ===== Feed: its object and its four rows ===== -/
def FB (μ : Mm) (a h : Nat) (nx fl gn : Int32) (g0 g1 g2 g3 : Nat → Int32) : Prop := μ a = some (obj 0 [.ref (a + 1), .ref (a + 2), .ref (a + 3), .ref (a + 4), .int (nI h), .int nx, .int fl, .int gn]) ∧ μ (a + 1) = some (ints 60 g0) ∧ μ (a + 2) = some (ints 60 g1) ∧ μ (a + 3) = some (ints 60 g2) ∧ μ (a + 4) = some (ints 60 g3)
section FEEDM
variable {μ : Mm} {a h : Nat} {nx fl gn : Int32} {g0 g1 g2 g3 : Nat → Int32}
theorem FB.fr {μ' : Mm} {x y : Nat} (F : FB μ a h nx fl gn g0 g1 g2 g3) (hF : Fr x y μ μ') (hd : a + 5 ≤ x ∨ y ≤ a) : FB μ' a h nx fl gn g0 g1 g2 g3 := ⟨(hF a (by omega)).trans F.1, (hF _ (by omega)).trans F.2.1, (hF _ (by omega)).trans F.2.2.1, (hF _ (by omega)).trans F.2.2.2.1, (hF _ (by omega)).trans F.2.2.2.2⟩
theorem FB.set0 (F : FB μ a h nx fl gn g0 g1 g2 g3) (g : Nat → Int32) : FB (mset μ (a + 1) (ints 60 g)) a h nx fl gn g g1 g2 g3 := ⟨mget_ne (by omega) F.1, mset_same, mget_ne (by omega) F.2.2.1, mget_ne (by omega) F.2.2.2.1, mget_ne (by omega) F.2.2.2.2⟩
theorem FB.set1 (F : FB μ a h nx fl gn g0 g1 g2 g3) (g : Nat → Int32) : FB (mset μ (a + 2) (ints 60 g)) a h nx fl gn g0 g g2 g3 := ⟨mget_ne (by omega) F.1, mget_ne (by omega) F.2.1, mset_same, mget_ne (by omega) F.2.2.2.1, mget_ne (by omega) F.2.2.2.2⟩
theorem FB.set2 (F : FB μ a h nx fl gn g0 g1 g2 g3) (g : Nat → Int32) : FB (mset μ (a + 3) (ints 60 g)) a h nx fl gn g0 g1 g g3 := ⟨mget_ne (by omega) F.1, mget_ne (by omega) F.2.1, mget_ne (by omega) F.2.2.1, mset_same, mget_ne (by omega) F.2.2.2.2⟩
theorem FB.set3 (F : FB μ a h nx fl gn g0 g1 g2 g3) (g : Nat → Int32) : FB (mset μ (a + 4) (ints 60 g)) a h nx fl gn g0 g1 g2 g := ⟨mget_ne (by omega) F.1, mget_ne (by omega) F.2.1, mget_ne (by omega) F.2.2.1, mget_ne (by omega) F.2.2.2.1, mset_same⟩
theorem FB.setO (F : FB μ a h nx fl gn g0 g1 g2 g3) (h' : Nat) (nx' fl' gn' : Int32) : FB (mset μ a (obj 0 [.ref (a + 1), .ref (a + 2), .ref (a + 3), .ref (a + 4), .int (nI h'), .int nx', .int fl', .int gn'])) a h' nx' fl' gn' g0 g1 g2 g3 := ⟨mset_same, mget_ne (by omega) F.2.1, mget_ne (by omega) F.2.2.1, mget_ne (by omega) F.2.2.2.1, mget_ne (by omega) F.2.2.2.2⟩
theorem Fr.set_ {μ0 : Mm} {x y q : Nat} {c : Cl} (hF : Fr x y μ0 μ) (h1 : x ≤ q) (h2 : q < y) : Fr x y μ0 (mset μ q c) := hF.trans (Fr.set h1 h2)
end FEEDM
-- what the questions answer
def lastB (g1 : Nat → Int32) (i : Nat) : Nat → Bool
  | 0 => true
  | n + 1 => lastB g1 i n && !(decide (i < n) && decide (g1 n = g1 i))
theorem lastB_iff {g1 : Nat → Int32} {i : Nat} : ∀ {n : Nat}, lastB g1 i n = true ↔ ∀ j, i < j → j < n → ¬ g1 j = g1 i
  | 0 => ⟨fun _ j _ h => by omega, fun _ => rfl⟩
  | n + 1 => by
    show (lastB g1 i n && !(decide (i < n) && decide (g1 n = g1 i))) = true ↔ _
    rw [Bool.and_eq_true, lastB_iff (n := n)]
    constructor
    · rintro ⟨h1, h2⟩ j hj hn
      by_cases e : j = n
      · subst e
        intro e2
        rw [decide_eq_true hj, decide_eq_true e2] at h2
        cases h2
      · exact h1 j hj (by omega)
    · intro h1
      refine ⟨fun j hj hn => h1 j hj (by omega), ?_⟩
      by_cases e : i < n
      · rw [decide_eq_false (h1 n e (by omega)), Bool.and_false]; rfl
      · rw [decide_eq_false e]; rfl
theorem bool_eq_of {b c : Bool} (h : b = true ↔ c = true) : b = c := by cases b <;> cases c <;> simp at h ⊢
theorem lastB_congr {g g' : Nat → Int32} {i n : Nat} (h : ∀ j, i ≤ j → j < n → g j = g' j) (hi : i < n) : lastB g i n = lastB g' i n := bool_eq_of (by
  rw [lastB_iff, lastB_iff]
  constructor
  · intro q j h1 h2; rw [← h j (by omega) h2, ← h i (by omega) hi]; exact q j h1 h2
  · intro q j h1 h2; rw [h j (by omega) h2, h i (by omega) hi]; exact q j h1 h2)
def closB (x nx size : Int32) : Bool := !decide (x / size = nx / size)
def oldB (v m grace minute : Int32) : Bool := decide (v = -6) && decide (grace < minute - m)
def goB (h : Nat) (nx size grace minute : Int32) (g0 g1 g2 g3 : Nat → Int32) (i : Nat) : Bool := closB (g0 i) nx size && (!lastB g1 i h || oldB (g2 i) (g3 i) grace minute)
theorem goB_congr {h i : Nat} {nx size grace minute : Int32} {g0 g1 g2 g3 k0 k1 k2 k3 : Nat → Int32} (q : ∀ j, i ≤ j → j < h → g0 j = k0 j ∧ g1 j = k1 j ∧ g2 j = k2 j ∧ g3 j = k3 j) (hi : i < h) : goB h nx size grace minute g0 g1 g2 g3 i = goB h nx size grace minute k0 k1 k2 k3 i := by
  unfold goB
  obtain ⟨e0, e1, e2, e3⟩ := q i (Nat.le_refl i) hi
  rw [lastB_congr (fun j h1 h2 => (q j h1 h2).2.1) hi, e0, e2, e3]
def leftN (p : Nat → Bool) : Nat → Nat
  | 0 => 0
  | n + 1 => leftN p n + if p n then 0 else 1
theorem leftN_le (p : Nat → Bool) : ∀ n, leftN p n ≤ n
  | 0 => Nat.le_refl 0
  | n + 1 => by have := leftN_le p n; unfold leftN; split <;> omega
def floorN (p q : Nat → Bool) (g0 : Nat → Int32) (fl : Int32) : Nat → Int32
  | 0 => fl
  | n + 1 => if q n = true ∧ p n = true then (if floorN p q g0 fl n < g0 n + nI 1 then g0 n + nI 1 else floorN p q g0 fl n) else floorN p q g0 fl n
def kept (p : Nat → Bool) : Nat → List Nat
  | 0 => []
  | n + 1 => if p n then kept p n else kept p n ++ [n]
theorem kept_len (p : Nat → Bool) : ∀ n, (kept p n).length = leftN p n
  | 0 => rfl
  | n + 1 => by
    unfold kept leftN
    by_cases h : p n = true
    · rw [if_pos h, if_pos h, kept_len p n, Nat.add_zero]
    · rw [if_neg h, if_neg h, List.length_append, kept_len p n]; rfl
section FEED
variable {G : GG} {μ : Mm} {sz : Nat} {a h : Nat} {nx fl gn : Int32} {g0 g1 g2 g3 : Nat → Int32}
theorem eX0_numberAt {j : Nat} {i : Int32} (F : FB μ a h nx fl gn g0 g1 g2 g3) (hi : i = nI j) (hj : j < 60) : EvA G 1 kX0_numberAt [.ref a, .int i] μ sz 0 0 (rI fun v μ' => v = g0 j ∧ μ' = μ) := by
  have hO := F.1
  refine EvA.of (L := [some (.ref a), some (.int i)]) (by decide +kernel) (Nat.le_of_ble_eq_true rfl) rfl ?_
  refine Rn.aload_n (pc1 := 1)  dX0_numberAt_0 rfl rfl rfl ?_
  refine Rn.getfield (pc1 := 4)  dX0_numberAt_1 rfl fX0_9 (by first | assumption | exact mset_same | exact mget_ne (by omega) (by assumption)) rfl ?_
  refine Rn.iload_n (pc1 := 5)  dX0_numberAt_4 rfl rfl rfl ?_
  refine Rn.cN_i (pc1 := 8) (eX8_at F.2.1 hi hj (by decide)) dX0_numberAt_5 rfl nX0_41 oX8_at rfl rfl (Nat.le_of_ble_eq_true rfl) (by decide) (by decide) (fun v5 μ5 h5 => ?_)
  obtain ⟨rfl, rfl⟩ := h5
  exact Rn.ireturn dX0_numberAt_8 rfl rfl ⟨_, rfl, rfl, rfl⟩
theorem eX0_keyAt {j : Nat} {i : Int32} (F : FB μ a h nx fl gn g0 g1 g2 g3) (hi : i = nI j) (hj : j < 60) : EvA G 1 kX0_keyAt [.ref a, .int i] μ sz 0 0 (rI fun v μ' => v = g1 j ∧ μ' = μ) := by
  have hO := F.1
  refine EvA.of (L := [some (.ref a), some (.int i)]) (by decide +kernel) (Nat.le_of_ble_eq_true rfl) rfl ?_
  refine Rn.aload_n (pc1 := 1)  dX0_keyAt_0 rfl rfl rfl ?_
  refine Rn.getfield (pc1 := 4)  dX0_keyAt_1 rfl fX0_15 (by first | assumption | exact mset_same | exact mget_ne (by omega) (by assumption)) rfl ?_
  refine Rn.iload_n (pc1 := 5)  dX0_keyAt_4 rfl rfl rfl ?_
  refine Rn.cN_i (pc1 := 8) (eX8_at F.2.2.1 hi hj (by decide)) dX0_keyAt_5 rfl nX0_41 oX8_at rfl rfl (Nat.le_of_ble_eq_true rfl) (by decide) (by decide) (fun v5 μ5 h5 => ?_)
  obtain ⟨rfl, rfl⟩ := h5
  exact Rn.ireturn dX0_keyAt_8 rfl rfl ⟨_, rfl, rfl, rfl⟩
theorem eX0_valueAt {j : Nat} {i : Int32} (F : FB μ a h nx fl gn g0 g1 g2 g3) (hi : i = nI j) (hj : j < 60) : EvA G 1 kX0_valueAt [.ref a, .int i] μ sz 0 0 (rI fun v μ' => v = g2 j ∧ μ' = μ) := by
  have hO := F.1
  refine EvA.of (L := [some (.ref a), some (.int i)]) (by decide +kernel) (Nat.le_of_ble_eq_true rfl) rfl ?_
  refine Rn.aload_n (pc1 := 1)  dX0_valueAt_0 rfl rfl rfl ?_
  refine Rn.getfield (pc1 := 4)  dX0_valueAt_1 rfl fX0_18 (by first | assumption | exact mset_same | exact mget_ne (by omega) (by assumption)) rfl ?_
  refine Rn.iload_n (pc1 := 5)  dX0_valueAt_4 rfl rfl rfl ?_
  refine Rn.cN_i (pc1 := 8) (eX8_at F.2.2.2.1 hi hj (by decide)) dX0_valueAt_5 rfl nX0_41 oX8_at rfl rfl (Nat.le_of_ble_eq_true rfl) (by decide) (by decide) (fun v5 μ5 h5 => ?_)
  obtain ⟨rfl, rfl⟩ := h5
  exact Rn.ireturn dX0_valueAt_8 rfl rfl ⟨_, rfl, rfl, rfl⟩
theorem eX0_minuteAt {j : Nat} {i : Int32} (F : FB μ a h nx fl gn g0 g1 g2 g3) (hi : i = nI j) (hj : j < 60) : EvA G 1 kX0_minuteAt [.ref a, .int i] μ sz 0 0 (rI fun v μ' => v = g3 j ∧ μ' = μ) := by
  have hO := F.1
  refine EvA.of (L := [some (.ref a), some (.int i)]) (by decide +kernel) (Nat.le_of_ble_eq_true rfl) rfl ?_
  refine Rn.aload_n (pc1 := 1)  dX0_minuteAt_0 rfl rfl rfl ?_
  refine Rn.getfield (pc1 := 4)  dX0_minuteAt_1 rfl fX0_21 (by first | assumption | exact mset_same | exact mget_ne (by omega) (by assumption)) rfl ?_
  refine Rn.iload_n (pc1 := 5)  dX0_minuteAt_4 rfl rfl rfl ?_
  refine Rn.cN_i (pc1 := 8) (eX8_at F.2.2.2.2 hi hj (by decide)) dX0_minuteAt_5 rfl nX0_41 oX8_at rfl rfl (Nat.le_of_ble_eq_true rfl) (by decide) (by decide) (fun v5 μ5 h5 => ?_)
  obtain ⟨rfl, rfl⟩ := h5
  exact Rn.ireturn dX0_minuteAt_8 rfl rfl ⟨_, rfl, rfl, rfl⟩
theorem eX0_isFull (F : FB μ a h nx fl gn g0 g1 g2 g3) (hh : h ≤ 60) : EvA G 0 kX0_isFull [.ref a] μ sz 0 0 (rI fun v μ' => v = bI (decide (h = 60)) ∧ μ' = μ) := by
  have hO := F.1
  refine EvA.of (L := [some (.ref a)]) (by decide +kernel) (Nat.le_of_ble_eq_true rfl) rfl ?_
  refine Rn.aload_n (pc1 := 1)  dX0_isFull_0 rfl rfl rfl ?_
  refine Rn.getfield (pc1 := 4)  dX0_isFull_1 rfl fX0_24 (by first | assumption | exact mset_same | exact mget_ne (by omega) (by assumption)) rfl ?_
  refine Rn.bipush (pc1 := 6) (v := nI 60) dX0_isFull_4 rfl (by decide) ?_
  refine Rn.icmp_lt (pc1 := 9) 13 dX0_isFull_6 rfl (by decide) (fun c6 => ?_) (fun c6 => ?_)
  · rw [decide_eq_false (show ¬ h = 60 by intro e; subst e; exact nI_nlt (Nat.le_refl 60) (by decide) c6)]
    refine Rn.iconst (pc1 := 14) (v := nI 0) dX0_isFull_13 rfl (by decide) ?_
    exact Rn.ireturn dX0_isFull_14 rfl rfl ⟨_, rfl, rfl, rfl⟩
  · rw [decide_eq_true (show h = 60 by rw [nI_ltI (by omega) (by decide)] at c6; omega)]
    refine Rn.iconst (pc1 := 10) (v := nI 1) dX0_isFull_9 rfl (by decide) ?_
    refine Rn.goto 14 dX0_isFull_10 (by decide) ?_
    exact Rn.ireturn dX0_isFull_14 rfl rfl ⟨_, rfl, rfl, rfl⟩
theorem eX0_layEntry {j : Nat} {i x0 x1 x2 x3 : Int32} (F : FB μ a h nx fl gn g0 g1 g2 g3) (hi : i = nI j) (hj : j < 60) : EvA G 1 kX0_layEntry [.ref a, .int i, .int x0, .int x1, .int x2, .int x3] μ sz 0 0 (rV fun μ' => FB μ' a h nx fl gn (upd g0 j x0) (upd g1 j x1) (upd g2 j x2) (upd g3 j x3) ∧ Fr a (a + 5) μ μ') := by
  have hO := F.1
  refine EvA.of (L := [some (.ref a), some (.int i), some (.int x0), some (.int x1), some (.int x2), some (.int x3)]) (by decide +kernel) (Nat.le_of_ble_eq_true rfl) rfl ?_
  refine Rn.aload_n (pc1 := 1)  dX0_layEntry_0 rfl rfl rfl ?_
  refine Rn.getfield (pc1 := 4)  dX0_layEntry_1 rfl fX0_9 (by first | assumption | exact mset_same | exact mget_ne (by omega) (by assumption)) rfl ?_
  refine Rn.iload_n (pc1 := 5)  dX0_layEntry_4 rfl rfl rfl ?_
  refine Rn.iload_n (pc1 := 6)  dX0_layEntry_5 rfl rfl rfl ?_
  refine Rn.cN_v (pc1 := 9) (eX8_layAt F.2.1 hi hj (by decide)) dX0_layEntry_6 rfl nX0_49 oX8_layAt rfl rfl (Nat.le_of_ble_eq_true rfl) (by decide) (by decide) (fun μ6 h6 => ?_)
  subst h6
  have F1 := F.set0 (upd g0 j x0)
  have O1 := F1.1
  refine Rn.aload_n (pc1 := 10)  dX0_layEntry_9 rfl rfl rfl ?_
  refine Rn.getfield (pc1 := 13)  dX0_layEntry_10 rfl fX0_15 (by first | assumption | exact mset_same | exact mget_ne (by omega) (by assumption)) rfl ?_
  refine Rn.iload_n (pc1 := 14)  dX0_layEntry_13 rfl rfl rfl ?_
  refine Rn.iload_n (pc1 := 15)  dX0_layEntry_14 rfl rfl rfl ?_
  refine Rn.cN_v (pc1 := 18) (eX8_layAt F1.2.2.1 hi hj (by decide)) dX0_layEntry_15 rfl nX0_49 oX8_layAt rfl rfl (Nat.le_of_ble_eq_true rfl) (by decide) (by decide) (fun μ15 h15 => ?_)
  subst h15
  have F2 := F1.set1 (upd g1 j x1)
  have O2 := F2.1
  refine Rn.aload_n (pc1 := 19)  dX0_layEntry_18 rfl rfl rfl ?_
  refine Rn.getfield (pc1 := 22)  dX0_layEntry_19 rfl fX0_18 (by first | assumption | exact mset_same | exact mget_ne (by omega) (by assumption)) rfl ?_
  refine Rn.iload_n (pc1 := 23)  dX0_layEntry_22 rfl rfl rfl ?_
  refine Rn.iload (pc1 := 25)  dX0_layEntry_23 rfl rfl ?_
  refine Rn.cN_v (pc1 := 28) (eX8_layAt F2.2.2.2.1 hi hj (by decide)) dX0_layEntry_25 rfl nX0_49 oX8_layAt rfl rfl (Nat.le_of_ble_eq_true rfl) (by decide) (by decide) (fun μ25 h25 => ?_)
  subst h25
  have F3 := F2.set2 (upd g2 j x2)
  have O3 := F3.1
  refine Rn.aload_n (pc1 := 29)  dX0_layEntry_28 rfl rfl rfl ?_
  refine Rn.getfield (pc1 := 32)  dX0_layEntry_29 rfl fX0_21 (by first | assumption | exact mset_same | exact mget_ne (by omega) (by assumption)) rfl ?_
  refine Rn.iload_n (pc1 := 33)  dX0_layEntry_32 rfl rfl rfl ?_
  refine Rn.iload (pc1 := 35)  dX0_layEntry_33 rfl rfl ?_
  refine Rn.cN_v (pc1 := 38) (eX8_layAt F3.2.2.2.2 hi hj (by decide)) dX0_layEntry_35 rfl nX0_49 oX8_layAt rfl rfl (Nat.le_of_ble_eq_true rfl) (by decide) (by decide) (fun μ35 h35 => ?_)
  subst h35
  have F4 := F3.set3 (upd g3 j x3)
  exact Rn.vreturn dX0_layEntry_38 rfl ⟨rfl, F4, (((Fr.set (by omega) (by omega)).set_ (by omega) (by omega)).set_ (by omega) (by omega)).set_ (by omega) (by omega)⟩
theorem eX0_append {k v m : Int32} (F : FB μ a h nx fl gn g0 g1 g2 g3) (hh : h < 60) : EvA G 2 kX0_append [.ref a, .int k, .int v, .int m] μ sz 0 0 (rI fun r μ' => r = nx ∧ FB μ' a (h + 1) (nx + nI 1) fl gn (upd g0 h nx) (upd g1 h k) (upd g2 h v) (upd g3 h m) ∧ Fr a (a + 5) μ μ') := by
  have hO := F.1
  refine EvA.of (L := [some (.ref a), some (.int k), some (.int v), some (.int m), none]) (by decide +kernel) (Nat.le_of_ble_eq_true rfl) rfl ?_
  refine Rn.aload_n (pc1 := 1)  dX0_append_0 rfl rfl rfl ?_
  refine Rn.getfield (pc1 := 4)  dX0_append_1 rfl fX0_28 (by first | assumption | exact mset_same | exact mget_ne (by omega) (by assumption)) rfl ?_
  refine Rn.istore (pc1 := 6)  dX0_append_4 rfl (by decide) rfl rfl ?_
  refine Rn.aload_n (pc1 := 7)  dX0_append_6 rfl rfl rfl ?_
  refine Rn.aload_n (pc1 := 8)  dX0_append_7 rfl rfl rfl ?_
  refine Rn.getfield (pc1 := 11)  dX0_append_8 rfl fX0_24 (by first | assumption | exact mset_same | exact mget_ne (by omega) (by assumption)) rfl ?_
  refine Rn.iload (pc1 := 13)  dX0_append_11 rfl rfl ?_
  refine Rn.iload_n (pc1 := 14)  dX0_append_13 rfl rfl rfl ?_
  refine Rn.iload_n (pc1 := 15)  dX0_append_14 rfl rfl rfl ?_
  refine Rn.iload_n (pc1 := 16)  dX0_append_15 rfl rfl rfl ?_
  refine Rn.cV_v (pc1 := 19) (eX0_layEntry F rfl hh) dX0_append_16 rfl qX0_45 oX0_layEntry (by first | assumption | exact mset_same | exact mget_ne (by omega) (by assumption)) rfl rfl rfl rfl (Nat.le_of_ble_eq_true rfl) (by decide) (by decide) (fun μ16 h16 => ?_)
  obtain ⟨F1, q1⟩ := h16
  have O1 := F1.1
  refine Rn.aload_n (pc1 := 20)  dX0_append_19 rfl rfl rfl ?_
  refine Rn.dup (pc1 := 21)  dX0_append_20 rfl rfl ?_
  refine Rn.getfield (pc1 := 24)  dX0_append_21 rfl fX0_24 (by first | assumption | exact mset_same | exact mget_ne (by omega) (by assumption)) rfl ?_
  refine Rn.iconst (pc1 := 25) (v := nI 1) dX0_append_24 rfl (by decide) ?_
  refine Rn.iadd (pc1 := 26)  dX0_append_25 rfl (nI_add h 1) ?_
  refine Rn.putfield (pc1 := 29)  dX0_append_26 rfl pX0_24 (fun h => Bool.noConfusion h) (by assumption) (Nat.le_of_ble_eq_true rfl) rfl rfl rfl ?_
  have F2 := F1.setO (h + 1) nx fl gn
  have O2 := F2.1
  refine Rn.aload_n (pc1 := 30)  dX0_append_29 rfl rfl rfl ?_
  refine Rn.dup (pc1 := 31)  dX0_append_30 rfl rfl ?_
  refine Rn.getfield (pc1 := 34)  dX0_append_31 rfl fX0_28 (by first | assumption | exact mset_same | exact mget_ne (by omega) (by assumption)) rfl ?_
  refine Rn.iconst (pc1 := 35) (v := nI 1) dX0_append_34 rfl (by decide) ?_
  refine Rn.iadd (pc1 := 36)  dX0_append_35 rfl rfl ?_
  refine Rn.putfield (pc1 := 39)  dX0_append_36 rfl pX0_28 (fun h => Bool.noConfusion h) (by assumption) (Nat.le_of_ble_eq_true rfl) rfl rfl rfl ?_
  have F3 := F2.setO (h + 1) (nx + nI 1) fl gn
  refine Rn.iload (pc1 := 41)  dX0_append_39 rfl rfl ?_
  exact Rn.ireturn dX0_append_41 rfl rfl ⟨_, rfl, rfl, F3, (q1.set_ (by omega) (by omega)).set_ (by omega) (by omega)⟩
theorem eX0_firstFrom {pl : Int32} (F : FB μ a h nx fl gn g0 g1 g2 g3) (hh : h ≤ 60) : EvA G 1 kX0_firstFrom [.ref a, .int pl] μ sz 0 0 (rI fun v μ' => (∃ k, k ≤ h ∧ v = nI k ∧ (∀ j, j < k → g0 j < pl) ∧ (k < h → pl ≤ g0 k)) ∧ μ' = μ) := by
  have hO := F.1
  refine EvA.of (L := [some (.ref a), some (.int pl), none]) (by decide +kernel) (Nat.le_of_ble_eq_true rfl) rfl ?_
  have loop : ∀ (m i : Nat), i + m = h → (∀ j, j < i → g0 j < pl) → Rn G 1 kX0_firstFrom 2 [some (.ref a), some (.int pl), some (.int (nI i))] [] μ sz 0 0 (rI fun v μ' => (∃ k, k ≤ h ∧ v = nI k ∧ (∀ j, j < k → g0 j < pl) ∧ (k < h → pl ≤ g0 k)) ∧ μ' = μ) := by
    intro m
    induction m with
    | zero =>
      intro i hi hb
      obtain rfl : i = h := by omega
      refine Rn.iload_n (pc1 := 3)  dX0_firstFrom_2 rfl rfl rfl ?_
      refine Rn.aload_n (pc1 := 4)  dX0_firstFrom_3 rfl rfl rfl ?_
      refine Rn.getfield (pc1 := 7)  dX0_firstFrom_4 rfl fX0_24 (by first | assumption | exact mset_same | exact mget_ne (by omega) (by assumption)) rfl ?_
      refine Rn.icmp_ge (pc1 := 10) 30 dX0_firstFrom_7 rfl (by decide) (fun c7 => ?_) (fun c7 => ?_)
      · refine Rn.aload_n (pc1 := 31)  dX0_firstFrom_30 rfl rfl rfl ?_
        refine Rn.getfield (pc1 := 34)  dX0_firstFrom_31 rfl fX0_24 (by first | assumption | exact mset_same | exact mget_ne (by omega) (by assumption)) rfl ?_
        exact Rn.ireturn dX0_firstFrom_34 rfl rfl ⟨_, rfl, ⟨i, Nat.le_refl i, rfl, hb, fun q => by omega⟩, rfl⟩
      · exact absurd (nI_le (Nat.le_refl i) (by omega)) c7
    | succ m ih =>
      intro i hi hb
      refine Rn.iload_n (pc1 := 3)  dX0_firstFrom_2 rfl rfl rfl ?_
      refine Rn.aload_n (pc1 := 4)  dX0_firstFrom_3 rfl rfl rfl ?_
      refine Rn.getfield (pc1 := 7)  dX0_firstFrom_4 rfl fX0_24 (by first | assumption | exact mset_same | exact mget_ne (by omega) (by assumption)) rfl ?_
      refine Rn.icmp_ge (pc1 := 10) 30 dX0_firstFrom_7 rfl (by decide) (fun c7 => ?_) (fun c7 => ?_)
      · exact absurd c7 (nI_ge (by omega) (by omega))
      · refine Rn.aload_n (pc1 := 11)  dX0_firstFrom_10 rfl rfl rfl ?_
        refine Rn.getfield (pc1 := 14)  dX0_firstFrom_11 rfl fX0_9 (by first | assumption | exact mset_same | exact mget_ne (by omega) (by assumption)) rfl ?_
        refine Rn.iload_n (pc1 := 15)  dX0_firstFrom_14 rfl rfl rfl ?_
        refine Rn.cN_i (pc1 := 18) (eX8_at F.2.1 rfl (show i < 60 by omega) (by decide)) dX0_firstFrom_15 rfl nX0_41 oX8_at rfl rfl (Nat.le_of_ble_eq_true rfl) (by decide) (by decide) (fun v15 μ15 h15 => ?_)
        obtain ⟨rfl, rfl⟩ := h15
        refine Rn.iload_n (pc1 := 19)  dX0_firstFrom_18 rfl rfl rfl ?_
        refine Rn.icmp_lt (pc1 := 22) 24 dX0_firstFrom_19 rfl (by decide) (fun c19 => ?_) (fun c19 => ?_)
        · refine Rn.iinc (pc1 := 27)  dX0_firstFrom_24 rfl rfl (nI_1 i) (by decide) rfl rfl ?_
          refine Rn.goto 2 dX0_firstFrom_27 (by decide) ?_
          refine ih (i + 1) (by omega) (fun j hj => ?_)
          by_cases e : j = i
          · subst e; exact c19
          · exact hb j (by omega)
        · refine Rn.iload_n (pc1 := 23)  dX0_firstFrom_22 rfl rfl rfl ?_
          exact Rn.ireturn dX0_firstFrom_23 rfl rfl ⟨_, rfl, ⟨i, by omega, rfl, hb, fun _ => i32_nlt.mp c19⟩, rfl⟩
  refine Rn.iconst (pc1 := 1) (v := nI 0) dX0_firstFrom_0 rfl (by decide) ?_
  refine Rn.istore_n (pc1 := 2)  dX0_firstFrom_1 rfl rfl (by decide) rfl rfl ?_
  exact loop h 0 (by omega) (fun j hj => by omega)
theorem eX0_aheadOf {pl : Int32} (F : FB μ a h nx fl gn g0 g1 g2 g3) (hh : h ≤ 60) : EvA G 2 kX0_aheadOf [.ref a, .int pl] μ sz 0 0 (rI fun v μ' => (∃ k, k ≤ h ∧ v = nI (h - k) ∧ (∀ j, j < k → g0 j < pl) ∧ (k < h → pl ≤ g0 k)) ∧ μ' = μ) := by
  have hO := F.1
  refine EvA.of (L := [some (.ref a), some (.int pl)]) (by decide +kernel) (Nat.le_of_ble_eq_true rfl) rfl ?_
  refine Rn.aload_n (pc1 := 1)  dX0_aheadOf_0 rfl rfl rfl ?_
  refine Rn.getfield (pc1 := 4)  dX0_aheadOf_1 rfl fX0_24 (by first | assumption | exact mset_same | exact mget_ne (by omega) (by assumption)) rfl ?_
  refine Rn.aload_n (pc1 := 5)  dX0_aheadOf_4 rfl rfl rfl ?_
  refine Rn.iload_n (pc1 := 6)  dX0_aheadOf_5 rfl rfl rfl ?_
  refine Rn.cV_i (pc1 := 9) (eX0_firstFrom F hh) dX0_aheadOf_6 rfl qX0_53 oX0_firstFrom (by first | assumption | exact mset_same | exact mget_ne (by omega) (by assumption)) rfl rfl rfl rfl (Nat.le_of_ble_eq_true rfl) (by decide) (by decide) (fun v6 μ6 h6 => ?_)
  obtain ⟨⟨k, k1, rfl, k2, k3⟩, rfl⟩ := h6
  refine Rn.isub (pc1 := 10)  dX0_aheadOf_9 rfl (nI_sub k1) ?_
  exact Rn.ireturn dX0_aheadOf_10 rfl rfl ⟨_, rfl, ⟨k, k1, rfl, k2, k3⟩, rfl⟩
theorem eX0_isLastOfItsKey {j : Nat} {i : Int32} (F : FB μ a h nx fl gn g0 g1 g2 g3) (hh : h ≤ 60) (hi : i = nI j) (hj : j < h) : EvA G 1 kX0_isLastOfItsKey [.ref a, .int i] μ sz 0 0 (rI fun v μ' => v = bI (lastB g1 j h) ∧ μ' = μ) := by
  have hO := F.1
  refine EvA.of (L := [some (.ref a), some (.int i), none]) (by decide +kernel) (Nat.le_of_ble_eq_true rfl) rfl ?_
  subst hi
  have loop : ∀ (m l : Nat), l + m = h → j < l → (∀ q, j < q → q < l → ¬ g1 q = g1 j) → Rn G 1 kX0_isLastOfItsKey 4 [some (.ref a), some (.int (nI j)), some (.int (nI l))] [] μ sz 0 0 (rI fun v μ' => v = bI (lastB g1 j h) ∧ μ' = μ) := by
    intro m
    induction m with
    | zero =>
      intro l hl hjl hb
      obtain rfl : l = h := by omega
      rw [lastB_iff.mpr hb]
      refine Rn.iload_n (pc1 := 5)  dX0_isLastOfItsKey_4 rfl rfl rfl ?_
      refine Rn.aload_n (pc1 := 6)  dX0_isLastOfItsKey_5 rfl rfl rfl ?_
      refine Rn.getfield (pc1 := 9)  dX0_isLastOfItsKey_6 rfl fX0_24 (by first | assumption | exact mset_same | exact mget_ne (by omega) (by assumption)) rfl ?_
      refine Rn.icmp_ge (pc1 := 12) 39 dX0_isLastOfItsKey_9 rfl (by decide) (fun c9 => ?_) (fun c9 => ?_)
      · refine Rn.iconst (pc1 := 40) (v := nI 1) dX0_isLastOfItsKey_39 rfl (by decide) ?_
        exact Rn.ireturn dX0_isLastOfItsKey_40 rfl rfl ⟨_, rfl, rfl, rfl⟩
      · exact absurd (nI_le (Nat.le_refl l) (by omega)) c9
    | succ m ih =>
      intro l hl hjl hb
      refine Rn.iload_n (pc1 := 5)  dX0_isLastOfItsKey_4 rfl rfl rfl ?_
      refine Rn.aload_n (pc1 := 6)  dX0_isLastOfItsKey_5 rfl rfl rfl ?_
      refine Rn.getfield (pc1 := 9)  dX0_isLastOfItsKey_6 rfl fX0_24 (by first | assumption | exact mset_same | exact mget_ne (by omega) (by assumption)) rfl ?_
      refine Rn.icmp_ge (pc1 := 12) 39 dX0_isLastOfItsKey_9 rfl (by decide) (fun c9 => ?_) (fun c9 => ?_)
      · exact absurd c9 (nI_ge (by omega) (by omega))
      · refine Rn.aload_n (pc1 := 13)  dX0_isLastOfItsKey_12 rfl rfl rfl ?_
        refine Rn.getfield (pc1 := 16)  dX0_isLastOfItsKey_13 rfl fX0_15 (by first | assumption | exact mset_same | exact mget_ne (by omega) (by assumption)) rfl ?_
        refine Rn.iload_n (pc1 := 17)  dX0_isLastOfItsKey_16 rfl rfl rfl ?_
        refine Rn.cN_i (pc1 := 20) (eX8_at F.2.2.1 rfl (show l < 60 by omega) (by decide)) dX0_isLastOfItsKey_17 rfl nX0_41 oX8_at rfl rfl (Nat.le_of_ble_eq_true rfl) (by decide) (by decide) (fun v17 μ17 h17 => ?_)
        obtain ⟨rfl, rfl⟩ := h17
        refine Rn.aload_n (pc1 := 21)  dX0_isLastOfItsKey_20 rfl rfl rfl ?_
        refine Rn.getfield (pc1 := 24)  dX0_isLastOfItsKey_21 rfl fX0_15 (by first | assumption | exact mset_same | exact mget_ne (by omega) (by assumption)) rfl ?_
        refine Rn.iload_n (pc1 := 25)  dX0_isLastOfItsKey_24 rfl rfl rfl ?_
        refine Rn.cN_i (pc1 := 28) (eX8_at F.2.2.1 rfl (show j < 60 by omega) (by decide)) dX0_isLastOfItsKey_25 rfl nX0_41 oX8_at rfl rfl (Nat.le_of_ble_eq_true rfl) (by decide) (by decide) (fun v25 μ25 h25 => ?_)
        obtain ⟨rfl, rfl⟩ := h25
        refine Rn.icmp_ne (pc1 := 31) 33 dX0_isLastOfItsKey_28 rfl (by decide) (fun c28 => ?_) (fun c28 => ?_)
        · refine Rn.iinc (pc1 := 36)  dX0_isLastOfItsKey_33 rfl rfl (nI_1 l) (by decide) rfl rfl ?_
          refine Rn.goto 4 dX0_isLastOfItsKey_36 (by decide) ?_
          refine ih (l + 1) (by omega) (by omega) (fun q h1 h2 => ?_)
          by_cases e : q = l
          · subst e; exact c28
          · exact hb q h1 (by omega)
        · have e : lastB g1 j h = false := by
            cases hb2 : lastB g1 j h
            · rfl
            · exact absurd c28 (lastB_iff.mp hb2 l hjl (by omega))
          rw [e]
          refine Rn.iconst (pc1 := 32) (v := nI 0) dX0_isLastOfItsKey_31 rfl (by decide) ?_
          exact Rn.ireturn dX0_isLastOfItsKey_32 rfl rfl ⟨_, rfl, rfl, rfl⟩
  refine Rn.iload_n (pc1 := 1)  dX0_isLastOfItsKey_0 rfl rfl rfl ?_
  refine Rn.iconst (pc1 := 2) (v := nI 1) dX0_isLastOfItsKey_1 rfl (by decide) ?_
  refine Rn.iadd (pc1 := 3)  dX0_isLastOfItsKey_2 rfl (nI_add j 1) ?_
  refine Rn.istore_n (pc1 := 4)  dX0_isLastOfItsKey_3 rfl rfl (by decide) rfl rfl ?_
  exact loop (h - (j + 1)) (j + 1) (by omega) (by omega) (fun q h1 h2 => by omega)
theorem eX0_segmentOf {x s : Int32} (hs : nI 1 ≤ s) : EvA G 0 kX0_segmentOf [.int x, .int s] μ sz 0 0 (rI fun v μ' => v = x / s ∧ μ' = μ) := by
  refine EvA.of (L := [some (.int x), some (.int s)]) (by decide +kernel) (Nat.le_of_ble_eq_true rfl) rfl ?_
  refine Rn.iload_n (pc1 := 1)  dX0_segmentOf_0 rfl rfl rfl ?_
  refine Rn.iconst (pc1 := 2) (v := nI 1) dX0_segmentOf_1 rfl (by decide) ?_
  refine Rn.icmp_ge (pc1 := 5) 9 dX0_segmentOf_2 rfl (by decide) (fun c2 => ?_) (fun c2 => ?_)
  · refine Rn.iload_n (pc1 := 10)  dX0_segmentOf_9 rfl rfl rfl ?_
    refine Rn.iload_n (pc1 := 11)  dX0_segmentOf_10 rfl rfl rfl ?_
    refine Rn.idiv (pc1 := 12)  dX0_segmentOf_11 rfl (fun e => by rw [e] at hs; exact absurd hs (by decide)) rfl ?_
    exact Rn.ireturn dX0_segmentOf_12 rfl rfl ⟨_, rfl, rfl, rfl⟩
  · exact absurd hs c2
theorem eX0_isClosed {j : Nat} {i s : Int32} (F : FB μ a h nx fl gn g0 g1 g2 g3) (hi : i = nI j) (hj : j < 60) (hs : nI 1 ≤ s) : EvA G 1 kX0_isClosed [.ref a, .int i, .int s] μ sz 0 0 (rI fun v μ' => v = bI (closB (g0 j) nx s) ∧ μ' = μ) := by
  have hO := F.1
  refine EvA.of (L := [some (.ref a), some (.int i), some (.int s)]) (by decide +kernel) (Nat.le_of_ble_eq_true rfl) rfl ?_
  refine Rn.aload_n (pc1 := 1)  dX0_isClosed_0 rfl rfl rfl ?_
  refine Rn.getfield (pc1 := 4)  dX0_isClosed_1 rfl fX0_9 (by first | assumption | exact mset_same | exact mget_ne (by omega) (by assumption)) rfl ?_
  refine Rn.iload_n (pc1 := 5)  dX0_isClosed_4 rfl rfl rfl ?_
  refine Rn.cN_i (pc1 := 8) (eX8_at F.2.1 hi hj (by decide)) dX0_isClosed_5 rfl nX0_41 oX8_at rfl rfl (Nat.le_of_ble_eq_true rfl) (by decide) (by decide) (fun v5 μ5 h5 => ?_)
  obtain ⟨rfl, rfl⟩ := h5
  refine Rn.iload_n (pc1 := 9)  dX0_isClosed_8 rfl rfl rfl ?_
  refine Rn.cS_i (pc1 := 12) (eX0_segmentOf hs) dX0_isClosed_9 rfl qX0_57 oX0_segmentOf rfl rfl (Nat.le_of_ble_eq_true rfl) (by decide) (by decide) (fun v9 μ9 h9 => ?_)
  obtain ⟨rfl, rfl⟩ := h9
  refine Rn.aload_n (pc1 := 13)  dX0_isClosed_12 rfl rfl rfl ?_
  refine Rn.getfield (pc1 := 16)  dX0_isClosed_13 rfl fX0_28 (by first | assumption | exact mset_same | exact mget_ne (by omega) (by assumption)) rfl ?_
  refine Rn.iload_n (pc1 := 17)  dX0_isClosed_16 rfl rfl rfl ?_
  refine Rn.cS_i (pc1 := 20) (eX0_segmentOf hs) dX0_isClosed_17 rfl qX0_57 oX0_segmentOf rfl rfl (Nat.le_of_ble_eq_true rfl) (by decide) (by decide) (fun v17 μ17 h17 => ?_)
  obtain ⟨rfl, rfl⟩ := h17
  refine Rn.icmp_eq (pc1 := 23) 27 dX0_isClosed_20 rfl (by decide) (fun c20 => ?_) (fun c20 => ?_)
  · rw [show closB (g0 j) nx s = false by unfold closB; rw [decide_eq_true c20]; rfl]
    refine Rn.iconst (pc1 := 28) (v := nI 0) dX0_isClosed_27 rfl (by decide) ?_
    exact Rn.ireturn dX0_isClosed_28 rfl rfl ⟨_, rfl, rfl, rfl⟩
  · rw [show closB (g0 j) nx s = true by unfold closB; rw [decide_eq_false c20]; rfl]
    refine Rn.iconst (pc1 := 24) (v := nI 1) dX0_isClosed_23 rfl (by decide) ?_
    refine Rn.goto 28 dX0_isClosed_24 (by decide) ?_
    exact Rn.ireturn dX0_isClosed_28 rfl rfl ⟨_, rfl, rfl, rfl⟩
theorem eX0_isOldRemoval {j : Nat} {i gr mi : Int32} (F : FB μ a h nx fl gn g0 g1 g2 g3) (hi : i = nI j) (hj : j < 60) : EvA G 1 kX0_isOldRemoval [.ref a, .int i, .int gr, .int mi] μ sz 0 0 (rI fun v μ' => v = bI (oldB (g2 j) (g3 j) gr mi) ∧ μ' = μ) := by
  have hO := F.1
  refine EvA.of (L := [some (.ref a), some (.int i), some (.int gr), some (.int mi)]) (by decide +kernel) (Nat.le_of_ble_eq_true rfl) rfl ?_
  refine Rn.aload_n (pc1 := 1)  dX0_isOldRemoval_0 rfl rfl rfl ?_
  refine Rn.getfield (pc1 := 4)  dX0_isOldRemoval_1 rfl fX0_18 (by first | assumption | exact mset_same | exact mget_ne (by omega) (by assumption)) rfl ?_
  refine Rn.iload_n (pc1 := 5)  dX0_isOldRemoval_4 rfl rfl rfl ?_
  refine Rn.cN_i (pc1 := 8) (eX8_at F.2.2.2.1 hi hj (by decide)) dX0_isOldRemoval_5 rfl nX0_41 oX8_at rfl rfl (Nat.le_of_ble_eq_true rfl) (by decide) (by decide) (fun v5 μ5 h5 => ?_)
  obtain ⟨rfl, rfl⟩ := h5
  refine Rn.bipush (pc1 := 10) (v := (-6)) dX0_isOldRemoval_8 rfl (by decide) ?_
  refine Rn.icmp_ne (pc1 := 13) 31 dX0_isOldRemoval_10 rfl (by decide) (fun c10 => ?_) (fun c10 => ?_)
  · rw [show oldB (g2 j) (g3 j) gr mi = false by unfold oldB; rw [decide_eq_false c10]; rfl]
    refine Rn.iconst (pc1 := 32) (v := nI 0) dX0_isOldRemoval_31 rfl (by decide) ?_
    exact Rn.ireturn dX0_isOldRemoval_32 rfl rfl ⟨_, rfl, rfl, rfl⟩
  · refine Rn.iload_n (pc1 := 14)  dX0_isOldRemoval_13 rfl rfl rfl ?_
    refine Rn.aload_n (pc1 := 15)  dX0_isOldRemoval_14 rfl rfl rfl ?_
    refine Rn.getfield (pc1 := 18)  dX0_isOldRemoval_15 rfl fX0_21 (by first | assumption | exact mset_same | exact mget_ne (by omega) (by assumption)) rfl ?_
    refine Rn.iload_n (pc1 := 19)  dX0_isOldRemoval_18 rfl rfl rfl ?_
    refine Rn.cN_i (pc1 := 22) (eX8_at F.2.2.2.2 hi hj (by decide)) dX0_isOldRemoval_19 rfl nX0_41 oX8_at rfl rfl (Nat.le_of_ble_eq_true rfl) (by decide) (by decide) (fun v19 μ19 h19 => ?_)
    obtain ⟨rfl, rfl⟩ := h19
    refine Rn.isub (pc1 := 23)  dX0_isOldRemoval_22 rfl rfl ?_
    refine Rn.iload_n (pc1 := 24)  dX0_isOldRemoval_23 rfl rfl rfl ?_
    refine Rn.icmp_le (pc1 := 27) 31 dX0_isOldRemoval_24 rfl (by decide) (fun c24 => ?_) (fun c24 => ?_)
    · rw [show oldB (g2 j) (g3 j) gr mi = false by unfold oldB; rw [decide_eq_false (i32_nlt.mpr c24), Bool.and_false]]
      refine Rn.iconst (pc1 := 32) (v := nI 0) dX0_isOldRemoval_31 rfl (by decide) ?_
      exact Rn.ireturn dX0_isOldRemoval_32 rfl rfl ⟨_, rfl, rfl, rfl⟩
    · rw [show oldB (g2 j) (g3 j) gr mi = true by unfold oldB; rw [decide_eq_true (i32_nle.mp c24), decide_eq_true c10]; rfl]
      refine Rn.iconst (pc1 := 28) (v := nI 1) dX0_isOldRemoval_27 rfl (by decide) ?_
      refine Rn.goto 32 dX0_isOldRemoval_28 (by decide) ?_
      exact Rn.ireturn dX0_isOldRemoval_32 rfl rfl ⟨_, rfl, rfl, rfl⟩
theorem eX0_wouldGo {j : Nat} {i s gr mi : Int32} (F : FB μ a h nx fl gn g0 g1 g2 g3) (hh : h ≤ 60) (hi : i = nI j) (hj : j < h) (hs : nI 1 ≤ s) : EvA G 2 kX0_wouldGo [.ref a, .int i, .int s, .int gr, .int mi] μ sz 0 0 (rI fun v μ' => v = bI (goB h nx s gr mi g0 g1 g2 g3 j) ∧ μ' = μ) := by
  have hO := F.1
  refine EvA.of (L := [some (.ref a), some (.int i), some (.int s), some (.int gr), some (.int mi)]) (by decide +kernel) (Nat.le_of_ble_eq_true rfl) rfl ?_
  refine Rn.aload_n (pc1 := 1)  dX0_wouldGo_0 rfl rfl rfl ?_
  refine Rn.iload_n (pc1 := 2)  dX0_wouldGo_1 rfl rfl rfl ?_
  refine Rn.iload_n (pc1 := 3)  dX0_wouldGo_2 rfl rfl rfl ?_
  refine Rn.cV_i (pc1 := 6) (eX0_isClosed F hi (by omega) hs) dX0_wouldGo_3 rfl qX0_61 oX0_isClosed (by first | assumption | exact mset_same | exact mget_ne (by omega) (by assumption)) rfl rfl rfl rfl (Nat.le_of_ble_eq_true rfl) (by decide) (by decide) (fun v3 μ3 h3 => ?_)
  obtain ⟨rfl, rfl⟩ := h3
  refine Rn.if_eq (pc1 := 9) 32 dX0_wouldGo_6 rfl (by decide) (fun c6 => ?_) (fun c6 => ?_)
  · rw [show goB h nx s gr mi g0 g1 g2 g3 j = false by unfold goB; rw [bI_0 c6]; rfl]
    refine Rn.iconst (pc1 := 33) (v := nI 0) dX0_wouldGo_32 rfl (by decide) ?_
    exact Rn.ireturn dX0_wouldGo_33 rfl rfl ⟨_, rfl, rfl, rfl⟩
  · refine Rn.aload_n (pc1 := 10)  dX0_wouldGo_9 rfl rfl rfl ?_
    refine Rn.iload_n (pc1 := 11)  dX0_wouldGo_10 rfl rfl rfl ?_
    refine Rn.cV_i (pc1 := 14) (eX0_isLastOfItsKey F hh hi hj) dX0_wouldGo_11 rfl qX0_65 oX0_isLastOfItsKey (by first | assumption | exact mset_same | exact mget_ne (by omega) (by assumption)) rfl rfl rfl rfl (Nat.le_of_ble_eq_true rfl) (by decide) (by decide) (fun v11 μ11 h11 => ?_)
    obtain ⟨rfl, rfl⟩ := h11
    refine Rn.if_eq (pc1 := 17) 28 dX0_wouldGo_14 rfl (by decide) (fun c14 => ?_) (fun c14 => ?_)
    · rw [show goB h nx s gr mi g0 g1 g2 g3 j = true by unfold goB; rw [bI_n c6, bI_0 c14]; rfl]
      refine Rn.iconst (pc1 := 29) (v := nI 1) dX0_wouldGo_28 rfl (by decide) ?_
      refine Rn.goto 33 dX0_wouldGo_29 (by decide) ?_
      exact Rn.ireturn dX0_wouldGo_33 rfl rfl ⟨_, rfl, rfl, rfl⟩
    · refine Rn.aload_n (pc1 := 18)  dX0_wouldGo_17 rfl rfl rfl ?_
      refine Rn.iload_n (pc1 := 19)  dX0_wouldGo_18 rfl rfl rfl ?_
      refine Rn.iload_n (pc1 := 20)  dX0_wouldGo_19 rfl rfl rfl ?_
      refine Rn.iload (pc1 := 22)  dX0_wouldGo_20 rfl rfl ?_
      refine Rn.cV_i (pc1 := 25) (eX0_isOldRemoval F hi (by omega)) dX0_wouldGo_22 rfl qX0_69 oX0_isOldRemoval (by first | assumption | exact mset_same | exact mget_ne (by omega) (by assumption)) rfl rfl rfl rfl (Nat.le_of_ble_eq_true rfl) (by decide) (by decide) (fun v22 μ22 h22 => ?_)
      obtain ⟨rfl, rfl⟩ := h22
      refine Rn.if_eq (pc1 := 28) 32 dX0_wouldGo_25 rfl (by decide) (fun c25 => ?_) (fun c25 => ?_)
      · rw [show goB h nx s gr mi g0 g1 g2 g3 j = false by unfold goB; rw [bI_0 c25, bI_n c14]; exact Bool.and_false _]
        refine Rn.iconst (pc1 := 33) (v := nI 0) dX0_wouldGo_32 rfl (by decide) ?_
        exact Rn.ireturn dX0_wouldGo_33 rfl rfl ⟨_, rfl, rfl, rfl⟩
      · rw [show goB h nx s gr mi g0 g1 g2 g3 j = true by unfold goB; rw [bI_n c25, bI_n c6, Bool.or_true]; rfl]
        refine Rn.iconst (pc1 := 29) (v := nI 1) dX0_wouldGo_28 rfl (by decide) ?_
        refine Rn.goto 33 dX0_wouldGo_29 (by decide) ?_
        exact Rn.ireturn dX0_wouldGo_33 rfl rfl ⟨_, rfl, rfl, rfl⟩
theorem eX0_leftAfterThinning {s gr mi : Int32} (F : FB μ a h nx fl gn g0 g1 g2 g3) (hh : h ≤ 60) (hs : nI 1 ≤ s) : EvA G 3 kX0_leftAfterThinning [.ref a, .int s, .int gr, .int mi] μ sz 0 0 (rI fun v μ' => v = nI (leftN (goB h nx s gr mi g0 g1 g2 g3) h) ∧ μ' = μ) := by
  have hO := F.1
  refine EvA.of (L := [some (.ref a), some (.int s), some (.int gr), some (.int mi), none, none]) (by decide +kernel) (Nat.le_of_ble_eq_true rfl) rfl ?_
  have loop : ∀ (m i : Nat), i + m = h → Rn G 3 kX0_leftAfterThinning 6 [some (.ref a), some (.int s), some (.int gr), some (.int mi), some (.int (nI (leftN (goB h nx s gr mi g0 g1 g2 g3) i))), some (.int (nI i))] [] μ sz 0 0 (rI fun v μ' => v = nI (leftN (goB h nx s gr mi g0 g1 g2 g3) h) ∧ μ' = μ) := by
    intro m
    induction m with
    | zero =>
      intro i hi
      obtain rfl : i = h := by omega
      refine Rn.iload (pc1 := 8)  dX0_leftAfterThinning_6 rfl rfl ?_
      refine Rn.aload_n (pc1 := 9)  dX0_leftAfterThinning_8 rfl rfl rfl ?_
      refine Rn.getfield (pc1 := 12)  dX0_leftAfterThinning_9 rfl fX0_24 (by first | assumption | exact mset_same | exact mget_ne (by omega) (by assumption)) rfl ?_
      refine Rn.icmp_ge (pc1 := 15) 36 dX0_leftAfterThinning_12 rfl (by decide) (fun c12 => ?_) (fun c12 => ?_)
      · refine Rn.iload (pc1 := 38)  dX0_leftAfterThinning_36 rfl rfl ?_
        exact Rn.ireturn dX0_leftAfterThinning_38 rfl rfl ⟨_, rfl, rfl, rfl⟩
      · exact absurd (nI_le (Nat.le_refl i) (by omega)) c12
    | succ m ih =>
      intro i hi
      refine Rn.iload (pc1 := 8)  dX0_leftAfterThinning_6 rfl rfl ?_
      refine Rn.aload_n (pc1 := 9)  dX0_leftAfterThinning_8 rfl rfl rfl ?_
      refine Rn.getfield (pc1 := 12)  dX0_leftAfterThinning_9 rfl fX0_24 (by first | assumption | exact mset_same | exact mget_ne (by omega) (by assumption)) rfl ?_
      refine Rn.icmp_ge (pc1 := 15) 36 dX0_leftAfterThinning_12 rfl (by decide) (fun c12 => ?_) (fun c12 => ?_)
      · exact absurd c12 (nI_ge (by omega) (by omega))
      · refine Rn.aload_n (pc1 := 16)  dX0_leftAfterThinning_15 rfl rfl rfl ?_
        refine Rn.iload (pc1 := 18)  dX0_leftAfterThinning_16 rfl rfl ?_
        refine Rn.iload_n (pc1 := 19)  dX0_leftAfterThinning_18 rfl rfl rfl ?_
        refine Rn.iload_n (pc1 := 20)  dX0_leftAfterThinning_19 rfl rfl rfl ?_
        refine Rn.iload_n (pc1 := 21)  dX0_leftAfterThinning_20 rfl rfl rfl ?_
        refine Rn.cV_i (pc1 := 24) (eX0_wouldGo F hh rfl (show i < h by omega) hs) dX0_leftAfterThinning_21 rfl qX0_73 oX0_wouldGo (by first | assumption | exact mset_same | exact mget_ne (by omega) (by assumption)) rfl rfl rfl rfl (Nat.le_of_ble_eq_true rfl) (by decide) (by decide) (fun v21 μ21 h21 => ?_)
        obtain ⟨rfl, rfl⟩ := h21
        refine Rn.if_ne (pc1 := 27) 30 dX0_leftAfterThinning_24 rfl (by decide) (fun c24 => ?_) (fun c24 => ?_)
        · have e : leftN (goB h nx s gr mi g0 g1 g2 g3) (i + 1) = leftN (goB h nx s gr mi g0 g1 g2 g3) i := by show _ + _ = _; rw [if_pos (bI_n c24), Nat.add_zero]
          refine Rn.iinc (pc1 := 33)  dX0_leftAfterThinning_30 rfl rfl (nI_1 i) (by decide) rfl rfl ?_
          refine Rn.goto 6 dX0_leftAfterThinning_33 (by decide) ?_
          have := ih (i + 1) (by omega); rw [e] at this; exact this
        · have e : leftN (goB h nx s gr mi g0 g1 g2 g3) (i + 1) = leftN (goB h nx s gr mi g0 g1 g2 g3) i + 1 := by show _ + _ = _; rw [if_neg (by rw [bI_0 c24]; decide)]
          refine Rn.iinc (pc1 := 30)  dX0_leftAfterThinning_27 rfl rfl (nI_1 _) (by decide) rfl rfl ?_
          refine Rn.iinc (pc1 := 33)  dX0_leftAfterThinning_30 rfl rfl (nI_1 i) (by decide) rfl rfl ?_
          refine Rn.goto 6 dX0_leftAfterThinning_33 (by decide) ?_
          have := ih (i + 1) (by omega); rw [e] at this; exact this
  refine Rn.iconst (pc1 := 1) (v := nI 0) dX0_leftAfterThinning_0 rfl (by decide) ?_
  refine Rn.istore (pc1 := 3)  dX0_leftAfterThinning_1 rfl (by decide) rfl rfl ?_
  refine Rn.iconst (pc1 := 4) (v := nI 0) dX0_leftAfterThinning_3 rfl (by decide) ?_
  refine Rn.istore (pc1 := 6)  dX0_leftAfterThinning_4 rfl (by decide) rfl rfl ?_
  exact loop h 0 (by omega)
theorem eX0_floorAfterThinning {s gr mi : Int32} (F : FB μ a h nx fl gn g0 g1 g2 g3) (hh : h ≤ 60) (hs : nI 1 ≤ s) : EvA G 3 kX0_floorAfterThinning [.ref a, .int s, .int gr, .int mi] μ sz 0 0 (rI fun v μ' => v = floorN (goB h nx s gr mi g0 g1 g2 g3) (fun i => lastB g1 i h) g0 fl h ∧ μ' = μ) := by
  have hO := F.1
  refine EvA.of (L := [some (.ref a), some (.int s), some (.int gr), some (.int mi), none, none]) (by decide +kernel) (Nat.le_of_ble_eq_true rfl) rfl ?_
  have loop : ∀ (m i : Nat), i + m = h → Rn G 3 kX0_floorAfterThinning 9 [some (.ref a), some (.int s), some (.int gr), some (.int mi), some (.int (floorN (goB h nx s gr mi g0 g1 g2 g3) (fun i => lastB g1 i h) g0 fl i)), some (.int (nI i))] [] μ sz 0 0 (rI fun v μ' => v = floorN (goB h nx s gr mi g0 g1 g2 g3) (fun i => lastB g1 i h) g0 fl h ∧ μ' = μ) := by
    intro m
    induction m with
    | zero =>
      intro i hi
      obtain rfl : i = h := by omega
      refine Rn.iload (pc1 := 11)  dX0_floorAfterThinning_9 rfl rfl ?_
      refine Rn.aload_n (pc1 := 12)  dX0_floorAfterThinning_11 rfl rfl rfl ?_
      refine Rn.getfield (pc1 := 15)  dX0_floorAfterThinning_12 rfl fX0_24 (by first | assumption | exact mset_same | exact mget_ne (by omega) (by assumption)) rfl ?_
      refine Rn.icmp_ge (pc1 := 18) 60 dX0_floorAfterThinning_15 rfl (by decide) (fun c15 => ?_) (fun c15 => ?_)
      · refine Rn.iload (pc1 := 62)  dX0_floorAfterThinning_60 rfl rfl ?_
        exact Rn.ireturn dX0_floorAfterThinning_62 rfl rfl ⟨_, rfl, rfl, rfl⟩
      · exact absurd (nI_le (Nat.le_refl i) (by omega)) c15
    | succ m ih =>
      intro i hi
      generalize e0 : floorN (goB h nx s gr mi g0 g1 g2 g3) (fun i => lastB g1 i h) g0 fl i = x
      refine Rn.iload (pc1 := 11)  dX0_floorAfterThinning_9 rfl rfl ?_
      refine Rn.aload_n (pc1 := 12)  dX0_floorAfterThinning_11 rfl rfl rfl ?_
      refine Rn.getfield (pc1 := 15)  dX0_floorAfterThinning_12 rfl fX0_24 (by first | assumption | exact mset_same | exact mget_ne (by omega) (by assumption)) rfl ?_
      refine Rn.icmp_ge (pc1 := 18) 60 dX0_floorAfterThinning_15 rfl (by decide) (fun c15 => ?_) (fun c15 => ?_)
      · exact absurd c15 (nI_ge (by omega) (by omega))
      · refine Rn.aload_n (pc1 := 19)  dX0_floorAfterThinning_18 rfl rfl rfl ?_
        refine Rn.iload (pc1 := 21)  dX0_floorAfterThinning_19 rfl rfl ?_
        refine Rn.cV_i (pc1 := 24) (eX0_isLastOfItsKey F hh rfl (show i < h by omega)) dX0_floorAfterThinning_21 rfl qX0_65 oX0_isLastOfItsKey (by first | assumption | exact mset_same | exact mget_ne (by omega) (by assumption)) rfl rfl rfl rfl (Nat.le_of_ble_eq_true rfl) (by decide) (by decide) (fun v21 μ21 h21 => ?_)
        obtain ⟨rfl, rfl⟩ := h21
        refine Rn.if_eq (pc1 := 27) 54 dX0_floorAfterThinning_24 rfl (by decide) (fun c24 => ?_) (fun c24 => ?_)
        · have e : floorN (goB h nx s gr mi g0 g1 g2 g3) (fun i => lastB g1 i h) g0 fl (i + 1) = x := by show (if _ then _ else _) = _; rw [if_neg (fun q => absurd q.1 (by show ¬ lastB g1 i h = true; rw [bI_0 c24]; decide)), e0]
          refine Rn.iinc (pc1 := 57)  dX0_floorAfterThinning_54 rfl rfl (nI_1 i) (by decide) rfl rfl ?_
          refine Rn.goto 9 dX0_floorAfterThinning_57 (by decide) ?_
          have := ih (i + 1) (by omega); rw [e] at this; exact this
        · refine Rn.aload_n (pc1 := 28)  dX0_floorAfterThinning_27 rfl rfl rfl ?_
          refine Rn.iload (pc1 := 30)  dX0_floorAfterThinning_28 rfl rfl ?_
          refine Rn.iload_n (pc1 := 31)  dX0_floorAfterThinning_30 rfl rfl rfl ?_
          refine Rn.iload_n (pc1 := 32)  dX0_floorAfterThinning_31 rfl rfl rfl ?_
          refine Rn.iload_n (pc1 := 33)  dX0_floorAfterThinning_32 rfl rfl rfl ?_
          refine Rn.cV_i (pc1 := 36) (eX0_wouldGo F hh rfl (show i < h by omega) hs) dX0_floorAfterThinning_33 rfl qX0_73 oX0_wouldGo (by first | assumption | exact mset_same | exact mget_ne (by omega) (by assumption)) rfl rfl rfl rfl (Nat.le_of_ble_eq_true rfl) (by decide) (by decide) (fun v33 μ33 h33 => ?_)
          obtain ⟨rfl, rfl⟩ := h33
          refine Rn.if_eq (pc1 := 39) 54 dX0_floorAfterThinning_36 rfl (by decide) (fun c36 => ?_) (fun c36 => ?_)
          · have e : floorN (goB h nx s gr mi g0 g1 g2 g3) (fun i => lastB g1 i h) g0 fl (i + 1) = x := by show (if _ then _ else _) = _; rw [if_neg (fun q => absurd q.2 (by rw [bI_0 c36]; decide)), e0]
            refine Rn.iinc (pc1 := 57)  dX0_floorAfterThinning_54 rfl rfl (nI_1 i) (by decide) rfl rfl ?_
            refine Rn.goto 9 dX0_floorAfterThinning_57 (by decide) ?_
            have := ih (i + 1) (by omega); rw [e] at this; exact this
          · have e : floorN (goB h nx s gr mi g0 g1 g2 g3) (fun i => lastB g1 i h) g0 fl (i + 1) = if x < g0 i + nI 1 then g0 i + nI 1 else x := by show (if _ then _ else _) = _; rw [if_pos ⟨bI_n c24, bI_n c36⟩, e0]
            refine Rn.iload (pc1 := 41)  dX0_floorAfterThinning_39 rfl rfl ?_
            refine Rn.aload_n (pc1 := 42)  dX0_floorAfterThinning_41 rfl rfl rfl ?_
            refine Rn.iload (pc1 := 44)  dX0_floorAfterThinning_42 rfl rfl ?_
            refine Rn.cV_i (pc1 := 47) (eX0_numberAt F rfl (show i < 60 by omega)) dX0_floorAfterThinning_44 rfl qX0_77 oX0_numberAt (by first | assumption | exact mset_same | exact mget_ne (by omega) (by assumption)) rfl rfl rfl rfl (Nat.le_of_ble_eq_true rfl) (by decide) (by decide) (fun v44 μ44 h44 => ?_)
            obtain ⟨rfl, rfl⟩ := h44
            refine Rn.iconst (pc1 := 48) (v := nI 1) dX0_floorAfterThinning_47 rfl (by decide) ?_
            refine Rn.iadd (pc1 := 49)  dX0_floorAfterThinning_48 rfl rfl ?_
            refine Rn.mmax (pc1 := 52)  dX0_floorAfterThinning_49 rfl qX0_80 (Nat.le_of_ble_eq_true rfl) (by decide) rfl ?_
            refine Rn.istore (pc1 := 54)  dX0_floorAfterThinning_52 rfl (by decide) rfl rfl ?_
            refine Rn.iinc (pc1 := 57)  dX0_floorAfterThinning_54 rfl rfl (nI_1 i) (by decide) rfl rfl ?_
            refine Rn.goto 9 dX0_floorAfterThinning_57 (by decide) ?_
            have := ih (i + 1) (by omega); rw [e] at this; exact this
  refine Rn.aload_n (pc1 := 1)  dX0_floorAfterThinning_0 rfl rfl rfl ?_
  refine Rn.getfield (pc1 := 4)  dX0_floorAfterThinning_1 rfl fX0_31 (by first | assumption | exact mset_same | exact mget_ne (by omega) (by assumption)) rfl ?_
  refine Rn.istore (pc1 := 6)  dX0_floorAfterThinning_4 rfl (by decide) rfl rfl ?_
  refine Rn.iconst (pc1 := 7) (v := nI 0) dX0_floorAfterThinning_6 rfl (by decide) ?_
  refine Rn.istore (pc1 := 9)  dX0_floorAfterThinning_7 rfl (by decide) rfl rfl ?_
  exact loop h 0 (by omega)
theorem eX0_thinOut {s gr mi : Int32} (F : FB μ a h nx fl gn g0 g1 g2 g3) (hh : h ≤ 60) (hs : nI 1 ≤ s) {p : Nat → Bool} (hp : goB h nx s gr mi g0 g1 g2 g3 = p) : EvA G 3 kX0_thinOut [.ref a, .int s, .int gr, .int mi] μ sz 0 0 (rI fun v μ' => v = nI (h - leftN p h) ∧ (∃ k0 k1 k2 k3, FB μ' a (leftN p h) nx fl (gn + nI (h - leftN p h)) k0 k1 k2 k3 ∧ ∀ j q, (kept p h)[j]? = some q → k0 j = g0 q ∧ k1 j = g1 q ∧ k2 j = g2 q ∧ k3 j = g3 q) ∧ Fr a (a + 5) μ μ') := by
  refine EvA.of (L := [some (.ref a), some (.int s), some (.int gr), some (.int mi), none, none]) (by decide +kernel) (Nat.le_of_ble_eq_true rfl) rfl ?_
  have loop : ∀ (m i : Nat), i + m = h → ∀ (μ1 : Mm) (k0 k1 k2 k3 : Nat → Int32), FB μ1 a h nx fl gn k0 k1 k2 k3 → Fr a (a + 5) μ μ1 → (∀ j q, (kept p i)[j]? = some q → k0 j = g0 q ∧ k1 j = g1 q ∧ k2 j = g2 q ∧ k3 j = g3 q) → (∀ j, i ≤ j → j < h → k0 j = g0 j ∧ k1 j = g1 j ∧ k2 j = g2 j ∧ k3 j = g3 j) → Rn G 3 kX0_thinOut 6 [some (.ref a), some (.int s), some (.int gr), some (.int mi), some (.int (nI (leftN p i))), some (.int (nI i))] [] μ1 sz 0 0 (rI fun v μ' => v = nI (h - leftN p h) ∧ (∃ k0 k1 k2 k3, FB μ' a (leftN p h) nx fl (gn + nI (h - leftN p h)) k0 k1 k2 k3 ∧ ∀ j q, (kept p h)[j]? = some q → k0 j = g0 q ∧ k1 j = g1 q ∧ k2 j = g2 q ∧ k3 j = g3 q) ∧ Fr a (a + 5) μ μ') := by
    intro m
    induction m with
    | zero =>
      intro i hi μ1 k0 k1 k2 k3 F1 q1 hk1 hk2
      obtain rfl : i = h := by omega
      have hO := F1.1
      have hle := leftN_le p i
      refine Rn.iload (pc1 := 8)  dX0_thinOut_6 rfl rfl ?_
      refine Rn.aload_n (pc1 := 9)  dX0_thinOut_8 rfl rfl rfl ?_
      refine Rn.getfield (pc1 := 12)  dX0_thinOut_9 rfl fX0_24 (by first | assumption | exact mset_same | exact mget_ne (by omega) (by assumption)) rfl ?_
      refine Rn.icmp_ge (pc1 := 15) 66 dX0_thinOut_12 rfl (by decide) (fun c12 => ?_) (fun c12 => ?_)
      · refine Rn.aload_n (pc1 := 67)  dX0_thinOut_66 rfl rfl rfl ?_
        refine Rn.getfield (pc1 := 70)  dX0_thinOut_67 rfl fX0_24 (by first | assumption | exact mset_same | exact mget_ne (by omega) (by assumption)) rfl ?_
        refine Rn.iload (pc1 := 72)  dX0_thinOut_70 rfl rfl ?_
        refine Rn.isub (pc1 := 73)  dX0_thinOut_72 rfl (nI_sub hle) ?_
        refine Rn.istore (pc1 := 75)  dX0_thinOut_73 rfl (by decide) rfl rfl ?_
        refine Rn.aload_n (pc1 := 76)  dX0_thinOut_75 rfl rfl rfl ?_
        refine Rn.iload (pc1 := 78)  dX0_thinOut_76 rfl rfl ?_
        refine Rn.putfield (pc1 := 81)  dX0_thinOut_78 rfl pX0_24 (fun h => Bool.noConfusion h) (by assumption) (Nat.le_of_ble_eq_true rfl) rfl rfl rfl ?_
        have F2 := F1.setO (leftN p i) nx fl gn
        have O2 := F2.1
        refine Rn.aload_n (pc1 := 82)  dX0_thinOut_81 rfl rfl rfl ?_
        refine Rn.dup (pc1 := 83)  dX0_thinOut_82 rfl rfl ?_
        refine Rn.getfield (pc1 := 86)  dX0_thinOut_83 rfl fX0_34 (by first | assumption | exact mset_same | exact mget_ne (by omega) (by assumption)) rfl ?_
        refine Rn.iload (pc1 := 88)  dX0_thinOut_86 rfl rfl ?_
        refine Rn.iadd (pc1 := 89)  dX0_thinOut_88 rfl rfl ?_
        refine Rn.putfield (pc1 := 92)  dX0_thinOut_89 rfl pX0_34 (fun h => Bool.noConfusion h) (by assumption) (Nat.le_of_ble_eq_true rfl) rfl rfl rfl ?_
        have F3 := F2.setO (leftN p i) nx fl (gn + nI (i - leftN p i))
        refine Rn.iload (pc1 := 94)  dX0_thinOut_92 rfl rfl ?_
        exact Rn.ireturn dX0_thinOut_94 rfl rfl ⟨_, rfl, rfl, ⟨k0, k1, k2, k3, F3, hk1⟩, (q1.set_ (by omega) (by omega)).set_ (by omega) (by omega)⟩
      · exact absurd (nI_le (Nat.le_refl i) (by omega)) c12
    | succ m ih =>
      intro i hi μ1 k0 k1 k2 k3 F1 q1 hk1 hk2
      have hO := F1.1
      have hle := leftN_le p i
      have hg : goB h nx s gr mi k0 k1 k2 k3 i = p i := by rw [goB_congr hk2 (by omega), hp]
      refine Rn.iload (pc1 := 8)  dX0_thinOut_6 rfl rfl ?_
      refine Rn.aload_n (pc1 := 9)  dX0_thinOut_8 rfl rfl rfl ?_
      refine Rn.getfield (pc1 := 12)  dX0_thinOut_9 rfl fX0_24 (by first | assumption | exact mset_same | exact mget_ne (by omega) (by assumption)) rfl ?_
      refine Rn.icmp_ge (pc1 := 15) 66 dX0_thinOut_12 rfl (by decide) (fun c12 => ?_) (fun c12 => ?_)
      · exact absurd c12 (nI_ge (by omega) (by omega))
      · refine Rn.aload_n (pc1 := 16)  dX0_thinOut_15 rfl rfl rfl ?_
        refine Rn.iload (pc1 := 18)  dX0_thinOut_16 rfl rfl ?_
        refine Rn.iload_n (pc1 := 19)  dX0_thinOut_18 rfl rfl rfl ?_
        refine Rn.iload_n (pc1 := 20)  dX0_thinOut_19 rfl rfl rfl ?_
        refine Rn.iload_n (pc1 := 21)  dX0_thinOut_20 rfl rfl rfl ?_
        refine Rn.cV_i (pc1 := 24) (eX0_wouldGo F1 hh rfl (show i < h by omega) hs) dX0_thinOut_21 rfl qX0_73 oX0_wouldGo (by first | assumption | exact mset_same | exact mget_ne (by omega) (by assumption)) rfl rfl rfl rfl (Nat.le_of_ble_eq_true rfl) (by decide) (by decide) (fun v21 μ21 h21 => ?_)
        obtain ⟨rfl, rfl⟩ := h21
        rw [hg]
        refine Rn.if_ne (pc1 := 27) 60 dX0_thinOut_24 rfl (by decide) (fun c24 => ?_) (fun c24 => ?_)
        · have e : leftN p (i + 1) = leftN p i := by show _ + _ = _; rw [if_pos (bI_n c24), Nat.add_zero]
          have e2 : kept p (i + 1) = kept p i := if_pos (bI_n c24)
          refine Rn.iinc (pc1 := 63)  dX0_thinOut_60 rfl rfl (nI_1 i) (by decide) rfl rfl ?_
          refine Rn.goto 6 dX0_thinOut_63 (by decide) ?_
          first
            | (have := ih (i + 1) (by omega) _ _ _ _ _ F2 (q1.trans q2) (by
                  intro j q hj
                  rw [e2] at hj
                  have hlen := kept_len p i
                  have hi2 := hk2 i (Nat.le_refl i) (by omega)
                  by_cases hjl : j < (kept p i).length
                  · rw [List.getElem?_append_left hjl] at hj
                    have := hk1 j q hj
                    unfold upd
                    rw [if_neg (by omega), if_neg (by omega), if_neg (by omega), if_neg (by omega)]
                    exact this
                  · rw [List.getElem?_append_right (by omega)] at hj
                    have hz : j - (kept p i).length < 1 := (List.getElem?_eq_some_iff.mp hj).1
                    rw [show j - (kept p i).length = 0 by omega] at hj
                    cases hj
                    obtain rfl : j = leftN p i := by omega
                    unfold upd
                    rw [if_pos rfl, if_pos rfl, if_pos rfl, if_pos rfl]
                    exact hi2) (by
                  intro j h1 h2
                  unfold upd
                  rw [if_neg (by omega), if_neg (by omega), if_neg (by omega), if_neg (by omega)]
                  exact hk2 j (by omega) h2); rw [e] at this; exact this)
            | (have := ih (i + 1) (by omega) _ _ _ _ _ F1 q1 (by rw [e2]; exact hk1) (fun j h1 h2 => hk2 j (by omega) h2); rw [e] at this; exact this)
        · have e : leftN p (i + 1) = leftN p i + 1 := by show _ + _ = _; rw [if_neg (by rw [bI_0 c24]; decide)]
          have e2 : kept p (i + 1) = kept p i ++ [i] := if_neg (by rw [bI_0 c24]; decide)
          refine Rn.aload_n (pc1 := 28)  dX0_thinOut_27 rfl rfl rfl ?_
          refine Rn.iload (pc1 := 30)  dX0_thinOut_28 rfl rfl ?_
          refine Rn.aload_n (pc1 := 31)  dX0_thinOut_30 rfl rfl rfl ?_
          refine Rn.iload (pc1 := 33)  dX0_thinOut_31 rfl rfl ?_
          refine Rn.cV_i (pc1 := 36) (eX0_numberAt F1 rfl (show i < 60 by omega)) dX0_thinOut_33 rfl qX0_77 oX0_numberAt (by first | assumption | exact mset_same | exact mget_ne (by omega) (by assumption)) rfl rfl rfl rfl (Nat.le_of_ble_eq_true rfl) (by decide) (by decide) (fun v33 μ33 h33 => ?_)
          obtain ⟨rfl, rfl⟩ := h33
          refine Rn.aload_n (pc1 := 37)  dX0_thinOut_36 rfl rfl rfl ?_
          refine Rn.iload (pc1 := 39)  dX0_thinOut_37 rfl rfl ?_
          refine Rn.cV_i (pc1 := 42) (eX0_keyAt F1 rfl (show i < 60 by omega)) dX0_thinOut_39 rfl qX0_85 oX0_keyAt (by first | assumption | exact mset_same | exact mget_ne (by omega) (by assumption)) rfl rfl rfl rfl (Nat.le_of_ble_eq_true rfl) (by decide) (by decide) (fun v39 μ39 h39 => ?_)
          obtain ⟨rfl, rfl⟩ := h39
          refine Rn.aload_n (pc1 := 43)  dX0_thinOut_42 rfl rfl rfl ?_
          refine Rn.iload (pc1 := 45)  dX0_thinOut_43 rfl rfl ?_
          refine Rn.cV_i (pc1 := 48) (eX0_valueAt F1 rfl (show i < 60 by omega)) dX0_thinOut_45 rfl qX0_88 oX0_valueAt (by first | assumption | exact mset_same | exact mget_ne (by omega) (by assumption)) rfl rfl rfl rfl (Nat.le_of_ble_eq_true rfl) (by decide) (by decide) (fun v45 μ45 h45 => ?_)
          obtain ⟨rfl, rfl⟩ := h45
          refine Rn.aload_n (pc1 := 49)  dX0_thinOut_48 rfl rfl rfl ?_
          refine Rn.iload (pc1 := 51)  dX0_thinOut_49 rfl rfl ?_
          refine Rn.cV_i (pc1 := 54) (eX0_minuteAt F1 rfl (show i < 60 by omega)) dX0_thinOut_51 rfl qX0_91 oX0_minuteAt (by first | assumption | exact mset_same | exact mget_ne (by omega) (by assumption)) rfl rfl rfl rfl (Nat.le_of_ble_eq_true rfl) (by decide) (by decide) (fun v51 μ51 h51 => ?_)
          obtain ⟨rfl, rfl⟩ := h51
          refine Rn.cV_v (pc1 := 57) (eX0_layEntry F1 rfl (show leftN p i < 60 by omega)) dX0_thinOut_54 rfl qX0_45 oX0_layEntry (by first | assumption | exact mset_same | exact mget_ne (by omega) (by assumption)) rfl rfl rfl rfl (Nat.le_of_ble_eq_true rfl) (by decide) (by decide) (fun μ54 h54 => ?_)
          obtain ⟨F2, q2⟩ := h54
          have O2 := F2.1
          refine Rn.iinc (pc1 := 60)  dX0_thinOut_57 rfl rfl (nI_1 _) (by decide) rfl rfl ?_
          refine Rn.iinc (pc1 := 63)  dX0_thinOut_60 rfl rfl (nI_1 i) (by decide) rfl rfl ?_
          refine Rn.goto 6 dX0_thinOut_63 (by decide) ?_
          first
            | (have := ih (i + 1) (by omega) _ _ _ _ _ F2 (q1.trans q2) (by
                  intro j q hj
                  rw [e2] at hj
                  have hlen := kept_len p i
                  have hi2 := hk2 i (Nat.le_refl i) (by omega)
                  by_cases hjl : j < (kept p i).length
                  · rw [List.getElem?_append_left hjl] at hj
                    have := hk1 j q hj
                    unfold upd
                    rw [if_neg (by omega), if_neg (by omega), if_neg (by omega), if_neg (by omega)]
                    exact this
                  · rw [List.getElem?_append_right (by omega)] at hj
                    have hz : j - (kept p i).length < 1 := (List.getElem?_eq_some_iff.mp hj).1
                    rw [show j - (kept p i).length = 0 by omega] at hj
                    cases hj
                    obtain rfl : j = leftN p i := by omega
                    unfold upd
                    rw [if_pos rfl, if_pos rfl, if_pos rfl, if_pos rfl]
                    exact hi2) (by
                  intro j h1 h2
                  unfold upd
                  rw [if_neg (by omega), if_neg (by omega), if_neg (by omega), if_neg (by omega)]
                  exact hk2 j (by omega) h2); rw [e] at this; exact this)
            | (have := ih (i + 1) (by omega) _ _ _ _ _ F1 q1 (by rw [e2]; exact hk1) (fun j h1 h2 => hk2 j (by omega) h2); rw [e] at this; exact this)
  refine Rn.iconst (pc1 := 1) (v := nI 0) dX0_thinOut_0 rfl (by decide) ?_
  refine Rn.istore (pc1 := 3)  dX0_thinOut_1 rfl (by decide) rfl rfl ?_
  refine Rn.iconst (pc1 := 4) (v := nI 0) dX0_thinOut_3 rfl (by decide) ?_
  refine Rn.istore (pc1 := 6)  dX0_thinOut_4 rfl (by decide) rfl rfl ?_
  exact loop h 0 (by omega) μ g0 g1 g2 g3 F Fr.rf (fun j q hj => by simp [kept] at hj) (fun j _ _ => ⟨rfl, rfl, rfl, rfl⟩)
theorem eX0_copyFrom {b h' : Nat} {nx' fl' gn' : Int32} {k0 k1 k2 k3 : Nat → Int32} (F : FB μ a h nx fl gn g0 g1 g2 g3) (K : FB μ b h' nx' fl' gn' k0 k1 k2 k3) (hd : a + 5 ≤ b ∨ b + 5 ≤ a) : EvA G 1 kX0_copyFrom [.ref a, .ref b] μ sz 0 0 (rV fun μ' => FB μ' a h' nx' fl' gn' (cpy 60 k0 g0) (cpy 60 k1 g1) (cpy 60 k2 g2) (cpy 60 k3 g3) ∧ Fr a (a + 5) μ μ') := by
  have hO := F.1
  have kO := K.1
  refine EvA.of (L := [some (.ref a), some (.ref b)]) (by decide +kernel) (Nat.le_of_ble_eq_true rfl) rfl ?_
  refine Rn.aload_n (pc1 := 1)  dX0_copyFrom_0 rfl rfl rfl ?_
  refine Rn.getfield (pc1 := 4)  dX0_copyFrom_1 rfl fX0_9 (by first | assumption | exact mset_same | exact mget_ne (by omega) (by assumption)) rfl ?_
  refine Rn.aload_n (pc1 := 5)  dX0_copyFrom_4 rfl rfl rfl ?_
  refine Rn.getfield (pc1 := 8)  dX0_copyFrom_5 rfl fX0_9 (by first | assumption | exact mset_same | exact mget_ne (by omega) (by assumption)) rfl ?_
  refine Rn.cN_v (pc1 := 11) (eX8_copyRow K.2.1 F.2.1 (by omega) (by decide)) dX0_copyFrom_8 rfl nX0_37 oX8_copyRow rfl rfl (Nat.le_of_ble_eq_true rfl) (by decide) (by decide) (fun μ8 h8 => ?_)
  subst h8
  have F1 := F.set0 (cpy 60 k0 g0)
  have K1 := K.fr (Fr.set (a := a) (b := a + 5) (q := a + 1) (c := ints 60 (cpy 60 k0 g0)) (by omega) (by omega)) (by omega)
  have O1 := F1.1
  have P1 := K1.1
  refine Rn.aload_n (pc1 := 12)  dX0_copyFrom_11 rfl rfl rfl ?_
  refine Rn.getfield (pc1 := 15)  dX0_copyFrom_12 rfl fX0_15 (by first | assumption | exact mset_same | exact mget_ne (by omega) (by assumption)) rfl ?_
  refine Rn.aload_n (pc1 := 16)  dX0_copyFrom_15 rfl rfl rfl ?_
  refine Rn.getfield (pc1 := 19)  dX0_copyFrom_16 rfl fX0_15 (by first | assumption | exact mset_same | exact mget_ne (by omega) (by assumption)) rfl ?_
  refine Rn.cN_v (pc1 := 22) (eX8_copyRow K1.2.2.1 F1.2.2.1 (by omega) (by decide)) dX0_copyFrom_19 rfl nX0_37 oX8_copyRow rfl rfl (Nat.le_of_ble_eq_true rfl) (by decide) (by decide) (fun μ19 h19 => ?_)
  subst h19
  have F2 := F1.set1 (cpy 60 k1 g1)
  have K2 := K1.fr (Fr.set (a := a) (b := a + 5) (q := a + 2) (c := ints 60 (cpy 60 k1 g1)) (by omega) (by omega)) (by omega)
  have O2 := F2.1
  have P2 := K2.1
  refine Rn.aload_n (pc1 := 23)  dX0_copyFrom_22 rfl rfl rfl ?_
  refine Rn.getfield (pc1 := 26)  dX0_copyFrom_23 rfl fX0_18 (by first | assumption | exact mset_same | exact mget_ne (by omega) (by assumption)) rfl ?_
  refine Rn.aload_n (pc1 := 27)  dX0_copyFrom_26 rfl rfl rfl ?_
  refine Rn.getfield (pc1 := 30)  dX0_copyFrom_27 rfl fX0_18 (by first | assumption | exact mset_same | exact mget_ne (by omega) (by assumption)) rfl ?_
  refine Rn.cN_v (pc1 := 33) (eX8_copyRow K2.2.2.2.1 F2.2.2.2.1 (by omega) (by decide)) dX0_copyFrom_30 rfl nX0_37 oX8_copyRow rfl rfl (Nat.le_of_ble_eq_true rfl) (by decide) (by decide) (fun μ30 h30 => ?_)
  subst h30
  have F3 := F2.set2 (cpy 60 k2 g2)
  have K3 := K2.fr (Fr.set (a := a) (b := a + 5) (q := a + 3) (c := ints 60 (cpy 60 k2 g2)) (by omega) (by omega)) (by omega)
  have O3 := F3.1
  have P3 := K3.1
  refine Rn.aload_n (pc1 := 34)  dX0_copyFrom_33 rfl rfl rfl ?_
  refine Rn.getfield (pc1 := 37)  dX0_copyFrom_34 rfl fX0_21 (by first | assumption | exact mset_same | exact mget_ne (by omega) (by assumption)) rfl ?_
  refine Rn.aload_n (pc1 := 38)  dX0_copyFrom_37 rfl rfl rfl ?_
  refine Rn.getfield (pc1 := 41)  dX0_copyFrom_38 rfl fX0_21 (by first | assumption | exact mset_same | exact mget_ne (by omega) (by assumption)) rfl ?_
  refine Rn.cN_v (pc1 := 44) (eX8_copyRow K3.2.2.2.2 F3.2.2.2.2 (by omega) (by decide)) dX0_copyFrom_41 rfl nX0_37 oX8_copyRow rfl rfl (Nat.le_of_ble_eq_true rfl) (by decide) (by decide) (fun μ41 h41 => ?_)
  subst h41
  have F4 := F3.set3 (cpy 60 k3 g3)
  have K4 := K3.fr (Fr.set (a := a) (b := a + 5) (q := a + 4) (c := ints 60 (cpy 60 k3 g3)) (by omega) (by omega)) (by omega)
  have O4 := F4.1
  have P4 := K4.1
  refine Rn.aload_n (pc1 := 45)  dX0_copyFrom_44 rfl rfl rfl ?_
  refine Rn.aload_n (pc1 := 46)  dX0_copyFrom_45 rfl rfl rfl ?_
  refine Rn.getfield (pc1 := 49)  dX0_copyFrom_46 rfl fX0_24 (by first | assumption | exact mset_same | exact mget_ne (by omega) (by assumption)) rfl ?_
  refine Rn.putfield (pc1 := 52)  dX0_copyFrom_49 rfl pX0_24 (fun h => Bool.noConfusion h) (by assumption) (Nat.le_of_ble_eq_true rfl) rfl rfl rfl ?_
  have F5 := F4.setO h' nx fl gn
  have O5 := F5.1
  have K5 := K4.fr (Fr.set (a := a) (b := a + 5) (q := a) (c := obj 0 [.ref (a + 1), .ref (a + 2), .ref (a + 3), .ref (a + 4), .int (nI h'), .int nx, .int fl, .int gn]) (by omega) (by omega)) (by omega)
  have P5 := K5.1
  refine Rn.aload_n (pc1 := 53)  dX0_copyFrom_52 rfl rfl rfl ?_
  refine Rn.aload_n (pc1 := 54)  dX0_copyFrom_53 rfl rfl rfl ?_
  refine Rn.getfield (pc1 := 57)  dX0_copyFrom_54 rfl fX0_28 (by first | assumption | exact mset_same | exact mget_ne (by omega) (by assumption)) rfl ?_
  refine Rn.putfield (pc1 := 60)  dX0_copyFrom_57 rfl pX0_28 (fun h => Bool.noConfusion h) (by assumption) (Nat.le_of_ble_eq_true rfl) rfl rfl rfl ?_
  have F6 := F5.setO h' nx' fl gn
  have O6 := F6.1
  have K6 := K5.fr (Fr.set (a := a) (b := a + 5) (q := a) (c := obj 0 [.ref (a + 1), .ref (a + 2), .ref (a + 3), .ref (a + 4), .int (nI h'), .int nx', .int fl, .int gn]) (by omega) (by omega)) (by omega)
  have P6 := K6.1
  refine Rn.aload_n (pc1 := 61)  dX0_copyFrom_60 rfl rfl rfl ?_
  refine Rn.aload_n (pc1 := 62)  dX0_copyFrom_61 rfl rfl rfl ?_
  refine Rn.getfield (pc1 := 65)  dX0_copyFrom_62 rfl fX0_31 (by first | assumption | exact mset_same | exact mget_ne (by omega) (by assumption)) rfl ?_
  refine Rn.putfield (pc1 := 68)  dX0_copyFrom_65 rfl pX0_31 (fun h => Bool.noConfusion h) (by assumption) (Nat.le_of_ble_eq_true rfl) rfl rfl rfl ?_
  have F7 := F6.setO h' nx' fl' gn
  have O7 := F7.1
  have K7 := K6.fr (Fr.set (a := a) (b := a + 5) (q := a) (c := obj 0 [.ref (a + 1), .ref (a + 2), .ref (a + 3), .ref (a + 4), .int (nI h'), .int nx', .int fl', .int gn]) (by omega) (by omega)) (by omega)
  have P7 := K7.1
  refine Rn.aload_n (pc1 := 69)  dX0_copyFrom_68 rfl rfl rfl ?_
  refine Rn.aload_n (pc1 := 70)  dX0_copyFrom_69 rfl rfl rfl ?_
  refine Rn.getfield (pc1 := 73)  dX0_copyFrom_70 rfl fX0_34 (by first | assumption | exact mset_same | exact mget_ne (by omega) (by assumption)) rfl ?_
  refine Rn.putfield (pc1 := 76)  dX0_copyFrom_73 rfl pX0_34 (fun h => Bool.noConfusion h) (by assumption) (Nat.le_of_ble_eq_true rfl) rfl rfl rfl ?_
  have F8 := F7.setO h' nx' fl' gn'
  exact Rn.vreturn dX0_copyFrom_76 rfl ⟨rfl, F8, (((((((Fr.set (by omega) (by omega)).set_ (by omega) (by omega)).set_ (by omega) (by omega)).set_ (by omega) (by omega)).set_ (by omega) (by omega)).set_ (by omega) (by omega)).set_ (by omega) (by omega)).set_ (by omega) (by omega)⟩
end FEED
end
section
/-! ===== Reader, Snapshot ===== -/
def RA (μ : Mm) (a : Nat) (pl cp rs : Int32) (vw cv : Nat → Int32) : Prop := μ a = some (obj 3 [.int pl, .int cp, .int rs, .ref (a + 1), .ref (a + 3)]) ∧ VA μ (a + 1) vw ∧ VA μ (a + 3) cv
def SN (μ : Mm) (a : Nat) (n : Int32) (tb : Nat → Int32) : Prop := μ a = some (obj 5 [.int n, .ref (a + 1)]) ∧ VA μ (a + 1) tb
section READM
variable {μ : Mm} {a : Nat} {pl cp rs n : Int32} {vw cv tb : Nat → Int32}
theorem RA.fr {μ' : Mm} {x y : Nat} (F : RA μ a pl cp rs vw cv) (hF : Fr x y μ μ') (hd : a + 5 ≤ x ∨ y ≤ a) : RA μ' a pl cp rs vw cv := ⟨(hF a (by omega)).trans F.1, F.2.1.fr hF (by omega), F.2.2.fr hF (by omega)⟩
theorem SN.fr {μ' : Mm} {x y : Nat} (F : SN μ a n tb) (hF : Fr x y μ μ') (hd : a + 3 ≤ x ∨ y ≤ a) : SN μ' a n tb := ⟨(hF a (by omega)).trans F.1, F.2.fr hF (by omega)⟩
theorem RA.setO (F : RA μ a pl cp rs vw cv) (pl' cp' rs' : Int32) : RA (mset μ a (obj 3 [.int pl', .int cp', .int rs', .ref (a + 1), .ref (a + 3)])) a pl' cp' rs' vw cv := ⟨mset_same, F.2.1.fr (Fr.set (a := a) (b := a + 1) (by omega) (by omega)) (by omega), F.2.2.fr (Fr.set (a := a) (b := a + 1) (by omega) (by omega)) (by omega)⟩
theorem SN.setO (F : SN μ a n tb) (n' : Int32) : SN (mset μ a (obj 5 [.int n', .ref (a + 1)])) a n' tb := ⟨mset_same, F.2.fr (Fr.set (a := a) (b := a + 1) (by omega) (by omega)) (by omega)⟩
end READM
def vwN (g1 g2 vw : Nat → Int32) (k : Nat) : Nat → Nat → Int32
  | 0 => vw
  | n + 1 => upd (vwN g1 g2 vw k n) (g1 (k + n)).toNatClampNeg (g2 (k + n))
def plN (g0 : Nat → Int32) (pl : Int32) (k : Nat) : Nat → Int32
  | 0 => pl
  | n + 1 => g0 (k + n) + nI 1
theorem vwN_congr {g1 g2 vw k1 k2 vw' : Nat → Int32} {k h : Nat} (h1 : ∀ j, j < h → g1 j = k1 j) (h2 : ∀ j, j < h → g2 j = k2 j) (hv : ∀ j, j < 12 → vw j = vw' j) : ∀ n, k + n ≤ h → ∀ j, j < 12 → vwN g1 g2 vw k n j = vwN k1 k2 vw' k n j
  | 0, _, j, hj => hv j hj
  | n + 1, hn, j, hj => by
    show upd _ _ _ j = upd _ _ _ j
    rw [h1 _ (by omega), h2 _ (by omega)]
    unfold upd
    split
    · rfl
    · exact vwN_congr h1 h2 hv n (by omega) j hj
section READER
variable {G : GG} {μ : Mm} {sz : Nat} {a : Nat} {pl cp rs : Int32} {vw cv : Nat → Int32}
theorem eX3_copyFrom {b : Nat} {pl' cp' rs' : Int32} {vw' cv' : Nat → Int32} (F : RA μ a pl cp rs vw cv) (K : RA μ b pl' cp' rs' vw' cv') (hd : a + 5 ≤ b ∨ b + 5 ≤ a) : EvA G 2 kX3_copyFrom [.ref a, .ref b] μ sz 0 0 (rV fun μ' => RA μ' a pl' cp' rs' vw' cv' ∧ Fr a (a + 5) μ μ') := by
  have hO := F.1
  have kO := K.1
  refine EvA.of (L := [some (.ref a), some (.ref b)]) (by decide +kernel) (Nat.le_of_ble_eq_true rfl) rfl ?_
  refine Rn.aload_n (pc1 := 1)  dX3_copyFrom_0 rfl rfl rfl ?_
  refine Rn.aload_n (pc1 := 2)  dX3_copyFrom_1 rfl rfl rfl ?_
  refine Rn.getfield (pc1 := 5)  dX3_copyFrom_2 rfl fX3_7 (by first | assumption | exact mset_same | exact mget_ne (by omega) (by assumption)) rfl ?_
  refine Rn.putfield (pc1 := 8)  dX3_copyFrom_5 rfl pX3_7 (fun h => Bool.noConfusion h) (by assumption) (Nat.le_of_ble_eq_true rfl) rfl rfl rfl ?_
  have F1 := F.setO pl' cp rs
  have O1 := F1.1
  have q1 : Fr a (a + 5) μ _ := Fr.set (c := obj 3 [.int pl', .int cp, .int rs, .ref (a + 1), .ref (a + 3)]) (Nat.le_refl a) (by omega)
  have K1 := K.fr q1 (by omega)
  have P1 := K1.1
  refine Rn.aload_n (pc1 := 9)  dX3_copyFrom_8 rfl rfl rfl ?_
  refine Rn.aload_n (pc1 := 10)  dX3_copyFrom_9 rfl rfl rfl ?_
  refine Rn.getfield (pc1 := 13)  dX3_copyFrom_10 rfl fX3_13 (by first | assumption | exact mset_same | exact mget_ne (by omega) (by assumption)) rfl ?_
  refine Rn.putfield (pc1 := 16)  dX3_copyFrom_13 rfl pX3_13 (fun h => Bool.noConfusion h) (by assumption) (Nat.le_of_ble_eq_true rfl) rfl rfl rfl ?_
  have F2 := F1.setO pl' cp' rs
  have O2 := F2.1
  have q2 := q1.set_ (q := a) (c := obj 3 [.int pl', .int cp', .int rs, .ref (a + 1), .ref (a + 3)]) (Nat.le_refl a) (by omega)
  have K2 := K.fr q2 (by omega)
  have P2 := K2.1
  refine Rn.aload_n (pc1 := 17)  dX3_copyFrom_16 rfl rfl rfl ?_
  refine Rn.aload_n (pc1 := 18)  dX3_copyFrom_17 rfl rfl rfl ?_
  refine Rn.getfield (pc1 := 21)  dX3_copyFrom_18 rfl fX3_16 (by first | assumption | exact mset_same | exact mget_ne (by omega) (by assumption)) rfl ?_
  refine Rn.putfield (pc1 := 24)  dX3_copyFrom_21 rfl pX3_16 (fun h => Bool.noConfusion h) (by assumption) (Nat.le_of_ble_eq_true rfl) rfl rfl rfl ?_
  have F3 := F2.setO pl' cp' rs'
  have O3 := F3.1
  have q3 := q2.set_ (q := a) (c := obj 3 [.int pl', .int cp', .int rs', .ref (a + 1), .ref (a + 3)]) (Nat.le_refl a) (by omega)
  have K3 := K.fr q3 (by omega)
  have P3 := K3.1
  have V1 := F3.2.1.1
  have V2 := F3.2.2.1
  refine Rn.aload_n (pc1 := 25)  dX3_copyFrom_24 rfl rfl rfl ?_
  refine Rn.getfield (pc1 := 28)  dX3_copyFrom_25 rfl fX3_22 (by first | assumption | exact mset_same | exact mget_ne (by omega) (by assumption)) rfl ?_
  refine Rn.aload_n (pc1 := 29)  dX3_copyFrom_28 rfl rfl rfl ?_
  refine Rn.getfield (pc1 := 32)  dX3_copyFrom_29 rfl fX3_22 (by first | assumption | exact mset_same | exact mget_ne (by omega) (by assumption)) rfl ?_
  refine Rn.cV_v (pc1 := 35) (eX7_copyFrom F3.2.1 K3.2.1 (by omega)) dX3_copyFrom_32 rfl qX3_29 oX7_copyFrom (by first | assumption | exact mset_same | exact mget_ne (by omega) (by assumption)) rfl rfl rfl rfl (Nat.le_of_ble_eq_true rfl) (by decide) (by decide) (fun μ32 h32 => ?_)
  obtain ⟨W1, w1⟩ := h32
  have q4 := q3.trans (w1.wide (a' := a) (b' := a + 5) (by omega) (by omega))
  have O4 := (w1 a (by omega)).trans O3
  have K4 := K.fr q4 (by omega)
  have P4 := K4.1
  have W2 := F3.2.2.fr w1 (by omega)
  have V3 := W2.1
  refine Rn.aload_n (pc1 := 36)  dX3_copyFrom_35 rfl rfl rfl ?_
  refine Rn.getfield (pc1 := 39)  dX3_copyFrom_36 rfl fX3_26 (by first | assumption | exact mset_same | exact mget_ne (by omega) (by assumption)) rfl ?_
  refine Rn.aload_n (pc1 := 40)  dX3_copyFrom_39 rfl rfl rfl ?_
  refine Rn.getfield (pc1 := 43)  dX3_copyFrom_40 rfl fX3_26 (by first | assumption | exact mset_same | exact mget_ne (by omega) (by assumption)) rfl ?_
  refine Rn.cV_v (pc1 := 46) (eX7_copyFrom W2 K4.2.2 (by omega)) dX3_copyFrom_43 rfl qX3_29 oX7_copyFrom (by first | assumption | exact mset_same | exact mget_ne (by omega) (by assumption)) rfl rfl rfl rfl (Nat.le_of_ble_eq_true rfl) (by decide) (by decide) (fun μ43 h43 => ?_)
  obtain ⟨W3, w3⟩ := h43
  exact Rn.vreturn dX3_copyFrom_46 rfl ⟨rfl, ⟨(w3 a (by omega)).trans O4, W1.fr w3 (by omega), W3⟩, q4.trans (w3.wide (by omega) (by omega))⟩
theorem eX3_keepPlace (F : RA μ a pl cp rs vw cv) : EvA G 2 kX3_keepPlace [.ref a] μ sz 0 0 (rV fun μ' => RA μ' a pl pl rs vw vw ∧ Fr a (a + 5) μ μ') := by
  have hO := F.1
  refine EvA.of (L := [some (.ref a)]) (by decide +kernel) (Nat.le_of_ble_eq_true rfl) rfl ?_
  refine Rn.aload_n (pc1 := 1)  dX3_keepPlace_0 rfl rfl rfl ?_
  refine Rn.aload_n (pc1 := 2)  dX3_keepPlace_1 rfl rfl rfl ?_
  refine Rn.getfield (pc1 := 5)  dX3_keepPlace_2 rfl fX3_7 (by first | assumption | exact mset_same | exact mget_ne (by omega) (by assumption)) rfl ?_
  refine Rn.putfield (pc1 := 8)  dX3_keepPlace_5 rfl pX3_13 (fun h => Bool.noConfusion h) (by assumption) (Nat.le_of_ble_eq_true rfl) rfl rfl rfl ?_
  have F1 := F.setO pl pl rs
  have O1 := F1.1
  have V2 := F1.2.2.1
  refine Rn.aload_n (pc1 := 9)  dX3_keepPlace_8 rfl rfl rfl ?_
  refine Rn.getfield (pc1 := 12)  dX3_keepPlace_9 rfl fX3_26 (by first | assumption | exact mset_same | exact mget_ne (by omega) (by assumption)) rfl ?_
  refine Rn.aload_n (pc1 := 13)  dX3_keepPlace_12 rfl rfl rfl ?_
  refine Rn.getfield (pc1 := 16)  dX3_keepPlace_13 rfl fX3_22 (by first | assumption | exact mset_same | exact mget_ne (by omega) (by assumption)) rfl ?_
  refine Rn.cV_v (pc1 := 19) (eX7_copyFrom F1.2.2 F1.2.1 (by omega)) dX3_keepPlace_16 rfl qX3_29 oX7_copyFrom (by first | assumption | exact mset_same | exact mget_ne (by omega) (by assumption)) rfl rfl rfl rfl (Nat.le_of_ble_eq_true rfl) (by decide) (by decide) (fun μ16 h16 => ?_)
  obtain ⟨W1, w1⟩ := h16
  exact Rn.vreturn dX3_keepPlace_19 rfl ⟨rfl, ⟨(w1 a (by omega)).trans O1, F1.2.1.fr w1 (by omega), W1⟩, (Fr.set (by omega) (by omega)).trans (w1.wide (by omega) (by omega))⟩
theorem eX3_returnToConfirmed (F : RA μ a pl cp rs vw cv) : EvA G 2 kX3_returnToConfirmed [.ref a] μ sz 0 0 (rV fun μ' => RA μ' a cp cp rs cv cv ∧ Fr a (a + 5) μ μ') := by
  have hO := F.1
  refine EvA.of (L := [some (.ref a)]) (by decide +kernel) (Nat.le_of_ble_eq_true rfl) rfl ?_
  refine Rn.aload_n (pc1 := 1)  dX3_returnToConfirmed_0 rfl rfl rfl ?_
  refine Rn.aload_n (pc1 := 2)  dX3_returnToConfirmed_1 rfl rfl rfl ?_
  refine Rn.getfield (pc1 := 5)  dX3_returnToConfirmed_2 rfl fX3_13 (by first | assumption | exact mset_same | exact mget_ne (by omega) (by assumption)) rfl ?_
  refine Rn.putfield (pc1 := 8)  dX3_returnToConfirmed_5 rfl pX3_7 (fun h => Bool.noConfusion h) (by assumption) (Nat.le_of_ble_eq_true rfl) rfl rfl rfl ?_
  have F1 := F.setO cp cp rs
  have O1 := F1.1
  have V2 := F1.2.1.1
  refine Rn.aload_n (pc1 := 9)  dX3_returnToConfirmed_8 rfl rfl rfl ?_
  refine Rn.getfield (pc1 := 12)  dX3_returnToConfirmed_9 rfl fX3_22 (by first | assumption | exact mset_same | exact mget_ne (by omega) (by assumption)) rfl ?_
  refine Rn.aload_n (pc1 := 13)  dX3_returnToConfirmed_12 rfl rfl rfl ?_
  refine Rn.getfield (pc1 := 16)  dX3_returnToConfirmed_13 rfl fX3_26 (by first | assumption | exact mset_same | exact mget_ne (by omega) (by assumption)) rfl ?_
  refine Rn.cV_v (pc1 := 19) (eX7_copyFrom F1.2.1 F1.2.2 (by omega)) dX3_returnToConfirmed_16 rfl qX3_29 oX7_copyFrom (by first | assumption | exact mset_same | exact mget_ne (by omega) (by assumption)) rfl rfl rfl rfl (Nat.le_of_ble_eq_true rfl) (by decide) (by decide) (fun μ16 h16 => ?_)
  obtain ⟨W1, w1⟩ := h16
  exact Rn.vreturn dX3_returnToConfirmed_19 rfl ⟨rfl, ⟨(w1 a (by omega)).trans O1, W1, F1.2.2.fr w1 (by omega)⟩, (Fr.set (by omega) (by omega)).trans (w1.wide (by omega) (by omega))⟩
theorem eX3_startOver (F : RA μ a pl cp rs vw cv) : EvA G 3 kX3_startOver [.ref a] μ sz 0 0 (rV fun μ' => RA μ' a (nI 0) (nI 0) rs (fun _ => -6) (fun _ => -6) ∧ Fr a (a + 5) μ μ') := by
  have hO := F.1
  refine EvA.of (L := [some (.ref a)]) (by decide +kernel) (Nat.le_of_ble_eq_true rfl) rfl ?_
  refine Rn.aload_n (pc1 := 1)  dX3_startOver_0 rfl rfl rfl ?_
  refine Rn.iconst (pc1 := 2) (v := nI 0) dX3_startOver_1 rfl (by decide) ?_
  refine Rn.putfield (pc1 := 5)  dX3_startOver_2 rfl pX3_7 (fun h => Bool.noConfusion h) (by assumption) (Nat.le_of_ble_eq_true rfl) rfl rfl rfl ?_
  have F1 := F.setO (nI 0) cp rs
  have O1 := F1.1
  have V2 := F1.2.1.1
  refine Rn.aload_n (pc1 := 6)  dX3_startOver_5 rfl rfl rfl ?_
  refine Rn.getfield (pc1 := 9)  dX3_startOver_6 rfl fX3_22 (by first | assumption | exact mset_same | exact mget_ne (by omega) (by assumption)) rfl ?_
  refine Rn.cV_v (pc1 := 12) (eX7_clear F1.2.1) dX3_startOver_9 rfl qX3_33 oX7_clear (by first | assumption | exact mset_same | exact mget_ne (by omega) (by assumption)) rfl rfl rfl rfl (Nat.le_of_ble_eq_true rfl) (by decide) (by decide) (fun μ9 h9 => ?_)
  obtain ⟨W1, w1⟩ := h9
  have F2 : RA _ a (nI 0) cp rs (fun _ => -6) cv := ⟨(w1 a (by omega)).trans O1, W1, F1.2.2.fr w1 (by omega)⟩
  have O2 := F2.1
  refine Rn.aload_n (pc1 := 13)  dX3_startOver_12 rfl rfl rfl ?_
  refine Rn.cV_v (pc1 := 16) (eX3_keepPlace F2) dX3_startOver_13 rfl qX3_36 oX3_keepPlace (by first | assumption | exact mset_same | exact mget_ne (by omega) (by assumption)) rfl rfl rfl rfl (Nat.le_of_ble_eq_true rfl) (by decide) (by decide) (fun μ13 h13 => ?_)
  obtain ⟨F3, q3⟩ := h13
  exact Rn.vreturn dX3_startOver_16 rfl ⟨rfl, F3, ((Fr.set (by omega) (by omega)).trans (w1.wide (by omega) (by omega))).trans q3⟩
theorem eX3_takeOver {b : Nat} {n : Int32} {tb : Nat → Int32} (F : RA μ a pl cp rs vw cv) (K : SN μ b n tb) (hd : a + 5 ≤ b ∨ b + 3 ≤ a) : EvA G 3 kX3_takeOver [.ref a, .ref b] μ sz 0 0 (rV fun μ' => RA μ' a n n rs tb tb ∧ Fr a (a + 5) μ μ') := by
  have hO := F.1
  have kO := K.1
  refine EvA.of (L := [some (.ref a), some (.ref b)]) (by decide +kernel) (Nat.le_of_ble_eq_true rfl) rfl ?_
  refine Rn.aload_n (pc1 := 1)  dX3_takeOver_0 rfl rfl rfl ?_
  refine Rn.aload_n (pc1 := 2)  dX3_takeOver_1 rfl rfl rfl ?_
  refine Rn.getfield (pc1 := 5)  dX3_takeOver_2 rfl fX3_39 (by first | assumption | exact mset_same | exact mget_ne (by omega) (by assumption)) rfl ?_
  refine Rn.putfield (pc1 := 8)  dX3_takeOver_5 rfl pX3_7 (fun h => Bool.noConfusion h) (by assumption) (Nat.le_of_ble_eq_true rfl) rfl rfl rfl ?_
  have F1 := F.setO n cp rs
  have O1 := F1.1
  have V2 := F1.2.1.1
  have q1 : Fr a (a + 5) μ _ := Fr.set (c := obj 3 [.int n, .int cp, .int rs, .ref (a + 1), .ref (a + 3)]) (Nat.le_refl a) (by omega)
  have K1 := K.fr q1 (by omega)
  have P1 := K1.1
  refine Rn.aload_n (pc1 := 9)  dX3_takeOver_8 rfl rfl rfl ?_
  refine Rn.getfield (pc1 := 12)  dX3_takeOver_9 rfl fX3_22 (by first | assumption | exact mset_same | exact mget_ne (by omega) (by assumption)) rfl ?_
  refine Rn.aload_n (pc1 := 13)  dX3_takeOver_12 rfl rfl rfl ?_
  refine Rn.getfield (pc1 := 16)  dX3_takeOver_13 rfl fX3_44 (by first | assumption | exact mset_same | exact mget_ne (by omega) (by assumption)) rfl ?_
  refine Rn.cV_v (pc1 := 19) (eX7_copyFrom F1.2.1 K1.2 (by omega)) dX3_takeOver_16 rfl qX3_29 oX7_copyFrom (by first | assumption | exact mset_same | exact mget_ne (by omega) (by assumption)) rfl rfl rfl rfl (Nat.le_of_ble_eq_true rfl) (by decide) (by decide) (fun μ16 h16 => ?_)
  obtain ⟨W1, w1⟩ := h16
  have F2 : RA _ a n cp rs tb cv := ⟨(w1 a (by omega)).trans O1, W1, F1.2.2.fr w1 (by omega)⟩
  have O2 := F2.1
  refine Rn.aload_n (pc1 := 20)  dX3_takeOver_19 rfl rfl rfl ?_
  refine Rn.cV_v (pc1 := 23) (eX3_keepPlace F2) dX3_takeOver_20 rfl qX3_36 oX3_keepPlace (by first | assumption | exact mset_same | exact mget_ne (by omega) (by assumption)) rfl rfl rfl rfl (Nat.le_of_ble_eq_true rfl) (by decide) (by decide) (fun μ20 h20 => ?_)
  obtain ⟨F3, q3⟩ := h20
  exact Rn.vreturn dX3_takeOver_23 rfl ⟨rfl, F3, (q1.trans (w1.wide (by omega) (by omega))).trans q3⟩
theorem eX5_copyFrom {b : Nat} {n n' : Int32} {tb tb' : Nat → Int32} (F : SN μ a n tb) (K : SN μ b n' tb') (hd : a + 3 ≤ b ∨ b + 3 ≤ a) : EvA G 2 kX5_copyFrom [.ref a, .ref b] μ sz 0 0 (rV fun μ' => SN μ' a n' tb' ∧ Fr a (a + 3) μ μ') := by
  have hO := F.1
  have kO := K.1
  refine EvA.of (L := [some (.ref a), some (.ref b)]) (by decide +kernel) (Nat.le_of_ble_eq_true rfl) rfl ?_
  refine Rn.aload_n (pc1 := 1)  dX5_copyFrom_0 rfl rfl rfl ?_
  refine Rn.aload_n (pc1 := 2)  dX5_copyFrom_1 rfl rfl rfl ?_
  refine Rn.getfield (pc1 := 5)  dX5_copyFrom_2 rfl fX5_7 (by first | assumption | exact mset_same | exact mget_ne (by omega) (by assumption)) rfl ?_
  refine Rn.putfield (pc1 := 8)  dX5_copyFrom_5 rfl pX5_7 (fun h => Bool.noConfusion h) (by assumption) (Nat.le_of_ble_eq_true rfl) rfl rfl rfl ?_
  have F1 := F.setO n'
  have O1 := F1.1
  have V2 := F1.2.1
  have q1 : Fr a (a + 3) μ _ := Fr.set (c := obj 5 [.int n', .ref (a + 1)]) (Nat.le_refl a) (by omega)
  have K1 := K.fr q1 (by omega)
  have P1 := K1.1
  refine Rn.aload_n (pc1 := 9)  dX5_copyFrom_8 rfl rfl rfl ?_
  refine Rn.getfield (pc1 := 12)  dX5_copyFrom_9 rfl fX5_16 (by first | assumption | exact mset_same | exact mget_ne (by omega) (by assumption)) rfl ?_
  refine Rn.aload_n (pc1 := 13)  dX5_copyFrom_12 rfl rfl rfl ?_
  refine Rn.getfield (pc1 := 16)  dX5_copyFrom_13 rfl fX5_16 (by first | assumption | exact mset_same | exact mget_ne (by omega) (by assumption)) rfl ?_
  refine Rn.cV_v (pc1 := 19) (eX7_copyFrom F1.2 K1.2 (by omega)) dX5_copyFrom_16 rfl qX5_20 oX7_copyFrom (by first | assumption | exact mset_same | exact mget_ne (by omega) (by assumption)) rfl rfl rfl rfl (Nat.le_of_ble_eq_true rfl) (by decide) (by decide) (fun μ16 h16 => ?_)
  obtain ⟨W1, w1⟩ := h16
  exact Rn.vreturn dX5_copyFrom_19 rfl ⟨rfl, ⟨(w1 a (by omega)).trans O1, W1⟩, q1.trans (w1.wide (by omega) (by omega))⟩
theorem lX3_readOn {b h M k c : Nat} {nx fl gn : Int32} {g0 g1 g2 g3 : Nat → Int32} (K : FB μ b h nx fl gn g0 g1 g2 g3) (hh : h ≤ 60) (hc : c = min M (h - k)) (hkc : k + c ≤ h) (k2 : ∀ j, j < k → g0 j < pl) (k3 : k < h → pl ≤ g0 k) (hk : ∀ j, j < h → ∃ q, q < 12 ∧ g1 j = nI q) (hd : a + 5 ≤ b ∨ b + 5 ≤ a) : ∀ (m i : Nat), i + m = c → ∀ (μ1 : Mm), RA μ1 a (plN g0 pl k i) cp rs (vwN g1 g2 vw k i) cv → Fr a (a + 5) μ μ1 → Rn G 3 kX3_readOn 24 [some (.ref a), some (.ref b), some (.int (nI M)), some (.int (nI k)), some (.int (nI c)), some (.int (nI (k + i)))] [] μ1 sz 0 0 (rI fun v μ' => ∃ k c, k + c ≤ h ∧ c = min M (h - k) ∧ v = nI c ∧ (∀ j, j < k → g0 j < pl) ∧ (k < h → pl ≤ g0 k) ∧ RA μ' a (plN g0 pl k c) cp (rs + nI c) (vwN g1 g2 vw k c) cv ∧ Fr a (a + 5) μ μ') := by
  intro m
  induction m with
  | zero =>
    intro i hi μ1 F1 q1
    obtain rfl : i = c := by omega
    have hO := F1.1
    refine Rn.iload (pc1 := 26)  dX3_readOn_24 rfl rfl ?_
    refine Rn.iload_n (pc1 := 27)  dX3_readOn_26 rfl rfl rfl ?_
    refine Rn.iload (pc1 := 29)  dX3_readOn_27 rfl rfl ?_
    refine Rn.iadd (pc1 := 30)  dX3_readOn_29 rfl (nI_add k i) ?_
    refine Rn.icmp_ge (pc1 := 33) 70 dX3_readOn_30 rfl (by decide) (fun c30 => ?_) (fun c30 => ?_)
    · refine Rn.aload_n (pc1 := 71)  dX3_readOn_70 rfl rfl rfl ?_
      refine Rn.dup (pc1 := 72)  dX3_readOn_71 rfl rfl ?_
      refine Rn.getfield (pc1 := 75)  dX3_readOn_72 rfl fX3_16 (by first | assumption | exact mset_same | exact mget_ne (by omega) (by assumption)) rfl ?_
      refine Rn.iload (pc1 := 77)  dX3_readOn_75 rfl rfl ?_
      refine Rn.iadd (pc1 := 78)  dX3_readOn_77 rfl rfl ?_
      refine Rn.putfield (pc1 := 81)  dX3_readOn_78 rfl pX3_16 (fun h => Bool.noConfusion h) (by assumption) (Nat.le_of_ble_eq_true rfl) rfl rfl rfl ?_
      have F2 := F1.setO (plN g0 pl k i) cp (rs + nI i)
      refine Rn.iload (pc1 := 83)  dX3_readOn_81 rfl rfl ?_
      exact Rn.ireturn dX3_readOn_83 rfl rfl ⟨_, rfl, k, i, hkc, hc, rfl, k2, k3, F2, q1.set_ (by omega) (by omega)⟩
    · exact absurd (nI_le (Nat.le_refl _) (by omega)) c30
  | succ m ih =>
    intro i hi μ1 F1 q1
    have hO := F1.1
    have K1 := K.fr q1 (by omega)
    have kO := K1.1
    obtain ⟨q, hq1, hq2⟩ := hk (k + i) (by omega)
    have V1 := F1.2.1.1
    refine Rn.iload (pc1 := 26)  dX3_readOn_24 rfl rfl ?_
    refine Rn.iload_n (pc1 := 27)  dX3_readOn_26 rfl rfl rfl ?_
    refine Rn.iload (pc1 := 29)  dX3_readOn_27 rfl rfl ?_
    refine Rn.iadd (pc1 := 30)  dX3_readOn_29 rfl (nI_add k c) ?_
    refine Rn.icmp_ge (pc1 := 33) 70 dX3_readOn_30 rfl (by decide) (fun c30 => ?_) (fun c30 => ?_)
    · exact absurd c30 (nI_ge (by omega) (by omega))
    · refine Rn.aload_n (pc1 := 34)  dX3_readOn_33 rfl rfl rfl ?_
      refine Rn.getfield (pc1 := 37)  dX3_readOn_34 rfl fX3_22 (by first | assumption | exact mset_same | exact mget_ne (by omega) (by assumption)) rfl ?_
      refine Rn.aload_n (pc1 := 38)  dX3_readOn_37 rfl rfl rfl ?_
      refine Rn.iload (pc1 := 40)  dX3_readOn_38 rfl rfl ?_
      refine Rn.cV_i (pc1 := 43) (eX0_keyAt K1 rfl (show k + i < 60 by omega)) dX3_readOn_40 rfl qX3_62 oX0_keyAt (by first | assumption | exact mset_same | exact mget_ne (by omega) (by assumption)) rfl rfl rfl rfl (Nat.le_of_ble_eq_true rfl) (by decide) (by decide) (fun v40 μ40 h40 => ?_)
      obtain ⟨rfl, rfl⟩ := h40
      refine Rn.aload_n (pc1 := 44)  dX3_readOn_43 rfl rfl rfl ?_
      refine Rn.iload (pc1 := 46)  dX3_readOn_44 rfl rfl ?_
      refine Rn.cV_i (pc1 := 49) (eX0_valueAt K1 rfl (show k + i < 60 by omega)) dX3_readOn_46 rfl qX3_65 oX0_valueAt (by first | assumption | exact mset_same | exact mget_ne (by omega) (by assumption)) rfl rfl rfl rfl (Nat.le_of_ble_eq_true rfl) (by decide) (by decide) (fun v46 μ46 h46 => ?_)
      obtain ⟨rfl, rfl⟩ := h46
      refine Rn.cV_v (pc1 := 52) (eX7_change F1.2.1 hq2 hq1) dX3_readOn_49 rfl qX3_68 oX7_change (by first | assumption | exact mset_same | exact mget_ne (by omega) (by assumption)) rfl rfl rfl rfl (Nat.le_of_ble_eq_true rfl) (by decide) (by decide) (fun μ49 h49 => ?_)
      obtain ⟨W1, w1⟩ := h49
      have O2 := (w1 a (by omega)).trans hO
      have q2 := q1.trans (w1.wide (a' := a) (b' := a + 5) (by omega) (by omega))
      have K2 := K.fr q2 (by omega)
      have kO2 := K2.1
      refine Rn.aload_n (pc1 := 53)  dX3_readOn_52 rfl rfl rfl ?_
      refine Rn.aload_n (pc1 := 54)  dX3_readOn_53 rfl rfl rfl ?_
      refine Rn.iload (pc1 := 56)  dX3_readOn_54 rfl rfl ?_
      refine Rn.cV_i (pc1 := 59) (eX0_numberAt K2 rfl (show k + i < 60 by omega)) dX3_readOn_56 rfl qX3_72 oX0_numberAt (by first | assumption | exact mset_same | exact mget_ne (by omega) (by assumption)) rfl rfl rfl rfl (Nat.le_of_ble_eq_true rfl) (by decide) (by decide) (fun v56 μ56 h56 => ?_)
      obtain ⟨rfl, rfl⟩ := h56
      refine Rn.iconst (pc1 := 60) (v := nI 1) dX3_readOn_59 rfl (by decide) ?_
      refine Rn.iadd (pc1 := 61)  dX3_readOn_60 rfl rfl ?_
      refine Rn.putfield (pc1 := 64)  dX3_readOn_61 rfl pX3_7 (fun h => Bool.noConfusion h) (by assumption) (Nat.le_of_ble_eq_true rfl) rfl rfl rfl ?_
      refine Rn.iinc (pc1 := 67)  dX3_readOn_64 rfl rfl (nI_1 _) (by decide) rfl rfl ?_
      refine Rn.goto 24 dX3_readOn_67 (by decide) ?_
      have F2 : RA _ a (plN g0 pl k i) cp rs (upd (vwN g1 g2 vw k i) q (g2 (k + i))) cv := ⟨O2, W1, F1.2.2.fr w1 (by omega)⟩
      have F3 := F2.setO (g0 (k + i) + nI 1) cp rs
      have e : vwN g1 g2 vw k (i + 1) = upd (vwN g1 g2 vw k i) q (g2 (k + i)) := by show upd _ _ _ = _; rw [hq2, nI_clamp (by omega)]
      rw [← e] at F3
      exact ih (i + 1) (by omega) _ F3 (q2.set_ (by omega) (by omega))
theorem eX3_readOn {b h M : Nat} {nx fl gn : Int32} {g0 g1 g2 g3 : Nat → Int32} (F : RA μ a pl cp rs vw cv) (K : FB μ b h nx fl gn g0 g1 g2 g3) (hh : h ≤ 60) (hM : M ≤ 99) (hk : ∀ j, j < h → ∃ q, q < 12 ∧ g1 j = nI q) (hd : a + 5 ≤ b ∨ b + 5 ≤ a) : EvA G 3 kX3_readOn [.ref a, .ref b, .int (nI M)] μ sz 0 0 (rI fun v μ' => ∃ k c, k + c ≤ h ∧ c = min M (h - k) ∧ v = nI c ∧ (∀ j, j < k → g0 j < pl) ∧ (k < h → pl ≤ g0 k) ∧ RA μ' a (plN g0 pl k c) cp (rs + nI c) (vwN g1 g2 vw k c) cv ∧ Fr a (a + 5) μ μ') := by
  have hO := F.1
  have kO := K.1
  refine EvA.of (L := [some (.ref a), some (.ref b), some (.int (nI M)), none, none, none]) (by decide +kernel) (Nat.le_of_ble_eq_true rfl) rfl ?_
  refine Rn.aload_n (pc1 := 1)  dX3_readOn_0 rfl rfl rfl ?_
  refine Rn.aload_n (pc1 := 2)  dX3_readOn_1 rfl rfl rfl ?_
  refine Rn.getfield (pc1 := 5)  dX3_readOn_2 rfl fX3_7 (by first | assumption | exact mset_same | exact mget_ne (by omega) (by assumption)) rfl ?_
  refine Rn.cV_i (pc1 := 8) (eX0_firstFrom K hh) dX3_readOn_5 rfl qX3_47 oX0_firstFrom (by first | assumption | exact mset_same | exact mget_ne (by omega) (by assumption)) rfl rfl rfl rfl (Nat.le_of_ble_eq_true rfl) (by decide) (by decide) (fun v5 μ5 h5 => ?_)
  obtain ⟨⟨k, k1, rfl, k2, k3⟩, rfl⟩ := h5
  refine Rn.istore_n (pc1 := 9)  dX3_readOn_8 rfl rfl (by decide) rfl rfl ?_
  refine Rn.iload_n (pc1 := 10)  dX3_readOn_9 rfl rfl rfl ?_
  refine Rn.aload_n (pc1 := 11)  dX3_readOn_10 rfl rfl rfl ?_
  refine Rn.getfield (pc1 := 14)  dX3_readOn_11 rfl fX3_53 (by first | assumption | exact mset_same | exact mget_ne (by omega) (by assumption)) rfl ?_
  refine Rn.iload_n (pc1 := 15)  dX3_readOn_14 rfl rfl rfl ?_
  refine Rn.isub (pc1 := 16)  dX3_readOn_15 rfl (nI_sub k1) ?_
  refine Rn.mmin (pc1 := 19) (v := nI (min M (h - k)))  dX3_readOn_16 rfl qX3_56 (Nat.le_of_ble_eq_true rfl) (by decide) (by
      by_cases e : h - k < M
      · rw [if_pos (nI_lt e (by omega)), Nat.min_eq_right (by omega)]
      · rw [if_neg (nI_nlt (by omega) (by omega)), Nat.min_eq_left (by omega)]) ?_
  refine Rn.istore (pc1 := 21)  dX3_readOn_19 rfl (by decide) rfl rfl ?_
  obtain ⟨c, hc⟩ : ∃ c, c = min M (h - k) := ⟨_, rfl⟩
  rw [← hc]
  have hkc : k + c ≤ h := by omega
  clear hO kO
  refine Rn.iload_n (pc1 := 22)  dX3_readOn_21 rfl rfl rfl ?_
  refine Rn.istore (pc1 := 24)  dX3_readOn_22 rfl (by decide) rfl rfl ?_
  exact lX3_readOn K hh hc hkc k2 k3 hk hd c 0 (by omega) _ F Fr.rf
end READER
end
section
/-! ===== State: what it holds, as one flat row of numbers (the reference's own) ===== -/
theorem upd_ne {f : Nat → Int32} {k j : Nat} {x : Int32} (h : j ≠ k) : upd f k x j = f j := if_neg h
theorem upd_at {f : Nat → Int32} {k j : Nat} {x : Int32} (h : j = k) : upd f k x j = x := if_pos h
/-- a stretch of a row, of n numbers from lo on, is g's -/
def blk (f : Nat → Int32) (lo n : Nat) (g : Nat → Int32) : Nat → Int32 := fun j => if lo ≤ j ∧ j < lo + n then g (j - lo) else f j
theorem blk_out {f g : Nat → Int32} {lo n j : Nat} (h : j < lo ∨ lo + n ≤ j) : blk f lo n g j = f j := if_neg (by omega)
theorem blk_in {f g : Nat → Int32} {lo n j q : Nat} (h : j = lo + q) (hq : q < n) : blk f lo n g j = g q := by
  subst h
  unfold blk
  rw [if_pos ⟨by omega, by omega⟩, Nat.add_sub_cancel_left]
theorem blk_0 {f g : Nat → Int32} {lo : Nat} : blk f lo 0 g = f := funext fun j => if_neg (by omega)
theorem blk_upd {f g : Nat → Int32} {lo n : Nat} : upd (blk f lo n g) (lo + n) (g n) = blk f lo (n + 1) g := by
  funext j
  unfold upd blk
  by_cases h1 : j = lo + n
  · subst h1; rw [if_pos rfl, if_pos (by omega), Nat.add_sub_cancel_left]
  · rw [if_neg h1]
    by_cases h2 : lo ≤ j ∧ j < lo + n
    · rw [if_pos h2, if_pos (by omega)]
    · rw [if_neg h2, if_neg (by omega)]
def FdA (μ : Mm) (a : Nat) (f : Nat → Int32) (h : Nat) : Prop := ∃ g0 g1 g2 g3, FB μ a h (f 3) (f 4) (f 5) g0 g1 g2 g3 ∧ ∀ j, j < h → g0 j = f (21 + 4 * j) ∧ g1 j = f (21 + 4 * j + 1) ∧ g2 j = f (21 + 4 * j + 2) ∧ g3 j = f (21 + 4 * j + 3)
def RdA (μ : Mm) (a : Nat) (f : Nat → Int32) (i : Nat) (live : Prop) : Prop := ∃ pl cp rs vw cv, RA μ a pl cp rs vw cv ∧ (live → pl = f (261 + 27 * i) ∧ cp = f (261 + 27 * i + 1) ∧ rs = f (261 + 27 * i + 2) ∧ (∀ k, k < 12 → vw k = f (261 + 27 * i + 3 + k)) ∧ ∀ k, k < 12 → cv k = f (261 + 27 * i + 15 + k))
def SnA (μ : Mm) (a : Nat) (f : Nat → Int32) (n : Nat) (live : Prop) : Prop := ∃ nu tb, SN μ a nu tb ∧ (live → nu = f (423 + 13 * n) ∧ ∀ k, k < 12 → tb k = f (423 + 13 * n + 1 + k))
def SO (μ : Mm) (a : Nat) (f : Nat → Int32) (rc sc : Nat) : Prop := μ a = some (obj 6 [.int (f 0), .int (f 1), .int (f 2), .int (nI rc), .int (nI sc), .ref (a + 1), .ref (a + 3), .ref (a + 8), .ref (a + 9)])
/-- the rows of references -/
def SX (μ : Mm) (a : Nat) : Prop := (∃ r, μ (a + 8) = some (refs 3 6 r) ∧ ∀ i, i < 6 → r i = some (a + 10 + 5 * i)) ∧ ∃ r, μ (a + 9) = some (refs 4 4 r) ∧ ∀ i, i < 4 → r i = some (a + 40 + 3 * i)
/-- a State at a holds f's: h entries, rc readers, sc snapshots, of which the first lr, ls are as f says -/
def SAg (μ : Mm) (a : Nat) (f : Nat → Int32) (h rc sc lr ls : Nat) : Prop := (h ≤ 60 ∧ rc ≤ 6 ∧ sc ≤ 4) ∧ SO μ a f rc sc ∧ SX μ a ∧ VA μ (a + 1) (fun k => f (9 + k)) ∧ FdA μ (a + 3) f h ∧ (∀ i, i < 6 → RdA μ (a + 10 + 5 * i) f i (i < lr)) ∧ ∀ n, n < 4 → SnA μ (a + 40 + 3 * n) f n (n < ls)
abbrev SA (μ : Mm) (a : Nat) (f : Nat → Int32) (h rc sc : Nat) : Prop := SAg μ a f h rc sc rc sc
section STM
variable {μ μ' : Mm} {a x y : Nat} {f f' : Nat → Int32} {h rc sc lr ls i n : Nat} {live live' : Prop}
theorem FdA.fr (F : FdA μ a f h) (hF : Fr x y μ μ') (hd : a + 5 ≤ x ∨ y ≤ a) : FdA μ' a f h := by
  obtain ⟨g0, g1, g2, g3, q1, q2⟩ := F
  exact ⟨g0, g1, g2, g3, q1.fr hF hd, q2⟩
theorem RdA.fr (F : RdA μ a f i live) (hF : Fr x y μ μ') (hd : a + 5 ≤ x ∨ y ≤ a) : RdA μ' a f i live := by
  obtain ⟨pl, cp, rs, vw, cv, q1, q2⟩ := F
  exact ⟨pl, cp, rs, vw, cv, q1.fr hF hd, q2⟩
theorem SnA.fr (F : SnA μ a f n live) (hF : Fr x y μ μ') (hd : a + 3 ≤ x ∨ y ≤ a) : SnA μ' a f n live := by
  obtain ⟨nu, tb, q1, q2⟩ := F
  exact ⟨nu, tb, q1.fr hF hd, q2⟩
theorem SX.fr (F : SX μ a) (hF : Fr x y μ μ') (hd : a + 10 ≤ x ∨ y ≤ a + 8) : SX μ' a := by
  obtain ⟨⟨r, q1, q2⟩, t, q3, q4⟩ := F
  exact ⟨⟨r, (hF _ (by omega)).trans q1, q2⟩, t, (hF _ (by omega)).trans q3, q4⟩
theorem SO.fr (F : SO μ a f rc sc) (hF : Fr x y μ μ') (hd : a + 1 ≤ x ∨ y ≤ a) : SO μ' a f rc sc := (hF a (by omega)).trans F
theorem FdA.to (F : FdA μ a f h) (e : f 3 = f' 3 ∧ f 4 = f' 4 ∧ f 5 = f' 5) (q : ∀ j, 21 ≤ j → j < 21 + 4 * h → f j = f' j) : FdA μ a f' h := by
  obtain ⟨g0, g1, g2, g3, q1, q2⟩ := F
  rw [e.1, e.2.1, e.2.2] at q1
  exact ⟨g0, g1, g2, g3, q1, fun j hj => by
    rw [← q _ (by omega) (by omega), ← q _ (by omega) (by omega), ← q _ (by omega) (by omega), ← q _ (by omega) (by omega)]
    exact q2 j hj⟩
theorem RdA.to (F : RdA μ a f i live) (hl : live' → live) (q : live' → ∀ j, 261 + 27 * i ≤ j → j < 261 + 27 * i + 27 → f j = f' j) : RdA μ a f' i live' := by
  obtain ⟨pl, cp, rs, vw, cv, q1, q2⟩ := F
  refine ⟨pl, cp, rs, vw, cv, q1, fun hl2 => ?_⟩
  have q := q hl2
  obtain ⟨e1, e2, e3, e4, e5⟩ := q2 (hl hl2)
  exact ⟨e1.trans (q _ (by omega) (by omega)), e2.trans (q _ (by omega) (by omega)), e3.trans (q _ (by omega) (by omega)), fun k hk => (e4 k hk).trans (q _ (by omega) (by omega)), fun k hk => (e5 k hk).trans (q _ (by omega) (by omega))⟩
theorem SnA.to (F : SnA μ a f n live) (hl : live' → live) (q : live' → ∀ j, 423 + 13 * n ≤ j → j < 423 + 13 * n + 13 → f j = f' j) : SnA μ a f' n live' := by
  obtain ⟨nu, tb, q1, q2⟩ := F
  refine ⟨nu, tb, q1, fun hl2 => ?_⟩
  have q := q hl2
  obtain ⟨e1, e2⟩ := q2 (hl hl2)
  exact ⟨e1.trans (q _ (by omega) (by omega)), fun k hk => (e2 k hk).trans (q _ (by omega) (by omega))⟩
theorem SO.to (F : SO μ a f rc sc) (e : f 0 = f' 0 ∧ f 1 = f' 1 ∧ f 2 = f' 2) : SO μ a f' rc sc := by
  unfold SO at F ⊢
  rw [← e.1, ← e.2.1, ← e.2.2]
  exact F
theorem SAg.fr (F : SAg μ a f h rc sc lr ls) (hF : Fr x y μ μ') (hd : a + 52 ≤ x ∨ y ≤ a) : SAg μ' a f h rc sc lr ls := by
  obtain ⟨q0, q1, q2, q3, q4, q5, q6⟩ := F
  exact ⟨q0, q1.fr hF (by omega), q2.fr hF (by omega), q3.fr hF (by omega), q4.fr hF (by omega), fun i hi => (q5 i hi).fr hF (by omega), fun n hn => (q6 n hn).fr hF (by omega)⟩
/-- where two rows are alike for a State of so many entries, readers, snapshots -/
def LE (f f' : Nat → Int32) (h rc sc : Nat) : Prop := ∀ j, j ≠ 6 → j ≠ 7 → j ≠ 8 → (j < 21 + 4 * h ∨ 261 ≤ j ∧ j < 261 + 27 * rc ∨ 423 ≤ j ∧ j < 423 + 13 * sc) → f j = f' j
theorem SA.to (F : SA μ a f h rc sc) (q : LE f f' h rc sc) : SA μ a f' h rc sc := by
  obtain ⟨q0, q1, q2, q3, q4, q5, q6⟩ := F
  exact ⟨q0, q1.to ⟨q _ (by omega) (by omega) (by omega) (by omega), q _ (by omega) (by omega) (by omega) (by omega), q _ (by omega) (by omega) (by omega) (by omega)⟩, q2, q3.to (fun j hj => q _ (by omega) (by omega) (by omega) (by omega)), q4.to ⟨q _ (by omega) (by omega) (by omega) (by omega), q _ (by omega) (by omega) (by omega) (by omega), q _ (by omega) (by omega) (by omega) (by omega)⟩ (fun j h1 h2 => q _ (by omega) (by omega) (by omega) (by omega)), fun i hi => (q5 i hi).to (fun z => z) (fun hl j h1 h2 => q _ (by omega) (by omega) (by omega) (by omega)), fun n hn => (q6 n hn).to (fun z => z) (fun hl j h1 h2 => q _ (by omega) (by omega) (by omega) (by omega))⟩
end STM
section STATE
variable {G : GG} {μ : Mm} {sz : Nat} {a h rc sc lr ls : Nat} {f : Nat → Int32}
theorem eX6_readerAt_y {j : Nat} {i : Int32} (F : SAg μ a f h rc sc lr ls) (hi : i = nI j) (hj : j < rc) : EvA G 0 kX6_readerAt [.ref a, .int i] μ sz 0 0 (rR fun o μ' => o = some (a + 10 + 5 * j) ∧ μ' = μ) := by
  obtain ⟨q0, q1, ⟨⟨r, r1, r2⟩, -⟩, -⟩ := F
  have hO : μ a = _ := q1
  have hj6 : j < 6 := by omega
  refine EvA.of (L := [some (.ref a), some (.int i)]) (by decide +kernel) (Nat.le_of_ble_eq_true rfl) rfl ?_
  subst hi
  refine Rn.iload_n (pc1 := 1)  dX6_readerAt_0 rfl rfl rfl ?_
  refine Rn.if_lt (pc1 := 4) 21 dX6_readerAt_1 rfl (by decide) (fun c1 => ?_) (fun c1 => ?_)
  · exact absurd c1 (nI_nlt (Nat.zero_le _) (by omega))
  · refine Rn.iload_n (pc1 := 5)  dX6_readerAt_4 rfl rfl rfl ?_
    refine Rn.aload_n (pc1 := 6)  dX6_readerAt_5 rfl rfl rfl ?_
    refine Rn.getfield (pc1 := 9)  dX6_readerAt_6 rfl fX6_21 (by first | assumption | exact mset_same | exact mget_ne (by omega) (by assumption)) rfl ?_
    refine Rn.icmp_ge (pc1 := 12) 21 dX6_readerAt_9 rfl (by decide) (fun c9 => ?_) (fun c9 => ?_)
    · exact absurd c9 (nI_ge hj (by omega))
    · refine Rn.iload_n (pc1 := 13)  dX6_readerAt_12 rfl rfl rfl ?_
      refine Rn.aload_n (pc1 := 14)  dX6_readerAt_13 rfl rfl rfl ?_
      refine Rn.getfield (pc1 := 17)  dX6_readerAt_14 rfl fX6_43 (by first | assumption | exact mset_same | exact mget_ne (by omega) (by assumption)) rfl ?_
      refine Rn.alen (pc1 := 18) (v := nI 6)  dX6_readerAt_17 rfl (by first | assumption | exact mset_same | exact mget_ne (by omega) (by assumption)) (fun _ => rfl) rfl ?_
      refine Rn.icmp_lt (pc1 := 21) 25 dX6_readerAt_18 rfl (by decide) (fun c18 => ?_) (fun c18 => ?_)
      · refine Rn.aload_n (pc1 := 26)  dX6_readerAt_25 rfl rfl rfl ?_
        refine Rn.getfield (pc1 := 29)  dX6_readerAt_26 rfl fX6_43 (by first | assumption | exact mset_same | exact mget_ne (by omega) (by assumption)) rfl ?_
        refine Rn.iload_n (pc1 := 30)  dX6_readerAt_29 rfl rfl rfl ?_
        refine Rn.aaload (pc1 := 31)  dX6_readerAt_30 rfl (by assumption) (fun _ => rfl) (vp_nI rfl hj6 (by decide)) rfl ?_
        exact Rn.areturn dX6_readerAt_31 rfl ⟨_, rfl, by rw [nI_clamp (by omega)]; exact r2 j hj6, rfl⟩
      · exact absurd (nI_lt hj6 (by decide)) c18
theorem eX6_readerAt_n {i : Int32} (F : SAg μ a f h rc sc lr ls) (hi : ∀ j, j < rc → i ≠ nI j) : EvA G 0 kX6_readerAt [.ref a, .int i] μ sz 0 0 (rR fun o μ' => o = none ∧ μ' = μ) := by
  obtain ⟨q0, q1, ⟨⟨r, r1, r2⟩, -⟩, -⟩ := F
  have hO : μ a = _ := q1
  refine EvA.of (L := [some (.ref a), some (.int i)]) (by decide +kernel) (Nat.le_of_ble_eq_true rfl) rfl ?_
  refine Rn.iload_n (pc1 := 1)  dX6_readerAt_0 rfl rfl rfl ?_
  refine Rn.if_lt (pc1 := 4) 21 dX6_readerAt_1 rfl (by decide) (fun c1 => ?_) (fun c1 => ?_)
  · refine Rn.null (pc1 := 22)  dX6_readerAt_21 rfl ?_
    refine Rn.goto 31 dX6_readerAt_22 (by decide) ?_
    show Rn G 0 kX6_readerAt 31 _ [va_rf none] _ _ _ _ _
    exact Rn.areturn dX6_readerAt_31 rfl ⟨_, rfl, rfl, rfl⟩
  · refine Rn.iload_n (pc1 := 5)  dX6_readerAt_4 rfl rfl rfl ?_
    refine Rn.aload_n (pc1 := 6)  dX6_readerAt_5 rfl rfl rfl ?_
    refine Rn.getfield (pc1 := 9)  dX6_readerAt_6 rfl fX6_21 (by first | assumption | exact mset_same | exact mget_ne (by omega) (by assumption)) rfl ?_
    refine Rn.icmp_ge (pc1 := 12) 21 dX6_readerAt_9 rfl (by decide) (fun c9 => ?_) (fun c9 => ?_)
    · refine Rn.null (pc1 := 22)  dX6_readerAt_21 rfl ?_
      refine Rn.goto 31 dX6_readerAt_22 (by decide) ?_
      show Rn G 0 kX6_readerAt 31 _ [va_rf none] _ _ _ _ _
      exact Rn.areturn dX6_readerAt_31 rfl ⟨_, rfl, rfl, rfl⟩
    · obtain ⟨j, hj, rfl⟩ := nI_of (x := i) c1
      rw [i32_nle, nI_ltI hj (by omega)] at c9
      exact absurd rfl (hi j c9)
theorem eX6_snapshotAt_y {j : Nat} {i : Int32} (F : SAg μ a f h rc sc lr ls) (hi : i = nI j) (hj : j < sc) : EvA G 0 kX6_snapshotAt [.ref a, .int i] μ sz 0 0 (rR fun o μ' => o = some (a + 40 + 3 * j) ∧ μ' = μ) := by
  obtain ⟨q0, q1, ⟨-, ⟨r, r1, r2⟩⟩, -⟩ := F
  have hO : μ a = _ := q1
  have hj6 : j < 4 := by omega
  refine EvA.of (L := [some (.ref a), some (.int i)]) (by decide +kernel) (Nat.le_of_ble_eq_true rfl) rfl ?_
  subst hi
  refine Rn.iload_n (pc1 := 1)  dX6_snapshotAt_0 rfl rfl rfl ?_
  refine Rn.if_lt (pc1 := 4) 21 dX6_snapshotAt_1 rfl (by decide) (fun c1 => ?_) (fun c1 => ?_)
  · exact absurd c1 (nI_nlt (Nat.zero_le _) (by omega))
  · refine Rn.iload_n (pc1 := 5)  dX6_snapshotAt_4 rfl rfl rfl ?_
    refine Rn.aload_n (pc1 := 6)  dX6_snapshotAt_5 rfl rfl rfl ?_
    refine Rn.getfield (pc1 := 9)  dX6_snapshotAt_6 rfl fX6_24 (by first | assumption | exact mset_same | exact mget_ne (by omega) (by assumption)) rfl ?_
    refine Rn.icmp_ge (pc1 := 12) 21 dX6_snapshotAt_9 rfl (by decide) (fun c9 => ?_) (fun c9 => ?_)
    · exact absurd c9 (nI_ge hj (by omega))
    · refine Rn.iload_n (pc1 := 13)  dX6_snapshotAt_12 rfl rfl rfl ?_
      refine Rn.aload_n (pc1 := 14)  dX6_snapshotAt_13 rfl rfl rfl ?_
      refine Rn.getfield (pc1 := 17)  dX6_snapshotAt_14 rfl fX6_49 (by first | assumption | exact mset_same | exact mget_ne (by omega) (by assumption)) rfl ?_
      refine Rn.alen (pc1 := 18) (v := nI 4)  dX6_snapshotAt_17 rfl (by first | assumption | exact mset_same | exact mget_ne (by omega) (by assumption)) (fun _ => rfl) rfl ?_
      refine Rn.icmp_lt (pc1 := 21) 25 dX6_snapshotAt_18 rfl (by decide) (fun c18 => ?_) (fun c18 => ?_)
      · refine Rn.aload_n (pc1 := 26)  dX6_snapshotAt_25 rfl rfl rfl ?_
        refine Rn.getfield (pc1 := 29)  dX6_snapshotAt_26 rfl fX6_49 (by first | assumption | exact mset_same | exact mget_ne (by omega) (by assumption)) rfl ?_
        refine Rn.iload_n (pc1 := 30)  dX6_snapshotAt_29 rfl rfl rfl ?_
        refine Rn.aaload (pc1 := 31)  dX6_snapshotAt_30 rfl (by assumption) (fun _ => rfl) (vp_nI rfl hj6 (by decide)) rfl ?_
        exact Rn.areturn dX6_snapshotAt_31 rfl ⟨_, rfl, by rw [nI_clamp (by omega)]; exact r2 j hj6, rfl⟩
      · exact absurd (nI_lt hj6 (by decide)) c18
theorem eX6_snapshotAt_n {i : Int32} (F : SAg μ a f h rc sc lr ls) (hi : ∀ j, j < sc → i ≠ nI j) : EvA G 0 kX6_snapshotAt [.ref a, .int i] μ sz 0 0 (rR fun o μ' => o = none ∧ μ' = μ) := by
  obtain ⟨q0, q1, ⟨-, ⟨r, r1, r2⟩⟩, -⟩ := F
  have hO : μ a = _ := q1
  refine EvA.of (L := [some (.ref a), some (.int i)]) (by decide +kernel) (Nat.le_of_ble_eq_true rfl) rfl ?_
  refine Rn.iload_n (pc1 := 1)  dX6_snapshotAt_0 rfl rfl rfl ?_
  refine Rn.if_lt (pc1 := 4) 21 dX6_snapshotAt_1 rfl (by decide) (fun c1 => ?_) (fun c1 => ?_)
  · refine Rn.null (pc1 := 22)  dX6_snapshotAt_21 rfl ?_
    refine Rn.goto 31 dX6_snapshotAt_22 (by decide) ?_
    show Rn G 0 kX6_snapshotAt 31 _ [va_rf none] _ _ _ _ _
    exact Rn.areturn dX6_snapshotAt_31 rfl ⟨_, rfl, rfl, rfl⟩
  · refine Rn.iload_n (pc1 := 5)  dX6_snapshotAt_4 rfl rfl rfl ?_
    refine Rn.aload_n (pc1 := 6)  dX6_snapshotAt_5 rfl rfl rfl ?_
    refine Rn.getfield (pc1 := 9)  dX6_snapshotAt_6 rfl fX6_24 (by first | assumption | exact mset_same | exact mget_ne (by omega) (by assumption)) rfl ?_
    refine Rn.icmp_ge (pc1 := 12) 21 dX6_snapshotAt_9 rfl (by decide) (fun c9 => ?_) (fun c9 => ?_)
    · refine Rn.null (pc1 := 22)  dX6_snapshotAt_21 rfl ?_
      refine Rn.goto 31 dX6_snapshotAt_22 (by decide) ?_
      show Rn G 0 kX6_snapshotAt 31 _ [va_rf none] _ _ _ _ _
      exact Rn.areturn dX6_snapshotAt_31 rfl ⟨_, rfl, rfl, rfl⟩
    · obtain ⟨j, hj, rfl⟩ := nI_of (x := i) c1
      rw [i32_nle, nI_ltI hj (by omega)] at c9
      exact absurd rfl (hi j c9)
theorem eX6_copySnapshot {x y : Nat} {n n' : Int32} {tb tb' : Nat → Int32} (K : SN μ x n' tb') (F : SN μ y n tb) (hd : y + 3 ≤ x ∨ x + 3 ≤ y) : EvA G 3 kX6_copySnapshot [.ref x, .ref y] μ sz 0 0 (rV fun μ' => SN μ' y n' tb' ∧ Fr y (y + 3) μ μ') := by
  have hO := F.1
  have kO := K.1
  refine EvA.of (L := [some (.ref x), some (.ref y)]) (by decide +kernel) (Nat.le_of_ble_eq_true rfl) rfl ?_
  refine Rn.aload_n (pc1 := 1)  dX6_copySnapshot_0 rfl rfl rfl ?_
  refine Rn.ifnull (pc1 := 4) dX6_copySnapshot_1 rfl ?_
  refine Rn.aload_n (pc1 := 5)  dX6_copySnapshot_4 rfl rfl rfl ?_
  refine Rn.ifnull (pc1 := 8) dX6_copySnapshot_5 rfl ?_
  refine Rn.aload_n (pc1 := 9)  dX6_copySnapshot_8 rfl rfl rfl ?_
  refine Rn.aload_n (pc1 := 10)  dX6_copySnapshot_9 rfl rfl rfl ?_
  refine Rn.cV_v (pc1 := 13) (eX5_copyFrom F K hd) dX6_copySnapshot_10 rfl qX6_77 oX5_copyFrom (by first | assumption | exact mset_same | exact mget_ne (by omega) (by assumption)) rfl rfl rfl rfl (Nat.le_of_ble_eq_true rfl) (by decide) (by decide) (fun μ10 h10 => ?_)
  obtain ⟨W1, w1⟩ := h10
  exact Rn.vreturn dX6_copySnapshot_13 rfl ⟨rfl, W1, w1⟩
/-- the loop over the snapshots of copyFrom -/
theorem lX6_copyFrom2 {b h' rc' sc' : Nat} {f' : Nat → Int32} {μ0 : Mm} (K : SA μ0 b f' h' rc' sc') (hd : a + 52 ≤ b ∨ b + 52 ≤ a) {o3 o4 : Option Value} : ∀ (m i : Nat), i + m = sc' → ∀ (μ1 : Mm), SAg μ1 a f' h' rc' sc' rc' i → Fr a (a + 52) μ0 μ1 → Rn G 4 kX6_copyFrom 108 [some (.ref a), some (.ref b), some (.int (nI i)), o3, o4] [] μ1 sz 0 0 (rV fun μ' => SA μ' a f' h' rc' sc' ∧ Fr a (a + 52) μ0 μ') := by
  intro m
  induction m with
  | zero =>
    intro i hi μ1 F1 q1
    obtain rfl : i = sc' := by omega
    obtain ⟨w0, w1, -⟩ := id F1
    have hO : μ1 a = _ := w1
    refine Rn.iload_n (pc1 := 109)  dX6_copyFrom_108 rfl rfl rfl ?_
    refine Rn.aload_n (pc1 := 110)  dX6_copyFrom_109 rfl rfl rfl ?_
    refine Rn.getfield (pc1 := 113)  dX6_copyFrom_110 rfl fX6_24 (by first | assumption | exact mset_same | exact mget_ne (by omega) (by assumption)) rfl ?_
    refine Rn.icmp_ge (pc1 := 116) 135 dX6_copyFrom_113 rfl (by decide) (fun c113 => ?_) (fun c113 => ?_)
    · exact Rn.vreturn dX6_copyFrom_135 rfl ⟨rfl, F1, q1⟩
    · exact absurd (nI_le (Nat.le_refl _) (by omega)) c113
  | succ m ih =>
    intro i hi μ1 F1 q1
    have K1 := K.fr q1 (by omega)
    obtain ⟨w0, w1, w2, w3, w4, w5, w6⟩ := id F1
    obtain ⟨v0, v1, v2, v3, v4, v5, v6⟩ := id K1
    have hO : μ1 a = _ := w1
    have kO : μ1 b = _ := v1
    obtain ⟨nu, tb, s1, s2⟩ := w6 i (by omega)
    obtain ⟨nu', tb', s1', s2'⟩ := v6 i (by omega)
    refine Rn.iload_n (pc1 := 109)  dX6_copyFrom_108 rfl rfl rfl ?_
    refine Rn.aload_n (pc1 := 110)  dX6_copyFrom_109 rfl rfl rfl ?_
    refine Rn.getfield (pc1 := 113)  dX6_copyFrom_110 rfl fX6_24 (by first | assumption | exact mset_same | exact mget_ne (by omega) (by assumption)) rfl ?_
    refine Rn.icmp_ge (pc1 := 116) 135 dX6_copyFrom_113 rfl (by decide) (fun c113 => ?_) (fun c113 => ?_)
    · exact absurd c113 (nI_ge (by omega) (by omega))
    · refine Rn.aload_n (pc1 := 117)  dX6_copyFrom_116 rfl rfl rfl ?_
      refine Rn.iload_n (pc1 := 118)  dX6_copyFrom_117 rfl rfl rfl ?_
      refine Rn.cV_r (pc1 := 121) (eX6_snapshotAt_y K1 rfl (show i < sc' by omega)) dX6_copyFrom_118 rfl qX6_69 oX6_snapshotAt (by first | assumption | exact mset_same | exact mget_ne (by omega) (by assumption)) rfl rfl rfl rfl (Nat.le_of_ble_eq_true rfl) (by decide) (by decide) (fun v118 μ118 h118 => ?_)
      obtain ⟨rfl, rfl⟩ := h118
      refine Rn.aload_n (pc1 := 122)  dX6_copyFrom_121 rfl rfl rfl ?_
      refine Rn.iload_n (pc1 := 123)  dX6_copyFrom_122 rfl rfl rfl ?_
      refine Rn.cV_r (pc1 := 126) (eX6_snapshotAt_y F1 rfl (show i < sc' by omega)) dX6_copyFrom_123 rfl qX6_69 oX6_snapshotAt (by first | assumption | exact mset_same | exact mget_ne (by omega) (by assumption)) rfl rfl rfl rfl (Nat.le_of_ble_eq_true rfl) (by decide) (by decide) (fun v123 μ123 h123 => ?_)
      obtain ⟨rfl, rfl⟩ := h123
      refine Rn.cS_v (pc1 := 129) (eX6_copySnapshot s1' s1 (by omega)) dX6_copyFrom_126 rfl qX6_73 oX6_copySnapshot rfl rfl (Nat.le_of_ble_eq_true rfl) (by decide) (by decide) (fun μ126 h126 => ?_)
      obtain ⟨W1, z1⟩ := h126
      refine Rn.iinc (pc1 := 132)  dX6_copyFrom_129 rfl rfl (nI_1 i) (by decide) rfl rfl ?_
      refine Rn.goto 108 dX6_copyFrom_132 (by decide) ?_
      refine ih (i + 1) (by omega) _ ⟨w0, w1.fr z1 (by omega), w2.fr z1 (by omega), w3.fr z1 (by omega), w4.fr z1 (by omega), fun k hk => (w5 k hk).fr z1 (by omega), fun k hk => ?_⟩ (q1.trans (z1.wide (by omega) (by omega)))
      by_cases e : k = i
      · subst e
        exact ⟨nu', tb', W1, fun _ => s2' (by omega)⟩
      · exact ((w6 k hk).fr z1 (by omega)).to (fun z => by omega) (fun _ _ _ _ => rfl)
/-- the loop over the readers -/
theorem lX6_copyFrom1 {b h' rc' sc' : Nat} {f' : Nat → Int32} {μ0 : Mm} (K : SA μ0 b f' h' rc' sc') (hd : a + 52 ≤ b ∨ b + 52 ≤ a) : ∀ (m i : Nat), i + m = rc' → ∀ (o3 o4 : Option Value) (μ1 : Mm), SAg μ1 a f' h' rc' sc' i 0 → Fr a (a + 52) μ0 μ1 → Rn G 4 kX6_copyFrom 64 [some (.ref a), some (.ref b), some (.int (nI i)), o3, o4] [] μ1 sz 0 0 (rV fun μ' => SA μ' a f' h' rc' sc' ∧ Fr a (a + 52) μ0 μ') := by
  intro m
  induction m with
  | zero =>
    intro i hi o3 o4 μ1 F1 q1
    obtain rfl : i = rc' := by omega
    obtain ⟨w0, w1, -⟩ := id F1
    have hO : μ1 a = _ := w1
    refine Rn.iload_n (pc1 := 65)  dX6_copyFrom_64 rfl rfl rfl ?_
    refine Rn.aload_n (pc1 := 66)  dX6_copyFrom_65 rfl rfl rfl ?_
    refine Rn.getfield (pc1 := 69)  dX6_copyFrom_66 rfl fX6_21 (by first | assumption | exact mset_same | exact mget_ne (by omega) (by assumption)) rfl ?_
    refine Rn.icmp_ge (pc1 := 72) 106 dX6_copyFrom_69 rfl (by decide) (fun c69 => ?_) (fun c69 => ?_)
    · refine Rn.iconst (pc1 := 107) (v := nI 0) dX6_copyFrom_106 rfl (by decide) ?_
      refine Rn.istore_n (pc1 := 108)  dX6_copyFrom_107 rfl rfl (by decide) rfl rfl ?_
      exact lX6_copyFrom2 K hd sc' 0 (by omega) _ F1 q1
    · exact absurd (nI_le (Nat.le_refl _) (by omega)) c69
  | succ m ih =>
    intro i hi o3 o4 μ1 F1 q1
    have K1 := K.fr q1 (by omega)
    obtain ⟨w0, w1, w2, w3, w4, w5, w6⟩ := id F1
    obtain ⟨v0, v1, v2, v3, v4, v5, v6⟩ := id K1
    have hO : μ1 a = _ := w1
    have kO : μ1 b = _ := v1
    obtain ⟨pl, cp, rs, vw, cv, s1, s2⟩ := w5 i (by omega)
    obtain ⟨pl', cp', rs', vw', cv', s1', s2'⟩ := v5 i (by omega)
    have sO := s1.1
    refine Rn.iload_n (pc1 := 65)  dX6_copyFrom_64 rfl rfl rfl ?_
    refine Rn.aload_n (pc1 := 66)  dX6_copyFrom_65 rfl rfl rfl ?_
    refine Rn.getfield (pc1 := 69)  dX6_copyFrom_66 rfl fX6_21 (by first | assumption | exact mset_same | exact mget_ne (by omega) (by assumption)) rfl ?_
    refine Rn.icmp_ge (pc1 := 72) 106 dX6_copyFrom_69 rfl (by decide) (fun c69 => ?_) (fun c69 => ?_)
    · exact absurd c69 (nI_ge (by omega) (by omega))
    · refine Rn.aload_n (pc1 := 73)  dX6_copyFrom_72 rfl rfl rfl ?_
      refine Rn.iload_n (pc1 := 74)  dX6_copyFrom_73 rfl rfl rfl ?_
      refine Rn.cV_r (pc1 := 77) (eX6_readerAt_y F1 rfl (show i < rc' by omega)) dX6_copyFrom_74 rfl qX6_62 oX6_readerAt (by first | assumption | exact mset_same | exact mget_ne (by omega) (by assumption)) rfl rfl rfl rfl (Nat.le_of_ble_eq_true rfl) (by decide) (by decide) (fun v74 μ74 h74 => ?_)
      obtain ⟨rfl, rfl⟩ := h74
      refine Rn.astore_n (pc1 := 78) (x := a + 10 + 5 * i)  dX6_copyFrom_77 rfl rfl (by decide) rfl rfl ?_
      refine Rn.aload_n (pc1 := 79)  dX6_copyFrom_78 rfl rfl rfl ?_
      refine Rn.iload_n (pc1 := 80)  dX6_copyFrom_79 rfl rfl rfl ?_
      refine Rn.cV_r (pc1 := 83) (eX6_readerAt_y K1 rfl (show i < rc' by omega)) dX6_copyFrom_80 rfl qX6_62 oX6_readerAt (by first | assumption | exact mset_same | exact mget_ne (by omega) (by assumption)) rfl rfl rfl rfl (Nat.le_of_ble_eq_true rfl) (by decide) (by decide) (fun v80 μ80 h80 => ?_)
      obtain ⟨rfl, rfl⟩ := h80
      refine Rn.astore (pc1 := 85) (x := b + 10 + 5 * i)  dX6_copyFrom_83 rfl (by decide) rfl rfl ?_
      refine Rn.aload_n (pc1 := 86)  dX6_copyFrom_85 rfl rfl rfl ?_
      refine Rn.ifnull (pc1 := 89) dX6_copyFrom_86 rfl ?_
      refine Rn.aload (pc1 := 91)  dX6_copyFrom_89 rfl rfl ?_
      refine Rn.ifnull (pc1 := 94) dX6_copyFrom_91 rfl ?_
      refine Rn.aload_n (pc1 := 95)  dX6_copyFrom_94 rfl rfl rfl ?_
      refine Rn.aload (pc1 := 97)  dX6_copyFrom_95 rfl rfl ?_
      refine Rn.cV_v (pc1 := 100) (eX3_copyFrom s1 s1' (by omega)) dX6_copyFrom_97 rfl qX6_66 oX3_copyFrom (by first | assumption | exact mset_same | exact mget_ne (by omega) (by assumption)) rfl rfl rfl rfl (Nat.le_of_ble_eq_true rfl) (by decide) (by decide) (fun μ97 h97 => ?_)
      obtain ⟨W1, z1⟩ := h97
      refine Rn.iinc (pc1 := 103)  dX6_copyFrom_100 rfl rfl (nI_1 i) (by decide) rfl rfl ?_
      refine Rn.goto 64 dX6_copyFrom_103 (by decide) ?_
      refine ih (i + 1) (by omega) _ _ _ ⟨w0, w1.fr z1 (by omega), w2.fr z1 (by omega), w3.fr z1 (by omega), w4.fr z1 (by omega), fun k hk => ?_, fun k hk => (w6 k hk).fr z1 (by omega)⟩ (q1.trans (z1.wide (by omega) (by omega)))
      by_cases e : k = i
      · subst e
        exact ⟨pl', cp', rs', vw', cv', W1, fun _ => s2' (by omega)⟩
      · exact ((w5 k hk).fr z1 (by omega)).to (fun z => by omega) (fun _ _ _ _ => rfl)
theorem eX6_copyFrom {b h' rc' sc' : Nat} {f' : Nat → Int32} (F : SAg μ a f h rc sc lr ls) (K : SA μ b f' h' rc' sc') (hd : a + 52 ≤ b ∨ b + 52 ≤ a) : EvA G 4 kX6_copyFrom [.ref a, .ref b] μ sz 0 0 (rV fun μ' => SA μ' a f' h' rc' sc' ∧ Fr a (a + 52) μ μ') := by
  obtain ⟨w0, w1, w2, w3, w4, w5, w6⟩ := id F
  obtain ⟨v0, v1, v2, v3, v4, v5, v6⟩ := id K
  have hO : μ a = _ := w1
  have kO : μ b = _ := v1
  have vO := w3.1
  obtain ⟨g0, g1, g2, g3, fd1, fd2⟩ := w4
  obtain ⟨k0, k1, k2, k3, kd1, kd2⟩ := v4
  have fO := fd1.1
  refine EvA.of (L := [some (.ref a), some (.ref b), none, none, none]) (by decide +kernel) (Nat.le_of_ble_eq_true rfl) rfl ?_
  refine Rn.aload_n (pc1 := 1)  dX6_copyFrom_0 rfl rfl rfl ?_
  refine Rn.aload_n (pc1 := 2)  dX6_copyFrom_1 rfl rfl rfl ?_
  refine Rn.getfield (pc1 := 5)  dX6_copyFrom_2 rfl fX6_9 (by first | assumption | exact mset_same | exact mget_ne (by omega) (by assumption)) rfl ?_
  refine Rn.putfield (pc1 := 8)  dX6_copyFrom_5 rfl pX6_9 (fun h => Bool.noConfusion h) (by first | assumption | exact mset_same | exact mget_ne (by omega) (by assumption)) (Nat.le_of_ble_eq_true rfl) rfl rfl rfl ?_
  refine Rn.aload_n (pc1 := 9)  dX6_copyFrom_8 rfl rfl rfl ?_
  refine Rn.aload_n (pc1 := 10)  dX6_copyFrom_9 rfl rfl rfl ?_
  refine Rn.getfield (pc1 := 13)  dX6_copyFrom_10 rfl fX6_15 (by first | assumption | exact mset_same | exact mget_ne (by omega) (by assumption)) rfl ?_
  refine Rn.putfield (pc1 := 16)  dX6_copyFrom_13 rfl pX6_15 (fun h => Bool.noConfusion h) (by first | assumption | exact mset_same | exact mget_ne (by omega) (by assumption)) (Nat.le_of_ble_eq_true rfl) rfl rfl rfl ?_
  rw [mset_mset]
  refine Rn.aload_n (pc1 := 17)  dX6_copyFrom_16 rfl rfl rfl ?_
  refine Rn.aload_n (pc1 := 18)  dX6_copyFrom_17 rfl rfl rfl ?_
  refine Rn.getfield (pc1 := 21)  dX6_copyFrom_18 rfl fX6_18 (by first | assumption | exact mset_same | exact mget_ne (by omega) (by assumption)) rfl ?_
  refine Rn.putfield (pc1 := 24)  dX6_copyFrom_21 rfl pX6_18 (fun h => Bool.noConfusion h) (by first | assumption | exact mset_same | exact mget_ne (by omega) (by assumption)) (Nat.le_of_ble_eq_true rfl) rfl rfl rfl ?_
  rw [mset_mset]
  refine Rn.aload_n (pc1 := 25)  dX6_copyFrom_24 rfl rfl rfl ?_
  refine Rn.aload_n (pc1 := 26)  dX6_copyFrom_25 rfl rfl rfl ?_
  refine Rn.getfield (pc1 := 29)  dX6_copyFrom_26 rfl fX6_21 (by first | assumption | exact mset_same | exact mget_ne (by omega) (by assumption)) rfl ?_
  refine Rn.putfield (pc1 := 32)  dX6_copyFrom_29 rfl pX6_21 (fun h => Bool.noConfusion h) (by first | assumption | exact mset_same | exact mget_ne (by omega) (by assumption)) (Nat.le_of_ble_eq_true rfl) rfl rfl rfl ?_
  rw [mset_mset]
  refine Rn.aload_n (pc1 := 33)  dX6_copyFrom_32 rfl rfl rfl ?_
  refine Rn.aload_n (pc1 := 34)  dX6_copyFrom_33 rfl rfl rfl ?_
  refine Rn.getfield (pc1 := 37)  dX6_copyFrom_34 rfl fX6_24 (by first | assumption | exact mset_same | exact mget_ne (by omega) (by assumption)) rfl ?_
  refine Rn.putfield (pc1 := 40)  dX6_copyFrom_37 rfl pX6_24 (fun h => Bool.noConfusion h) (by first | assumption | exact mset_same | exact mget_ne (by omega) (by assumption)) (Nat.le_of_ble_eq_true rfl) rfl rfl rfl ?_
  rw [mset_mset]
  refine Rn.aload_n (pc1 := 41)  dX6_copyFrom_40 rfl rfl rfl ?_
  have s1 : SO (mset μ a (obj 6 [.int (f' 0), .int (f' 1), .int (f' 2), .int (nI rc'), .int (nI sc'), .ref (a + 1), .ref (a + 3), .ref (a + 8), .ref (a + 9)])) a f' rc' sc' := mset_same
  have z1 : Fr a (a + 1) μ (mset μ a (obj 6 [.int (f' 0), .int (f' 1), .int (f' 2), .int (nI rc'), .int (nI sc'), .ref (a + 1), .ref (a + 3), .ref (a + 8), .ref (a + 9)])) := Fr.set (by omega) (by omega)
  show Rn G 4 kX6_copyFrom 41 _ _ (mset μ a (obj 6 [.int (f' 0), .int (f' 1), .int (f' 2), .int (nI rc'), .int (nI sc'), .ref (a + 1), .ref (a + 3), .ref (a + 8), .ref (a + 9)])) _ _ _ _
  generalize (mset μ a (obj 6 [.int (f' 0), .int (f' 1), .int (f' 2), .int (nI rc'), .int (nI sc'), .ref (a + 1), .ref (a + 3), .ref (a + 8), .ref (a + 9)])) = μ1 at s1 z1 ⊢
  have hO1 : μ1 a = _ := s1
  have kO1 : μ1 b = _ := v1.fr z1 (by omega)
  have V1 := w3.fr z1 (by omega)
  have V2 := v3.fr z1 (by omega)
  have vO1 := V1.1
  refine Rn.getfield (pc1 := 44)  dX6_copyFrom_41 rfl fX6_30 (by first | assumption | exact mset_same | exact mget_ne (by omega) (by assumption)) rfl ?_
  refine Rn.aload_n (pc1 := 45)  dX6_copyFrom_44 rfl rfl rfl ?_
  refine Rn.getfield (pc1 := 48)  dX6_copyFrom_45 rfl fX6_30 (by first | assumption | exact mset_same | exact mget_ne (by omega) (by assumption)) rfl ?_
  refine Rn.cV_v (pc1 := 51) (eX7_copyFrom V1 V2 (by omega)) dX6_copyFrom_48 rfl qX6_55 oX7_copyFrom (by first | assumption | exact mset_same | exact mget_ne (by omega) (by assumption)) rfl rfl rfl rfl (Nat.le_of_ble_eq_true rfl) (by decide) (by decide) (fun μ48 h48 => ?_)
  obtain ⟨W1, z2⟩ := h48
  have hO2 := (z2 a (by omega)).trans hO1
  have kO2 := (z2 b (by omega)).trans kO1
  have z12 := (z1.wide (a' := a) (b' := a + 3) (by omega) (by omega)).trans (z2.wide (by omega) (by omega))
  have D1 := fd1.fr z12 (by omega)
  have D2 := kd1.fr z12 (by omega)
  have fO1 := D1.1
  refine Rn.aload_n (pc1 := 52)  dX6_copyFrom_51 rfl rfl rfl ?_
  refine Rn.getfield (pc1 := 55)  dX6_copyFrom_52 rfl fX6_37 (by first | assumption | exact mset_same | exact mget_ne (by omega) (by assumption)) rfl ?_
  refine Rn.aload_n (pc1 := 56)  dX6_copyFrom_55 rfl rfl rfl ?_
  refine Rn.getfield (pc1 := 59)  dX6_copyFrom_56 rfl fX6_37 (by first | assumption | exact mset_same | exact mget_ne (by omega) (by assumption)) rfl ?_
  refine Rn.cV_v (pc1 := 62) (eX0_copyFrom D1 D2 (by omega)) dX6_copyFrom_59 rfl qX6_59 oX0_copyFrom (by first | assumption | exact mset_same | exact mget_ne (by omega) (by assumption)) rfl rfl rfl rfl (Nat.le_of_ble_eq_true rfl) (by decide) (by decide) (fun μ59 h59 => ?_)
  obtain ⟨W2, z3⟩ := h59
  have z13 := (z12.wide (a' := a) (b' := a + 10) (by omega) (by omega)).trans (z3.wide (by omega) (by omega))
  refine Rn.iconst (pc1 := 63) (v := nI 0) dX6_copyFrom_62 rfl (by decide) ?_
  refine Rn.istore_n (pc1 := 64)  dX6_copyFrom_63 rfl rfl (by decide) rfl rfl ?_
  refine lX6_copyFrom1 K hd rc' 0 (by omega) _ _ _ ⟨v0, (s1.fr z2 (by omega)).fr z3 (by omega), (w2.fr z12 (by omega)).fr z3 (by omega), W1.fr z3 (by omega), ⟨_, _, _, _, W2, fun j hj => ?_⟩, fun i hi => ?_, fun n hn => ?_⟩ (z13.wide (by omega) (by omega))
  · rw [cpy_lt (by omega), cpy_lt (by omega), cpy_lt (by omega), cpy_lt (by omega)]
    exact kd2 j hj
  · exact ((w5 i hi).fr z13 (by omega)).to (fun z => by omega) (fun z => by omega)
  · exact ((w6 n hn).fr z13 (by omega)).to (fun z => by omega) (fun z => by omega)
end STATE
end
section
/-! ===== what State's changes do to the flat row ===== -/
abbrev e0 (f : Nat → Int32) : Nat → Int32 := fun j => f (21 + 4 * j)
abbrev e1 (f : Nat → Int32) : Nat → Int32 := fun j => f (21 + 4 * j + 1)
abbrev e2 (f : Nat → Int32) : Nat → Int32 := fun j => f (21 + 4 * j + 2)
abbrev e3 (f : Nat → Int32) : Nat → Int32 := fun j => f (21 + 4 * j + 3)
def isRdB (rc : Nat) (r : Int32) : Bool := inB r (nI 0) (nI rc - nI 1)
theorem isRdB_t {rc : Nat} {r : Int32} (hrc : rc < 1000) (h : isRdB rc r = true) : ∃ j, j < rc ∧ r = nI j := by
  unfold isRdB at h
  cases rc with
  | zero =>
    exfalso
    unfold inB at h
    rw [Bool.and_eq_true, decide_eq_true_eq, decide_eq_true_eq, Int32.le_iff_toInt_le, Int32.le_iff_toInt_le] at h
    have h1 : (nI 0).toInt = 0 := by decide
    have h2 : (nI 0 - nI 1).toInt = -1 := by decide
    omega
  | succ n =>
    rw [nI_sub (show 1 ≤ n + 1 by omega), Nat.add_sub_cancel] at h
    obtain ⟨j, hj, e⟩ := inB_nI (by omega) h
    exact ⟨j, by omega, e⟩
theorem isRdB_of {rc j : Nat} (hrc : rc < 1000) (h : j < rc) : isRdB rc (nI j) = true := by
  unfold isRdB
  rw [nI_sub (show 1 ≤ rc by omega)]
  exact inB_of (by omega) (by omega)
theorem isRdB_f {rc : Nat} {r : Int32} (hrc : rc < 1000) (h : isRdB rc r = false) : ∀ j, j < rc → r ≠ nI j := by
  rintro j hj rfl
  rw [isRdB_of hrc hj] at h
  cases h
def maySetF (h : Nat) (key val : Int32) : Int32 := if inB key (nI 0) (nI 11) = true then (if inB val (nI 0) (nI 999) = true then (if h = 60 then -4 else nI 0) else -2) else -1
def mayRemoveF (f : Nat → Int32) (h : Nat) (key : Int32) : Int32 := if inB key (nI 0) (nI 11) = true then (if h = 60 then -4 else if f (9 + key.toNatClampNeg) = -6 then -5 else nI 0) else -1
def setsF (f : Nat → Int32) (h : Nat) (k : Nat) (val : Int32) : Nat → Int32 := upd (upd (upd (upd (upd (upd (upd f (21 + 4 * h) (f 3)) (21 + 4 * h + 1) (nI k)) (21 + 4 * h + 2) val) (21 + 4 * h + 3) (f 2)) 6 (nI (h + 1))) (9 + k) val) 3 (f 3 + nI 1)
def mayPassF (f : Nat → Int32) (m : Int32) : Int32 := if inB m (nI 1) (nI 999) = true then (if f 2 + m ≤ 99999 then nI 0 else -4) else -2
def mayTurnF (s v : Int32) : Int32 := if s = nI 0 then (if inB v (nI 1) (nI 20) = true then nI 0 else -2) else if s = nI 1 ∧ inB v (nI 0) (nI 999) = true then nI 0 else -2
def mayReadF (f : Nat → Int32) (rc : Nat) (r m : Int32) : Int32 := if isRdB rc r = true then (if inB m (nI 1) (nI 99) = true then (if lateB (f (261 + 27 * r.toNatClampNeg)) (f 4) = true then -5 else nI 0) else -2) else -1
def mayLoadF (f : Nat → Int32) (rc sc : Nat) (r s : Int32) : Int32 := if isRdB rc r = true ∧ isRdB sc s = true then (if lateB (f (423 + 13 * s.toNatClampNeg)) (f 4) = true then -5 else nI 0) else -1
/-- which entries a thinning takes away -/
def pF (f : Nat → Int32) (h : Nat) (s mi : Int32) : Nat → Bool := goB h (f 3) s (f 1) mi (e0 f) (e1 f) (e2 f) (e3 f)
def floorF (f : Nat → Int32) (h : Nat) (s mi : Int32) : Int32 := floorN (pF f h s mi) (fun i => lastB (e1 f) i h) (e0 f) (f 4) h
def leftF (f : Nat → Int32) (h : Nat) (s mi : Int32) : Nat := leftN (pF f h s mi) h
def thinF (f : Nat → Int32) (h : Nat) (s mi : Int32) : Nat → Int32 := fun j =>
  if j = 4 then floorF f h s mi else if j = 5 then f 5 + nI (h - leftF f h s mi) else if j = 6 then nI (leftF f h s mi) else
  if 21 ≤ j ∧ j < 21 + 4 * leftF f h s mi then f (21 + 4 * ((kept (pF f h s mi) h).getD ((j - 21) / 4) 0) + (j - 21) % 4) else f j
def beginF (f : Nat → Int32) (i : Nat) (pl : Int32) (vw : Nat → Int32) : Nat → Int32 := blk (blk (upd (upd f (261 + 27 * i) pl) (261 + 27 * i + 1) pl) (261 + 27 * i + 3) 12 vw) (261 + 27 * i + 15) 12 vw
def readF (f : Nat → Int32) (i k c : Nat) : Nat → Int32 := upd (upd (blk f (261 + 27 * i + 3) 12 (vwN (e1 f) (e2 f) (fun q => f (261 + 27 * i + 3 + q)) k c)) (261 + 27 * i) (plN (e0 f) (f (261 + 27 * i)) k c)) (261 + 27 * i + 2) (f (261 + 27 * i + 2) + nI c)
def confF (f : Nat → Int32) (i : Nat) : Nat → Int32 := upd (blk f (261 + 27 * i + 15) 12 (fun q => f (261 + 27 * i + 3 + q))) (261 + 27 * i + 1) (f (261 + 27 * i))
def backF (f : Nat → Int32) (i : Nat) : Nat → Int32 := upd (blk f (261 + 27 * i + 3) 12 (fun q => f (261 + 27 * i + 15 + q))) (261 + 27 * i) (f (261 + 27 * i + 1))
def comeF (f : Nat → Int32) (rc : Nat) : Nat → Int32 := upd (beginF (upd f (261 + 27 * rc + 2) (nI 0)) rc (nI 0) (fun _ => -6)) 7 (nI (rc + 1))
def shotF (f : Nat → Int32) (sc : Nat) : Nat → Int32 := upd (blk (upd (blk f 436 39 (fun q => f (423 + q))) 423 (f 3)) 424 12 (fun q => f (9 + q))) 8 (nI (if sc < 4 then sc + 1 else sc))
theorem leftN_congr {p q : Nat → Bool} : ∀ {n : Nat}, (∀ i, i < n → p i = q i) → leftN p n = leftN q n
  | 0, _ => rfl
  | n + 1, h => by show _ + _ = _ + _; rw [leftN_congr (fun i hi => h i (by omega)), h n (by omega)]
theorem kept_congr {p q : Nat → Bool} : ∀ {n : Nat}, (∀ i, i < n → p i = q i) → kept p n = kept q n
  | 0, _ => rfl
  | n + 1, h => by unfold kept; rw [kept_congr (fun i hi => h i (by omega)), h n (by omega)]
theorem floorN_congr {p q p' q' : Nat → Bool} {g g' : Nat → Int32} {fl : Int32} : ∀ {n : Nat}, (∀ i, i < n → p i = p' i ∧ q i = q' i ∧ g i = g' i) → floorN p q g fl n = floorN p' q' g' fl n
  | 0, _ => rfl
  | n + 1, h => by unfold floorN; rw [floorN_congr (fun i hi => h i (by omega)), (h n (by omega)).1, (h n (by omega)).2.1, (h n (by omega)).2.2]
theorem kept_lt {p : Nat → Bool} : ∀ {n j q : Nat}, (kept p n)[j]? = some q → q < n
  | 0, j, q, h => by simp [kept] at h
  | n + 1, j, q, h => by
    unfold kept at h
    split at h
    · have := kept_lt h; omega
    · have := List.mem_of_getElem? h
      rcases List.mem_append.mp this with h1 | h1
      · obtain ⟨j', hj'⟩ := List.getElem?_of_mem h1
        have := kept_lt hj'; omega
      · rw [List.mem_singleton.mp h1]; omega
section OPM
variable {μ μ' : Mm} {a x y : Nat} {f f' : Nat → Int32} {h rc sc lr ls i n : Nat}
theorem SAg.setO (F : SAg μ a f h rc sc lr ls) (f' : Nat → Int32) (rc' sc' : Nat) (h1 : rc' ≤ 6) (h2 : sc' ≤ 4) (q : ∀ j, 3 ≤ j → f j = f' j) {c : Cl} (hc : c = obj 6 [.int (f' 0), .int (f' 1), .int (f' 2), .int (nI rc'), .int (nI sc'), .ref (a + 1), .ref (a + 3), .ref (a + 8), .ref (a + 9)]) : SAg (mset μ a c) a f' h rc' sc' lr ls := by
  subst hc
  obtain ⟨w0, w1, w2, w3, w4, w5, w6⟩ := F
  have z : ∀ c : Cl, Fr a (a + 1) μ (mset μ a c) := fun c => Fr.set (by omega) (by omega)
  exact ⟨⟨w0.1, h1, h2⟩, mset_same, w2.fr (z _) (by omega), (w3.fr (z _) (by omega)).to (fun j _ => q _ (by omega)), (w4.fr (z _) (by omega)).to ⟨q _ (by omega), q _ (by omega), q _ (by omega)⟩ (fun j h1 _ => q _ (by omega)), fun i hi => ((w5 i hi).fr (z _) (by omega)).to (fun z => z) (fun _ j h1 _ => q _ (by omega)), fun n hn => ((w6 n hn).fr (z _) (by omega)).to (fun z => z) (fun _ j h1 _ => q _ (by omega))⟩
/-- a reader has changed -/
theorem SA.setR (F : SA μ a f h rc sc) {pl cp rs : Int32} {vw cv : Nat → Int32} (hi : i < rc) (z : Fr (a + 10 + 5 * i) (a + 10 + 5 * i + 5) μ μ') (R : RA μ' (a + 10 + 5 * i) pl cp rs vw cv) (f' : Nat → Int32) (q : ∀ j, j < 261 + 27 * i ∨ 261 + 27 * i + 27 ≤ j → f j = f' j)
    (r : pl = f' (261 + 27 * i) ∧ cp = f' (261 + 27 * i + 1) ∧ rs = f' (261 + 27 * i + 2) ∧ (∀ k, k < 12 → vw k = f' (261 + 27 * i + 3 + k)) ∧ ∀ k, k < 12 → cv k = f' (261 + 27 * i + 15 + k)) : SA μ' a f' h rc sc ∧ Fr a (a + 52) μ μ' := by
  obtain ⟨w0, w1, w2, w3, w4, w5, w6⟩ := F
  refine ⟨⟨w0, (w1.fr z (by omega)).to ⟨q _ (by omega), q _ (by omega), q _ (by omega)⟩, w2.fr z (by omega), (w3.fr z (by omega)).to (fun j _ => q _ (by omega)), (w4.fr z (by omega)).to ⟨q _ (by omega), q _ (by omega), q _ (by omega)⟩ (fun j h1 _ => q _ (by omega)), fun k hk => ?_, fun n hn => ((w6 n hn).fr z (by omega)).to (fun z => z) (fun hl j h1 h2 => q _ (by omega))⟩, z.wide (by omega) (by omega)⟩
  by_cases e : k = i
  · subst e
    exact ⟨_, _, _, _, _, R, fun _ => r⟩
  · exact ((w5 k hk).fr z (by omega)).to (fun z => z) (fun hl j h1 h2 => q _ (by omega))
end OPM
section OPS
variable {G : GG} {μ : Mm} {sz : Nat} {a h rc sc : Nat} {f : Nat → Int32}
theorem eX6_turnSetting {s v : Int32} (F : SA μ a f h rc sc) : EvA G 1 kX6_turnSetting [.ref a, .int s, .int v] μ sz 0 0 (rI fun r μ' => (mayTurnF s v ≠ nI 0 ∧ r = mayTurnF s v ∧ μ' = μ) ∨ (mayTurnF s v = nI 0 ∧ ∃ k, k < 2 ∧ s = nI k ∧ r = f k ∧ SA μ' a (upd f k v) h rc sc ∧ Fr a (a + 52) μ μ')) := by
  have hO : μ a = _ := F.2.1
  refine EvA.of (L := [some (.ref a), some (.int s), some (.int v), none]) (by decide +kernel) (Nat.le_of_ble_eq_true rfl) rfl ?_
  have J : mayTurnF s v = (if s = nI 1 ∧ inB v (nI 0) (nI 999) = true then nI 0 else -2) → Rn G 1 kX6_turnSetting 28 [some (.ref a), some (.int s), some (.int v), none] [] μ sz 0 0 (rI fun r μ' => (mayTurnF s v ≠ nI 0 ∧ r = mayTurnF s v ∧ μ' = μ) ∨ (mayTurnF s v = nI 0 ∧ ∃ k, k < 2 ∧ s = nI k ∧ r = f k ∧ SA μ' a (upd f k v) h rc sc ∧ Fr a (a + 52) μ μ')) := by
    intro n0
    refine Rn.iload_n (pc1 := 29)  dX6_turnSetting_28 rfl rfl rfl ?_
    refine Rn.iconst (pc1 := 30) (v := nI 1) dX6_turnSetting_29 rfl (by decide) ?_
    refine Rn.icmp_ne (pc1 := 33) 53 dX6_turnSetting_30 rfl (by decide) (fun c30 => ?_) (fun c30 => ?_)
    · have n2 : mayTurnF s v = -2 := by rw [n0, if_neg (fun q => c30 q.1)]
      refine Rn.bipush (pc1 := 55) (v := (-2)) dX6_turnSetting_53 rfl (by decide) ?_
      refine Rn.istore_n (pc1 := 56)  dX6_turnSetting_55 rfl rfl (by decide) rfl rfl ?_
      refine Rn.iload_n (pc1 := 57)  dX6_turnSetting_56 rfl rfl rfl ?_
      first
        | exact Rn.ireturn dX6_turnSetting_57 rfl rfl ⟨_, rfl, Or.inl ⟨by rw [n2]; decide, n2.symm, rfl⟩⟩
        | exact Rn.ireturn dX6_turnSetting_57 rfl rfl ⟨_, rfl, Or.inr ⟨n1, 1, by decide, c30, rfl, F.setO _ rc sc F.1.2.1 F.1.2.2 (fun j hj => (upd_ne (by omega)).symm) rfl, Fr.set (by omega) (by omega)⟩⟩
    · refine Rn.iload_n (pc1 := 34)  dX6_turnSetting_33 rfl rfl rfl ?_
      refine Rn.cN_i (pc1 := 37) (eX8_isNumber) dX6_turnSetting_34 rfl nX6_80 oX8_isNumber rfl rfl (Nat.le_of_ble_eq_true rfl) (by decide) (by decide) (fun v34 μ34 h34 => ?_)
      obtain ⟨rfl, rfl⟩ := h34
      refine Rn.if_eq (pc1 := 40) 53 dX6_turnSetting_37 rfl (by decide) (fun c37 => ?_) (fun c37 => ?_)
      · have n2 : mayTurnF s v = -2 := by rw [n0, if_neg (fun q => by rw [bI_0 c37] at q; cases q.2)]
        refine Rn.bipush (pc1 := 55) (v := (-2)) dX6_turnSetting_53 rfl (by decide) ?_
        refine Rn.istore_n (pc1 := 56)  dX6_turnSetting_55 rfl rfl (by decide) rfl rfl ?_
        refine Rn.iload_n (pc1 := 57)  dX6_turnSetting_56 rfl rfl rfl ?_
        first
          | exact Rn.ireturn dX6_turnSetting_57 rfl rfl ⟨_, rfl, Or.inl ⟨by rw [n2]; decide, n2.symm, rfl⟩⟩
          | exact Rn.ireturn dX6_turnSetting_57 rfl rfl ⟨_, rfl, Or.inr ⟨n1, 1, by decide, c30, rfl, F.setO _ rc sc F.1.2.1 F.1.2.2 (fun j hj => (upd_ne (by omega)).symm) rfl, Fr.set (by omega) (by omega)⟩⟩
      · have n1 : mayTurnF s v = nI 0 := by rw [n0, if_pos ⟨c30, bI_n c37⟩]
        refine Rn.aload_n (pc1 := 41)  dX6_turnSetting_40 rfl rfl rfl ?_
        refine Rn.getfield (pc1 := 44)  dX6_turnSetting_41 rfl fX6_15 (by first | assumption | exact mset_same | exact mget_ne (by omega) (by assumption)) rfl ?_
        refine Rn.istore_n (pc1 := 45)  dX6_turnSetting_44 rfl rfl (by decide) rfl rfl ?_
        refine Rn.aload_n (pc1 := 46)  dX6_turnSetting_45 rfl rfl rfl ?_
        refine Rn.iload_n (pc1 := 47)  dX6_turnSetting_46 rfl rfl rfl ?_
        refine Rn.putfield (pc1 := 50)  dX6_turnSetting_47 rfl pX6_15 (fun h => Bool.noConfusion h) (by first | assumption | exact mset_same | exact mget_ne (by omega) (by assumption)) (Nat.le_of_ble_eq_true rfl) rfl rfl rfl ?_
        refine Rn.goto 56 dX6_turnSetting_50 (by decide) ?_
        refine Rn.iload_n (pc1 := 57)  dX6_turnSetting_56 rfl rfl rfl ?_
        first
          | exact Rn.ireturn dX6_turnSetting_57 rfl rfl ⟨_, rfl, Or.inl ⟨by rw [n2]; decide, n2.symm, rfl⟩⟩
          | exact Rn.ireturn dX6_turnSetting_57 rfl rfl ⟨_, rfl, Or.inr ⟨n1, 1, by decide, c30, rfl, F.setO _ rc sc F.1.2.1 F.1.2.2 (fun j hj => (upd_ne (by omega)).symm) rfl, Fr.set (by omega) (by omega)⟩⟩
  refine Rn.iload_n (pc1 := 1)  dX6_turnSetting_0 rfl rfl rfl ?_
  refine Rn.if_ne (pc1 := 4) 28 dX6_turnSetting_1 rfl (by decide) (fun c1 => ?_) (fun c1 => ?_)
  · have n1 : mayTurnF s v = if s = nI 1 ∧ inB v (nI 0) (nI 999) = true then nI 0 else -2 := if_neg c1
    exact J n1
  · subst c1
    refine Rn.iload_n (pc1 := 5)  dX6_turnSetting_4 rfl rfl rfl ?_
    refine Rn.iconst (pc1 := 6) (v := nI 1) dX6_turnSetting_5 rfl (by decide) ?_
    refine Rn.icmp_lt (pc1 := 9) 28 dX6_turnSetting_6 rfl (by decide) (fun c6 => ?_) (fun c6 => ?_)
    · have n1 : mayTurnF (nI 0) v = if nI 0 = nI 1 ∧ inB v (nI 0) (nI 999) = true then nI 0 else -2 := by rw [if_neg (fun q : nI 0 = nI 1 ∧ inB v (nI 0) (nI 999) = true => absurd q.1 (by decide))]; unfold mayTurnF; rw [if_pos rfl, inB_lo c6]; rfl
      exact J n1
    · refine Rn.iload_n (pc1 := 10)  dX6_turnSetting_9 rfl rfl rfl ?_
      refine Rn.bipush (pc1 := 12) (v := nI 20) dX6_turnSetting_10 rfl (by decide) ?_
      refine Rn.icmp_gt (pc1 := 15) 28 dX6_turnSetting_12 rfl (by decide) (fun c12 => ?_) (fun c12 => ?_)
      · have n1 : mayTurnF (nI 0) v = if nI 0 = nI 1 ∧ inB v (nI 0) (nI 999) = true then nI 0 else -2 := by rw [if_neg (fun q : nI 0 = nI 1 ∧ inB v (nI 0) (nI 999) = true => absurd q.1 (by decide))]; unfold mayTurnF; rw [if_pos rfl, inB_hi c12]; rfl
        exact J n1
      · have n1 : mayTurnF (nI 0) v = nI 0 := by unfold mayTurnF; rw [if_pos rfl, inB_t c6 c12]; rfl
        refine Rn.aload_n (pc1 := 16)  dX6_turnSetting_15 rfl rfl rfl ?_
        refine Rn.getfield (pc1 := 19)  dX6_turnSetting_16 rfl fX6_9 (by first | assumption | exact mset_same | exact mget_ne (by omega) (by assumption)) rfl ?_
        refine Rn.istore_n (pc1 := 20)  dX6_turnSetting_19 rfl rfl (by decide) rfl rfl ?_
        refine Rn.aload_n (pc1 := 21)  dX6_turnSetting_20 rfl rfl rfl ?_
        refine Rn.iload_n (pc1 := 22)  dX6_turnSetting_21 rfl rfl rfl ?_
        refine Rn.putfield (pc1 := 25)  dX6_turnSetting_22 rfl pX6_9 (fun h => Bool.noConfusion h) (by first | assumption | exact mset_same | exact mget_ne (by omega) (by assumption)) (Nat.le_of_ble_eq_true rfl) rfl rfl rfl ?_
        refine Rn.goto 56 dX6_turnSetting_25 (by decide) ?_
        refine Rn.iload_n (pc1 := 57)  dX6_turnSetting_56 rfl rfl rfl ?_
        exact Rn.ireturn dX6_turnSetting_57 rfl rfl ⟨_, rfl, Or.inr ⟨n1, 0, by decide, rfl, rfl, F.setO _ rc sc F.1.2.1 F.1.2.2 (fun j hj => (upd_ne (by omega)).symm) rfl, Fr.set (by omega) (by omega)⟩⟩
theorem SA.set {μ1 μ2 : Mm} {k : Nat} {val : Int32} {g0 g1 g2 g3 : Nat → Int32} (F : SA μ a f h rc sc) (hk : k < 12) (hh : h < 60) (V : VA μ1 (a + 1) (upd (fun k => f (9 + k)) k val)) (z1 : Fr (a + 1) (a + 3) μ μ1) (B : FB μ2 (a + 3) (h + 1) (f 3 + nI 1) (f 4) (f 5) (upd g0 h (f 3)) (upd g1 h (nI k)) (upd g2 h val) (upd g3 h (f 2))) (z2 : Fr (a + 3) (a + 8) μ1 μ2) (hg : ∀ j, j < h → g0 j = f (21 + 4 * j) ∧ g1 j = f (21 + 4 * j + 1) ∧ g2 j = f (21 + 4 * j + 2) ∧ g3 j = f (21 + 4 * j + 3)) : SA μ2 a (setsF f h k val) (h + 1) rc sc ∧ Fr a (a + 52) μ μ2 := by
  obtain ⟨w0, w1, w2, w3, w4, w5, w6⟩ := F
  have hq : ∀ j, j ≠ 3 → j ≠ 6 → j ≠ 9 + k → (j < 21 + 4 * h ∨ 21 + 4 * h + 4 ≤ j) → f j = setsF f h k val j := fun j h1 h2 h3 h4 => by
    unfold setsF
    rw [upd_ne (by omega), upd_ne (by omega), upd_ne (by omega), upd_ne (by omega), upd_ne (by omega), upd_ne (by omega), upd_ne (by omega)]
  have z : Fr (a + 1) (a + 8) μ μ2 := (z1.wide (by omega) (by omega)).trans (z2.wide (by omega) (by omega))
  refine ⟨⟨⟨by omega, w0.2⟩, (w1.fr z (by omega)).to ⟨hq _ (by omega) (by omega) (by omega) (by omega), hq _ (by omega) (by omega) (by omega) (by omega), hq _ (by omega) (by omega) (by omega) (by omega)⟩, w2.fr z (by omega), (V.fr z2 (by omega)).to (fun j hj => ?_), ?_, fun i hi => ((w5 i hi).fr z (by omega)).to (fun z => z) (fun _ j h1 h2 => hq j (by omega) (by omega) (by omega) (by omega)), fun n hn => ((w6 n hn).fr z (by omega)).to (fun z => z) (fun _ j h1 h2 => hq j (by omega) (by omega) (by omega) (by omega))⟩, z.wide (by omega) (by omega)⟩
  · by_cases e : j = k
    · subst e
      rw [upd_at rfl]
      unfold setsF
      rw [upd_ne (by omega), upd_at rfl]
    · rw [upd_ne e]
      exact hq _ (by omega) (by omega) (by omega) (by omega)
  · have h3 : f 3 + nI 1 = setsF f h k val 3 := by unfold setsF; rw [upd_at rfl]
    have h4 : f 4 = setsF f h k val 4 := hq _ (by omega) (by omega) (by omega) (by omega)
    have h5 : f 5 = setsF f h k val 5 := hq _ (by omega) (by omega) (by omega) (by omega)
    rw [h3, h4, h5] at B
    refine ⟨_, _, _, _, B, fun j hj => ?_⟩
    by_cases e : j = h
    · subst e
      rw [upd_at rfl, upd_at rfl, upd_at rfl, upd_at rfl]
      unfold setsF
      refine ⟨?_, ?_, ?_, ?_⟩
      · rw [upd_ne (by omega), upd_ne (by omega), upd_ne (by omega), upd_ne (by omega), upd_ne (by omega), upd_ne (by omega), upd_at rfl]
      · rw [upd_ne (by omega), upd_ne (by omega), upd_ne (by omega), upd_ne (by omega), upd_ne (by omega), upd_at rfl]
      · rw [upd_ne (by omega), upd_ne (by omega), upd_ne (by omega), upd_ne (by omega), upd_at rfl]
      · rw [upd_ne (by omega), upd_ne (by omega), upd_ne (by omega), upd_at rfl]
    · rw [upd_ne e, upd_ne e, upd_ne e, upd_ne e, ← hq _ (by omega) (by omega) (by omega) (by omega), ← hq _ (by omega) (by omega) (by omega) (by omega), ← hq _ (by omega) (by omega) (by omega) (by omega), ← hq _ (by omega) (by omega) (by omega) (by omega)]
      exact hg j (by omega)
theorem eX6_setKey {key v : Int32} (F : SA μ a f h rc sc) : EvA G 3 kX6_setKey [.ref a, .int key, .int v] μ sz 0 0 (rI fun r μ' => (maySetF h key v ≠ nI 0 ∧ r = maySetF h key v ∧ μ' = μ) ∨ (maySetF h key v = nI 0 ∧ ∃ k, k < 12 ∧ key = nI k ∧ r = f 3 ∧ SA μ' a (setsF f h k v) (h + 1) rc sc ∧ Fr a (a + 52) μ μ')) := by
  have hO : μ a = _ := F.2.1
  obtain ⟨g0, g1, g2, g3, fd1, fd2⟩ := F.2.2.2.2.1
  have fO := fd1.1
  have vO := F.2.2.2.1.1
  refine EvA.of (L := [some (.ref a), some (.int key), some (.int v)]) (by decide +kernel) (Nat.le_of_ble_eq_true rfl) rfl ?_
  refine Rn.iload_n (pc1 := 1)  dX6_setKey_0 rfl rfl rfl ?_
  refine Rn.cN_i (pc1 := 4) (eX8_isKey) dX6_setKey_1 rfl nX6_84 oX8_isKey rfl rfl (Nat.le_of_ble_eq_true rfl) (by decide) (by decide) (fun v1 μ1 h1 => ?_)
  obtain ⟨rfl, rfl⟩ := h1
  refine Rn.if_ne (pc1 := 7) 9 dX6_setKey_4 rfl (by decide) (fun c4 => ?_) (fun c4 => ?_)
  · refine Rn.iload_n (pc1 := 10)  dX6_setKey_9 rfl rfl rfl ?_
    refine Rn.cN_i (pc1 := 13) (eX8_isNumber) dX6_setKey_10 rfl nX6_80 oX8_isNumber rfl rfl (Nat.le_of_ble_eq_true rfl) (by decide) (by decide) (fun v10 μ10 h10 => ?_)
    obtain ⟨rfl, rfl⟩ := h10
    refine Rn.if_ne (pc1 := 16) 19 dX6_setKey_13 rfl (by decide) (fun c13 => ?_) (fun c13 => ?_)
    · refine Rn.aload_n (pc1 := 20)  dX6_setKey_19 rfl rfl rfl ?_
      refine Rn.getfield (pc1 := 23)  dX6_setKey_20 rfl fX6_37 (by first | assumption | exact mset_same | exact mget_ne (by omega) (by assumption)) rfl ?_
      refine Rn.cV_i (pc1 := 26) (eX0_isFull fd1 F.1.1) dX6_setKey_23 rfl qX6_87 oX0_isFull (by first | assumption | exact mset_same | exact mget_ne (by omega) (by assumption)) rfl rfl rfl rfl (Nat.le_of_ble_eq_true rfl) (by decide) (by decide) (fun v23 μ23 h23 => ?_)
      obtain ⟨rfl, rfl⟩ := h23
      refine Rn.if_eq (pc1 := 29) 32 dX6_setKey_26 rfl (by decide) (fun c26 => ?_) (fun c26 => ?_)
      · have hne : ¬ h = 60 := of_decide_eq_false (bI_0 c26)
        have n : maySetF h key v = nI 0 := by unfold maySetF; rw [bI_n c4, bI_n c13, if_pos rfl, if_pos rfl, if_neg hne]
        have hh := F.1.1
        obtain ⟨k, hk, rfl⟩ := inB_nI (by decide) (bI_n c4)
        refine Rn.aload_n (pc1 := 33)  dX6_setKey_32 rfl rfl rfl ?_
        refine Rn.getfield (pc1 := 36)  dX6_setKey_33 rfl fX6_30 (by first | assumption | exact mset_same | exact mget_ne (by omega) (by assumption)) rfl ?_
        refine Rn.iload_n (pc1 := 37)  dX6_setKey_36 rfl rfl rfl ?_
        refine Rn.iload_n (pc1 := 38)  dX6_setKey_37 rfl rfl rfl ?_
        refine Rn.cV_v (pc1 := 41) (eX7_change F.2.2.2.1 rfl (show k < 12 by omega)) dX6_setKey_38 rfl qX6_91 oX7_change (by first | assumption | exact mset_same | exact mget_ne (by omega) (by assumption)) rfl rfl rfl rfl (Nat.le_of_ble_eq_true rfl) (by decide) (by decide) (fun μ38 h38 => ?_)
        obtain ⟨W1, z1⟩ := h38
        have hO1 := (z1 a (by omega)).trans hO
        have B1 := fd1.fr z1 (by omega)
        have fO1 := B1.1
        refine Rn.aload_n (pc1 := 42)  dX6_setKey_41 rfl rfl rfl ?_
        refine Rn.getfield (pc1 := 45)  dX6_setKey_42 rfl fX6_37 (by first | assumption | exact mset_same | exact mget_ne (by omega) (by assumption)) rfl ?_
        refine Rn.iload_n (pc1 := 46)  dX6_setKey_45 rfl rfl rfl ?_
        refine Rn.iload_n (pc1 := 47)  dX6_setKey_46 rfl rfl rfl ?_
        refine Rn.aload_n (pc1 := 48)  dX6_setKey_47 rfl rfl rfl ?_
        refine Rn.getfield (pc1 := 51)  dX6_setKey_48 rfl fX6_18 (by first | assumption | exact mset_same | exact mget_ne (by omega) (by assumption)) rfl ?_
        refine Rn.cV_i (pc1 := 54) (eX0_append B1 (show h < 60 by omega)) dX6_setKey_51 rfl qX6_95 oX0_append (by first | assumption | exact mset_same | exact mget_ne (by omega) (by assumption)) rfl rfl rfl rfl (Nat.le_of_ble_eq_true rfl) (by decide) (by decide) (fun v51 μ51 h51 => ?_)
        obtain ⟨rfl, B2, z2⟩ := h51
        exact Rn.ireturn dX6_setKey_54 rfl rfl ⟨_, rfl, Or.inr ⟨n, k, by omega, rfl, rfl, SA.set F (by omega) (by omega) W1 z1 B2 z2 fd2⟩⟩
      · have n : maySetF h key v = -4 := by unfold maySetF; rw [bI_n c4, bI_n c13, if_pos rfl, if_pos rfl, if_pos (of_decide_eq_true (bI_n c26))]
        refine Rn.bipush (pc1 := 31) (v := (-4)) dX6_setKey_29 rfl (by decide) ?_
        exact Rn.ireturn dX6_setKey_31 rfl rfl ⟨_, rfl, Or.inl ⟨by rw [n]; decide, n.symm, rfl⟩⟩
    · have n : maySetF h key v = -2 := by unfold maySetF; rw [bI_n c4, bI_0 c13]; rfl
      refine Rn.bipush (pc1 := 18) (v := (-2)) dX6_setKey_16 rfl (by decide) ?_
      exact Rn.ireturn dX6_setKey_18 rfl rfl ⟨_, rfl, Or.inl ⟨by rw [n]; decide, n.symm, rfl⟩⟩
  · have n : maySetF h key v = -1 := by unfold maySetF; rw [bI_0 c4]; rfl
    refine Rn.iconst (pc1 := 8) (v := (-1)) dX6_setKey_7 rfl (by decide) ?_
    exact Rn.ireturn dX6_setKey_8 rfl rfl ⟨_, rfl, Or.inl ⟨by rw [n]; decide, n.symm, rfl⟩⟩
theorem eX6_removeKey {key : Int32} (F : SA μ a f h rc sc) : EvA G 3 kX6_removeKey [.ref a, .int key] μ sz 0 0 (rI fun r μ' => (mayRemoveF f h key ≠ nI 0 ∧ r = mayRemoveF f h key ∧ μ' = μ) ∨ (mayRemoveF f h key = nI 0 ∧ ∃ k, k < 12 ∧ key = nI k ∧ r = f 3 ∧ SA μ' a (setsF f h k (-6)) (h + 1) rc sc ∧ Fr a (a + 52) μ μ')) := by
  have hO : μ a = _ := F.2.1
  obtain ⟨g0, g1, g2, g3, fd1, fd2⟩ := F.2.2.2.2.1
  have fO := fd1.1
  have vO := F.2.2.2.1.1
  refine EvA.of (L := [some (.ref a), some (.int key)]) (by decide +kernel) (Nat.le_of_ble_eq_true rfl) rfl ?_
  refine Rn.iload_n (pc1 := 1)  dX6_removeKey_0 rfl rfl rfl ?_
  refine Rn.cN_i (pc1 := 4) (eX8_isKey) dX6_removeKey_1 rfl nX6_84 oX8_isKey rfl rfl (Nat.le_of_ble_eq_true rfl) (by decide) (by decide) (fun v1 μ1 h1 => ?_)
  obtain ⟨rfl, rfl⟩ := h1
  refine Rn.if_ne (pc1 := 7) 9 dX6_removeKey_4 rfl (by decide) (fun c4 => ?_) (fun c4 => ?_)
  · have n0 := bI_n c4
    obtain ⟨k, hk, rfl⟩ := inB_nI (by decide) n0
    refine Rn.aload_n (pc1 := 10)  dX6_removeKey_9 rfl rfl rfl ?_
    refine Rn.getfield (pc1 := 13)  dX6_removeKey_10 rfl fX6_37 (by first | assumption | exact mset_same | exact mget_ne (by omega) (by assumption)) rfl ?_
    refine Rn.cV_i (pc1 := 16) (eX0_isFull fd1 F.1.1) dX6_removeKey_13 rfl qX6_87 oX0_isFull (by first | assumption | exact mset_same | exact mget_ne (by omega) (by assumption)) rfl rfl rfl rfl (Nat.le_of_ble_eq_true rfl) (by decide) (by decide) (fun v13 μ13 h13 => ?_)
    obtain ⟨rfl, rfl⟩ := h13
    refine Rn.if_eq (pc1 := 19) 22 dX6_removeKey_16 rfl (by decide) (fun c16 => ?_) (fun c16 => ?_)
    · have hne : ¬ h = 60 := of_decide_eq_false (bI_0 c16)
      have hh := F.1.1
      refine Rn.aload_n (pc1 := 23)  dX6_removeKey_22 rfl rfl rfl ?_
      refine Rn.getfield (pc1 := 26)  dX6_removeKey_23 rfl fX6_30 (by first | assumption | exact mset_same | exact mget_ne (by omega) (by assumption)) rfl ?_
      refine Rn.iload_n (pc1 := 27)  dX6_removeKey_26 rfl rfl rfl ?_
      refine Rn.cV_i (pc1 := 30) (eX7_of F.2.2.2.1 rfl (show k < 12 by omega)) dX6_removeKey_27 rfl qX6_99 oX7_of (by first | assumption | exact mset_same | exact mget_ne (by omega) (by assumption)) rfl rfl rfl rfl (Nat.le_of_ble_eq_true rfl) (by decide) (by decide) (fun v27 μ27 h27 => ?_)
      obtain ⟨rfl, rfl⟩ := h27
      refine Rn.bipush (pc1 := 32) (v := (-6)) dX6_removeKey_30 rfl (by decide) ?_
      refine Rn.icmp_ne (pc1 := 35) 38 dX6_removeKey_32 rfl (by decide) (fun c32 => ?_) (fun c32 => ?_)
      · have n : mayRemoveF f h (nI k) = nI 0 := by unfold mayRemoveF; rw [n0, if_pos rfl, if_neg hne, nI_clamp (by omega), if_neg c32]
        refine Rn.aload_n (pc1 := 39)  dX6_removeKey_38 rfl rfl rfl ?_
        refine Rn.getfield (pc1 := 42)  dX6_removeKey_39 rfl fX6_30 (by first | assumption | exact mset_same | exact mget_ne (by omega) (by assumption)) rfl ?_
        refine Rn.iload_n (pc1 := 43)  dX6_removeKey_42 rfl rfl rfl ?_
        refine Rn.bipush (pc1 := 45) (v := (-6)) dX6_removeKey_43 rfl (by decide) ?_
        refine Rn.cV_v (pc1 := 48) (eX7_change F.2.2.2.1 rfl (show k < 12 by omega)) dX6_removeKey_45 rfl qX6_91 oX7_change (by first | assumption | exact mset_same | exact mget_ne (by omega) (by assumption)) rfl rfl rfl rfl (Nat.le_of_ble_eq_true rfl) (by decide) (by decide) (fun μ45 h45 => ?_)
        obtain ⟨W1, z1⟩ := h45
        have hO1 := (z1 a (by omega)).trans hO
        have B1 := fd1.fr z1 (by omega)
        have fO1 := B1.1
        refine Rn.aload_n (pc1 := 49)  dX6_removeKey_48 rfl rfl rfl ?_
        refine Rn.getfield (pc1 := 52)  dX6_removeKey_49 rfl fX6_37 (by first | assumption | exact mset_same | exact mget_ne (by omega) (by assumption)) rfl ?_
        refine Rn.iload_n (pc1 := 53)  dX6_removeKey_52 rfl rfl rfl ?_
        refine Rn.bipush (pc1 := 55) (v := (-6)) dX6_removeKey_53 rfl (by decide) ?_
        refine Rn.aload_n (pc1 := 56)  dX6_removeKey_55 rfl rfl rfl ?_
        refine Rn.getfield (pc1 := 59)  dX6_removeKey_56 rfl fX6_18 (by first | assumption | exact mset_same | exact mget_ne (by omega) (by assumption)) rfl ?_
        refine Rn.cV_i (pc1 := 62) (eX0_append B1 (show h < 60 by omega)) dX6_removeKey_59 rfl qX6_95 oX0_append (by first | assumption | exact mset_same | exact mget_ne (by omega) (by assumption)) rfl rfl rfl rfl (Nat.le_of_ble_eq_true rfl) (by decide) (by decide) (fun v59 μ59 h59 => ?_)
        obtain ⟨rfl, B2, z2⟩ := h59
        exact Rn.ireturn dX6_removeKey_62 rfl rfl ⟨_, rfl, Or.inr ⟨n, k, by omega, rfl, rfl, SA.set F (by omega) (by omega) W1 z1 B2 z2 fd2⟩⟩
      · have n : mayRemoveF f h (nI k) = -5 := by unfold mayRemoveF; rw [n0, if_pos rfl, if_neg hne, nI_clamp (by omega), if_pos c32]
        refine Rn.bipush (pc1 := 37) (v := (-5)) dX6_removeKey_35 rfl (by decide) ?_
        exact Rn.ireturn dX6_removeKey_37 rfl rfl ⟨_, rfl, Or.inl ⟨by rw [n]; decide, n.symm, rfl⟩⟩
    · have n : mayRemoveF f h (nI k) = -4 := by unfold mayRemoveF; rw [n0, if_pos rfl, if_pos (of_decide_eq_true (bI_n c16))]
      refine Rn.bipush (pc1 := 21) (v := (-4)) dX6_removeKey_19 rfl (by decide) ?_
      exact Rn.ireturn dX6_removeKey_21 rfl rfl ⟨_, rfl, Or.inl ⟨by rw [n]; decide, n.symm, rfl⟩⟩
  · have n : mayRemoveF f h key = -1 := by unfold mayRemoveF; rw [bI_0 c4]; rfl
    refine Rn.iconst (pc1 := 8) (v := (-1)) dX6_removeKey_7 rfl (by decide) ?_
    exact Rn.ireturn dX6_removeKey_8 rfl rfl ⟨_, rfl, Or.inl ⟨by rw [n]; decide, n.symm, rfl⟩⟩
theorem eX6_letPass {m : Int32} (F : SA μ a f h rc sc) : EvA G 1 kX6_letPass [.ref a, .int m] μ sz 0 0 (rI fun r μ' => (mayPassF f m ≠ nI 0 ∧ r = mayPassF f m ∧ μ' = μ) ∨ (mayPassF f m = nI 0 ∧ r = f 2 + m ∧ SA μ' a (upd f 2 (f 2 + m)) h rc sc ∧ Fr a (a + 52) μ μ')) := by
  have hO : μ a = _ := F.2.1
  refine EvA.of (L := [some (.ref a), some (.int m)]) (by decide +kernel) (Nat.le_of_ble_eq_true rfl) rfl ?_
  refine Rn.iload_n (pc1 := 1)  dX6_letPass_0 rfl rfl rfl ?_
  refine Rn.iconst (pc1 := 2) (v := nI 1) dX6_letPass_1 rfl (by decide) ?_
  refine Rn.icmp_lt (pc1 := 5) 12 dX6_letPass_2 rfl (by decide) (fun c2 => ?_) (fun c2 => ?_)
  · have n : mayPassF f m = -2 := by unfold mayPassF; rw [inB_lo c2]; rfl
    refine Rn.bipush (pc1 := 14) (v := (-2)) dX6_letPass_12 rfl (by decide) ?_
    exact Rn.ireturn dX6_letPass_14 rfl rfl ⟨_, rfl, Or.inl ⟨by rw [n]; decide, n.symm, rfl⟩⟩
  · refine Rn.iload_n (pc1 := 6)  dX6_letPass_5 rfl rfl rfl ?_
    refine Rn.cN_i (pc1 := 9) (eX8_isNumber) dX6_letPass_6 rfl nX6_80 oX8_isNumber rfl rfl (Nat.le_of_ble_eq_true rfl) (by decide) (by decide) (fun v6 μ6 h6 => ?_)
    obtain ⟨rfl, rfl⟩ := h6
    refine Rn.if_ne (pc1 := 12) 15 dX6_letPass_9 rfl (by decide) (fun c9 => ?_) (fun c9 => ?_)
    · have n0 : inB m (nI 1) (nI 999) = true := by
        have := bI_n c9
        unfold inB at this ⊢
        rw [Bool.and_eq_true] at this
        rw [decide_eq_true (i32_nlt.mp c2), this.2]; rfl
      refine Rn.aload_n (pc1 := 16)  dX6_letPass_15 rfl rfl rfl ?_
      refine Rn.getfield (pc1 := 19)  dX6_letPass_16 rfl fX6_18 (by first | assumption | exact mset_same | exact mget_ne (by omega) (by assumption)) rfl ?_
      refine Rn.iload_n (pc1 := 20)  dX6_letPass_19 rfl rfl rfl ?_
      refine Rn.iadd (pc1 := 21)  dX6_letPass_20 rfl rfl ?_
      refine Rn.ldc (pc1 := 23) dX6_letPass_21 rfl qX6_103 ?_
      refine Rn.icmp_le (pc1 := 26) 29 dX6_letPass_23 rfl (by decide) (fun c23 => ?_) (fun c23 => ?_)
      · have n : mayPassF f m = nI 0 := by unfold mayPassF; rw [if_pos n0, if_pos c23]
        refine Rn.aload_n (pc1 := 30)  dX6_letPass_29 rfl rfl rfl ?_
        refine Rn.dup (pc1 := 31)  dX6_letPass_30 rfl rfl ?_
        refine Rn.getfield (pc1 := 34)  dX6_letPass_31 rfl fX6_18 (by first | assumption | exact mset_same | exact mget_ne (by omega) (by assumption)) rfl ?_
        refine Rn.iload_n (pc1 := 35)  dX6_letPass_34 rfl rfl rfl ?_
        refine Rn.iadd (pc1 := 36)  dX6_letPass_35 rfl rfl ?_
        refine Rn.putfield (pc1 := 39)  dX6_letPass_36 rfl pX6_18 (fun h => Bool.noConfusion h) (by first | assumption | exact mset_same | exact mget_ne (by omega) (by assumption)) (Nat.le_of_ble_eq_true rfl) rfl rfl rfl ?_
        refine Rn.aload_n (pc1 := 40)  dX6_letPass_39 rfl rfl rfl ?_
        refine Rn.getfield (pc1 := 43)  dX6_letPass_40 rfl fX6_18 (by first | assumption | exact mset_same | exact mget_ne (by omega) (by assumption)) rfl ?_
        exact Rn.ireturn dX6_letPass_43 rfl rfl ⟨_, rfl, Or.inr ⟨n, rfl, F.setO _ rc sc F.1.2.1 F.1.2.2 (fun j hj => (upd_ne (by omega)).symm) rfl, Fr.set (by omega) (by omega)⟩⟩
      · have n : mayPassF f m = -4 := by unfold mayPassF; rw [if_pos n0, if_neg c23]
        refine Rn.bipush (pc1 := 28) (v := (-4)) dX6_letPass_26 rfl (by decide) ?_
        exact Rn.ireturn dX6_letPass_28 rfl rfl ⟨_, rfl, Or.inl ⟨by rw [n]; decide, n.symm, rfl⟩⟩
    · have n : mayPassF f m = -2 := by
        unfold mayPassF
        rw [show inB m (nI 1) (nI 999) = false from ?_]
        · rfl
        · have := bI_0 c9
          unfold inB at this ⊢
          rw [decide_eq_true (show nI 0 ≤ m from ?_)] at this
          · rw [Bool.true_and] at this; rw [this, Bool.and_false]
          · have := i32_nlt.mp c2
            rw [Int32.le_iff_toInt_le] at this ⊢
            rw [nI_toInt (by decide)] at this ⊢
            omega
      refine Rn.bipush (pc1 := 14) (v := (-2)) dX6_letPass_12 rfl (by decide) ?_
      exact Rn.ireturn dX6_letPass_14 rfl rfl ⟨_, rfl, Or.inl ⟨by rw [n]; decide, n.symm, rfl⟩⟩
theorem FdA.pF {B : Nat} {g0 g1 g2 g3 : Nat → Int32} {s mi : Int32} (hg : ∀ j, j < h → g0 j = f (21 + 4 * j) ∧ g1 j = f (21 + 4 * j + 1) ∧ g2 j = f (21 + 4 * j + 2) ∧ g3 j = f (21 + 4 * j + 3)) : ∀ i, i < h → goB h (f 3) s (f 1) mi g0 g1 g2 g3 i = pF f h s mi i := fun i hi => goB_congr (fun j _ h2 => hg j h2) hi
theorem eX6_thinFeed (F : SA μ a f h rc sc) (hs : nI 1 ≤ f 0) : EvA G 4 kX6_thinFeed [.ref a] μ sz 0 0 (rI fun r μ' => r = nI (h - leftF f h (f 0) (f 2)) ∧ SA μ' a (thinF f h (f 0) (f 2)) (leftF f h (f 0) (f 2)) rc sc ∧ Fr a (a + 52) μ μ') := by
  have hO : μ a = _ := F.2.1
  obtain ⟨g0, g1, g2, g3, fd1, fd2⟩ := F.2.2.2.2.1
  have fO := fd1.1
  have hh := F.1.1
  have hp := FdA.pF (B := 0) (f := f) (s := f 0) (mi := f 2) fd2
  refine EvA.of (L := [some (.ref a)]) (by decide +kernel) (Nat.le_of_ble_eq_true rfl) rfl ?_
  refine Rn.aload_n (pc1 := 1)  dX6_thinFeed_0 rfl rfl rfl ?_
  refine Rn.getfield (pc1 := 4)  dX6_thinFeed_1 rfl fX6_37 (by first | assumption | exact mset_same | exact mget_ne (by omega) (by assumption)) rfl ?_
  refine Rn.aload_n (pc1 := 5)  dX6_thinFeed_4 rfl rfl rfl ?_
  refine Rn.getfield (pc1 := 8)  dX6_thinFeed_5 rfl fX6_37 (by first | assumption | exact mset_same | exact mget_ne (by omega) (by assumption)) rfl ?_
  refine Rn.aload_n (pc1 := 9)  dX6_thinFeed_8 rfl rfl rfl ?_
  refine Rn.getfield (pc1 := 12)  dX6_thinFeed_9 rfl fX6_9 (by first | assumption | exact mset_same | exact mget_ne (by omega) (by assumption)) rfl ?_
  refine Rn.aload_n (pc1 := 13)  dX6_thinFeed_12 rfl rfl rfl ?_
  refine Rn.getfield (pc1 := 16)  dX6_thinFeed_13 rfl fX6_15 (by first | assumption | exact mset_same | exact mget_ne (by omega) (by assumption)) rfl ?_
  refine Rn.aload_n (pc1 := 17)  dX6_thinFeed_16 rfl rfl rfl ?_
  refine Rn.getfield (pc1 := 20)  dX6_thinFeed_17 rfl fX6_18 (by first | assumption | exact mset_same | exact mget_ne (by omega) (by assumption)) rfl ?_
  refine Rn.cV_i (pc1 := 23) (eX0_floorAfterThinning fd1 hh hs) dX6_thinFeed_20 rfl qX6_104 oX0_floorAfterThinning (by first | assumption | exact mset_same | exact mget_ne (by omega) (by assumption)) rfl rfl rfl rfl (Nat.le_of_ble_eq_true rfl) (by decide) (by decide) (fun v20 μ20 h20 => ?_)
  obtain ⟨rfl, rfl⟩ := h20
  refine Rn.putfield (pc1 := 26)  dX6_thinFeed_23 rfl pX6_107 (fun h => Bool.noConfusion h) (by first | assumption | exact mset_same | exact mget_ne (by omega) (by assumption)) (Nat.le_of_ble_eq_true rfl) rfl rfl rfl ?_
  have e1 : floorN (goB h (f 3) (f 0) (f 1) (f 2) g0 g1 g2 g3) (fun i => lastB g1 i h) g0 (f 4) h = floorF f h (f 0) (f 2) := floorN_congr (fun i hi => ⟨hp i hi, lastB_congr (fun j _ h2 => (fd2 j h2).2.1) hi, (fd2 i hi).1⟩)
  rw [e1]
  have B1 := fd1.setO h (f 3) (floorF f h (f 0) (f 2)) (f 5)
  have fO1 := B1.1
  have z1 : Fr (a + 3) (a + 8) μ20 _ := Fr.set (q := a + 3) (c := obj 0 [.ref (a + 3 + 1), .ref (a + 3 + 2), .ref (a + 3 + 3), .ref (a + 3 + 4), .int (nI h), .int (f 3), .int (floorF f h (f 0) (f 2)), .int (f 5)]) (by omega) (by omega)
  have hO1 := (z1 a (by omega)).trans hO
  refine Rn.aload_n (pc1 := 27)  dX6_thinFeed_26 rfl rfl rfl ?_
  refine Rn.getfield (pc1 := 30)  dX6_thinFeed_27 rfl fX6_37 (by first | assumption | exact mset_same | exact mget_ne (by omega) (by assumption)) rfl ?_
  refine Rn.aload_n (pc1 := 31)  dX6_thinFeed_30 rfl rfl rfl ?_
  refine Rn.getfield (pc1 := 34)  dX6_thinFeed_31 rfl fX6_9 (by first | assumption | exact mset_same | exact mget_ne (by omega) (by assumption)) rfl ?_
  refine Rn.aload_n (pc1 := 35)  dX6_thinFeed_34 rfl rfl rfl ?_
  refine Rn.getfield (pc1 := 38)  dX6_thinFeed_35 rfl fX6_15 (by first | assumption | exact mset_same | exact mget_ne (by omega) (by assumption)) rfl ?_
  refine Rn.aload_n (pc1 := 39)  dX6_thinFeed_38 rfl rfl rfl ?_
  refine Rn.getfield (pc1 := 42)  dX6_thinFeed_39 rfl fX6_18 (by first | assumption | exact mset_same | exact mget_ne (by omega) (by assumption)) rfl ?_
  refine Rn.cV_i (pc1 := 45) (eX0_thinOut B1 hh hs rfl) dX6_thinFeed_42 rfl qX6_110 oX0_thinOut (by first | assumption | exact mset_same | exact mget_ne (by omega) (by assumption)) rfl rfl rfl rfl (Nat.le_of_ble_eq_true rfl) (by decide) (by decide) (fun v42 μ42 h42 => ?_)
  obtain ⟨rfl, ⟨k0, k1, k2, k3, B2, hk⟩, z2⟩ := h42
  have e2 : leftN (goB h (f 3) (f 0) (f 1) (f 2) g0 g1 g2 g3) h = leftF f h (f 0) (f 2) := leftN_congr hp
  have e3 : kept (goB h (f 3) (f 0) (f 1) (f 2) g0 g1 g2 g3) h = kept (pF f h (f 0) (f 2)) h := kept_congr hp
  rw [e2] at B2 ⊢
  rw [e3] at hk
  have z := z1.trans z2
  obtain ⟨w0, w1, w2, w3, w4, w5, w6⟩ := id F
  have hle : leftF f h (f 0) (f 2) ≤ h := leftN_le _ _
  have hq : ∀ j, j ≠ 4 → j ≠ 5 → j ≠ 6 → (j < 21 ∨ 261 ≤ j) → f j = thinF f h (f 0) (f 2) j := fun j h1 h2 h3 h4 => by
    unfold thinF
    rw [if_neg h1, if_neg h2, if_neg h3, if_neg (by omega)]
  refine Rn.ireturn dX6_thinFeed_45 rfl rfl ⟨_, rfl, rfl, ⟨⟨by omega, w0.2⟩, (w1.fr z (by omega)).to ⟨hq _ (by omega) (by omega) (by omega) (by omega), hq _ (by omega) (by omega) (by omega) (by omega), hq _ (by omega) (by omega) (by omega) (by omega)⟩, w2.fr z (by omega), (w3.fr z (by omega)).to (fun j hj => hq _ (by omega) (by omega) (by omega) (by omega)), ?_, fun i hi => ((w5 i hi).fr z (by omega)).to (fun z => z) (fun hl j h1 h2 => hq j (by omega) (by omega) (by omega) (by omega)), fun n hn => ((w6 n hn).fr z (by omega)).to (fun z => z) (fun hl j h1 h2 => hq j (by omega) (by omega) (by omega) (by omega))⟩, z.wide (by omega) (by omega)⟩
  refine ⟨k0, k1, k2, k3, ?_, fun j hj => ?_⟩
  · rw [← hq 3 (by omega) (by omega) (by omega) (by omega)]
    exact B2
  · have hl := kept_len (pF f h (f 0) (f 2)) h
    have hj2 : j < (kept (pF f h (f 0) (f 2)) h).length := by rw [hl]; exact hj
    have hjq := List.getElem?_eq_getElem hj2
    have e := hk j _ hjq
    have hlt := kept_lt hjq
    obtain ⟨m0, m1, m2, m3⟩ := fd2 _ hlt
    have key : ∀ w, w < 4 → thinF f h (f 0) (f 2) (21 + 4 * j + w) = f (21 + 4 * (kept (pF f h (f 0) (f 2)) h)[j] + w) := fun w hw => by
      unfold thinF
      rw [if_neg (by omega), if_neg (by omega), if_neg (by omega), if_pos (by omega), show (21 + 4 * j + w - 21) / 4 = j by omega, show (21 + 4 * j + w - 21) % 4 = w by omega, List.getD_eq_getElem?_getD, hjq]
      rfl
    have k00 := key 0 (by omega)
    rw [Nat.add_zero, Nat.add_zero] at k00
    rw [k00, key 1 (by omega), key 2 (by omega), key 3 (by omega)]
    exact ⟨e.1.trans m0, e.2.1.trans m1, e.2.2.1.trans m2, e.2.2.2.trans m3⟩
theorem SA.rd (F : SA μ a f h rc sc) {i : Nat} (hi : i < rc) : ∃ vw cv, RA μ (a + 10 + 5 * i) (f (261 + 27 * i)) (f (261 + 27 * i + 1)) (f (261 + 27 * i + 2)) vw cv ∧ (∀ k, k < 12 → vw k = f (261 + 27 * i + 3 + k)) ∧ ∀ k, k < 12 → cv k = f (261 + 27 * i + 15 + k) := by
  obtain ⟨w0, w1, w2, w3, w4, w5, w6⟩ := F
  obtain ⟨pl, cp, rs, vw, cv, q1, q2⟩ := w5 i (by omega)
  obtain ⟨rfl, rfl, rfl, e4, e5⟩ := q2 hi
  exact ⟨vw, cv, q1, e4, e5⟩
theorem SA.sn (F : SA μ a f h rc sc) {n : Nat} (hn : n < sc) : ∃ tb, SN μ (a + 40 + 3 * n) (f (423 + 13 * n)) tb ∧ ∀ k, k < 12 → tb k = f (423 + 13 * n + 1 + k) := by
  obtain ⟨w0, w1, w2, w3, w4, w5, w6⟩ := F
  obtain ⟨nu, tb, q1, q2⟩ := w6 n (by omega)
  obtain ⟨rfl, e5⟩ := q2 hn
  exact ⟨tb, q1, e5⟩
theorem eX6_letConfirm {r : Int32} (F : SA μ a f h rc sc) : EvA G 3 kX6_letConfirm [.ref a, .int r] μ sz 0 0 (rI fun v μ' => (isRdB rc r = false ∧ v = -1 ∧ μ' = μ) ∨ (isRdB rc r = true ∧ ∃ i, i < rc ∧ r = nI i ∧ v = f (261 + 27 * i) ∧ SA μ' a (confF f i) h rc sc ∧ Fr a (a + 52) μ μ')) := by
  have hO : μ a = _ := F.2.1
  have hrc := F.1.2.1
  refine EvA.of (L := [some (.ref a), some (.int r), none]) (by decide +kernel) (Nat.le_of_ble_eq_true rfl) rfl ?_
  cases hr : isRdB rc r
  · refine Rn.aload_n (pc1 := 1)  dX6_letConfirm_0 rfl rfl rfl ?_
    refine Rn.iload_n (pc1 := 2)  dX6_letConfirm_1 rfl rfl rfl ?_
    refine Rn.cV_r (pc1 := 5) (eX6_readerAt_n F (isRdB_f (by omega) hr)) dX6_letConfirm_2 rfl qX6_62 oX6_readerAt (by first | assumption | exact mset_same | exact mget_ne (by omega) (by assumption)) rfl rfl rfl rfl (Nat.le_of_ble_eq_true rfl) (by decide) (by decide) (fun v2 μ2 h2 => ?_)
    obtain ⟨rfl, rfl⟩ := h2
    show Rn G 3 kX6_letConfirm 5 _ [.null] _ _ _ _ _
    refine Rn.astore_nN (pc1 := 6)  dX6_letConfirm_5 rfl rfl (by decide) rfl rfl ?_
    refine Rn.aload_nN (pc1 := 7)  dX6_letConfirm_6 rfl rfl rfl ?_
    refine Rn.ifnonnullN (pc1 := 10) dX6_letConfirm_7 rfl ?_
    refine Rn.iconst (pc1 := 11) (v := (-1)) dX6_letConfirm_10 rfl (by decide) ?_
    exact Rn.ireturn dX6_letConfirm_11 rfl rfl ⟨_, rfl, Or.inl ⟨rfl, rfl, rfl⟩⟩
  · obtain ⟨i, hi, rfl⟩ := isRdB_t (by omega) hr
    obtain ⟨vw, cv, R, rv, rw⟩ := F.rd hi
    have rO := R.1
    refine Rn.aload_n (pc1 := 1)  dX6_letConfirm_0 rfl rfl rfl ?_
    refine Rn.iload_n (pc1 := 2)  dX6_letConfirm_1 rfl rfl rfl ?_
    refine Rn.cV_r (pc1 := 5) (eX6_readerAt_y F rfl hi) dX6_letConfirm_2 rfl qX6_62 oX6_readerAt (by first | assumption | exact mset_same | exact mget_ne (by omega) (by assumption)) rfl rfl rfl rfl (Nat.le_of_ble_eq_true rfl) (by decide) (by decide) (fun v2 μ2 h2 => ?_)
    obtain ⟨rfl, rfl⟩ := h2
    refine Rn.astore_n (pc1 := 6) (x := a + 10 + 5 * i)  dX6_letConfirm_5 rfl rfl (by decide) rfl rfl ?_
    refine Rn.aload_n (pc1 := 7)  dX6_letConfirm_6 rfl rfl rfl ?_
    refine Rn.ifnonnull 12 dX6_letConfirm_7 (by decide) ?_
    refine Rn.aload_n (pc1 := 13)  dX6_letConfirm_12 rfl rfl rfl ?_
    refine Rn.cV_v (pc1 := 16) (eX3_keepPlace R) dX6_letConfirm_13 rfl qX6_137 oX3_keepPlace (by first | assumption | exact mset_same | exact mget_ne (by omega) (by assumption)) rfl rfl rfl rfl (Nat.le_of_ble_eq_true rfl) (by decide) (by decide) (fun μ13 h13 => ?_)
    obtain ⟨R1, z1⟩ := h13
    have rO1 := R1.1
    refine Rn.aload_n (pc1 := 17)  dX6_letConfirm_16 rfl rfl rfl ?_
    refine Rn.getfield (pc1 := 20)  dX6_letConfirm_17 rfl fX6_126 (by first | assumption | exact mset_same | exact mget_ne (by omega) (by assumption)) rfl ?_
    refine Rn.ireturn dX6_letConfirm_20 rfl rfl ⟨_, rfl, Or.inr ⟨rfl, i, hi, rfl, rfl, F.setR hi z1 R1 _ (fun j hj => ?_) ⟨?_, ?_, ?_, fun k hk => ?_, fun k hk => ?_⟩⟩⟩
    · unfold confF; rw [upd_ne (by omega), blk_out (by omega)]
    · unfold confF; rw [upd_ne (by omega), blk_out (by omega)]
    · unfold confF; rw [upd_at rfl]
    · unfold confF; rw [upd_ne (by omega), blk_out (by omega)]
    · unfold confF; rw [upd_ne (by omega), blk_out (by omega)]; exact rv k hk
    · unfold confF; rw [upd_ne (by omega), blk_in rfl hk]; exact rv k hk
theorem eX6_letGoBack {r : Int32} (F : SA μ a f h rc sc) : EvA G 3 kX6_letGoBack [.ref a, .int r] μ sz 0 0 (rI fun v μ' => (isRdB rc r = false ∧ v = -1 ∧ μ' = μ) ∨ (isRdB rc r = true ∧ ∃ i, i < rc ∧ r = nI i ∧ v = f (261 + 27 * i + 1) ∧ SA μ' a (backF f i) h rc sc ∧ Fr a (a + 52) μ μ')) := by
  have hO : μ a = _ := F.2.1
  have hrc := F.1.2.1
  refine EvA.of (L := [some (.ref a), some (.int r), none]) (by decide +kernel) (Nat.le_of_ble_eq_true rfl) rfl ?_
  cases hr : isRdB rc r
  · refine Rn.aload_n (pc1 := 1)  dX6_letGoBack_0 rfl rfl rfl ?_
    refine Rn.iload_n (pc1 := 2)  dX6_letGoBack_1 rfl rfl rfl ?_
    refine Rn.cV_r (pc1 := 5) (eX6_readerAt_n F (isRdB_f (by omega) hr)) dX6_letGoBack_2 rfl qX6_62 oX6_readerAt (by first | assumption | exact mset_same | exact mget_ne (by omega) (by assumption)) rfl rfl rfl rfl (Nat.le_of_ble_eq_true rfl) (by decide) (by decide) (fun v2 μ2 h2 => ?_)
    obtain ⟨rfl, rfl⟩ := h2
    show Rn G 3 kX6_letGoBack 5 _ [.null] _ _ _ _ _
    refine Rn.astore_nN (pc1 := 6)  dX6_letGoBack_5 rfl rfl (by decide) rfl rfl ?_
    refine Rn.aload_nN (pc1 := 7)  dX6_letGoBack_6 rfl rfl rfl ?_
    refine Rn.ifnonnullN (pc1 := 10) dX6_letGoBack_7 rfl ?_
    refine Rn.iconst (pc1 := 11) (v := (-1)) dX6_letGoBack_10 rfl (by decide) ?_
    exact Rn.ireturn dX6_letGoBack_11 rfl rfl ⟨_, rfl, Or.inl ⟨rfl, rfl, rfl⟩⟩
  · obtain ⟨i, hi, rfl⟩ := isRdB_t (by omega) hr
    obtain ⟨vw, cv, R, rv, rw⟩ := F.rd hi
    have rO := R.1
    refine Rn.aload_n (pc1 := 1)  dX6_letGoBack_0 rfl rfl rfl ?_
    refine Rn.iload_n (pc1 := 2)  dX6_letGoBack_1 rfl rfl rfl ?_
    refine Rn.cV_r (pc1 := 5) (eX6_readerAt_y F rfl hi) dX6_letGoBack_2 rfl qX6_62 oX6_readerAt (by first | assumption | exact mset_same | exact mget_ne (by omega) (by assumption)) rfl rfl rfl rfl (Nat.le_of_ble_eq_true rfl) (by decide) (by decide) (fun v2 μ2 h2 => ?_)
    obtain ⟨rfl, rfl⟩ := h2
    refine Rn.astore_n (pc1 := 6) (x := a + 10 + 5 * i)  dX6_letGoBack_5 rfl rfl (by decide) rfl rfl ?_
    refine Rn.aload_n (pc1 := 7)  dX6_letGoBack_6 rfl rfl rfl ?_
    refine Rn.ifnonnull 12 dX6_letGoBack_7 (by decide) ?_
    refine Rn.aload_n (pc1 := 13)  dX6_letGoBack_12 rfl rfl rfl ?_
    refine Rn.cV_v (pc1 := 16) (eX3_returnToConfirmed R) dX6_letGoBack_13 rfl qX6_140 oX3_returnToConfirmed (by first | assumption | exact mset_same | exact mget_ne (by omega) (by assumption)) rfl rfl rfl rfl (Nat.le_of_ble_eq_true rfl) (by decide) (by decide) (fun μ13 h13 => ?_)
    obtain ⟨R1, z1⟩ := h13
    have rO1 := R1.1
    refine Rn.aload_n (pc1 := 17)  dX6_letGoBack_16 rfl rfl rfl ?_
    refine Rn.getfield (pc1 := 20)  dX6_letGoBack_17 rfl fX6_126 (by first | assumption | exact mset_same | exact mget_ne (by omega) (by assumption)) rfl ?_
    refine Rn.ireturn dX6_letGoBack_20 rfl rfl ⟨_, rfl, Or.inr ⟨rfl, i, hi, rfl, rfl, F.setR hi z1 R1 _ (fun j hj => ?_) ⟨?_, ?_, ?_, fun k hk => ?_, fun k hk => ?_⟩⟩⟩
    · unfold backF; rw [upd_ne (by omega), blk_out (by omega)]
    · unfold backF; rw [upd_at rfl]
    · unfold backF; rw [upd_ne (by omega), blk_out (by omega)]
    · unfold backF; rw [upd_ne (by omega), blk_out (by omega)]
    · unfold backF; rw [upd_ne (by omega), blk_in rfl hk]; exact rw k hk
    · unfold backF; rw [upd_ne (by omega), blk_out (by omega)]; exact rw k hk
end OPS
end
section
section OPS2
variable {G : GG} {μ : Mm} {sz : Nat} {a h rc sc : Nat} {f : Nat → Int32}
theorem eX6_letBeginAnew {r : Int32} (F : SA μ a f h rc sc) (hnn : ∀ j, j < h → nI 0 ≤ e0 f j) : EvA G 4 kX6_letBeginAnew [.ref a, .int r] μ sz 0 0 (rI fun v μ' => (isRdB rc r = false ∧ v = -1 ∧ μ' = μ) ∨ (isRdB rc r = true ∧ ∃ i, i < rc ∧ r = nI i ∧ v = nI h ∧ SA μ' a (beginF f i (nI 0) (fun _ => -6)) h rc sc ∧ Fr a (a + 52) μ μ')) := by
  have hO : μ a = _ := F.2.1
  have hrc := F.1.2.1
  refine EvA.of (L := [some (.ref a), some (.int r), none]) (by decide +kernel) (Nat.le_of_ble_eq_true rfl) rfl ?_
  cases hr : isRdB rc r
  · refine Rn.aload_n (pc1 := 1)  dX6_letBeginAnew_0 rfl rfl rfl ?_
    refine Rn.iload_n (pc1 := 2)  dX6_letBeginAnew_1 rfl rfl rfl ?_
    refine Rn.cV_r (pc1 := 5) (eX6_readerAt_n F (isRdB_f (by omega) hr)) dX6_letBeginAnew_2 rfl qX6_62 oX6_readerAt (by first | assumption | exact mset_same | exact mget_ne (by omega) (by assumption)) rfl rfl rfl rfl (Nat.le_of_ble_eq_true rfl) (by decide) (by decide) (fun v2 μ2 h2 => ?_)
    obtain ⟨rfl, rfl⟩ := h2
    show Rn G 4 kX6_letBeginAnew 5 _ [.null] _ _ _ _ _
    refine Rn.astore_nN (pc1 := 6)  dX6_letBeginAnew_5 rfl rfl (by decide) rfl rfl ?_
    refine Rn.aload_nN (pc1 := 7)  dX6_letBeginAnew_6 rfl rfl rfl ?_
    refine Rn.ifnonnullN (pc1 := 10) dX6_letBeginAnew_7 rfl ?_
    refine Rn.iconst (pc1 := 11) (v := (-1)) dX6_letBeginAnew_10 rfl (by decide) ?_
    exact Rn.ireturn dX6_letBeginAnew_11 rfl rfl ⟨_, rfl, Or.inl ⟨rfl, rfl, rfl⟩⟩
  · obtain ⟨i, hi, rfl⟩ := isRdB_t (by omega) hr
    obtain ⟨vw, cv, R, rv, rw⟩ := F.rd hi
    have rO := R.1
    refine Rn.aload_n (pc1 := 1)  dX6_letBeginAnew_0 rfl rfl rfl ?_
    refine Rn.iload_n (pc1 := 2)  dX6_letBeginAnew_1 rfl rfl rfl ?_
    refine Rn.cV_r (pc1 := 5) (eX6_readerAt_y F rfl hi) dX6_letBeginAnew_2 rfl qX6_62 oX6_readerAt (by first | assumption | exact mset_same | exact mget_ne (by omega) (by assumption)) rfl rfl rfl rfl (Nat.le_of_ble_eq_true rfl) (by decide) (by decide) (fun v2 μ2 h2 => ?_)
    obtain ⟨rfl, rfl⟩ := h2
    refine Rn.astore_n (pc1 := 6) (x := a + 10 + 5 * i)  dX6_letBeginAnew_5 rfl rfl (by decide) rfl rfl ?_
    refine Rn.aload_n (pc1 := 7)  dX6_letBeginAnew_6 rfl rfl rfl ?_
    refine Rn.ifnonnull 12 dX6_letBeginAnew_7 (by decide) ?_
    refine Rn.aload_n (pc1 := 13)  dX6_letBeginAnew_12 rfl rfl rfl ?_
    refine Rn.cV_v (pc1 := 16) (eX3_startOver R) dX6_letBeginAnew_13 rfl qX6_120 oX3_startOver (by first | assumption | exact mset_same | exact mget_ne (by omega) (by assumption)) rfl rfl rfl rfl (Nat.le_of_ble_eq_true rfl) (by decide) (by decide) (fun μ13 h13 => ?_)
    obtain ⟨R1, z1⟩ := h13
    have rO1 := R1.1
    obtain ⟨F2, z2⟩ := F.setR hi z1 R1 (beginF f i (nI 0) (fun _ => -6)) (fun j hj => by
        unfold beginF; rw [blk_out (by omega), blk_out (by omega), upd_ne (by omega), upd_ne (by omega)])
      ⟨by unfold beginF; rw [blk_out (by omega), blk_out (by omega), upd_ne (by omega), upd_at rfl], by unfold beginF; rw [blk_out (by omega), blk_out (by omega), upd_at rfl], by unfold beginF; rw [blk_out (by omega), blk_out (by omega), upd_ne (by omega), upd_ne (by omega)], fun k hk => by unfold beginF; rw [blk_out (by omega), blk_in rfl hk], fun k hk => by unfold beginF; rw [blk_in rfl hk]⟩
    have hO2 : μ13 a = _ := F2.2.1
    obtain ⟨g0, g1, g2, g3, fd1, fd2⟩ := F2.2.2.2.2.1
    have fO := fd1.1
    refine Rn.aload_n (pc1 := 17)  dX6_letBeginAnew_16 rfl rfl rfl ?_
    refine Rn.getfield (pc1 := 20)  dX6_letBeginAnew_17 rfl fX6_37 (by first | assumption | exact mset_same | exact mget_ne (by omega) (by assumption)) rfl ?_
    refine Rn.aload_n (pc1 := 21)  dX6_letBeginAnew_20 rfl rfl rfl ?_
    refine Rn.getfield (pc1 := 24)  dX6_letBeginAnew_21 rfl fX6_126 (by first | assumption | exact mset_same | exact mget_ne (by omega) (by assumption)) rfl ?_
    refine Rn.cV_i (pc1 := 27) (eX0_aheadOf fd1 F.1.1) dX6_letBeginAnew_24 rfl qX6_143 oX0_aheadOf (by first | assumption | exact mset_same | exact mget_ne (by omega) (by assumption)) rfl rfl rfl rfl (Nat.le_of_ble_eq_true rfl) (by decide) (by decide) (fun v24 μ24 h24 => ?_)
    obtain ⟨⟨k, k1, rfl, k2, k3⟩, rfl⟩ := h24
    refine Rn.ireturn dX6_letBeginAnew_27 rfl rfl ⟨_, rfl, Or.inr ⟨rfl, i, hi, rfl, ?_, F2, z2⟩⟩
    have hk0 : k = 0 := by
      rcases Nat.eq_zero_or_pos k with q | q
      · exact q
      · have h0 := k2 0 q
        have hh := F.1.1
        rw [(fd2 0 (by omega)).1] at h0
        have h1 := hnn 0 (by omega)
        unfold beginF at h0
        rw [blk_out (by omega), blk_out (by omega), upd_ne (by omega), upd_ne (by omega)] at h0
        exact absurd h0 (i32_nlt.mpr h1)
    rw [hk0, Nat.sub_zero]
theorem eX6_letLoad {r s : Int32} (F : SA μ a f h rc sc) : EvA G 4 kX6_letLoad [.ref a, .int r, .int s] μ sz 0 0 (rI fun v μ' => (mayLoadF f rc sc r s ≠ nI 0 ∧ v = mayLoadF f rc sc r s ∧ μ' = μ) ∨ (mayLoadF f rc sc r s = nI 0 ∧ ∃ i n, i < rc ∧ n < sc ∧ r = nI i ∧ s = nI n ∧ v = f (423 + 13 * n) ∧ SA μ' a (beginF f i (f (423 + 13 * n)) (fun k => f (423 + 13 * n + 1 + k))) h rc sc ∧ Fr a (a + 52) μ μ')) := by
  have hO : μ a = _ := F.2.1
  have hrc := F.1.2.1
  have hsc := F.1.2.2
  obtain ⟨g0, g1, g2, g3, fd1, fd2⟩ := F.2.2.2.2.1
  have fO := fd1.1
  refine EvA.of (L := [some (.ref a), some (.int r), some (.int s), none, none]) (by decide +kernel) (Nat.le_of_ble_eq_true rfl) rfl ?_
  cases hr : isRdB rc r
  · have n : mayLoadF f rc sc r s = -1 := by unfold mayLoadF; rw [hr, if_neg (fun q => Bool.noConfusion q.1)]
    cases hs : isRdB sc s
    · refine Rn.aload_n (pc1 := 1)  dX6_letLoad_0 rfl rfl rfl ?_
      refine Rn.iload_n (pc1 := 2)  dX6_letLoad_1 rfl rfl rfl ?_
      refine Rn.cV_r (pc1 := 5) (eX6_readerAt_n F (isRdB_f (by omega) hr)) dX6_letLoad_2 rfl qX6_62 oX6_readerAt (by first | assumption | exact mset_same | exact mget_ne (by omega) (by assumption)) rfl rfl rfl rfl (Nat.le_of_ble_eq_true rfl) (by decide) (by decide) (fun v2 μ2 h2 => ?_)
      obtain ⟨rfl, rfl⟩ := h2
      show Rn G 4 kX6_letLoad 5 _ [.null] _ _ _ _ _
      refine Rn.astore_nN (pc1 := 6)  dX6_letLoad_5 rfl rfl (by decide) rfl rfl ?_
      refine Rn.aload_n (pc1 := 7)  dX6_letLoad_6 rfl rfl rfl ?_
      refine Rn.iload_n (pc1 := 8)  dX6_letLoad_7 rfl rfl rfl ?_
      refine Rn.cV_r (pc1 := 11) (eX6_snapshotAt_n F (isRdB_f (by omega) hs)) dX6_letLoad_8 rfl qX6_69 oX6_snapshotAt (by first | assumption | exact mset_same | exact mget_ne (by omega) (by assumption)) rfl rfl rfl rfl (Nat.le_of_ble_eq_true rfl) (by decide) (by decide) (fun v8 μ8 h8 => ?_)
      obtain ⟨rfl, rfl⟩ := h8
      show Rn G 4 kX6_letLoad 11 _ [.null] _ _ _ _ _
      refine Rn.astoreN (pc1 := 13)  dX6_letLoad_11 rfl (by decide) rfl rfl ?_
      refine Rn.aload_nN (pc1 := 14)  dX6_letLoad_13 rfl rfl rfl ?_
      refine Rn.ifnullN 22 dX6_letLoad_14 (by decide) ?_
      refine Rn.iconst (pc1 := 23) (v := (-1)) dX6_letLoad_22 rfl (by decide) ?_
      exact Rn.ireturn dX6_letLoad_23 rfl rfl ⟨_, rfl, Or.inl ⟨by rw [n]; decide, n.symm, rfl⟩⟩
    · obtain ⟨i, hi, rfl⟩ := isRdB_t (by omega) hs
      refine Rn.aload_n (pc1 := 1)  dX6_letLoad_0 rfl rfl rfl ?_
      refine Rn.iload_n (pc1 := 2)  dX6_letLoad_1 rfl rfl rfl ?_
      refine Rn.cV_r (pc1 := 5) (eX6_readerAt_n F (isRdB_f (by omega) hr)) dX6_letLoad_2 rfl qX6_62 oX6_readerAt (by first | assumption | exact mset_same | exact mget_ne (by omega) (by assumption)) rfl rfl rfl rfl (Nat.le_of_ble_eq_true rfl) (by decide) (by decide) (fun v2 μ2 h2 => ?_)
      obtain ⟨rfl, rfl⟩ := h2
      show Rn G 4 kX6_letLoad 5 _ [.null] _ _ _ _ _
      refine Rn.astore_nN (pc1 := 6)  dX6_letLoad_5 rfl rfl (by decide) rfl rfl ?_
      refine Rn.aload_n (pc1 := 7)  dX6_letLoad_6 rfl rfl rfl ?_
      refine Rn.iload_n (pc1 := 8)  dX6_letLoad_7 rfl rfl rfl ?_
      refine Rn.cV_r (pc1 := 11) (eX6_snapshotAt_y F rfl hi) dX6_letLoad_8 rfl qX6_69 oX6_snapshotAt (by first | assumption | exact mset_same | exact mget_ne (by omega) (by assumption)) rfl rfl rfl rfl (Nat.le_of_ble_eq_true rfl) (by decide) (by decide) (fun v8 μ8 h8 => ?_)
      obtain ⟨rfl, rfl⟩ := h8
      refine Rn.astore (pc1 := 13) (x := a + 40 + 3 * i)  dX6_letLoad_11 rfl (by decide) rfl rfl ?_
      refine Rn.aload_nN (pc1 := 14)  dX6_letLoad_13 rfl rfl rfl ?_
      refine Rn.ifnullN 22 dX6_letLoad_14 (by decide) ?_
      refine Rn.iconst (pc1 := 23) (v := (-1)) dX6_letLoad_22 rfl (by decide) ?_
      exact Rn.ireturn dX6_letLoad_23 rfl rfl ⟨_, rfl, Or.inl ⟨by rw [n]; decide, n.symm, rfl⟩⟩
  · obtain ⟨i, hi, rfl⟩ := isRdB_t (by omega) hr
    obtain ⟨vw, cv, R, rv, rw⟩ := F.rd hi
    have rO := R.1
    cases hs : isRdB sc s
    · have n : mayLoadF f rc sc (nI i) s = -1 := by unfold mayLoadF; rw [hs, if_neg (fun q => Bool.noConfusion q.2)]
      refine Rn.aload_n (pc1 := 1)  dX6_letLoad_0 rfl rfl rfl ?_
      refine Rn.iload_n (pc1 := 2)  dX6_letLoad_1 rfl rfl rfl ?_
      refine Rn.cV_r (pc1 := 5) (eX6_readerAt_y F rfl hi) dX6_letLoad_2 rfl qX6_62 oX6_readerAt (by first | assumption | exact mset_same | exact mget_ne (by omega) (by assumption)) rfl rfl rfl rfl (Nat.le_of_ble_eq_true rfl) (by decide) (by decide) (fun v2 μ2 h2 => ?_)
      obtain ⟨rfl, rfl⟩ := h2
      refine Rn.astore_n (pc1 := 6) (x := a + 10 + 5 * i)  dX6_letLoad_5 rfl rfl (by decide) rfl rfl ?_
      refine Rn.aload_n (pc1 := 7)  dX6_letLoad_6 rfl rfl rfl ?_
      refine Rn.iload_n (pc1 := 8)  dX6_letLoad_7 rfl rfl rfl ?_
      refine Rn.cV_r (pc1 := 11) (eX6_snapshotAt_n F (isRdB_f (by omega) hs)) dX6_letLoad_8 rfl qX6_69 oX6_snapshotAt (by first | assumption | exact mset_same | exact mget_ne (by omega) (by assumption)) rfl rfl rfl rfl (Nat.le_of_ble_eq_true rfl) (by decide) (by decide) (fun v8 μ8 h8 => ?_)
      obtain ⟨rfl, rfl⟩ := h8
      show Rn G 4 kX6_letLoad 11 _ [.null] _ _ _ _ _
      refine Rn.astoreN (pc1 := 13)  dX6_letLoad_11 rfl (by decide) rfl rfl ?_
      refine Rn.aload_n (pc1 := 14)  dX6_letLoad_13 rfl rfl rfl ?_
      refine Rn.ifnull (pc1 := 17) dX6_letLoad_14 rfl ?_
      refine Rn.aloadN (pc1 := 19)  dX6_letLoad_17 rfl rfl ?_
      refine Rn.ifnonnullN (pc1 := 22) dX6_letLoad_19 rfl ?_
      refine Rn.iconst (pc1 := 23) (v := (-1)) dX6_letLoad_22 rfl (by decide) ?_
      exact Rn.ireturn dX6_letLoad_23 rfl rfl ⟨_, rfl, Or.inl ⟨by rw [n]; decide, n.symm, rfl⟩⟩
    · obtain ⟨j, hj, rfl⟩ := isRdB_t (by omega) hs
      obtain ⟨tb, S, st⟩ := F.sn hj
      have sO := S.1
      have n0 : mayLoadF f rc sc (nI i) (nI j) = if lateB (f (423 + 13 * j)) (f 4) = true then -5 else nI 0 := by unfold mayLoadF; rw [if_pos ⟨hr, hs⟩, nI_clamp (by omega)]
      refine Rn.aload_n (pc1 := 1)  dX6_letLoad_0 rfl rfl rfl ?_
      refine Rn.iload_n (pc1 := 2)  dX6_letLoad_1 rfl rfl rfl ?_
      refine Rn.cV_r (pc1 := 5) (eX6_readerAt_y F rfl hi) dX6_letLoad_2 rfl qX6_62 oX6_readerAt (by first | assumption | exact mset_same | exact mget_ne (by omega) (by assumption)) rfl rfl rfl rfl (Nat.le_of_ble_eq_true rfl) (by decide) (by decide) (fun v2 μ2 h2 => ?_)
      obtain ⟨rfl, rfl⟩ := h2
      refine Rn.astore_n (pc1 := 6) (x := a + 10 + 5 * i)  dX6_letLoad_5 rfl rfl (by decide) rfl rfl ?_
      refine Rn.aload_n (pc1 := 7)  dX6_letLoad_6 rfl rfl rfl ?_
      refine Rn.iload_n (pc1 := 8)  dX6_letLoad_7 rfl rfl rfl ?_
      refine Rn.cV_r (pc1 := 11) (eX6_snapshotAt_y F rfl hj) dX6_letLoad_8 rfl qX6_69 oX6_snapshotAt (by first | assumption | exact mset_same | exact mget_ne (by omega) (by assumption)) rfl rfl rfl rfl (Nat.le_of_ble_eq_true rfl) (by decide) (by decide) (fun v8 μ8 h8 => ?_)
      obtain ⟨rfl, rfl⟩ := h8
      refine Rn.astore (pc1 := 13) (x := a + 40 + 3 * j)  dX6_letLoad_11 rfl (by decide) rfl rfl ?_
      refine Rn.aload_n (pc1 := 14)  dX6_letLoad_13 rfl rfl rfl ?_
      refine Rn.ifnull (pc1 := 17) dX6_letLoad_14 rfl ?_
      refine Rn.aload (pc1 := 19)  dX6_letLoad_17 rfl rfl ?_
      refine Rn.ifnonnull 24 dX6_letLoad_19 (by decide) ?_
      refine Rn.aload (pc1 := 26)  dX6_letLoad_24 rfl rfl ?_
      refine Rn.getfield (pc1 := 29)  dX6_letLoad_26 rfl fX6_116 (by first | assumption | exact mset_same | exact mget_ne (by omega) (by assumption)) rfl ?_
      refine Rn.aload_n (pc1 := 30)  dX6_letLoad_29 rfl rfl rfl ?_
      refine Rn.getfield (pc1 := 33)  dX6_letLoad_30 rfl fX6_37 (by first | assumption | exact mset_same | exact mget_ne (by omega) (by assumption)) rfl ?_
      refine Rn.getfield (pc1 := 36)  dX6_letLoad_33 rfl fX6_107 (by first | assumption | exact mset_same | exact mget_ne (by omega) (by assumption)) rfl ?_
      refine Rn.cN_i (pc1 := 39) (eX8_isLate) dX6_letLoad_36 rfl nX6_129 oX8_isLate rfl rfl (Nat.le_of_ble_eq_true rfl) (by decide) (by decide) (fun v36 μ36 h36 => ?_)
      obtain ⟨rfl, rfl⟩ := h36
      refine Rn.if_eq (pc1 := 42) 45 dX6_letLoad_39 rfl (by decide) (fun c39 => ?_) (fun c39 => ?_)
      · have n : mayLoadF f rc sc (nI i) (nI j) = nI 0 := by rw [n0, bI_0 c39]; rfl
        refine Rn.aload_n (pc1 := 46)  dX6_letLoad_45 rfl rfl rfl ?_
        refine Rn.aload (pc1 := 48)  dX6_letLoad_46 rfl rfl ?_
        refine Rn.cV_v (pc1 := 51) (eX3_takeOver R S (by omega)) dX6_letLoad_48 rfl qX6_146 oX3_takeOver (by first | assumption | exact mset_same | exact mget_ne (by omega) (by assumption)) rfl rfl rfl rfl (Nat.le_of_ble_eq_true rfl) (by decide) (by decide) (fun μ48 h48 => ?_)
        obtain ⟨R1, z1⟩ := h48
        have rO1 := R1.1
        refine Rn.aload_n (pc1 := 52)  dX6_letLoad_51 rfl rfl rfl ?_
        refine Rn.getfield (pc1 := 55)  dX6_letLoad_52 rfl fX6_126 (by first | assumption | exact mset_same | exact mget_ne (by omega) (by assumption)) rfl ?_
        refine Rn.ireturn dX6_letLoad_55 rfl rfl ⟨_, rfl, Or.inr ⟨n, i, j, hi, hj, rfl, rfl, rfl, F.setR hi z1 R1 _ (fun k hk => ?_) ⟨?_, ?_, ?_, fun k hk => ?_, fun k hk => ?_⟩⟩⟩
        · unfold beginF; rw [blk_out (by omega), blk_out (by omega), upd_ne (by omega), upd_ne (by omega)]
        · unfold beginF; rw [blk_out (by omega), blk_out (by omega), upd_ne (by omega), upd_at rfl]
        · unfold beginF; rw [blk_out (by omega), blk_out (by omega), upd_at rfl]
        · unfold beginF; rw [blk_out (by omega), blk_out (by omega), upd_ne (by omega), upd_ne (by omega)]
        · unfold beginF; rw [blk_out (by omega), blk_in rfl hk]; exact st k hk
        · unfold beginF; rw [blk_in rfl hk]; exact st k hk
      · have n : mayLoadF f rc sc (nI i) (nI j) = -5 := by rw [n0, if_pos (bI_n c39)]
        refine Rn.bipush (pc1 := 44) (v := (-5)) dX6_letLoad_42 rfl (by decide) ?_
        exact Rn.ireturn dX6_letLoad_44 rfl rfl ⟨_, rfl, Or.inl ⟨by rw [n]; decide, n.symm, rfl⟩⟩
theorem eX6_letRead {r m : Int32} (F : SA μ a f h rc sc) (hk : ∀ j, j < h → ∃ q, q < 12 ∧ e1 f j = nI q) : EvA G 4 kX6_letRead [.ref a, .int r, .int m] μ sz 0 0 (rI fun v μ' => (mayReadF f rc r m ≠ nI 0 ∧ v = mayReadF f rc r m ∧ μ' = μ) ∨ (mayReadF f rc r m = nI 0 ∧ ∃ i M k c, i < rc ∧ r = nI i ∧ m = nI M ∧ 1 ≤ M ∧ M ≤ 99 ∧ k + c ≤ h ∧ c = min M (h - k) ∧ v = nI c ∧ (∀ j, j < k → e0 f j < f (261 + 27 * i)) ∧ (k < h → f (261 + 27 * i) ≤ e0 f k) ∧ SA μ' a (readF f i k c) h rc sc ∧ Fr a (a + 52) μ μ')) := by
  have hO : μ a = _ := F.2.1
  have hrc := F.1.2.1
  have hh := F.1.1
  obtain ⟨g0, g1, g2, g3, fd1, fd2⟩ := F.2.2.2.2.1
  have fO := fd1.1
  refine EvA.of (L := [some (.ref a), some (.int r), some (.int m), none]) (by decide +kernel) (Nat.le_of_ble_eq_true rfl) rfl ?_
  cases hr : isRdB rc r
  · have n : mayReadF f rc r m = -1 := by unfold mayReadF; rw [hr]; rfl
    refine Rn.aload_n (pc1 := 1)  dX6_letRead_0 rfl rfl rfl ?_
    refine Rn.iload_n (pc1 := 2)  dX6_letRead_1 rfl rfl rfl ?_
    refine Rn.cV_r (pc1 := 5) (eX6_readerAt_n F (isRdB_f (by omega) hr)) dX6_letRead_2 rfl qX6_62 oX6_readerAt (by first | assumption | exact mset_same | exact mget_ne (by omega) (by assumption)) rfl rfl rfl rfl (Nat.le_of_ble_eq_true rfl) (by decide) (by decide) (fun v2 μ2 h2 => ?_)
    obtain ⟨rfl, rfl⟩ := h2
    show Rn G 4 kX6_letRead 5 _ [.null] _ _ _ _ _
    refine Rn.astore_nN (pc1 := 6)  dX6_letRead_5 rfl rfl (by decide) rfl rfl ?_
    refine Rn.aload_nN (pc1 := 7)  dX6_letRead_6 rfl rfl rfl ?_
    refine Rn.ifnonnullN (pc1 := 10) dX6_letRead_7 rfl ?_
    refine Rn.iconst (pc1 := 11) (v := (-1)) dX6_letRead_10 rfl (by decide) ?_
    exact Rn.ireturn dX6_letRead_11 rfl rfl ⟨_, rfl, Or.inl ⟨by rw [n]; decide, n.symm, rfl⟩⟩
  · obtain ⟨i, hi, rfl⟩ := isRdB_t (by omega) hr
    obtain ⟨vw, cv, R, rv, rw⟩ := F.rd hi
    have rO := R.1
    refine Rn.aload_n (pc1 := 1)  dX6_letRead_0 rfl rfl rfl ?_
    refine Rn.iload_n (pc1 := 2)  dX6_letRead_1 rfl rfl rfl ?_
    refine Rn.cV_r (pc1 := 5) (eX6_readerAt_y F rfl hi) dX6_letRead_2 rfl qX6_62 oX6_readerAt (by first | assumption | exact mset_same | exact mget_ne (by omega) (by assumption)) rfl rfl rfl rfl (Nat.le_of_ble_eq_true rfl) (by decide) (by decide) (fun v2 μ2 h2 => ?_)
    obtain ⟨rfl, rfl⟩ := h2
    refine Rn.astore_n (pc1 := 6) (x := a + 10 + 5 * i)  dX6_letRead_5 rfl rfl (by decide) rfl rfl ?_
    refine Rn.aload_n (pc1 := 7)  dX6_letRead_6 rfl rfl rfl ?_
    refine Rn.ifnonnull 12 dX6_letRead_7 (by decide) ?_
    refine Rn.iload_n (pc1 := 13)  dX6_letRead_12 rfl rfl rfl ?_
    refine Rn.iconst (pc1 := 14) (v := nI 1) dX6_letRead_13 rfl (by decide) ?_
    refine Rn.icmp_lt (pc1 := 17) 23 dX6_letRead_14 rfl (by decide) (fun c14 => ?_) (fun c14 => ?_)
    · have n : mayReadF f rc (nI i) m = -2 := by unfold mayReadF; rw [hr, inB_lo c14]; rfl
      refine Rn.bipush (pc1 := 25) (v := (-2)) dX6_letRead_23 rfl (by decide) ?_
      exact Rn.ireturn dX6_letRead_25 rfl rfl ⟨_, rfl, Or.inl ⟨by rw [n]; decide, n.symm, rfl⟩⟩
    · refine Rn.iload_n (pc1 := 18)  dX6_letRead_17 rfl rfl rfl ?_
      refine Rn.bipush (pc1 := 20) (v := nI 99) dX6_letRead_18 rfl (by decide) ?_
      refine Rn.icmp_le (pc1 := 23) 26 dX6_letRead_20 rfl (by decide) (fun c20 => ?_) (fun c20 => ?_)
      · have n0 : mayReadF f rc (nI i) m = if lateB (f (261 + 27 * i)) (f 4) = true then -5 else nI 0 := by unfold mayReadF; rw [if_pos hr, if_pos (inB_t c14 (i32_nlt.mpr c20)), nI_clamp (by omega)]
        have c14b : nI 0 ≤ m := by
          have := i32_nlt.mp c14
          rw [Int32.le_iff_toInt_le] at this ⊢
          rw [nI_toInt (by decide)] at this ⊢
          omega
        obtain ⟨M, hM, rfl⟩ := nI_of (x := m) (i32_nlt.mpr c14b)
        have hM1 : M ≤ 99 := (nI_leI hM (by decide)).mp c20
        have hM2 : 1 ≤ M := by rw [nI_ltI hM (by decide)] at c14; omega
        refine Rn.aload_n (pc1 := 27)  dX6_letRead_26 rfl rfl rfl ?_
        refine Rn.getfield (pc1 := 30)  dX6_letRead_27 rfl fX6_126 (by first | assumption | exact mset_same | exact mget_ne (by omega) (by assumption)) rfl ?_
        refine Rn.aload_n (pc1 := 31)  dX6_letRead_30 rfl rfl rfl ?_
        refine Rn.getfield (pc1 := 34)  dX6_letRead_31 rfl fX6_37 (by first | assumption | exact mset_same | exact mget_ne (by omega) (by assumption)) rfl ?_
        refine Rn.getfield (pc1 := 37)  dX6_letRead_34 rfl fX6_107 (by first | assumption | exact mset_same | exact mget_ne (by omega) (by assumption)) rfl ?_
        refine Rn.cN_i (pc1 := 40) (eX8_isLate) dX6_letRead_37 rfl nX6_129 oX8_isLate rfl rfl (Nat.le_of_ble_eq_true rfl) (by decide) (by decide) (fun v37 μ37 h37 => ?_)
        obtain ⟨rfl, rfl⟩ := h37
        refine Rn.if_eq (pc1 := 43) 46 dX6_letRead_40 rfl (by decide) (fun c40 => ?_) (fun c40 => ?_)
        · have n : mayReadF f rc (nI i) (nI M) = nI 0 := by rw [n0, bI_0 c40]; rfl
          refine Rn.aload_n (pc1 := 47)  dX6_letRead_46 rfl rfl rfl ?_
          refine Rn.aload_n (pc1 := 48)  dX6_letRead_47 rfl rfl rfl ?_
          refine Rn.getfield (pc1 := 51)  dX6_letRead_48 rfl fX6_37 (by first | assumption | exact mset_same | exact mget_ne (by omega) (by assumption)) rfl ?_
          refine Rn.iload_n (pc1 := 52)  dX6_letRead_51 rfl rfl rfl ?_
          refine Rn.cV_i (pc1 := 55) (eX3_readOn R fd1 hh hM1 (fun j hj => by obtain ⟨q, q1, q2⟩ := hk j hj; exact ⟨q, q1, (fd2 j hj).2.1.trans q2⟩) (by omega)) dX6_letRead_52 rfl qX6_133 oX3_readOn (by first | assumption | exact mset_same | exact mget_ne (by omega) (by assumption)) rfl rfl rfl rfl (Nat.le_of_ble_eq_true rfl) (by decide) (by decide) (fun v52 μ52 h52 => ?_)
          obtain ⟨k, c, k1, k2, rfl, k3, k4, R1, z1⟩ := h52
          refine Rn.ireturn dX6_letRead_55 rfl rfl ⟨_, rfl, Or.inr ⟨n, i, M, k, c, hi, rfl, rfl, hM2, hM1, k1, k2, rfl, fun j hj => ?_, fun hj => ?_, F.setR hi z1 R1 _ (fun k hk => ?_) ⟨?_, ?_, ?_, fun q hq => ?_, fun q hq => ?_⟩⟩⟩
          · have := k3 j hj; rw [(fd2 j (by omega)).1] at this; exact this
          · have := k4 hj; rw [(fd2 k hj).1] at this; exact this
          · unfold readF; rw [upd_ne (by omega), upd_ne (by omega), blk_out (by omega)]
          · unfold readF; rw [upd_ne (by omega), upd_at rfl]
            cases c with
            | zero => rfl
            | succ c => show g0 (k + c) + nI 1 = _; rw [(fd2 (k + c) (by omega)).1]; rfl
          · unfold readF; rw [upd_ne (by omega), upd_ne (by omega), blk_out (by omega)]
          · unfold readF; rw [upd_at rfl]
          · unfold readF; rw [upd_ne (by omega), upd_ne (by omega), blk_in rfl hq]
            exact vwN_congr (h := h) (fun j hj => (fd2 j hj).2.1) (fun j hj => (fd2 j hj).2.2.1) rv c k1 q hq
          · unfold readF; rw [upd_ne (by omega), upd_ne (by omega), blk_out (by omega)]; exact rw q hq
        · have n : mayReadF f rc (nI i) (nI M) = -5 := by rw [n0, if_pos (bI_n c40)]
          refine Rn.bipush (pc1 := 45) (v := (-5)) dX6_letRead_43 rfl (by decide) ?_
          exact Rn.ireturn dX6_letRead_45 rfl rfl ⟨_, rfl, Or.inl ⟨by rw [n]; decide, n.symm, rfl⟩⟩
      · have n : mayReadF f rc (nI i) m = -2 := by unfold mayReadF; rw [hr, inB_hi (i32_nle.mp c20)]; rfl
        refine Rn.bipush (pc1 := 25) (v := (-2)) dX6_letRead_23 rfl (by decide) ?_
        exact Rn.ireturn dX6_letRead_25 rfl rfl ⟨_, rfl, Or.inl ⟨by rw [n]; decide, n.symm, rfl⟩⟩
theorem eX6_addReader (F : SA μ a f h rc sc) : EvA G 4 kX6_addReader [.ref a] μ sz 0 0 (rI fun v μ' => (rc = 6 ∧ v = -4 ∧ μ' = μ) ∨ (rc < 6 ∧ v = nI rc ∧ SA μ' a (comeF f rc) h (rc + 1) sc ∧ Fr a (a + 52) μ μ')) := by
  have hO : μ a = _ := F.2.1
  have hrc := F.1.2.1
  refine EvA.of (L := [some (.ref a), none, none]) (by decide +kernel) (Nat.le_of_ble_eq_true rfl) rfl ?_
  refine Rn.aload_n (pc1 := 1)  dX6_addReader_0 rfl rfl rfl ?_
  refine Rn.getfield (pc1 := 4)  dX6_addReader_1 rfl fX6_21 (by first | assumption | exact mset_same | exact mget_ne (by omega) (by assumption)) rfl ?_
  refine Rn.bipush (pc1 := 6) (v := nI 6) dX6_addReader_4 rfl (by decide) ?_
  refine Rn.icmp_lt (pc1 := 9) 12 dX6_addReader_6 rfl (by decide) (fun c6 => ?_) (fun c6 => ?_)
  · have n : rc < 6 := by rw [nI_ltI (by omega) (by decide)] at c6; exact c6
    refine Rn.aload_n (pc1 := 13)  dX6_addReader_12 rfl rfl rfl ?_
    refine Rn.getfield (pc1 := 16)  dX6_addReader_13 rfl fX6_21 (by first | assumption | exact mset_same | exact mget_ne (by omega) (by assumption)) rfl ?_
    refine Rn.istore_n (pc1 := 17)  dX6_addReader_16 rfl rfl (by decide) rfl rfl ?_
    refine Rn.aload_n (pc1 := 18)  dX6_addReader_17 rfl rfl rfl ?_
    refine Rn.dup (pc1 := 19)  dX6_addReader_18 rfl rfl ?_
    refine Rn.getfield (pc1 := 22)  dX6_addReader_19 rfl fX6_21 (by first | assumption | exact mset_same | exact mget_ne (by omega) (by assumption)) rfl ?_
    refine Rn.iconst (pc1 := 23) (v := nI 1) dX6_addReader_22 rfl (by decide) ?_
    refine Rn.iadd (pc1 := 24)  dX6_addReader_23 rfl (nI_add rc 1) ?_
    refine Rn.putfield (pc1 := 27)  dX6_addReader_24 rfl pX6_21 (fun h => Bool.noConfusion h) (by first | assumption | exact mset_same | exact mget_ne (by omega) (by assumption)) (Nat.le_of_ble_eq_true rfl) rfl rfl rfl ?_
    have F1 : SAg _ a f h (rc + 1) sc rc sc := F.setO (c := obj 6 [.int (f 0), .int (f 1), .int (f 2), .int (nI (rc + 1)), .int (nI sc), .ref (a + 1), .ref (a + 3), .ref (a + 8), .ref (a + 9)]) f (rc + 1) sc (by omega) F.1.2.2 (fun j hj => rfl) rfl
    have z1 : Fr a (a + 1) μ (mset μ a (obj 6 [.int (f 0), .int (f 1), .int (f 2), .int (nI (rc + 1)), .int (nI sc), .ref (a + 1), .ref (a + 3), .ref (a + 8), .ref (a + 9)])) := Fr.set (by omega) (by omega)
    show Rn G 4 kX6_addReader 27 _ _ (mset μ a (obj 6 [.int (f 0), .int (f 1), .int (f 2), .int (nI (rc + 1)), .int (nI sc), .ref (a + 1), .ref (a + 3), .ref (a + 8), .ref (a + 9)])) _ _ _ _
    generalize (mset μ a (obj 6 [.int (f 0), .int (f 1), .int (f 2), .int (nI (rc + 1)), .int (nI sc), .ref (a + 1), .ref (a + 3), .ref (a + 8), .ref (a + 9)])) = μ1 at F1 z1 ⊢
    obtain ⟨w0, w1, w2, w3, w4, w5, w6⟩ := id F1
    obtain ⟨pl, cp, rs, vw, cv, R, -⟩ := w5 rc n
    have rO := R.1
    refine Rn.aload_n (pc1 := 28)  dX6_addReader_27 rfl rfl rfl ?_
    refine Rn.iload_n (pc1 := 29)  dX6_addReader_28 rfl rfl rfl ?_
    refine Rn.cV_r (pc1 := 32) (eX6_readerAt_y F1 rfl (show rc < rc + 1 by omega)) dX6_addReader_29 rfl qX6_62 oX6_readerAt (by first | assumption | exact mset_same | exact mget_ne (by omega) (by assumption)) rfl rfl rfl rfl (Nat.le_of_ble_eq_true rfl) (by decide) (by decide) (fun v29 μ29 h29 => ?_)
    obtain ⟨rfl, rfl⟩ := h29
    refine Rn.astore_n (pc1 := 33) (x := a + 10 + 5 * rc)  dX6_addReader_32 rfl rfl (by decide) rfl rfl ?_
    refine Rn.aload_n (pc1 := 34)  dX6_addReader_33 rfl rfl rfl ?_
    refine Rn.ifnull (pc1 := 37) dX6_addReader_34 rfl ?_
    refine Rn.aload_n (pc1 := 38)  dX6_addReader_37 rfl rfl rfl ?_
    refine Rn.cV_v (pc1 := 41) (eX3_startOver R) dX6_addReader_38 rfl qX6_120 oX3_startOver (by first | assumption | exact mset_same | exact mget_ne (by omega) (by assumption)) rfl rfl rfl rfl (Nat.le_of_ble_eq_true rfl) (by decide) (by decide) (fun μ38 h38 => ?_)
    obtain ⟨R1, z2⟩ := h38
    have rO1 := R1.1
    refine Rn.aload_n (pc1 := 42)  dX6_addReader_41 rfl rfl rfl ?_
    refine Rn.iconst (pc1 := 43) (v := nI 0) dX6_addReader_42 rfl (by decide) ?_
    refine Rn.putfield (pc1 := 46)  dX6_addReader_43 rfl pX6_123 (fun h => Bool.noConfusion h) (by assumption) (Nat.le_of_ble_eq_true rfl) rfl rfl rfl ?_
    have R2 := R1.setO (nI 0) (nI 0) (nI 0)
    have z3 := z2.set_ (q := a + 10 + 5 * rc) (c := obj 3 [.int (nI 0), .int (nI 0), .int (nI 0), .ref (a + 10 + 5 * rc + 1), .ref (a + 10 + 5 * rc + 3)]) (by omega) (by omega)
    have hq : ∀ j, j ≠ 7 → (j < 261 + 27 * rc ∨ 261 + 27 * rc + 27 ≤ j) → f j = comeF f rc j := fun j h1 h2 => by
      unfold comeF beginF
      rw [upd_ne (by omega), blk_out (by omega), blk_out (by omega), upd_ne (by omega), upd_ne (by omega), upd_ne (by omega)]
    refine Rn.iload_n (pc1 := 47)  dX6_addReader_46 rfl rfl rfl ?_
    refine Rn.ireturn dX6_addReader_47 rfl rfl ⟨_, rfl, Or.inr ⟨n, rfl, ⟨w0, (w1.fr z3 (by omega)).to ⟨hq _ (by omega) (by omega), hq _ (by omega) (by omega), hq _ (by omega) (by omega)⟩, w2.fr z3 (by omega), (w3.fr z3 (by omega)).to (fun j _ => hq _ (by omega) (by omega)), (w4.fr z3 (by omega)).to ⟨hq _ (by omega) (by omega), hq _ (by omega) (by omega), hq _ (by omega) (by omega)⟩ (fun j h1 _ => hq _ (by omega) (by omega)), fun k hk => ?_, fun n hn => ((w6 n hn).fr z3 (by omega)).to (fun z => z) (fun hl j h1 h2 => hq _ (by omega) (by omega))⟩, (z1.wide (by omega) (by omega)).trans (z3.wide (by omega) (by omega))⟩⟩
    by_cases e : k = rc
    · subst e
      refine ⟨_, _, _, _, _, R2, fun _ => ⟨?_, ?_, ?_, fun q hq => ?_, fun q hq => ?_⟩⟩
      · unfold comeF beginF; rw [upd_ne (by omega), blk_out (by omega), blk_out (by omega), upd_ne (by omega), upd_at rfl]
      · unfold comeF beginF; rw [upd_ne (by omega), blk_out (by omega), blk_out (by omega), upd_at rfl]
      · unfold comeF beginF; rw [upd_ne (by omega), blk_out (by omega), blk_out (by omega), upd_ne (by omega), upd_ne (by omega), upd_at rfl]
      · unfold comeF beginF; rw [upd_ne (by omega), blk_out (by omega), blk_in rfl hq]
      · unfold comeF beginF; rw [upd_ne (by omega), blk_in rfl hq]
    · exact ((w5 k hk).fr z3 (by omega)).to (fun z => by omega) (fun hl j h1 h2 => hq _ (by omega) (by omega))
  · have n : rc = 6 := by rw [nI_ltI (by omega) (by decide)] at c6; omega
    refine Rn.bipush (pc1 := 11) (v := (-4)) dX6_addReader_9 rfl (by decide) ?_
    exact Rn.ireturn dX6_addReader_11 rfl rfl ⟨_, rfl, Or.inl ⟨n, rfl, rfl⟩⟩
end OPS2
end
section
section OPS3M
variable {f : Nat → Int32} {h : Nat}
def SrtF (f : Nat → Int32) (h : Nat) : Prop := ∀ i j, i < j → j < h → e0 f i < e0 f j
def cntA (f : Nat → Int32) (pl : Int32) : Nat → Nat
  | 0 => 0
  | n + 1 => cntA f pl n + if pl ≤ e0 f n then 1 else 0
theorem cntA_low {pl : Int32} : ∀ {n : Nat}, (∀ j, j < n → e0 f j < pl) → cntA f pl n = 0
  | 0, _ => rfl
  | n + 1, q => by
    show _ + _ = 0
    rw [cntA_low (fun j hj => q j (by omega)), if_neg (fun z => i32_nlt.mpr z (q n (by omega)))]
theorem i32_lt_trans {x y z : Int32} (h1 : x ≤ y) (h2 : y < z) : x ≤ z := by
  rw [Int32.le_iff_toInt_le] at h1 ⊢; rw [Int32.lt_iff_toInt_lt] at h2; omega
theorem cntA_eq {pl : Int32} {k : Nat} (hs : SrtF f h) (k2 : ∀ j, j < k → e0 f j < pl) (k3 : k < h → pl ≤ e0 f k) : ∀ {n : Nat}, n ≤ h → cntA f pl n = n - k
  | 0, _ => by rw [Nat.zero_sub]; rfl
  | n + 1, hn => by
    show _ + _ = _
    rw [cntA_eq hs k2 k3 (by omega)]
    by_cases q : n < k
    · rw [if_neg (fun z => i32_nlt.mpr z (k2 n q))]; omega
    · have : pl ≤ e0 f n := by
        by_cases e : n = k
        · rw [e]; exact k3 (by omega)
        · exact i32_lt_trans (k3 (by omega)) (hs k n (by omega) (by omega))
      rw [if_pos this]; omega
def lateN (f : Nat → Int32) (fl : Int32) : Nat → Int32
  | 0 => nI 0
  | n + 1 => if lateB (f (261 + 27 * n)) fl = true then lateN f fl n ||| (nI 1 <<< (nI n &&& 31)) else lateN f fl n
def auF (f : Nat → Int32) (h : Nat) (pl : Int32) : Int32 := if lateB pl (f 4) = true then -6 else nI (cntA f pl h)
def wayF (f : Nat → Int32) (h sc i w : Nat) : Int32 := if w = 5 then nI h else if w = 0 then auF f h (f (261 + 27 * i)) else if w - 1 < sc then auF f h (f (423 + 13 * (w - 1))) else -6
def shN (f : Nat → Int32) (h sc i : Nat) : Nat → Nat × Int32
  | 0 => (5, nI h)
  | n + 1 => if ¬ wayF f h sc i (4 - n) = -6 ∧ wayF f h sc i (4 - n) ≤ (shN f h sc i n).2 then (4 - n, wayF f h sc i (4 - n)) else shN f h sc i n
theorem shN_ok (f : Nat → Int32) (h sc i : Nat) : ∀ n, wayF f h sc i (shN f h sc i n).1 = (shN f h sc i n).2 ∧ (shN f h sc i n).1 ≤ 5
  | 0 => ⟨rfl, Nat.le_refl 5⟩
  | n + 1 => by
    unfold shN
    split
    · exact ⟨rfl, by omega⟩
    · exact shN_ok f h sc i n
end OPS3M
section OPS3
variable {G : GG} {μ : Mm} {sz : Nat} {a h rc sc : Nat} {f : Nat → Int32}
theorem eS_ahead {pl : Int32} (F : SA μ a f h rc sc) (hs : SrtF f h) : EvA G 2 kX0_aheadOf [.ref (a + 3), .int pl] μ sz 0 0 (rI fun v μ' => v = nI (cntA f pl h) ∧ μ' = μ) := by
  obtain ⟨g0, g1, g2, g3, fd1, fd2⟩ := F.2.2.2.2.1
  refine (eX0_aheadOf (pl := pl) fd1 F.1.1).imp ?_
  rintro r μ' ⟨v, rfl, ⟨k, k1, rfl, k2, k3⟩, rfl⟩
  refine ⟨_, rfl, ?_, rfl⟩
  rw [cntA_eq hs (k := k) (fun j hj => by have := k2 j hj; rw [(fd2 j (by omega)).1] at this; exact this) (fun hj => by have := k3 hj; rw [(fd2 k hj).1] at this; exact this) (Nat.le_refl h)]
theorem eX6_aheadUnlessLate {pl : Int32} (F : SA μ a f h rc sc) (hs : SrtF f h) : EvA G 3 kX6_aheadUnlessLate [.ref a, .int pl] μ sz 0 0 (rI fun v μ' => v = auF f h pl ∧ μ' = μ) := by
  have hO : μ a = _ := F.2.1
  obtain ⟨g0, g1, g2, g3, fd1, fd2⟩ := id F.2.2.2.2.1
  have fO := fd1.1
  refine EvA.of (L := [some (.ref a), some (.int pl)]) (by decide +kernel) (Nat.le_of_ble_eq_true rfl) rfl ?_
  refine Rn.iload_n (pc1 := 1)  dX6_aheadUnlessLate_0 rfl rfl rfl ?_
  refine Rn.aload_n (pc1 := 2)  dX6_aheadUnlessLate_1 rfl rfl rfl ?_
  refine Rn.getfield (pc1 := 5)  dX6_aheadUnlessLate_2 rfl fX6_37 (by first | assumption | exact mset_same | exact mget_ne (by omega) (by assumption)) rfl ?_
  refine Rn.getfield (pc1 := 8)  dX6_aheadUnlessLate_5 rfl fX6_107 (by first | assumption | exact mset_same | exact mget_ne (by omega) (by assumption)) rfl ?_
  refine Rn.cN_i (pc1 := 11) (eX8_isLate) dX6_aheadUnlessLate_8 rfl nX6_129 oX8_isLate rfl rfl (Nat.le_of_ble_eq_true rfl) (by decide) (by decide) (fun v8 μ8 h8 => ?_)
  obtain ⟨rfl, rfl⟩ := h8
  refine Rn.if_eq (pc1 := 14) 19 dX6_aheadUnlessLate_11 rfl (by decide) (fun c11 => ?_) (fun c11 => ?_)
  · have n : auF f h pl = nI (cntA f pl h) := if_neg (by rw [bI_0 c11]; decide)
    refine Rn.aload_n (pc1 := 20)  dX6_aheadUnlessLate_19 rfl rfl rfl ?_
    refine Rn.getfield (pc1 := 23)  dX6_aheadUnlessLate_20 rfl fX6_37 (by first | assumption | exact mset_same | exact mget_ne (by omega) (by assumption)) rfl ?_
    refine Rn.iload_n (pc1 := 24)  dX6_aheadUnlessLate_23 rfl rfl rfl ?_
    refine Rn.cV_i (pc1 := 27) (eS_ahead F hs) dX6_aheadUnlessLate_24 rfl qX6_143 oX0_aheadOf (by first | assumption | exact mset_same | exact mget_ne (by omega) (by assumption)) rfl rfl rfl rfl (Nat.le_of_ble_eq_true rfl) (by decide) (by decide) (fun v24 μ24 h24 => ?_)
    obtain ⟨rfl, rfl⟩ := h24
    exact Rn.ireturn dX6_aheadUnlessLate_27 rfl rfl ⟨_, rfl, n.symm, rfl⟩
  · have n : auF f h pl = -6 := if_pos (bI_n c11)
    refine Rn.bipush (pc1 := 16) (v := (-6)) dX6_aheadUnlessLate_14 rfl (by decide) ?_
    refine Rn.goto 27 dX6_aheadUnlessLate_16 (by decide) ?_
    exact Rn.ireturn dX6_aheadUnlessLate_27 rfl rfl ⟨_, rfl, n.symm, rfl⟩
theorem eX6_entriesOnWay {i w : Nat} (F : SA μ a f h rc sc) (hs : SrtF f h) (hi : i < rc) (hw : w ≤ 5) : EvA G 4 kX6_entriesOnWay [.ref a, .ref (a + 10 + 5 * i), .int (nI w)] μ sz 0 0 (rI fun v μ' => v = wayF f h sc i w ∧ μ' = μ) := by
  have hO : μ a = _ := F.2.1
  obtain ⟨g0, g1, g2, g3, fd1, fd2⟩ := id F.2.2.2.2.1
  have fO := fd1.1
  have hsc := F.1.2.2
  obtain ⟨vw, cv, R, rv, rw⟩ := F.rd hi
  have rO := R.1
  refine EvA.of (L := [some (.ref a), some (.ref (a + 10 + 5 * i)), some (.int (nI w)), none]) (by decide +kernel) (Nat.le_of_ble_eq_true rfl) rfl ?_
  refine Rn.iload_n (pc1 := 1)  dX6_entriesOnWay_0 rfl rfl rfl ?_
  refine Rn.iconst (pc1 := 2) (v := nI 5) dX6_entriesOnWay_1 rfl (by decide) ?_
  refine Rn.icmp_ne (pc1 := 5) 13 dX6_entriesOnWay_2 rfl (by decide) (fun c2 => ?_) (fun c2 => ?_)
  · rw [nI_eq (by omega) (by decide)] at c2
    refine Rn.iload_n (pc1 := 14)  dX6_entriesOnWay_13 rfl rfl rfl ?_
    refine Rn.if_ne (pc1 := 17) 26 dX6_entriesOnWay_14 rfl (by decide) (fun c14 => ?_) (fun c14 => ?_)
    · rw [nI_eq (by omega) (by decide)] at c14
      refine Rn.aload_n (pc1 := 27)  dX6_entriesOnWay_26 rfl rfl rfl ?_
      refine Rn.iload_n (pc1 := 28)  dX6_entriesOnWay_27 rfl rfl rfl ?_
      refine Rn.iconst (pc1 := 29) (v := nI 1) dX6_entriesOnWay_28 rfl (by decide) ?_
      refine Rn.isub (pc1 := 30)  dX6_entriesOnWay_29 rfl (nI_sub (show 1 ≤ w by omega)) ?_
      have n : wayF f h sc i w = if w - 1 < sc then auF f h (f (423 + 13 * (w - 1))) else -6 := by unfold wayF; rw [if_neg c2, if_neg c14]
      by_cases hq : w - 1 < sc
      · obtain ⟨tb, S, st⟩ := F.sn hq
        have sO := S.1
        rw [if_pos hq] at n
        refine Rn.cV_r (pc1 := 33) (eX6_snapshotAt_y F rfl hq) dX6_entriesOnWay_30 rfl qX6_69 oX6_snapshotAt (by first | assumption | exact mset_same | exact mget_ne (by omega) (by assumption)) rfl rfl rfl rfl (Nat.le_of_ble_eq_true rfl) (by decide) (by decide) (fun v30 μ30 h30 => ?_)
        obtain ⟨rfl, rfl⟩ := h30
        refine Rn.astore_n (pc1 := 34) (x := a + 40 + 3 * (w - 1))  dX6_entriesOnWay_33 rfl rfl (by decide) rfl rfl ?_
        refine Rn.aload_n (pc1 := 35)  dX6_entriesOnWay_34 rfl rfl rfl ?_
        refine Rn.ifnonnull 43 dX6_entriesOnWay_35 (by decide) ?_
        refine Rn.aload_n (pc1 := 44)  dX6_entriesOnWay_43 rfl rfl rfl ?_
        refine Rn.aload_n (pc1 := 45)  dX6_entriesOnWay_44 rfl rfl rfl ?_
        refine Rn.getfield (pc1 := 48)  dX6_entriesOnWay_45 rfl fX6_116 (by first | assumption | exact mset_same | exact mget_ne (by omega) (by assumption)) rfl ?_
        refine Rn.cV_i (pc1 := 51) (eX6_aheadUnlessLate F hs) dX6_entriesOnWay_48 rfl qX6_152 oX6_aheadUnlessLate (by first | assumption | exact mset_same | exact mget_ne (by omega) (by assumption)) rfl rfl rfl rfl (Nat.le_of_ble_eq_true rfl) (by decide) (by decide) (fun v48 μ48 h48 => ?_)
        obtain ⟨rfl, rfl⟩ := h48
        exact Rn.ireturn dX6_entriesOnWay_51 rfl rfl ⟨_, rfl, n.symm, rfl⟩
      · rw [if_neg hq] at n
        refine Rn.cV_r (pc1 := 33) (eX6_snapshotAt_n F (fun j hj e => by rw [nI_eq (by omega) (by omega)] at e; omega)) dX6_entriesOnWay_30 rfl qX6_69 oX6_snapshotAt (by first | assumption | exact mset_same | exact mget_ne (by omega) (by assumption)) rfl rfl rfl rfl (Nat.le_of_ble_eq_true rfl) (by decide) (by decide) (fun v30 μ30 h30 => ?_)
        obtain ⟨rfl, rfl⟩ := h30
        show Rn G 4 kX6_entriesOnWay 33 _ [.null] _ _ _ _ _
        refine Rn.astore_nN (pc1 := 34)  dX6_entriesOnWay_33 rfl rfl (by decide) rfl rfl ?_
        refine Rn.aload_nN (pc1 := 35)  dX6_entriesOnWay_34 rfl rfl rfl ?_
        refine Rn.ifnonnullN (pc1 := 38) dX6_entriesOnWay_35 rfl ?_
        refine Rn.bipush (pc1 := 40) (v := (-6)) dX6_entriesOnWay_38 rfl (by decide) ?_
        refine Rn.goto 51 dX6_entriesOnWay_40 (by decide) ?_
        exact Rn.ireturn dX6_entriesOnWay_51 rfl rfl ⟨_, rfl, n.symm, rfl⟩
    · rw [nI_eq (by omega) (by decide)] at c14
      subst c14
      refine Rn.aload_n (pc1 := 18)  dX6_entriesOnWay_17 rfl rfl rfl ?_
      refine Rn.aload_n (pc1 := 19)  dX6_entriesOnWay_18 rfl rfl rfl ?_
      refine Rn.getfield (pc1 := 22)  dX6_entriesOnWay_19 rfl fX6_126 (by first | assumption | exact mset_same | exact mget_ne (by omega) (by assumption)) rfl ?_
      refine Rn.cV_i (pc1 := 25) (eX6_aheadUnlessLate F hs) dX6_entriesOnWay_22 rfl qX6_152 oX6_aheadUnlessLate (by first | assumption | exact mset_same | exact mget_ne (by omega) (by assumption)) rfl rfl rfl rfl (Nat.le_of_ble_eq_true rfl) (by decide) (by decide) (fun v22 μ22 h22 => ?_)
      obtain ⟨rfl, rfl⟩ := h22
      exact Rn.ireturn dX6_entriesOnWay_25 rfl rfl ⟨_, rfl, rfl, rfl⟩
  · rw [nI_eq (by omega) (by decide)] at c2
    subst c2
    refine Rn.aload_n (pc1 := 6)  dX6_entriesOnWay_5 rfl rfl rfl ?_
    refine Rn.getfield (pc1 := 9)  dX6_entriesOnWay_6 rfl fX6_37 (by first | assumption | exact mset_same | exact mget_ne (by omega) (by assumption)) rfl ?_
    refine Rn.getfield (pc1 := 12)  dX6_entriesOnWay_9 rfl fX6_149 (by first | assumption | exact mset_same | exact mget_ne (by omega) (by assumption)) rfl ?_
    exact Rn.ireturn dX6_entriesOnWay_12 rfl rfl ⟨_, rfl, rfl, rfl⟩
theorem lX6_shortestWay {i : Nat} (F : SA μ a f h rc sc) (hs : SrtF f h) (hi : i < rc) : ∀ (m n : Nat), n + m = 5 → ∀ (o5 : Option Value), Rn G 5 kX6_shortestWay 12 [some (.ref a), some (.ref (a + 10 + 5 * i)), some (.int (nI (shN f h sc i n).1)), some (.int (shN f h sc i n).2), some (.int (nI 4 - nI n)), o5] [] μ sz 0 0 (rI fun v μ' => v = nI (shN f h sc i 5).1 ∧ μ' = μ) := by
  have hO : μ a = _ := F.2.1
  intro m
  induction m with
  | zero =>
    intro n hn o5
    obtain rfl : n = 5 := by omega
    refine Rn.iload (pc1 := 14)  dX6_shortestWay_12 rfl rfl ?_
    refine Rn.if_lt (pc1 := 17) 51 dX6_shortestWay_14 rfl (by decide) (fun c14 => ?_) (fun c14 => ?_)
    · refine Rn.iload_n (pc1 := 52)  dX6_shortestWay_51 rfl rfl rfl ?_
      exact Rn.ireturn dX6_shortestWay_52 rfl rfl ⟨_, rfl, rfl, rfl⟩
    · exact absurd (show nI 4 - nI 5 < nI 0 by decide) c14
  | succ m ih =>
    intro n hn o5
    rw [nI_sub (show n ≤ 4 by omega)]
    generalize hx : shN f h sc i n = x
    refine Rn.iload (pc1 := 14)  dX6_shortestWay_12 rfl rfl ?_
    refine Rn.if_lt (pc1 := 17) 51 dX6_shortestWay_14 rfl (by decide) (fun c14 => ?_) (fun c14 => ?_)
    · exact absurd c14 (nI_nlt (Nat.zero_le _) (by omega))
    · refine Rn.aload_n (pc1 := 18)  dX6_shortestWay_17 rfl rfl rfl ?_
      refine Rn.aload_n (pc1 := 19)  dX6_shortestWay_18 rfl rfl rfl ?_
      refine Rn.iload (pc1 := 21)  dX6_shortestWay_19 rfl rfl ?_
      refine Rn.cV_i (pc1 := 24) (eX6_entriesOnWay F hs hi (show 4 - n ≤ 5 by omega)) dX6_shortestWay_21 rfl qX6_155 oX6_entriesOnWay (by first | assumption | exact mset_same | exact mget_ne (by omega) (by assumption)) rfl rfl rfl rfl (Nat.le_of_ble_eq_true rfl) (by decide) (by decide) (fun v21 μ21 h21 => ?_)
      obtain ⟨rfl, rfl⟩ := h21
      refine Rn.istore (pc1 := 26)  dX6_shortestWay_24 rfl (by decide) rfl rfl ?_
      refine Rn.iload (pc1 := 28)  dX6_shortestWay_26 rfl rfl ?_
      refine Rn.bipush (pc1 := 30) (v := (-6)) dX6_shortestWay_28 rfl (by decide) ?_
      refine Rn.icmp_eq (pc1 := 33) 45 dX6_shortestWay_30 rfl (by decide) (fun c30 => ?_) (fun c30 => ?_)
      · have e : shN f h sc i (n + 1) = x := by unfold shN; rw [if_neg (fun q => q.1 c30), hx]
        refine Rn.iinc (pc1 := 48) (v := nI 4 - nI (n + 1))  dX6_shortestWay_45 rfl rfl (by rw [← nI_sub (show n ≤ 4 by omega), show Int32.ofInt (-1) = - nI 1 from by decide, ← nI_add, Int32.sub_eq_add_neg, Int32.sub_eq_add_neg, Int32.neg_add, Int32.add_assoc, Int32.sub_eq_add_neg]) (by decide) rfl rfl ?_
        refine Rn.goto 12 dX6_shortestWay_48 (by decide) ?_
        have := ih (n + 1) (by omega); rw [e] at this; exact this _
      · refine Rn.iload (pc1 := 35)  dX6_shortestWay_33 rfl rfl ?_
        refine Rn.iload_n (pc1 := 36)  dX6_shortestWay_35 rfl rfl rfl ?_
        refine Rn.icmp_gt (pc1 := 39) 45 dX6_shortestWay_36 rfl (by decide) (fun c36 => ?_) (fun c36 => ?_)
        · have e : shN f h sc i (n + 1) = x := by unfold shN; rw [if_neg (fun q => i32_nle.mpr c36 (by rw [← hx]; exact q.2)), hx]
          refine Rn.iinc (pc1 := 48) (v := nI 4 - nI (n + 1))  dX6_shortestWay_45 rfl rfl (by rw [← nI_sub (show n ≤ 4 by omega), show Int32.ofInt (-1) = - nI 1 from by decide, ← nI_add, Int32.sub_eq_add_neg, Int32.sub_eq_add_neg, Int32.neg_add, Int32.add_assoc, Int32.sub_eq_add_neg]) (by decide) rfl rfl ?_
          refine Rn.goto 12 dX6_shortestWay_48 (by decide) ?_
          have := ih (n + 1) (by omega); rw [e] at this; exact this _
        · have e : shN f h sc i (n + 1) = (4 - n, wayF f h sc i (4 - n)) := by unfold shN; rw [if_pos ⟨c30, by rw [hx]; exact i32_nlt.mp c36⟩]
          refine Rn.iload (pc1 := 41)  dX6_shortestWay_39 rfl rfl ?_
          refine Rn.istore_n (pc1 := 42)  dX6_shortestWay_41 rfl rfl (by decide) rfl rfl ?_
          refine Rn.iload (pc1 := 44)  dX6_shortestWay_42 rfl rfl ?_
          refine Rn.istore_n (pc1 := 45)  dX6_shortestWay_44 rfl rfl (by decide) rfl rfl ?_
          refine Rn.iinc (pc1 := 48) (v := nI 4 - nI (n + 1))  dX6_shortestWay_45 rfl rfl (by rw [← nI_sub (show n ≤ 4 by omega), show Int32.ofInt (-1) = - nI 1 from by decide, ← nI_add, Int32.sub_eq_add_neg, Int32.sub_eq_add_neg, Int32.neg_add, Int32.add_assoc, Int32.sub_eq_add_neg]) (by decide) rfl rfl ?_
          refine Rn.goto 12 dX6_shortestWay_48 (by decide) ?_
          have := ih (n + 1) (by omega); rw [e] at this; exact this _
theorem eX6_shortestWay {i : Nat} (F : SA μ a f h rc sc) (hs : SrtF f h) (hi : i < rc) : EvA G 5 kX6_shortestWay [.ref a, .ref (a + 10 + 5 * i)] μ sz 0 0 (rI fun v μ' => v = nI (shN f h sc i 5).1 ∧ μ' = μ) := by
  have hO : μ a = _ := F.2.1
  refine EvA.of (L := [some (.ref a), some (.ref (a + 10 + 5 * i)), none, none, none, none]) (by decide +kernel) (Nat.le_of_ble_eq_true rfl) rfl ?_
  refine Rn.iconst (pc1 := 1) (v := nI 5) dX6_shortestWay_0 rfl (by decide) ?_
  refine Rn.istore_n (pc1 := 2)  dX6_shortestWay_1 rfl rfl (by decide) rfl rfl ?_
  refine Rn.aload_n (pc1 := 3)  dX6_shortestWay_2 rfl rfl rfl ?_
  refine Rn.aload_n (pc1 := 4)  dX6_shortestWay_3 rfl rfl rfl ?_
  refine Rn.iload_n (pc1 := 5)  dX6_shortestWay_4 rfl rfl rfl ?_
  refine Rn.cV_i (pc1 := 8) (eX6_entriesOnWay F hs hi (Nat.le_refl 5)) dX6_shortestWay_5 rfl qX6_155 oX6_entriesOnWay (by first | assumption | exact mset_same | exact mget_ne (by omega) (by assumption)) rfl rfl rfl rfl (Nat.le_of_ble_eq_true rfl) (by decide) (by decide) (fun v5 μ5 h5 => ?_)
  obtain ⟨rfl, rfl⟩ := h5
  refine Rn.istore_n (pc1 := 9)  dX6_shortestWay_8 rfl rfl (by decide) rfl rfl ?_
  refine Rn.iconst (pc1 := 10) (v := nI 4) dX6_shortestWay_9 rfl (by decide) ?_
  refine Rn.istore (pc1 := 12)  dX6_shortestWay_10 rfl (by decide) rfl rfl ?_
  exact lX6_shortestWay F hs hi 5 0 (by omega) _
theorem eX6_lateBelow {fl : Int32} (F : SA μ a f h rc sc) : EvA G 1 kX6_lateBelow [.ref a, .int fl] μ sz 0 0 (rI fun v μ' => v = lateN f fl rc ∧ μ' = μ) := by
  have hO : μ a = _ := F.2.1
  have hrc := F.1.2.1
  have loop : ∀ (m i : Nat), i + m = rc → ∀ o4 : Option Value, Rn G 1 kX6_lateBelow 4 [some (.ref a), some (.int fl), some (.int (lateN f fl i)), some (.int (nI i)), o4] [] μ sz 0 0 (rI fun v μ' => v = lateN f fl rc ∧ μ' = μ) := by
    intro m
    induction m with
    | zero =>
      intro i hi o4
      obtain rfl : i = rc := by omega
      refine Rn.iload_n (pc1 := 5)  dX6_lateBelow_4 rfl rfl rfl ?_
      refine Rn.aload_n (pc1 := 6)  dX6_lateBelow_5 rfl rfl rfl ?_
      refine Rn.getfield (pc1 := 9)  dX6_lateBelow_6 rfl fX6_21 (by first | assumption | exact mset_same | exact mget_ne (by omega) (by assumption)) rfl ?_
      refine Rn.icmp_ge (pc1 := 12) 48 dX6_lateBelow_9 rfl (by decide) (fun c9 => ?_) (fun c9 => ?_)
      · refine Rn.iload_n (pc1 := 49)  dX6_lateBelow_48 rfl rfl rfl ?_
        exact Rn.ireturn dX6_lateBelow_49 rfl rfl ⟨_, rfl, rfl, rfl⟩
      · exact absurd (nI_le (Nat.le_refl _) (by omega)) c9
    | succ m ih =>
      intro i hi o4
      obtain ⟨vw, cv, R, rv, rw⟩ := F.rd (show i < rc by omega)
      have rO := R.1
      refine Rn.iload_n (pc1 := 5)  dX6_lateBelow_4 rfl rfl rfl ?_
      refine Rn.aload_n (pc1 := 6)  dX6_lateBelow_5 rfl rfl rfl ?_
      refine Rn.getfield (pc1 := 9)  dX6_lateBelow_6 rfl fX6_21 (by first | assumption | exact mset_same | exact mget_ne (by omega) (by assumption)) rfl ?_
      refine Rn.icmp_ge (pc1 := 12) 48 dX6_lateBelow_9 rfl (by decide) (fun c9 => ?_) (fun c9 => ?_)
      · exact absurd c9 (nI_ge (by omega) (by omega))
      · refine Rn.aload_n (pc1 := 13)  dX6_lateBelow_12 rfl rfl rfl ?_
        refine Rn.iload_n (pc1 := 14)  dX6_lateBelow_13 rfl rfl rfl ?_
        refine Rn.cV_r (pc1 := 17) (eX6_readerAt_y F rfl (show i < rc by omega)) dX6_lateBelow_14 rfl qX6_62 oX6_readerAt (by first | assumption | exact mset_same | exact mget_ne (by omega) (by assumption)) rfl rfl rfl rfl (Nat.le_of_ble_eq_true rfl) (by decide) (by decide) (fun v14 μ14 h14 => ?_)
        obtain ⟨rfl, rfl⟩ := h14
        refine Rn.astore (pc1 := 19) (x := a + 10 + 5 * i)  dX6_lateBelow_17 rfl (by decide) rfl rfl ?_
        refine Rn.aload (pc1 := 21)  dX6_lateBelow_19 rfl rfl ?_
        refine Rn.ifnull (pc1 := 24) dX6_lateBelow_21 rfl ?_
        refine Rn.aload (pc1 := 26)  dX6_lateBelow_24 rfl rfl ?_
        refine Rn.getfield (pc1 := 29)  dX6_lateBelow_26 rfl fX6_126 (by first | assumption | exact mset_same | exact mget_ne (by omega) (by assumption)) rfl ?_
        refine Rn.iload_n (pc1 := 30)  dX6_lateBelow_29 rfl rfl rfl ?_
        refine Rn.cN_i (pc1 := 33) (eX8_isLate) dX6_lateBelow_30 rfl nX6_129 oX8_isLate rfl rfl (Nat.le_of_ble_eq_true rfl) (by decide) (by decide) (fun v30 μ30 h30 => ?_)
        obtain ⟨rfl, rfl⟩ := h30
        refine Rn.if_eq (pc1 := 36) 42 dX6_lateBelow_33 rfl (by decide) (fun c33 => ?_) (fun c33 => ?_)
        · have e : lateN f fl (i + 1) = lateN f fl i := if_neg (by rw [bI_0 c33]; decide)
          refine Rn.iinc (pc1 := 45)  dX6_lateBelow_42 rfl rfl (nI_1 i) (by decide) rfl rfl ?_
          refine Rn.goto 4 dX6_lateBelow_45 (by decide) ?_
          have := ih (i + 1) (by omega); rw [e] at this; exact this _
        · have e : lateN f fl (i + 1) = lateN f fl i ||| (nI 1 <<< (nI i &&& 31)) := if_pos (bI_n c33)
          refine Rn.iload_n (pc1 := 37)  dX6_lateBelow_36 rfl rfl rfl ?_
          refine Rn.iconst (pc1 := 38) (v := nI 1) dX6_lateBelow_37 rfl (by decide) ?_
          refine Rn.iload_n (pc1 := 39)  dX6_lateBelow_38 rfl rfl rfl ?_
          refine Rn.ishl (pc1 := 40)  dX6_lateBelow_39 rfl rfl ?_
          refine Rn.ior (pc1 := 41)  dX6_lateBelow_40 rfl rfl ?_
          refine Rn.istore_n (pc1 := 42)  dX6_lateBelow_41 rfl rfl (by decide) rfl rfl ?_
          refine Rn.iinc (pc1 := 45)  dX6_lateBelow_42 rfl rfl (nI_1 i) (by decide) rfl rfl ?_
          refine Rn.goto 4 dX6_lateBelow_45 (by decide) ?_
          have := ih (i + 1) (by omega); rw [e] at this; exact this _
  refine EvA.of (L := [some (.ref a), some (.int fl), none, none, none]) (by decide +kernel) (Nat.le_of_ble_eq_true rfl) rfl ?_
  refine Rn.iconst (pc1 := 1) (v := nI 0) dX6_lateBelow_0 rfl (by decide) ?_
  refine Rn.istore_n (pc1 := 2)  dX6_lateBelow_1 rfl rfl (by decide) rfl rfl ?_
  refine Rn.iconst (pc1 := 3) (v := nI 0) dX6_lateBelow_2 rfl (by decide) ?_
  refine Rn.istore_n (pc1 := 4)  dX6_lateBelow_3 rfl rfl (by decide) rfl rfl ?_
  exact loop rc 0 (by omega) _
/-- the loop that moves the snapshots by one -/
theorem lX6_makeSnapshot {sc' : Nat} {f' : Nat → Int32} {o1 : Option Value} (h1 : sc' ≤ sc + 1) (h3 : sc' ≤ 4) (hf : ∀ n q, n + 1 < sc' → q < 13 → f' (423 + 13 * (n + 1) + q) = f (423 + 13 * n + q)) {Q : Option Value → Mm → Prop}
    (K : ∀ μ2 : Mm, SAg μ2 a f h rc sc' rc 0 → Fr a (a + 52) μ μ2 → (∀ n, n < 4 → 0 < n → SnA μ2 (a + 40 + 3 * n) f' n (n < sc')) → Rn G 4 kX6_makeSnapshot 50 [some (.ref a), some (.int (nI 0))] [] μ2 sz 0 0 Q) : ∀ (i : Nat), i < sc' → ∀ (μ1 : Mm), SAg μ1 a f h rc sc' rc 0 → Fr a (a + 52) μ μ1 → (∀ n, n < 4 → n ≤ i → SnA μ1 (a + 40 + 3 * n) f n (n < sc)) → (∀ n, n < 4 → i < n → SnA μ1 (a + 40 + 3 * n) f' n (n < sc')) → Rn G 4 kX6_makeSnapshot 25 [some (.ref a), some (.int (nI i))] [] μ1 sz 0 0 Q := by
  intro i
  induction i with
  | zero =>
    intro hi μ1 F1 z1 p1 p2
    refine Rn.iload_n (pc1 := 26)  dX6_makeSnapshot_25 rfl rfl rfl ?_
    refine Rn.if_le (pc1 := 29) 50 dX6_makeSnapshot_26 rfl (by decide) (fun c26 => ?_) (fun c26 => ?_)
    · exact K μ1 F1 z1 p2
    · exact absurd (show nI 0 ≤ nI 0 by decide) c26
  | succ i ih =>
    intro hi μ1 F1 z1 p1 p2
    have hO : μ1 a = _ := F1.2.1
    obtain ⟨nu, tb, s1, s2⟩ := p1 i (by omega) (by omega)
    obtain ⟨nu', tb', t1, t2⟩ := p1 (i + 1) (by omega) (by omega)
    refine Rn.iload_n (pc1 := 26)  dX6_makeSnapshot_25 rfl rfl rfl ?_
    refine Rn.if_le (pc1 := 29) 50 dX6_makeSnapshot_26 rfl (by decide) (fun c26 => ?_) (fun c26 => ?_)
    · exact absurd c26 (nI_ge (by omega) (by omega))
    · refine Rn.aload_n (pc1 := 30)  dX6_makeSnapshot_29 rfl rfl rfl ?_
      refine Rn.iload_n (pc1 := 31)  dX6_makeSnapshot_30 rfl rfl rfl ?_
      refine Rn.iconst (pc1 := 32) (v := nI 1) dX6_makeSnapshot_31 rfl (by decide) ?_
      refine Rn.isub (pc1 := 33)  dX6_makeSnapshot_32 rfl (nI_sub (show 1 ≤ i + 1 by omega)) ?_
      refine Rn.cV_r (pc1 := 36) (eX6_snapshotAt_y F1 rfl (show i + 1 - 1 < sc' by omega)) dX6_makeSnapshot_33 rfl qX6_69 oX6_snapshotAt (by first | assumption | exact mset_same | exact mget_ne (by omega) (by assumption)) rfl rfl rfl rfl (Nat.le_of_ble_eq_true rfl) (by decide) (by decide) (fun v33 μ33 h33 => ?_)
      obtain ⟨rfl, rfl⟩ := h33
      refine Rn.aload_n (pc1 := 37)  dX6_makeSnapshot_36 rfl rfl rfl ?_
      refine Rn.iload_n (pc1 := 38)  dX6_makeSnapshot_37 rfl rfl rfl ?_
      refine Rn.cV_r (pc1 := 41) (eX6_snapshotAt_y F1 rfl (show i + 1 < sc' by omega)) dX6_makeSnapshot_38 rfl qX6_69 oX6_snapshotAt (by first | assumption | exact mset_same | exact mget_ne (by omega) (by assumption)) rfl rfl rfl rfl (Nat.le_of_ble_eq_true rfl) (by decide) (by decide) (fun v38 μ38 h38 => ?_)
      obtain ⟨rfl, rfl⟩ := h38
      refine Rn.cS_v (pc1 := 44) (eX6_copySnapshot s1 t1 (by omega)) dX6_makeSnapshot_41 rfl qX6_73 oX6_copySnapshot rfl rfl (Nat.le_of_ble_eq_true rfl) (by decide) (by decide) (fun μ41 h41 => ?_)
      obtain ⟨W1, z2⟩ := h41
      refine Rn.iinc (pc1 := 47) (v := nI i)  dX6_makeSnapshot_44 rfl rfl (by rw [← nI_1, show Int32.ofInt (-1) = - 1 from by decide, ← Int32.sub_eq_add_neg, Int32.add_sub_cancel]) (by decide) rfl rfl ?_
      refine Rn.goto 25 dX6_makeSnapshot_47 (by decide) ?_
      obtain ⟨w0, w1, w2, w3, w4, w5, w6⟩ := id F1
      refine ih (by omega) _ ⟨w0, w1.fr z2 (by omega), w2.fr z2 (by omega), w3.fr z2 (by omega), w4.fr z2 (by omega), fun k hk => (w5 k hk).fr z2 (by omega), fun k hk => ?_⟩ (z1.trans (z2.wide (by omega) (by omega))) (fun n hn hni => (p1 n hn (by omega)).fr z2 (by omega)) (fun n hn hni => ?_)
      · by_cases e : k = i + 1
        · subst e; exact ⟨_, _, W1, fun q => by omega⟩
        · exact (w6 k hk).fr z2 (by omega)
      · by_cases e : n = i + 1
        · subst e
          refine ⟨_, _, W1, fun q => ?_⟩
          obtain ⟨r1, r2⟩ := s2 (by omega)
          exact ⟨r1.trans (hf i 0 q (by omega)).symm, fun k hk => (r2 k hk).trans (by rw [show 423 + 13 * (i + 1) + 1 + k = 423 + 13 * (i + 1) + (1 + k) by omega, hf i (1 + k) q (by omega), show 423 + 13 * i + (1 + k) = 423 + 13 * i + 1 + k by omega])⟩
        · exact (p2 n hn (by omega)).fr z2 (by omega)
theorem eX6_makeSnapshot (F : SA μ a f h rc sc) : EvA G 4 kX6_makeSnapshot [.ref a] μ sz 0 0 (rI fun v μ' => v = f 3 ∧ SA μ' a (shotF f sc) h rc (if sc < 4 then sc + 1 else sc) ∧ Fr a (a + 52) μ μ') := by
  have hO : μ a = _ := F.2.1
  have hsc := F.1.2.2
  obtain ⟨sc', hsc'⟩ : ∃ x, x = if sc < 4 then sc + 1 else sc := ⟨_, rfl⟩
  rw [← hsc']
  have h4 : sc' ≤ 4 := by rw [hsc']; split <;> omega
  have h5 : sc' ≤ sc + 1 := by rw [hsc']; split <;> omega
  have h6 : 1 ≤ sc' := by rw [hsc']; split <;> omega
  have hq : ∀ j, j ≠ 8 → j < 423 → f j = shotF f sc j := fun j h1 h2 => by
    unfold shotF
    rw [upd_ne (by omega), blk_out (by omega), upd_ne (by omega), blk_out (by omega)]
  have hf : ∀ n q, n + 1 < sc' → q < 13 → shotF f sc (423 + 13 * (n + 1) + q) = f (423 + 13 * n + q) := fun n q h1 h2 => by
    unfold shotF
    rw [upd_ne (by omega), blk_out (by omega), upd_ne (by omega), blk_in (q := 13 * n + q) (by omega) (by omega), show 423 + (13 * n + q) = 423 + 13 * n + q by omega]
  have J : ∀ μ1 : Mm, SAg μ1 a f h rc sc' rc sc → Fr a (a + 52) μ μ1 → Rn G 4 kX6_makeSnapshot 18 [some (.ref a), none] [] μ1 sz 0 0 (rI fun v μ' => v = f 3 ∧ SA μ' a (shotF f sc) h rc sc' ∧ Fr a (a + 52) μ μ') := by
    intro μ1 F1 z1
    have hO : μ1 a = _ := F1.2.1
    refine Rn.aload_n (pc1 := 19)  dX6_makeSnapshot_18 rfl rfl rfl ?_
    refine Rn.getfield (pc1 := 22)  dX6_makeSnapshot_19 rfl fX6_24 (by first | assumption | exact mset_same | exact mget_ne (by omega) (by assumption)) rfl ?_
    refine Rn.iconst (pc1 := 23) (v := nI 1) dX6_makeSnapshot_22 rfl (by decide) ?_
    refine Rn.isub (pc1 := 24)  dX6_makeSnapshot_23 rfl (nI_sub h6) ?_
    refine Rn.istore_n (pc1 := 25)  dX6_makeSnapshot_24 rfl rfl (by decide) rfl rfl ?_
    obtain ⟨w0, w1, w2, w3, w4, w5, w6⟩ := id F1
    refine lX6_makeSnapshot (μ := μ1) (o1 := none) h5 h4 hf (fun μ2 F2 z2 p => ?_) (sc' - 1) (by omega) _ ⟨w0, w1, w2, w3, w4, w5, fun n hn => (w6 n hn).to (fun q => by omega) (fun _ _ _ _ => rfl)⟩ Fr.rf (fun n hn _ => w6 n hn) (fun n hn hni => (w6 n hn).to (fun q => by omega) (fun q => by omega))
    obtain ⟨v0, v1, v2, v3, v4, v5, v6⟩ := id F2
    have hO2 : μ2 a = _ := v1
    obtain ⟨g0, g1, g2, g3, fd1, fd2⟩ := v4
    have fO := fd1.1
    obtain ⟨nu, tb, S, -⟩ := v6 0 (by omega)
    have sO := S.1
    refine Rn.aload_n (pc1 := 51)  dX6_makeSnapshot_50 rfl rfl rfl ?_
    refine Rn.iconst (pc1 := 52) (v := nI 0) dX6_makeSnapshot_51 rfl (by decide) ?_
    refine Rn.cV_r (pc1 := 55) (eX6_snapshotAt_y F2 rfl (show 0 < sc' by omega)) dX6_makeSnapshot_52 rfl qX6_69 oX6_snapshotAt (by first | assumption | exact mset_same | exact mget_ne (by omega) (by assumption)) rfl rfl rfl rfl (Nat.le_of_ble_eq_true rfl) (by decide) (by decide) (fun v52 μ52 h52 => ?_)
    obtain ⟨rfl, rfl⟩ := h52
    refine Rn.astore_n (pc1 := 56) (x := a + 40 + 3 * 0)  dX6_makeSnapshot_55 rfl rfl (by decide) rfl rfl ?_
    refine Rn.aload_n (pc1 := 57)  dX6_makeSnapshot_56 rfl rfl rfl ?_
    refine Rn.ifnull (pc1 := 60) dX6_makeSnapshot_57 rfl ?_
    refine Rn.aload_n (pc1 := 61)  dX6_makeSnapshot_60 rfl rfl rfl ?_
    refine Rn.aload_n (pc1 := 62)  dX6_makeSnapshot_61 rfl rfl rfl ?_
    refine Rn.getfield (pc1 := 65)  dX6_makeSnapshot_62 rfl fX6_37 (by first | assumption | exact mset_same | exact mget_ne (by omega) (by assumption)) rfl ?_
    refine Rn.getfield (pc1 := 68)  dX6_makeSnapshot_65 rfl fX6_113 (by first | assumption | exact mset_same | exact mget_ne (by omega) (by assumption)) rfl ?_
    refine Rn.putfield (pc1 := 71)  dX6_makeSnapshot_68 rfl pX6_116 (fun h => Bool.noConfusion h) (by assumption) (Nat.le_of_ble_eq_true rfl) rfl rfl rfl ?_
    have S1 := S.setO (f 3)
    have z3 : Fr (a + 40 + 3 * 0) (a + 40 + 3 * 0 + 3) μ52 _ := Fr.set (q := a + 40 + 3 * 0) (c := obj 5 [.int (f 3), .ref (a + 40 + 3 * 0 + 1)]) (by omega) (by omega)
    have sO1 := S1.1
    have hO3 := (z3 a (by omega)).trans hO2
    have V1 := v3.fr z3 (by omega)
    have sV := S1.2.1
    refine Rn.aload_n (pc1 := 72)  dX6_makeSnapshot_71 rfl rfl rfl ?_
    refine Rn.getfield (pc1 := 75)  dX6_makeSnapshot_72 rfl fX6_119 (by first | assumption | exact mset_same | exact mget_ne (by omega) (by assumption)) rfl ?_
    refine Rn.aload_n (pc1 := 76)  dX6_makeSnapshot_75 rfl rfl rfl ?_
    refine Rn.getfield (pc1 := 79)  dX6_makeSnapshot_76 rfl fX6_30 (by first | assumption | exact mset_same | exact mget_ne (by omega) (by assumption)) rfl ?_
    refine Rn.cV_v (pc1 := 82) (eX7_copyFrom S1.2 V1 (by omega)) dX6_makeSnapshot_79 rfl qX6_55 oX7_copyFrom (by first | assumption | exact mset_same | exact mget_ne (by omega) (by assumption)) rfl rfl rfl rfl (Nat.le_of_ble_eq_true rfl) (by decide) (by decide) (fun μ79 h79 => ?_)
    obtain ⟨W1, z4⟩ := h79
    have z5 := z3.trans (z4.wide (a' := a + 40 + 3 * 0) (b' := a + 40 + 3 * 0 + 3) (by omega) (by omega))
    have hO4 := (z5 a (by omega)).trans hO2
    have fO4 := (z5 (a + 3) (by omega)).trans fO
    have sO4 := (z4 (a + 40 + 3 * 0) (by omega)).trans sO1
    refine Rn.aload_n (pc1 := 83)  dX6_makeSnapshot_82 rfl rfl rfl ?_
    refine Rn.getfield (pc1 := 86)  dX6_makeSnapshot_83 rfl fX6_37 (by first | assumption | exact mset_same | exact mget_ne (by omega) (by assumption)) rfl ?_
    refine Rn.getfield (pc1 := 89)  dX6_makeSnapshot_86 rfl fX6_113 (by first | assumption | exact mset_same | exact mget_ne (by omega) (by assumption)) rfl ?_
    refine Rn.ireturn dX6_makeSnapshot_89 rfl rfl ⟨_, rfl, rfl, ⟨v0, (v1.fr z5 (by omega)).to ⟨hq _ (by omega) (by omega), hq _ (by omega) (by omega), hq _ (by omega) (by omega)⟩, v2.fr z5 (by omega), (v3.fr z5 (by omega)).to (fun j _ => hq _ (by omega) (by omega)), (FdA.fr ⟨g0, g1, g2, g3, fd1, fd2⟩ z5 (by omega)).to ⟨hq _ (by omega) (by omega), hq _ (by omega) (by omega), hq _ (by omega) (by omega)⟩ (fun j h1 h2 => hq _ (by omega) (by omega)), fun k hk => ((v5 k hk).fr z5 (by omega)).to (fun z => z) (fun hl j h1 h2 => hq _ (by omega) (by omega)), fun n hn => ?_⟩, (z1.trans z2).trans (z5.wide (by omega) (by omega))⟩
    by_cases e : n = 0
    · subst e
      refine ⟨_, _, ⟨sO4, W1⟩, fun _ => ⟨?_, fun k hk => ?_⟩⟩
      · unfold shotF; rw [upd_ne (by omega), blk_out (by omega), upd_at rfl]
      · unfold shotF; rw [upd_ne (by omega), blk_in (q := k) (by omega) hk]
    · exact (p n hn (by omega)).fr z5 (by omega)
  refine EvA.of (L := [some (.ref a), none]) (by decide +kernel) (Nat.le_of_ble_eq_true rfl) rfl ?_
  refine Rn.aload_n (pc1 := 1)  dX6_makeSnapshot_0 rfl rfl rfl ?_
  refine Rn.getfield (pc1 := 4)  dX6_makeSnapshot_1 rfl fX6_24 (by first | assumption | exact mset_same | exact mget_ne (by omega) (by assumption)) rfl ?_
  refine Rn.iconst (pc1 := 5) (v := nI 4) dX6_makeSnapshot_4 rfl (by decide) ?_
  refine Rn.icmp_ge (pc1 := 8) 18 dX6_makeSnapshot_5 rfl (by decide) (fun c5 => ?_) (fun c5 => ?_)
  · have n : ¬ sc < 4 := by intro q; exact absurd c5 (nI_ge q (by decide))
    have e : sc' = sc := by rw [hsc', if_neg n]
    first
      | exact J _ (F.setO f rc sc' F.1.2.1 h4 (fun j hj => rfl) (by rw [e]; rfl)) (Fr.set (by omega) (by omega))
      | exact J _ (by rw [e]; exact F) Fr.rf
  · have n : sc < 4 := by rw [i32_nle, nI_ltI (by omega) (by decide)] at c5; exact c5
    have e : sc' = sc + 1 := by rw [hsc', if_pos n]
    refine Rn.aload_n (pc1 := 9)  dX6_makeSnapshot_8 rfl rfl rfl ?_
    refine Rn.dup (pc1 := 10)  dX6_makeSnapshot_9 rfl rfl ?_
    refine Rn.getfield (pc1 := 13)  dX6_makeSnapshot_10 rfl fX6_24 (by first | assumption | exact mset_same | exact mget_ne (by omega) (by assumption)) rfl ?_
    refine Rn.iconst (pc1 := 14) (v := nI 1) dX6_makeSnapshot_13 rfl (by decide) ?_
    refine Rn.iadd (pc1 := 15)  dX6_makeSnapshot_14 rfl (nI_add sc 1) ?_
    refine Rn.putfield (pc1 := 18)  dX6_makeSnapshot_15 rfl pX6_24 (fun h => Bool.noConfusion h) (by first | assumption | exact mset_same | exact mget_ne (by omega) (by assumption)) (Nat.le_of_ble_eq_true rfl) rfl rfl rfl ?_
    first
      | exact J _ (F.setO f rc sc' F.1.2.1 h4 (fun j hj => rfl) (by rw [e]; rfl)) (Fr.set (by omega) (by omega))
      | exact J _ (by rw [e]; exact F) Fr.rf
end OPS3
end
section
/-! ===== History: the states before, and one to prepare ===== -/
/-- what is no negative number -/
def NV (f : Nat → Int32) (rc sc : Nat) : Prop := nI 0 ≤ f 1 ∧ (∃ m, m ≤ 99999 ∧ f 2 = nI m) ∧ (∀ i, i < rc → nI 0 ≤ f (261 + 27 * i) ∧ nI 0 ≤ f (261 + 27 * i + 1)) ∧ ∀ n, n < sc → nI 0 ≤ f (423 + 13 * n)
/-- what holds of a row that a State can be at -/
def IV (f : Nat → Int32) (h rc sc B : Nat) : Prop := (f 6 = nI h ∧ f 7 = nI rc ∧ f 8 = nI sc) ∧ (h ≤ 60 ∧ rc ≤ 6 ∧ sc ≤ 4) ∧ (∃ s, 1 ≤ s ∧ s ≤ 20 ∧ f 0 = nI s) ∧ (∃ (N : Nat) (n : Nat → Nat), N ≤ B ∧ f 3 = nI N ∧ (∀ j, j < h → e0 f j = nI (n j) ∧ n j < N) ∧ ∀ i j, i < j → j < h → n i < n j) ∧ (∀ j, j < h → ∃ q, q < 12 ∧ e1 f j = nI q) ∧ NV f rc sc
theorem IV.srt {f : Nat → Int32} {h rc sc B : Nat} (I : IV f h rc sc B) (hB : B < 2 ^ 31) : SrtF f h := by
  obtain ⟨-, -, -, ⟨N, n, h1, h2, h3, h4⟩, -⟩ := I
  intro i j hij hj
  rw [(h3 i (by omega)).1, (h3 j hj).1]
  exact nI_lt (h4 i j hij hj) (by have := (h3 j hj).2; omega)
theorem IV.nn {f : Nat → Int32} {h rc sc B : Nat} (I : IV f h rc sc B) (hB : B < 2 ^ 31) : ∀ j, j < h → nI 0 ≤ e0 f j := by
  obtain ⟨-, -, -, ⟨N, n, h1, h2, h3, h4⟩, -⟩ := I
  intro j hj
  rw [(h3 j hj).1]
  exact nI_le (Nat.zero_le _) (by have := (h3 j hj).2; omega)
theorem IV.size {f : Nat → Int32} {h rc sc B : Nat} (I : IV f h rc sc B) : nI 1 ≤ f 0 := by
  obtain ⟨-, -, ⟨s, h1, h2, h3⟩, -⟩ := I
  rw [h3]; exact nI_le h1 (by omega)
theorem IV.mono {f : Nat → Int32} {h rc sc B B' : Nat} (I : IV f h rc sc B) (hB : B ≤ B') : IV f h rc sc B' := by
  obtain ⟨q1, q2, q3, ⟨N, n, h1, h2⟩, q5⟩ := I
  exact ⟨q1, q2, q3, ⟨N, n, by omega, h2⟩, q5⟩
/-- a State with its numbers -/
def ST (μ : Mm) (a : Nat) (f : Nat → Int32) (B : Nat) : Prop := ∃ h rc sc, SA μ a f h rc sc ∧ IV f h rc sc B
theorem ST.fr {μ μ' : Mm} {a x y B : Nat} {f : Nat → Int32} (F : ST μ a f B) (hF : Fr x y μ μ') (hd : a + 52 ≤ x ∨ y ≤ a) : ST μ' a f B := by
  obtain ⟨h, rc, sc, q1, q2⟩ := F
  exact ⟨h, rc, sc, q1.fr hF hd, q2⟩
theorem ST.mono {μ : Mm} {a B B' : Nat} {f : Nat → Int32} (F : ST μ a f B) (hB : B ≤ B') : ST μ a f B' := by
  obtain ⟨h, rc, sc, q1, q2⟩ := F
  exact ⟨h, rc, sc, q1, q2.mono hB⟩
/-- some State, whatever it holds -/
def SD (μ : Mm) (a : Nat) : Prop := ∃ f h rc sc lr ls, SAg μ a f h rc sc lr ls
theorem SD.fr {μ μ' : Mm} {a x y : Nat} (F : SD μ a) (hF : Fr x y μ μ') (hd : a + 52 ≤ x ∨ y ≤ a) : SD μ' a := by
  obtain ⟨f, h, rc, sc, lr, ls, q⟩ := F
  exact ⟨f, h, rc, sc, lr, ls, q.fr hF hd⟩
theorem ST.sd {μ : Mm} {a B : Nat} {f : Nat → Int32} (F : ST μ a f B) : SD μ a := by
  obtain ⟨h, rc, sc, q1, q2⟩ := F
  exact ⟨f, h, rc, sc, rc, sc, q1⟩
/-- the History at y: its States lie at s 0 .. s 6, which are y + 2 + 52 t in some order; held of them count -/
def HA (μ : Mm) (y : Nat) (s : Nat → Nat) (held : Nat) : Prop := μ y = some (obj 1 [.ref (y + 1), .int (nI held)]) ∧ held ≤ 6 ∧ (∃ r, μ (y + 1) = some (refs 2 7 r) ∧ ∀ i, i < 7 → r i = some (s i)) ∧ (∀ i, i < 7 → ∃ t, t < 7 ∧ s i = y + 2 + 52 * t) ∧ (∀ i j, i < 7 → j < 7 → s i = s j → i = j) ∧ ∀ i, i < 7 → SD μ (s i)
theorem HA.lo {μ : Mm} {y held i : Nat} {s : Nat → Nat} (H : HA μ y s held) (hi : i < 7) : y + 2 ≤ s i ∧ s i + 52 ≤ y + 366 := by
  obtain ⟨t, h1, h2⟩ := H.2.2.2.1 i hi
  omega
theorem HA.apart {μ : Mm} {y held i j : Nat} {s : Nat → Nat} (H : HA μ y s held) (hi : i < 7) (hj : j < 7) (hij : i ≠ j) : s i + 52 ≤ s j ∨ s j + 52 ≤ s i := by
  obtain ⟨t, h1, h2⟩ := H.2.2.2.1 i hi
  obtain ⟨u, h3, h4⟩ := H.2.2.2.1 j hj
  have : t ≠ u := fun e => hij (H.2.2.2.2.1 i j hi hj (by rw [h2, h4, e]))
  omega
theorem HA.fr {μ μ' : Mm} {y x z held : Nat} {s : Nat → Nat} (H : HA μ y s held) (hF : Fr x z μ μ') (hd : y + 366 ≤ x ∨ z ≤ y) : HA μ' y s held := by
  obtain ⟨q1, q2, ⟨r, q3, q4⟩, q5, q6, q7⟩ := id H
  exact ⟨(hF _ (by omega)).trans q1, q2, ⟨r, (hF _ (by omega)).trans q3, q4⟩, q5, q6, fun i hi => (q7 i hi).fr hF (by have := H.lo hi; omega)⟩
/-- what the States of the history are -/
def HP (μ : Mm) (s : Nat → Nat) (held : Nat) (P : Nat → Nat → Int32) (B : Nat) : Prop := ∀ i, i < held → ST μ (s i) (P i) B
def rotR (r : Nat → Option Nat) (n : Nat) : Nat → Option Nat := fun j => if j < n then r (j + 1) else r j
theorem rotR_up {r : Nat → Option Nat} {n v : Nat} (hv : r (n + 1) = some v) : va_up (rotR r n) n (some v) = rotR r (n + 1) := by
  funext j
  unfold va_up rotR
  by_cases h1 : j = n
  · subst h1; rw [if_pos rfl, if_pos (by omega), hv]
  · rw [if_neg h1]
    by_cases h2 : j < n
    · rw [if_pos h2, if_pos (by omega)]
    · rw [if_neg h2, if_neg (by omega)]
section HIST
variable {G : GG} {μ : Mm} {sz : Nat} {y held B : Nat} {s : Nat → Nat}
theorem eX1_stateAt_y {j : Nat} {i : Int32} (H : HA μ y s held) (hi : i = nI j) (hj : j < 7) : EvA G 0 kX1_stateAt [.ref y, .int i] μ sz 0 0 (rR fun o μ' => o = some (s j) ∧ μ' = μ) := by
  obtain ⟨q1, q2, ⟨r, q3, q4⟩, -⟩ := H
  refine EvA.of (L := [some (.ref y), some (.int i)]) (by decide +kernel) (Nat.le_of_ble_eq_true rfl) rfl ?_
  subst hi
  refine Rn.iload_n (pc1 := 1)  dX1_stateAt_0 rfl rfl rfl ?_
  refine Rn.if_lt (pc1 := 4) 13 dX1_stateAt_1 rfl (by decide) (fun c1 => ?_) (fun c1 => ?_)
  · exact absurd c1 (nI_nlt (Nat.zero_le _) (by omega))
  · refine Rn.iload_n (pc1 := 5)  dX1_stateAt_4 rfl rfl rfl ?_
    refine Rn.aload_n (pc1 := 6)  dX1_stateAt_5 rfl rfl rfl ?_
    refine Rn.getfield (pc1 := 9)  dX1_stateAt_6 rfl fX1_11 (by first | assumption | exact mset_same | exact mget_ne (by omega) (by assumption)) rfl ?_
    refine Rn.alen (pc1 := 10) (v := nI 7)  dX1_stateAt_9 rfl (by first | assumption | exact mset_same | exact mget_ne (by omega) (by assumption)) (fun _ => rfl) rfl ?_
    refine Rn.icmp_lt (pc1 := 13) 17 dX1_stateAt_10 rfl (by decide) (fun c10 => ?_) (fun c10 => ?_)
    · refine Rn.aload_n (pc1 := 18)  dX1_stateAt_17 rfl rfl rfl ?_
      refine Rn.getfield (pc1 := 21)  dX1_stateAt_18 rfl fX1_11 (by first | assumption | exact mset_same | exact mget_ne (by omega) (by assumption)) rfl ?_
      refine Rn.iload_n (pc1 := 22)  dX1_stateAt_21 rfl rfl rfl ?_
      refine Rn.aaload (pc1 := 23)  dX1_stateAt_22 rfl (by assumption) (fun _ => rfl) (vp_nI rfl hj (by decide)) rfl ?_
      exact Rn.areturn dX1_stateAt_23 rfl ⟨_, rfl, by rw [nI_clamp (by omega)]; exact q4 j hj, rfl⟩
    · exact absurd (nI_lt hj (by decide)) c10
theorem eX1_stateAt_n {i : Int32} (H : HA μ y s held) (hi : i < nI 0) : EvA G 0 kX1_stateAt [.ref y, .int i] μ sz 0 0 (rR fun o μ' => o = none ∧ μ' = μ) := by
  obtain ⟨q1, q2, ⟨r, q3, q4⟩, -⟩ := H
  refine EvA.of (L := [some (.ref y), some (.int i)]) (by decide +kernel) (Nat.le_of_ble_eq_true rfl) rfl ?_
  refine Rn.iload_n (pc1 := 1)  dX1_stateAt_0 rfl rfl rfl ?_
  refine Rn.if_lt (pc1 := 4) 13 dX1_stateAt_1 rfl (by decide) (fun c1 => ?_) (fun c1 => ?_)
  · refine Rn.null (pc1 := 14)  dX1_stateAt_13 rfl ?_
    refine Rn.goto 23 dX1_stateAt_14 (by decide) ?_
    show Rn G 0 kX1_stateAt 23 _ [va_rf none] _ _ _ _ _
    exact Rn.areturn dX1_stateAt_23 rfl ⟨_, rfl, rfl, rfl⟩
  · exact absurd hi c1
theorem eX1_prepare {a : Nat} {f : Nat → Int32} (H : HA μ y s held) (F : ST μ a f B) (hd : a + 52 ≤ y ∨ y + 366 ≤ a) : EvA G 5 kX1_prepare [.ref y, .ref a] μ sz 0 0 (rV fun μ' => HA μ' y s held ∧ ST μ' (s held) f B ∧ Fr (s held) (s held + 52) μ μ') := by
  obtain ⟨h, rc, sc, F1, I⟩ := F
  have hO := H.1
  have hh := H.2.1
  obtain ⟨f0, h0, rc0, sc0, lr0, ls0, D⟩ := H.2.2.2.2.2 held (by omega)
  have dO : μ (s held) = _ := D.2.1
  have aO : μ a = _ := F1.2.1
  have hl := H.lo (show held < 7 by omega)
  refine EvA.of (L := [some (.ref y), some (.ref a), none]) (by decide +kernel) (Nat.le_of_ble_eq_true rfl) rfl ?_
  refine Rn.aload_n (pc1 := 1)  dX1_prepare_0 rfl rfl rfl ?_
  refine Rn.aload_n (pc1 := 2)  dX1_prepare_1 rfl rfl rfl ?_
  refine Rn.getfield (pc1 := 5)  dX1_prepare_2 rfl fX1_17 (by first | assumption | exact mset_same | exact mget_ne (by omega) (by assumption)) rfl ?_
  refine Rn.cV_r (pc1 := 8) (eX1_stateAt_y H rfl (show held < 7 by omega)) dX1_prepare_5 rfl qX1_22 oX1_stateAt (by first | assumption | exact mset_same | exact mget_ne (by omega) (by assumption)) rfl rfl rfl rfl (Nat.le_of_ble_eq_true rfl) (by decide) (by decide) (fun v5 μ5 h5 => ?_)
  obtain ⟨rfl, rfl⟩ := h5
  refine Rn.astore_n (pc1 := 9) (x := s held)  dX1_prepare_8 rfl rfl (by decide) rfl rfl ?_
  refine Rn.aload_n (pc1 := 10)  dX1_prepare_9 rfl rfl rfl ?_
  refine Rn.ifnull (pc1 := 13) dX1_prepare_10 rfl ?_
  refine Rn.aload_n (pc1 := 14)  dX1_prepare_13 rfl rfl rfl ?_
  refine Rn.aload_n (pc1 := 15)  dX1_prepare_14 rfl rfl rfl ?_
  refine Rn.cV_v (pc1 := 18) (eX6_copyFrom D F1 (by omega)) dX1_prepare_15 rfl qX1_26 oX6_copyFrom (by first | assumption | exact mset_same | exact mget_ne (by omega) (by assumption)) rfl rfl rfl rfl (Nat.le_of_ble_eq_true rfl) (by decide) (by decide) (fun μ15 h15 => ?_)
  obtain ⟨W1, z1⟩ := h15
  refine Rn.vreturn dX1_prepare_18 rfl ⟨rfl, ?_, ⟨h, rc, sc, W1, I⟩, z1⟩
  obtain ⟨q1, q2, ⟨r, q3, q4⟩, q5, q6, q7⟩ := id H
  refine ⟨(z1 _ (by omega)).trans q1, q2, ⟨r, (z1 _ (by omega)).trans q3, q4⟩, q5, q6, fun i hi => ?_⟩
  by_cases e : i = held
  · subst e; exact ⟨_, _, _, _, _, _, W1⟩
  · exact (q7 i hi).fr z1 (by have := H.apart hi (show held < 7 by omega) e; omega)
theorem lX1_dropOldest {r : Nat → Option Nat} (hO : μ y = some (obj 1 [.ref (y + 1), .int (nI held)])) (hr : ∀ i, i < 7 → r i = some (s i)) (hs : ∀ i, i < 7 → y + 2 ≤ s i ∧ SD μ (s i)) : ∀ (m n : Nat), n + m = 6 → Rn G 1 kX1_dropOldest 8 [some (.ref y), some (.ref (s 0)), some (.int (nI (n + 1)))] [] (mset μ (y + 1) (refs 2 7 (rotR r n))) sz 0 0 (rV fun μ' => μ' = mset μ (y + 1) (refs 2 7 (va_up (rotR r 6) 6 (some (s 0))))) := by
  intro m
  induction m with
  | zero =>
    intro n hn
    obtain rfl : n = 6 := by omega
    have hO' : mset μ (y + 1) (refs 2 7 (rotR r 6)) y = _ := mget_ne (by omega) hO
    obtain ⟨h1, f0, h0, rc0, sc0, lr0, ls0, D⟩ := hs 0 (by omega)
    have dO : mset μ (y + 1) (refs 2 7 (rotR r 6)) (s 0) = _ := mget_ne (by omega) D.2.1
    refine Rn.iload_n (pc1 := 9)  dX1_dropOldest_8 rfl rfl rfl ?_
    refine Rn.aload_n (pc1 := 10)  dX1_dropOldest_9 rfl rfl rfl ?_
    refine Rn.getfield (pc1 := 13)  dX1_dropOldest_10 rfl fX1_11 (by first | assumption | exact mset_same | exact mget_ne (by omega) (by assumption)) rfl ?_
    refine Rn.alen (pc1 := 14) (v := nI 7)  dX1_dropOldest_13 rfl (by first | assumption | exact mset_same | exact mget_ne (by omega) (by assumption)) (fun _ => rfl) rfl ?_
    refine Rn.icmp_ge (pc1 := 17) 37 dX1_dropOldest_14 rfl (by decide) (fun c14 => ?_) (fun c14 => ?_)
    · refine Rn.aload_n (pc1 := 38)  dX1_dropOldest_37 rfl rfl rfl ?_
      refine Rn.getfield (pc1 := 41)  dX1_dropOldest_38 rfl fX1_11 (by first | assumption | exact mset_same | exact mget_ne (by omega) (by assumption)) rfl ?_
      refine Rn.alen (pc1 := 42) (v := nI 7)  dX1_dropOldest_41 rfl (by first | assumption | exact mset_same | exact mget_ne (by omega) (by assumption)) (fun _ => rfl) rfl ?_
      refine Rn.if_le (pc1 := 45) 58 dX1_dropOldest_42 rfl (by decide) (fun c42 => ?_) (fun c42 => ?_)
      · exact absurd c42 (by decide)
      · refine Rn.aload_n (pc1 := 46)  dX1_dropOldest_45 rfl rfl rfl ?_
        refine Rn.getfield (pc1 := 49)  dX1_dropOldest_46 rfl fX1_11 (by first | assumption | exact mset_same | exact mget_ne (by omega) (by assumption)) rfl ?_
        refine Rn.aload_n (pc1 := 50)  dX1_dropOldest_49 rfl rfl rfl ?_
        refine Rn.getfield (pc1 := 53)  dX1_dropOldest_50 rfl fX1_11 (by first | assumption | exact mset_same | exact mget_ne (by omega) (by assumption)) rfl ?_
        refine Rn.alen (pc1 := 54) (v := nI 7)  dX1_dropOldest_53 rfl (by first | assumption | exact mset_same | exact mget_ne (by omega) (by assumption)) (fun _ => rfl) rfl ?_
        refine Rn.iconst (pc1 := 55) (v := nI 1) dX1_dropOldest_54 rfl (by decide) ?_
        refine Rn.isub (pc1 := 56)  dX1_dropOldest_55 rfl (nI_sub (show 1 ≤ 7 by omega)) ?_
        refine Rn.aload_n (pc1 := 57)  dX1_dropOldest_56 rfl rfl rfl ?_
        refine Rn.aastore (pc1 := 58) (ci := 6) (f' := va_up (rotR r 6) 6 (some (s 0)))  dX1_dropOldest_57 rfl mset_same (fun _ => rfl) dO rfl (vp_nI rfl (by decide) (by decide)) (by rw [nI_clamp (by decide)]) ?_
        exact Rn.vreturn dX1_dropOldest_58 rfl ⟨rfl, mset_mset⟩
    · exact absurd (nI_le (Nat.le_refl 7) (by decide)) c14
  | succ m ih =>
    intro n hn
    have hO' : mset μ (y + 1) (refs 2 7 (rotR r n)) y = _ := mget_ne (by omega) hO
    obtain ⟨h1, f0, h0, rc0, sc0, lr0, ls0, D⟩ := hs (n + 1) (by omega)
    have dO : mset μ (y + 1) (refs 2 7 (rotR r n)) (s (n + 1)) = _ := mget_ne (by omega) D.2.1
    have hv : rotR r n (n + 1) = some (s (n + 1)) := by unfold rotR; rw [if_neg (by omega)]; exact hr (n + 1) (by omega)
    refine Rn.iload_n (pc1 := 9)  dX1_dropOldest_8 rfl rfl rfl ?_
    refine Rn.aload_n (pc1 := 10)  dX1_dropOldest_9 rfl rfl rfl ?_
    refine Rn.getfield (pc1 := 13)  dX1_dropOldest_10 rfl fX1_11 (by first | assumption | exact mset_same | exact mget_ne (by omega) (by assumption)) rfl ?_
    refine Rn.alen (pc1 := 14) (v := nI 7)  dX1_dropOldest_13 rfl (by first | assumption | exact mset_same | exact mget_ne (by omega) (by assumption)) (fun _ => rfl) rfl ?_
    refine Rn.icmp_ge (pc1 := 17) 37 dX1_dropOldest_14 rfl (by decide) (fun c14 => ?_) (fun c14 => ?_)
    · exact absurd c14 (nI_ge (by omega) (by decide))
    · refine Rn.aload_n (pc1 := 18)  dX1_dropOldest_17 rfl rfl rfl ?_
      refine Rn.getfield (pc1 := 21)  dX1_dropOldest_18 rfl fX1_11 (by first | assumption | exact mset_same | exact mget_ne (by omega) (by assumption)) rfl ?_
      refine Rn.iload_n (pc1 := 22)  dX1_dropOldest_21 rfl rfl rfl ?_
      refine Rn.iconst (pc1 := 23) (v := nI 1) dX1_dropOldest_22 rfl (by decide) ?_
      refine Rn.isub (pc1 := 24)  dX1_dropOldest_23 rfl (nI_sub (show 1 ≤ n + 1 by omega)) ?_
      refine Rn.aload_n (pc1 := 25)  dX1_dropOldest_24 rfl rfl rfl ?_
      refine Rn.getfield (pc1 := 28)  dX1_dropOldest_25 rfl fX1_11 (by first | assumption | exact mset_same | exact mget_ne (by omega) (by assumption)) rfl ?_
      refine Rn.iload_n (pc1 := 29)  dX1_dropOldest_28 rfl rfl rfl ?_
      refine Rn.aaload (pc1 := 30) (v := some (s (n + 1)))  dX1_dropOldest_29 rfl mset_same (fun _ => rfl) (vp_nI rfl (show n + 1 < 7 by omega) (by decide)) (by rw [nI_clamp (by omega)]; exact hv) ?_
      refine Rn.aastore (pc1 := 31) (ci := 6) (v := s (n + 1)) (f' := rotR r (n + 1))  dX1_dropOldest_30 rfl mset_same (fun _ => rfl) dO rfl (vp_nI rfl (show n + 1 - 1 < 7 by omega) (by decide)) (by rw [nI_clamp (by omega), Nat.add_sub_cancel]; exact rotR_up (hr (n + 1) (by omega))) ?_
      rw [mset_mset]
      refine Rn.iinc (pc1 := 34)  dX1_dropOldest_31 rfl rfl (nI_1 (n + 1)) (by decide) rfl rfl ?_
      refine Rn.goto 8 dX1_dropOldest_34 (by decide) ?_
      exact ih (n + 1) (by omega)
theorem eX1_dropOldest (H : HA μ y s held) : EvA G 1 kX1_dropOldest [.ref y] μ sz 0 0 (rV fun μ' => HA μ' y (fun i => if i < 6 then s (i + 1) else s 0) held ∧ Fr (y + 1) (y + 2) μ μ') := by
  have hO := H.1
  obtain ⟨q1, q2, ⟨r, q3, q4⟩, q5, q6, q7⟩ := id H
  obtain ⟨f0, h0, rc0, sc0, lr0, ls0, D⟩ := q7 0 (by omega)
  have dO := D.2.1
  refine EvA.of (L := [some (.ref y), none, none]) (by decide +kernel) (Nat.le_of_ble_eq_true rfl) rfl ?_
  refine Rn.aload_n (pc1 := 1)  dX1_dropOldest_0 rfl rfl rfl ?_
  refine Rn.iconst (pc1 := 2) (v := nI 0) dX1_dropOldest_1 rfl (by decide) ?_
  refine Rn.cV_r (pc1 := 5) (eX1_stateAt_y H rfl (show 0 < 7 by omega)) dX1_dropOldest_2 rfl qX1_22 oX1_stateAt (by first | assumption | exact mset_same | exact mget_ne (by omega) (by assumption)) rfl rfl rfl rfl (Nat.le_of_ble_eq_true rfl) (by decide) (by decide) (fun v2 μ2 h2 => ?_)
  obtain ⟨rfl, rfl⟩ := h2
  refine Rn.astore_n (pc1 := 6) (x := s 0)  dX1_dropOldest_5 rfl rfl (by decide) rfl rfl ?_
  refine Rn.iconst (pc1 := 7) (v := nI 1) dX1_dropOldest_6 rfl (by decide) ?_
  refine Rn.istore_n (pc1 := 8)  dX1_dropOldest_7 rfl rfl (by decide) rfl rfl ?_
  have J := lX1_dropOldest (G := G) (sz := sz) hO q4 (fun i hi => ⟨(H.lo hi).1, q7 i hi⟩) 6 0 (by omega)
  rw [show rotR r 0 = r from funext fun j => if_neg (by omega), mset_id q3] at J
  refine J.imp ?_
  rintro v μ' ⟨rfl, rfl⟩
  have z : Fr (y + 1) (y + 2) μ2 (mset μ2 (y + 1) (refs 2 7 (va_up (rotR r 6) 6 (some (s 0))))) := Fr.set (by omega) (by omega)
  refine ⟨rfl, ⟨(z _ (by omega)).trans q1, q2, ⟨_, mset_same, fun i hi => ?_⟩, fun i hi => ?_, fun i j hi hj e => ?_, fun i hi => ?_⟩, z⟩
  · unfold va_up rotR
    by_cases e : i = 6
    · subst e; rfl
    · rw [if_neg e, if_pos (by omega)]; simp only [if_pos (show i < 6 by omega)]; exact q4 (i + 1) (by omega)
  · by_cases e : i < 6
    · simp only [if_pos e]; exact q5 (i + 1) (by omega)
    · simp only [if_neg e]; exact q5 0 (by omega)
  · by_cases e1 : i < 6 <;> by_cases e2 : j < 6
    · simp only [if_pos e1, if_pos e2] at e; have := q6 _ _ (by omega) (by omega) e; omega
    · simp only [if_pos e1, if_neg e2] at e; have := q6 _ _ (by omega) (by omega) e; omega
    · simp only [if_neg e1, if_pos e2] at e; have := q6 _ _ (by omega) (by omega) e; omega
    · omega
  · by_cases e : i < 6
    · simp only [if_pos e]; exact (q7 (i + 1) (by omega)).fr z (by have := H.lo (show i + 1 < 7 by omega); omega)
    · simp only [if_neg e]; exact (q7 0 (by omega)).fr z (by have := H.lo (show 0 < 7 by omega); omega)
/-- the history behind a change: the prepared state counts, the oldest goes if there are six -/
def pushP (P : Nat → Nat → Int32) (held : Nat) (f : Nat → Int32) : Nat → Nat → Int32 := fun i => if held < 6 then (if i = held then f else P i) else if i = 5 then f else P (i + 1)
theorem eX1_settle_e {v : Int32} (hv : v < nI 0) : EvA G 2 kX1_settle [.ref y, .int v] μ sz 0 0 (rI fun r μ' => r = v ∧ μ' = μ) := by
  refine EvA.of (L := [some (.ref y), some (.int v)]) (by decide +kernel) (Nat.le_of_ble_eq_true rfl) rfl ?_
  refine Rn.iload_n (pc1 := 1)  dX1_settle_0 rfl rfl rfl ?_
  refine Rn.if_ge (pc1 := 4) 6 dX1_settle_1 rfl (by decide) (fun c1 => ?_) (fun c1 => ?_)
  · exact absurd hv (i32_nlt.mpr c1)
  · refine Rn.iload_n (pc1 := 5)  dX1_settle_4 rfl rfl rfl ?_
    exact Rn.ireturn dX1_settle_5 rfl rfl ⟨_, rfl, rfl, rfl⟩
theorem eX1_settle {v : Int32} {P : Nat → Nat → Int32} {f : Nat → Int32} (hv : nI 0 ≤ v) (H : HA μ y s held) (Hp : HP μ s held P B) (F : ST μ (s held) f B) : EvA G 2 kX1_settle [.ref y, .int v] μ sz 0 0 (rI fun r μ' => r = v ∧ ∃ s' held', held' = (if held < 6 then held + 1 else 6) ∧ HA μ' y s' held' ∧ HP μ' s' held' (pushP P held f) B ∧ Fr y (y + 2) μ μ') := by
  have hO := H.1
  have hh := H.2.1
  refine EvA.of (L := [some (.ref y), some (.int v)]) (by decide +kernel) (Nat.le_of_ble_eq_true rfl) rfl ?_
  refine Rn.iload_n (pc1 := 1)  dX1_settle_0 rfl rfl rfl ?_
  refine Rn.if_ge (pc1 := 4) 6 dX1_settle_1 rfl (by decide) (fun c1 => ?_) (fun c1 => ?_)
  · refine Rn.aload_n (pc1 := 7)  dX1_settle_6 rfl rfl rfl ?_
    refine Rn.getfield (pc1 := 10)  dX1_settle_7 rfl fX1_17 (by first | assumption | exact mset_same | exact mget_ne (by omega) (by assumption)) rfl ?_
    refine Rn.bipush (pc1 := 12) (v := nI 6) dX1_settle_10 rfl (by decide) ?_
    refine Rn.icmp_ge (pc1 := 15) 28 dX1_settle_12 rfl (by decide) (fun c12 => ?_) (fun c12 => ?_)
    · have e : held = 6 := by rw [nI_leI (by decide) (by omega)] at c12; omega
      refine Rn.aload_n (pc1 := 29)  dX1_settle_28 rfl rfl rfl ?_
      refine Rn.cV_v (pc1 := 32) (eX1_dropOldest H) dX1_settle_29 rfl qX1_30 oX1_dropOldest (by first | assumption | exact mset_same | exact mget_ne (by omega) (by assumption)) rfl rfl rfl rfl (Nat.le_of_ble_eq_true rfl) (by decide) (by decide) (fun μ29 h29 => ?_)
      obtain ⟨H2, z2⟩ := h29
      refine Rn.iload_n (pc1 := 33) dX1_settle_32 rfl rfl rfl ?_
      subst e
      refine Rn.ireturn dX1_settle_33 rfl rfl ⟨_, rfl, rfl, _, 6, rfl, H2, fun i hi => ?_, z2.wide (by omega) (by omega)⟩
      simp only [if_pos hi]
      have hz := H.lo (show i + 1 < 7 by omega)
      unfold pushP
      rw [if_neg (by omega)]
      by_cases e5 : i = 5
      · subst e5; rw [if_pos rfl]; have e6 : s (5 + 1) = s 6 := rfl; exact F.fr z2 (by omega)
      · rw [if_neg e5]; exact (Hp (i + 1) (by omega)).fr z2 (by omega)
    · have e : held < 6 := by rw [nI_leI (by decide) (by omega)] at c12; omega
      refine Rn.aload_n (pc1 := 16)  dX1_settle_15 rfl rfl rfl ?_
      refine Rn.dup (pc1 := 17)  dX1_settle_16 rfl rfl ?_
      refine Rn.getfield (pc1 := 20)  dX1_settle_17 rfl fX1_17 (by first | assumption | exact mset_same | exact mget_ne (by omega) (by assumption)) rfl ?_
      refine Rn.iconst (pc1 := 21) (v := nI 1) dX1_settle_20 rfl (by decide) ?_
      refine Rn.iadd (pc1 := 22)  dX1_settle_21 rfl (nI_add held 1) ?_
      refine Rn.putfield (pc1 := 25)  dX1_settle_22 rfl pX1_17 (fun h => Bool.noConfusion h) (by first | assumption | exact mset_same | exact mget_ne (by omega) (by assumption)) (Nat.le_of_ble_eq_true rfl) rfl rfl rfl ?_
      refine Rn.goto 32 dX1_settle_25 (by decide) ?_
      refine Rn.iload_n (pc1 := 33)  dX1_settle_32 rfl rfl rfl ?_
      have z : Fr y (y + 1) μ (mset μ y (obj 1 [.ref (y + 1), .int (nI (held + 1))])) := Fr.set (by omega) (by omega)
      obtain ⟨q1, q2, ⟨r, q3, q4⟩, q5, q6, q7⟩ := id H
      refine Rn.ireturn dX1_settle_33 rfl rfl ⟨_, rfl, rfl, s, held + 1, (if_pos e).symm, ⟨mset_same, by omega, ⟨r, mget_ne (by omega) q3, q4⟩, q5, q6, fun i hi => (q7 i hi).fr z (by have := H.lo hi; omega)⟩, fun i hi => ?_, z.wide (by omega) (by omega)⟩
      have hz := H.lo (show i < 7 by omega)
      unfold pushP
      rw [if_pos e]
      by_cases e5 : i = held
      · subst e5; rw [if_pos rfl]; exact F.fr z (by omega)
      · rw [if_neg e5]; exact (Hp i (by omega)).fr z (by omega)
  · exact absurd hv c1
end HIST
end
section
/-! ===== Pad: the text, and the walk over it ===== -/
def PA (μ : Mm) (z : Nat) (P : Nat → Int32) (len pl : Nat) (lt fi se : Int32) : Prop := μ z = some (obj 2 [.ref (z + 1), .int (nI len), .int (nI pl), .int lt, .int fi, .int se]) ∧ μ (z + 1) = some (ints 80 P)
theorem PA.fr {μ μ' : Mm} {z x y len pl : Nat} {P : Nat → Int32} {lt fi se : Int32} (F : PA μ z P len pl lt fi se) (hF : Fr x y μ μ') (hd : z + 2 ≤ x ∨ y ≤ z) : PA μ' z P len pl lt fi se := ⟨(hF _ (by omega)).trans F.1, (hF _ (by omega)).trans F.2⟩
theorem PA.setO {μ : Mm} {z len pl : Nat} {P : Nat → Int32} {lt fi se : Int32} (F : PA μ z P len pl lt fi se) (len' pl' : Nat) (lt' fi' se' : Int32) {c : Cl} (hc : c = obj 2 [.ref (z + 1), .int (nI len'), .int (nI pl'), .int lt', .int fi', .int se']) : PA (mset μ z c) z P len' pl' lt' fi' se' := by
  subst hc
  exact ⟨mset_same, mget_ne (by omega) F.2⟩
/-- signs are 33 to 126 -/
def PadOk (P : Nat → Int32) (len : Nat) : Prop := len ≤ 80 ∧ ∀ j, j < len → ∃ c, 33 ≤ c ∧ c ≤ 126 ∧ P j = nI c
end
section
/-! ===== the changes of a State, on the flat row alone ===== -/
abbrev hF (f : Nat → Int32) : Nat := (f 6).toNatClampNeg
abbrev rF (f : Nat → Int32) : Nat := (f 7).toNatClampNeg
abbrev sF (f : Nat → Int32) : Nat := (f 8).toNatClampNeg
theorem IV.h {f : Nat → Int32} {h rc sc B : Nat} (I : IV f h rc sc B) : hF f = h ∧ rF f = rc ∧ sF f = sc := by
  obtain ⟨⟨e1, e2, e3⟩, ⟨b1, b2, b3⟩, -⟩ := I
  unfold hF rF sF
  rw [e1, e2, e3, nI_clamp (by omega), nI_clamp (by omega), nI_clamp (by omega)]
  exact ⟨rfl, rfl, rfl⟩
theorem IV.same {f f' : Nat → Int32} {h rc sc B : Nat} (I : IV f h rc sc B) (nv : NV f' rc sc) (e0 : ∃ s, 1 ≤ s ∧ s ≤ 20 ∧ f' 0 = nI s) (e3 : f 3 = f' 3) (e6 : f 6 = f' 6) (e7 : f 7 = f' 7) (e8 : f 8 = f' 8) (q : ∀ j, 21 ≤ j → j < 21 + 4 * h → f j = f' j) : IV f' h rc sc B := by
  obtain ⟨⟨k1, k2, k3⟩, b, s, ⟨N, n, n1, n2, n3, n4⟩, k, -⟩ := I
  refine ⟨⟨e6 ▸ k1, e7 ▸ k2, e8 ▸ k3⟩, b, e0, ⟨N, n, n1, e3 ▸ n2, fun j hj => ?_, n4⟩, fun j hj => ?_, nv⟩
  · show f' _ = _ ∧ _
    rw [← q _ (by omega) (by omega)]; exact n3 j hj
  · show ∃ c, c < 12 ∧ f' _ = _
    rw [← q _ (by omega) (by omega)]; exact k j hj
theorem IV.hi {f f' : Nat → Int32} {h rc sc B : Nat} (I : IV f h rc sc B) (nv : NV f' rc sc) (q : ∀ j, j < 261 → f j = f' j) : IV f' h rc sc B :=
  I.same nv (by rw [← q 0 (by omega)]; exact I.2.2.1) (q _ (by omega)) (q _ (by omega)) (q _ (by omega)) (q _ (by omega)) (fun j h1 h2 => q _ (by have := I.2.1.1; omega))
theorem kept_mono {p : Nat → Bool} : ∀ {n i j a b : Nat}, (kept p n)[i]? = some a → (kept p n)[j]? = some b → i < j → a < b
  | 0, i, j, a, b, h, _, _ => by simp [kept] at h
  | n + 1, i, j, a, b, h1, h2, hij => by
    unfold kept at h1 h2
    by_cases hp : p n = true
    · rw [if_pos hp] at h1 h2; exact kept_mono h1 h2 hij
    · rw [if_neg hp] at h1 h2
      have l2 := (List.getElem?_eq_some_iff.mp h2).1
      rw [List.length_append] at l2
      have l3 : [n].length = 1 := rfl
      rw [List.getElem?_append_left (by omega)] at h1
      by_cases hj : j < (kept p n).length
      · rw [List.getElem?_append_left hj] at h2; exact kept_mono h1 h2 hij
      · rw [List.getElem?_append_right (by omega), show j - (kept p n).length = 0 by omega] at h2
        cases h2
        exact kept_lt h1
/-- entries read by a reading of at most M: those ahead -/
abbrev rdK (f : Nat → Int32) (h i : Nat) : Nat := h - cntA f (f (261 + 27 * i)) h
abbrev rdC (f : Nat → Int32) (h i M : Nat) : Nat := min M (cntA f (f (261 + 27 * i)) h)
theorem cntA_le (f : Nat → Int32) (pl : Int32) : ∀ n, cntA f pl n ≤ n
  | 0 => Nat.le_refl 0
  | n + 1 => by have := cntA_le f pl n; show _ + _ ≤ _; split <;> omega
theorem thinF_e {f : Nat → Int32} {h : Nat} {s mi : Int32} {j w : Nat} (hj : j < leftF f h s mi) (hw : w < 4) : ∃ q, (kept (pF f h s mi) h)[j]? = some q ∧ q < h ∧ thinF f h s mi (21 + 4 * j + w) = f (21 + 4 * q + w) := by
  have hl := kept_len (pF f h s mi) h
  have hj2 : j < (kept (pF f h s mi) h).length := by rw [hl]; exact hj
  have hjq := List.getElem?_eq_getElem hj2
  refine ⟨_, hjq, kept_lt hjq, ?_⟩
  unfold thinF
  rw [if_neg (by omega), if_neg (by omega), if_neg (by omega), if_pos (by omega), show (21 + 4 * j + w - 21) / 4 = j by omega, show (21 + 4 * j + w - 21) % 4 = w by omega, List.getD_eq_getElem?_getD, hjq]
  rfl
section NVS
variable {f : Nat → Int32} {h rc sc B : Nat}
theorem IV.nv (I : IV f h rc sc B) : NV f rc sc := I.2.2.2.2.2
theorem NV.same {f' : Nat → Int32} (V : NV f rc sc) (q : ∀ j, j = 1 ∨ j = 2 ∨ 261 ≤ j → f j = f' j) : NV f' rc sc := by
  obtain ⟨v1, ⟨m, m1, m2⟩, v3, v4⟩ := V
  exact ⟨by rw [← q 1 (by omega)]; exact v1, ⟨m, m1, by rw [← q 2 (by omega)]; exact m2⟩, fun i hi => by rw [← q _ (by omega), ← q _ (by omega)]; exact v3 i hi, fun n hn => by rw [← q _ (by omega)]; exact v4 n hn⟩
theorem le_of_in0 {v : Int32} {n : Nat} (h : inB v (nI 0) (nI n) = true) : nI 0 ≤ v := by
  unfold inB at h
  rw [Bool.and_eq_true, decide_eq_true_eq] at h
  exact h.1
theorem NV.turn {k : Nat} {v : Int32} (V : NV f rc sc) (hm : mayTurnF (nI k) v = nI 0) (hk : k < 2) : NV (upd f k v) rc sc := by
  obtain ⟨v1, ⟨m, m1, m2⟩, v3, v4⟩ := V
  refine ⟨?_, ⟨m, m1, by rw [upd_ne (by omega)]; exact m2⟩, fun i hi => by rw [upd_ne (by omega), upd_ne (by omega)]; exact v3 i hi, fun n hn => by rw [upd_ne (by omega)]; exact v4 n hn⟩
  by_cases e : k = 1
  · subst e
    rw [upd_at rfl]
    unfold mayTurnF at hm
    rw [if_neg (by decide)] at hm
    by_cases q : nI 1 = nI 1 ∧ inB v (nI 0) (nI 999) = true
    · exact le_of_in0 q.2
    · rw [if_neg q] at hm; exact absurd hm (by decide)
  · rw [upd_ne (by omega)]; exact v1
theorem passF_ok {m : Int32} (V : NV f rc sc) (hm : mayPassF f m = nI 0) : ∃ q, q ≤ 99999 ∧ f 2 + m = nI q := by
  obtain ⟨v1, ⟨m0, m1, m2⟩, v3, v4⟩ := V
  unfold mayPassF at hm
  by_cases q : inB m (nI 1) (nI 999) = true
  · rw [if_pos q] at hm
    by_cases q2 : f 2 + m ≤ 99999
    · unfold inB at q
      rw [Bool.and_eq_true, decide_eq_true_eq, decide_eq_true_eq] at q
      obtain ⟨c, hc, rfl⟩ := nI_of (x := m) (by
        intro z
        have h1 := q.1
        rw [Int32.le_iff_toInt_le, nI_toInt (by decide)] at h1
        rw [Int32.lt_iff_toInt_lt, Int32.toInt_zero] at z
        omega)
      have hc2 := (nI_leI hc (by decide)).mp q.2
      rw [m2, nI_add] at q2 ⊢
      exact ⟨m0 + c, (nI_leI (by omega) (by decide)).mp q2, rfl⟩
    · rw [if_neg q2] at hm; exact absurd hm (by decide)
  · rw [if_neg q] at hm; exact absurd hm (by decide)
theorem NV.pass {m : Int32} (V : NV f rc sc) (hm : mayPassF f m = nI 0) : NV (upd f 2 (f 2 + m)) rc sc := by
  obtain ⟨q, q1, q2⟩ := passF_ok V hm
  obtain ⟨v1, -, v3, v4⟩ := V
  exact ⟨by rw [upd_ne (by omega)]; exact v1, ⟨q, q1, by rw [upd_at rfl]; exact q2⟩, fun i hi => by rw [upd_ne (by omega), upd_ne (by omega)]; exact v3 i hi, fun n hn => by rw [upd_ne (by omega)]; exact v4 n hn⟩
theorem NV.sets {k : Nat} {v : Int32} (V : NV f rc sc) (hk : k < 12) (hh : h < 60) : NV (setsF f h k v) rc sc := V.same (fun j hj => by
  unfold setsF
  rw [upd_ne (by omega), upd_ne (by omega), upd_ne (by omega), upd_ne (by omega), upd_ne (by omega), upd_ne (by omega), upd_ne (by omega)])
theorem NV.thin {s mi : Int32} (V : NV f rc sc) (hh : h ≤ 60) : NV (thinF f h s mi) rc sc := V.same (fun j hj => by
  have hle : leftF f h s mi ≤ h := leftN_le _ _
  unfold thinF
  rw [if_neg (by omega), if_neg (by omega), if_neg (by omega), if_neg (by omega)])
/-- a change of reader i alone -/
theorem NV.rd {i : Nat} {f' : Nat → Int32} (V : NV f rc sc) (hi : i < rc) (hrc : rc ≤ 6) (q : ∀ j, j < 261 + 27 * i ∨ 261 + 27 * i + 27 ≤ j → f' j = f j) (h1 : nI 0 ≤ f' (261 + 27 * i)) (h2 : nI 0 ≤ f' (261 + 27 * i + 1)) : NV f' rc sc := by
  obtain ⟨v1, ⟨m, m1, m2⟩, v3, v4⟩ := V
  refine ⟨by rw [q 1 (by omega)]; exact v1, ⟨m, m1, by rw [q 2 (by omega)]; exact m2⟩, fun k hk => ?_, fun n hn => by rw [q _ (by omega)]; exact v4 n hn⟩
  by_cases e : k = i
  · subst e; exact ⟨h1, h2⟩
  · rw [q _ (by omega), q _ (by omega)]; exact v3 k hk
theorem NV.begin {i : Nat} {pl : Int32} {vw : Nat → Int32} (V : NV f rc sc) (hi : i < rc) (hrc : rc ≤ 6) (hp : nI 0 ≤ pl) : NV (beginF f i pl vw) rc sc := V.rd hi hrc (fun j hj => by unfold beginF; rw [blk_out (by omega), blk_out (by omega), upd_ne (by omega), upd_ne (by omega)]) (by unfold beginF; rw [blk_out (by omega), blk_out (by omega), upd_ne (by omega), upd_at rfl]; exact hp) (by unfold beginF; rw [blk_out (by omega), blk_out (by omega), upd_at rfl]; exact hp)
theorem NV.conf {i : Nat} (V : NV f rc sc) (hi : i < rc) (hrc : rc ≤ 6) : NV (confF f i) rc sc := V.rd hi hrc (fun j hj => by unfold confF; rw [upd_ne (by omega), blk_out (by omega)]) (by unfold confF; rw [upd_ne (by omega), blk_out (by omega)]; exact (V.2.2.1 i hi).1) (by unfold confF; rw [upd_at rfl]; exact (V.2.2.1 i hi).1)
theorem NV.back {i : Nat} (V : NV f rc sc) (hi : i < rc) (hrc : rc ≤ 6) : NV (backF f i) rc sc := V.rd hi hrc (fun j hj => by unfold backF; rw [upd_ne (by omega), blk_out (by omega)]) (by unfold backF; rw [upd_at rfl]; exact (V.2.2.1 i hi).2) (by unfold backF; rw [upd_ne (by omega), blk_out (by omega)]; exact (V.2.2.1 i hi).2)
theorem IV.nvread {i k c : Nat} (I : IV f h rc sc B) (hB : B < 2 ^ 30) (hi : i < rc) (hkc : k + c ≤ h) : NV (readF f i k c) rc sc := by
  have V := I.nv
  refine V.rd hi I.2.1.2.1 (fun j hj => by unfold readF; rw [upd_ne (by omega), upd_ne (by omega), blk_out (by omega)]) ?_ (by unfold readF; rw [upd_ne (by omega), upd_ne (by omega), blk_out (by omega)]; exact (V.2.2.1 i hi).2)
  unfold readF
  rw [upd_ne (by omega), upd_at rfl]
  cases c with
  | zero => exact (V.2.2.1 i hi).1
  | succ c =>
    obtain ⟨-, -, -, ⟨N, n, n1, n2, n3, n4⟩, -⟩ := I
    show nI 0 ≤ e0 f (k + c) + nI 1
    obtain ⟨m1, m2⟩ := n3 (k + c) (by omega)
    rw [m1, nI_add]
    exact nI_le (Nat.zero_le _) (by omega)
theorem NV.come (V : NV f rc sc) (hr : rc < 6) : NV (comeF f rc) (rc + 1) sc := by
  obtain ⟨v1, ⟨m, m1, m2⟩, v3, v4⟩ := V
  have hq : ∀ j, j ≠ 7 → (j < 261 + 27 * rc ∨ 261 + 27 * rc + 27 ≤ j) → comeF f rc j = f j := fun j h1 h2 => by
    unfold comeF beginF
    rw [upd_ne (by omega), blk_out (by omega), blk_out (by omega), upd_ne (by omega), upd_ne (by omega), upd_ne (by omega)]
  refine ⟨by rw [hq _ (by omega) (by omega)]; exact v1, ⟨m, m1, by rw [hq _ (by omega) (by omega)]; exact m2⟩, fun k hk => ?_, fun n hn => by rw [hq _ (by omega) (by omega)]; exact v4 n hn⟩
  by_cases e : k = rc
  · subst e
    unfold comeF beginF
    rw [upd_ne (by omega), blk_out (by omega), blk_out (by omega), upd_ne (by omega), upd_at rfl, upd_ne (by omega), blk_out (by omega), blk_out (by omega), upd_at rfl]
    exact ⟨by decide, by decide⟩
  · rw [hq _ (by omega) (by omega), hq _ (by omega) (by omega)]; exact v3 k (by omega)
theorem IV.next (I : IV f h rc sc B) (hB : B < 2 ^ 30) : nI 0 ≤ f 3 := by
  obtain ⟨-, -, -, ⟨N, n, n1, n2, n3, n4⟩, -⟩ := I
  rw [n2]; exact nI_le (Nat.zero_le _) (by omega)
theorem IV.nvshot (I : IV f h rc sc B) (hB : B < 2 ^ 30) : NV (shotF f sc) rc (if sc < 4 then sc + 1 else sc) := by
  have hn := I.next hB
  have hrc := I.2.1.2.1
  have hsc := I.2.1.2.2
  obtain ⟨v1, ⟨m, m1, m2⟩, v3, v4⟩ := I.nv
  have hq : ∀ j, j ≠ 8 → j < 423 → shotF f sc j = f j := fun j h1 h2 => by
    unfold shotF
    rw [upd_ne (by omega), blk_out (by omega), upd_ne (by omega), blk_out (by omega)]
  refine ⟨by rw [hq _ (by omega) (by omega)]; exact v1, ⟨m, m1, by rw [hq _ (by omega) (by omega)]; exact m2⟩, fun i hi => by rw [hq _ (by omega) (by omega), hq _ (by omega) (by omega)]; exact v3 i hi, fun n hn2 => ?_⟩
  have h4 : n < 4 ∧ n ≤ sc := by split at hn2 <;> omega
  cases n with
  | zero => unfold shotF; rw [upd_ne (by omega), blk_out (by omega), upd_at rfl]; exact hn
  | succ n =>
    unfold shotF
    rw [upd_ne (by omega), blk_out (by omega), upd_ne (by omega), blk_in (q := 13 * n) (by omega) (by omega)]
    exact v4 n (by omega)
end NVS
section IVS
variable {f : Nat → Int32} {h rc sc B : Nat}
theorem IV.turn {k : Nat} {v : Int32} (I : IV f h rc sc B) (hm : mayTurnF (nI k) v = nI 0) (hk : k < 2) : IV (upd f k v) h rc sc B := by
  refine I.same (I.nv.turn hm hk) ?_ (upd_ne (by omega)).symm (upd_ne (by omega)).symm (upd_ne (by omega)).symm (upd_ne (by omega)).symm (fun j h1 h2 => (upd_ne (by omega)).symm)
  by_cases e : k = 0
  · subst e
    unfold mayTurnF at hm
    rw [if_pos rfl] at hm
    by_cases q : inB v (nI 1) (nI 20) = true
    · unfold inB at q
      rw [Bool.and_eq_true, decide_eq_true_eq, decide_eq_true_eq] at q
      obtain ⟨s, hs, rfl⟩ := nI_of (x := v) (by
        intro z
        have h1 := q.1
        rw [Int32.le_iff_toInt_le, nI_toInt (by decide)] at h1
        rw [Int32.lt_iff_toInt_lt, Int32.toInt_zero] at z
        omega)
      exact ⟨s, (nI_leI (by decide) hs).mp q.1, (nI_leI hs (by decide)).mp q.2, upd_at rfl⟩
    · rw [if_neg q] at hm; exact absurd hm (by decide)
  · obtain ⟨s, h1, h2, h3⟩ := I.2.2.1
    exact ⟨s, h1, h2, by rw [upd_ne (by omega)]; exact h3⟩
theorem IV.pass {v : Int32} (I : IV f h rc sc B) (hm : mayPassF f v = nI 0) : IV (upd f 2 (f 2 + v)) h rc sc B := by
  obtain ⟨s, h1, h2, h3⟩ := I.2.2.1
  exact I.same (I.nv.pass hm) ⟨s, h1, h2, by rw [upd_ne (by omega)]; exact h3⟩ (upd_ne (by omega)).symm (upd_ne (by omega)).symm (upd_ne (by omega)).symm (upd_ne (by omega)).symm (fun j h1 h2 => (upd_ne (by omega)).symm)
theorem IV.sets {k : Nat} {v : Int32} (I : IV f h rc sc B) (hk : k < 12) (hh : h < 60) : IV (setsF f h k v) (h + 1) rc sc (B + 1) := by
  have hq : ∀ j, j ≠ 3 → j ≠ 6 → j ≠ 9 + k → (j < 21 + 4 * h ∨ 21 + 4 * h + 4 ≤ j) → setsF f h k v j = f j := fun j h1 h2 h3 h4 => by
    unfold setsF
    rw [upd_ne (by omega), upd_ne (by omega), upd_ne (by omega), upd_ne (by omega), upd_ne (by omega), upd_ne (by omega), upd_ne (by omega)]
  obtain ⟨⟨k1, k2, k3⟩, b, ⟨s, s1, s2, s3⟩, ⟨N, n, n1, n2, n3, n4⟩, kk, nv0⟩ := I
  refine ⟨⟨by unfold setsF; rw [upd_ne (by omega), upd_ne (by omega), upd_at rfl], by rw [hq _ (by omega) (by omega) (by omega) (by omega)]; exact k2, by rw [hq _ (by omega) (by omega) (by omega) (by omega)]; exact k3⟩, ⟨by omega, b.2⟩, ⟨s, s1, s2, by rw [hq _ (by omega) (by omega) (by omega) (by omega)]; exact s3⟩, ⟨N + 1, fun j => if j = h then N else n j, by omega, by unfold setsF; rw [upd_at rfl, n2, nI_add], fun j hj => ?_, fun i j hij hj => ?_⟩, fun j hj => ?_, nv0.sets hk hh⟩
  · by_cases e : j = h
    · subst e
      simp only [↓reduceIte]
      refine ⟨?_, by omega⟩
      show setsF f j k v (21 + 4 * j) = _
      unfold setsF
      rw [upd_ne (by omega), upd_ne (by omega), upd_ne (by omega), upd_ne (by omega), upd_ne (by omega), upd_ne (by omega), upd_at rfl, n2]
    · simp only [if_neg e]
      obtain ⟨m1, m2⟩ := n3 j (by omega)
      refine ⟨?_, by omega⟩
      show setsF f h k v (21 + 4 * j) = _
      rw [hq _ (by omega) (by omega) (by omega) (by omega)]; exact m1
  · by_cases e : j = h
    · subst e
      simp only [if_neg (show ¬ i = j by omega), ↓reduceIte]
      exact (n3 i (by omega)).2
    · simp only [if_neg e, if_neg (show ¬ i = h by omega)]
      exact n4 i j hij (by omega)
  · by_cases e : j = h
    · subst e
      refine ⟨k, hk, ?_⟩
      show setsF f j k v (21 + 4 * j + 1) = _
      unfold setsF
      rw [upd_ne (by omega), upd_ne (by omega), upd_ne (by omega), upd_ne (by omega), upd_ne (by omega), upd_at rfl]
    · obtain ⟨c, c1, c2⟩ := kk j (by omega)
      refine ⟨c, c1, ?_⟩
      show setsF f h k v (21 + 4 * j + 1) = _
      rw [hq _ (by omega) (by omega) (by omega) (by omega)]; exact c2
theorem IV.thin {s mi : Int32} (I : IV f h rc sc B) : IV (thinF f h s mi) (leftF f h s mi) rc sc B := by
  have hle : leftF f h s mi ≤ h := leftN_le _ _
  have hq : ∀ j, j ≠ 4 → j ≠ 5 → j ≠ 6 → j < 21 → thinF f h s mi j = f j := fun j h1 h2 h3 h4 => by
    unfold thinF
    rw [if_neg h1, if_neg h2, if_neg h3, if_neg (by omega)]
  obtain ⟨⟨k1, k2, k3⟩, b, ⟨z, s1, s2, s3⟩, ⟨N, n, n1, n2, n3, n4⟩, kk, nv0⟩ := I
  refine ⟨⟨rfl, by rw [hq _ (by omega) (by omega) (by omega) (by omega)]; exact k2, by rw [hq _ (by omega) (by omega) (by omega) (by omega)]; exact k3⟩, ⟨by omega, b.2⟩, ⟨z, s1, s2, by rw [hq _ (by omega) (by omega) (by omega) (by omega)]; exact s3⟩, ⟨N, fun j => n ((kept (pF f h s mi) h).getD j 0), n1, by rw [hq _ (by omega) (by omega) (by omega) (by omega)]; exact n2, fun j hj => ?_, fun i j hij hj => ?_⟩, fun j hj => ?_, nv0.thin b.1⟩
  · obtain ⟨q, q1, q2, q3⟩ := thinF_e (w := 0) hj (by omega)
    rw [Nat.add_zero, Nat.add_zero] at q3
    show thinF f h s mi (21 + 4 * j) = _ ∧ _
    simp only [List.getD_eq_getElem?_getD, q1, Option.getD_some]
    rw [q3]
    exact n3 q q2
  · obtain ⟨q, q1, q2, q3⟩ := thinF_e (f := f) (h := h) (s := s) (mi := mi) (j := i) (w := 0) (by omega) (by omega)
    obtain ⟨u, u1, u2, u3⟩ := thinF_e (f := f) (h := h) (s := s) (mi := mi) (j := j) (w := 0) hj (by omega)
    simp only [List.getD_eq_getElem?_getD, q1, u1, Option.getD_some]
    exact n4 q u (kept_mono q1 u1 hij) u2
  · obtain ⟨q, q1, q2, q3⟩ := thinF_e (w := 1) hj (by omega)
    show ∃ c, c < 12 ∧ thinF f h s mi (21 + 4 * j + 1) = _
    rw [q3]
    exact kk q q2
theorem IV.begin {i : Nat} {pl : Int32} {vw : Nat → Int32} (I : IV f h rc sc B) (hi : i < rc) (hp : nI 0 ≤ pl) : IV (beginF f i pl vw) h rc sc B := I.hi (I.nv.begin hi I.2.1.2.1 hp) (fun j hj => by unfold beginF; rw [blk_out (by omega), blk_out (by omega), upd_ne (by omega), upd_ne (by omega)])
theorem IV.conf {i : Nat} (I : IV f h rc sc B) (hi : i < rc) : IV (confF f i) h rc sc B := I.hi (I.nv.conf hi I.2.1.2.1) (fun j hj => by unfold confF; rw [upd_ne (by omega), blk_out (by omega)])
theorem IV.back {i : Nat} (I : IV f h rc sc B) (hi : i < rc) : IV (backF f i) h rc sc B := I.hi (I.nv.back hi I.2.1.2.1) (fun j hj => by unfold backF; rw [upd_ne (by omega), blk_out (by omega)])
theorem IV.read {i k c : Nat} (I : IV f h rc sc B) (hB : B < 2 ^ 30) (hi : i < rc) (hkc : k + c ≤ h) : IV (readF f i k c) h rc sc B := I.hi (I.nvread hB hi hkc) (fun j hj => by unfold readF; rw [upd_ne (by omega), upd_ne (by omega), blk_out (by omega)])
theorem IV.come (I : IV f h rc sc B) (hr : rc < 6) : IV (comeF f rc) h (rc + 1) sc B := by
  have hq : ∀ j, j ≠ 7 → j < 261 → comeF f rc j = f j := fun j h1 h2 => by
    unfold comeF beginF
    rw [upd_ne (by omega), blk_out (by omega), blk_out (by omega), upd_ne (by omega), upd_ne (by omega), upd_ne (by omega)]
  have hb := I.2.1.1
  obtain ⟨⟨k1, k2, k3⟩, b, ⟨z, s1, s2, s3⟩, ⟨N, n, n1, n2, n3, n4⟩, kk, nv0⟩ := I
  refine ⟨⟨by rw [hq _ (by omega) (by omega)]; exact k1, by unfold comeF; rw [upd_at rfl], by rw [hq _ (by omega) (by omega)]; exact k3⟩, ⟨b.1, by omega, b.2.2⟩, ⟨z, s1, s2, by rw [hq _ (by omega) (by omega)]; exact s3⟩, ⟨N, n, n1, by rw [hq _ (by omega) (by omega)]; exact n2, fun j hj => ?_, n4⟩, fun j hj => ?_, nv0.come hr⟩
  · show comeF f rc _ = _ ∧ _
    rw [hq _ (by omega) (by omega)]; exact n3 j hj
  · show ∃ c, c < 12 ∧ comeF f rc _ = _
    rw [hq _ (by omega) (by omega)]; exact kk j hj
theorem IV.shot (I : IV f h rc sc B) (hB : B < 2 ^ 30) : IV (shotF f sc) h rc (if sc < 4 then sc + 1 else sc) B := by
  have hq : ∀ j, j ≠ 8 → j < 423 → shotF f sc j = f j := fun j h1 h2 => by
    unfold shotF
    rw [upd_ne (by omega), blk_out (by omega), upd_ne (by omega), blk_out (by omega)]
  have nvs := I.nvshot hB
  have hb := I.2.1.1
  obtain ⟨⟨k1, k2, k3⟩, b, ⟨z, s1, s2, s3⟩, ⟨N, n, n1, n2, n3, n4⟩, kk, nv0⟩ := I
  refine ⟨⟨by rw [hq _ (by omega) (by omega)]; exact k1, by rw [hq _ (by omega) (by omega)]; exact k2, by unfold shotF; rw [upd_at rfl]⟩, ⟨b.1, b.2.1, by have := b.2.2; split <;> omega⟩, ⟨z, s1, s2, by rw [hq _ (by omega) (by omega)]; exact s3⟩, ⟨N, n, n1, by rw [hq _ (by omega) (by omega)]; exact n2, fun j hj => ?_, n4⟩, fun j hj => ?_, nvs⟩
  · show shotF f sc _ = _ ∧ _
    rw [hq _ (by omega) (by omega)]; exact n3 j hj
  · show ∃ c, c < 12 ∧ shotF f sc _ = _
    rw [hq _ (by omega) (by omega)]; exact kk j hj
end IVS
/-- what a change answers: an error (nothing has changed), or a number with the new row -/
abbrev QC (a B : Nat) (μ : Mm) (may val : Int32) (f' : Nat → Int32) : Option Value → Mm → Prop := rI fun v μ' => (may < nI 0 ∧ v = may ∧ μ' = μ) ∨ (may = nI 0 ∧ nI 0 ≤ val ∧ v = val ∧ ST μ' a f' (B + 1) ∧ Fr a (a + 52) μ μ')
section STOPS
variable {G : GG} {μ : Mm} {sz : Nat} {a B : Nat} {f : Nat → Int32}
theorem m1_lt : (-1 : Int32) < nI 0 := by decide
theorem m2_lt : (-2 : Int32) < nI 0 := by decide
theorem m4_lt : (-4 : Int32) < nI 0 := by decide
theorem m5_lt : (-5 : Int32) < nI 0 := by decide
theorem mayTurn_lt {s v : Int32} (h : mayTurnF s v ≠ nI 0) : mayTurnF s v < nI 0 := by
  unfold mayTurnF at h ⊢
  split <;> split <;> simp_all <;> decide
theorem maySet_lt {x : Nat} {s v : Int32} (h : maySetF x s v ≠ nI 0) : maySetF x s v < nI 0 := by
  unfold maySetF at h ⊢
  split
  · split
    · split
      · decide
      · simp_all
    · decide
  · decide
theorem mayRemove_lt {x : Nat} {s : Int32} (h : mayRemoveF f x s ≠ nI 0) : mayRemoveF f x s < nI 0 := by
  unfold mayRemoveF at h ⊢
  split
  · split
    · decide
    · split
      · decide
      · simp_all
  · decide
theorem mayPass_lt {s : Int32} (h : mayPassF f s ≠ nI 0) : mayPassF f s < nI 0 := by
  unfold mayPassF at h ⊢
  split
  · split
    · simp_all
    · decide
  · decide
theorem mayRead_lt {x : Nat} {s m : Int32} (h : mayReadF f x s m ≠ nI 0) : mayReadF f x s m < nI 0 := by
  unfold mayReadF at h ⊢
  split
  · split
    · split
      · decide
      · simp_all
    · decide
  · decide
theorem mayLoad_lt {x y : Nat} {s m : Int32} (h : mayLoadF f x y s m ≠ nI 0) : mayLoadF f x y s m < nI 0 := by
  unfold mayLoadF at h ⊢
  split
  · split
    · decide
    · simp_all
  · decide
theorem sX6_turnSetting {s v : Int32} (F : ST μ a f B) : EvA G 1 kX6_turnSetting [.ref a, .int s, .int v] μ sz 0 0 (QC a B μ (mayTurnF s v) (f s.toNatClampNeg) (upd f s.toNatClampNeg v)) := by
  obtain ⟨h, rc, sc, S, I⟩ := F
  refine (eX6_turnSetting S).imp ?_
  rintro r μ' ⟨w, rfl, ⟨h1, rfl, rfl⟩ | ⟨h1, k, hk, rfl, rfl, S', z⟩⟩
  · exact ⟨_, rfl, Or.inl ⟨mayTurn_lt h1, rfl, rfl⟩⟩
  · rw [nI_clamp (by omega)]
    refine ⟨_, rfl, Or.inr ⟨h1, ?_, rfl, ⟨h, rc, sc, S', (I.turn h1 hk).mono (by omega)⟩, z⟩⟩
    match k, hk with
    | 0, _ =>
      obtain ⟨x, x1, x2, x3⟩ := I.2.2.1
      rw [x3]; exact nI_le (Nat.zero_le _) (by omega)
    | 1, _ => exact I.nv.1
theorem sX6_setKey {key v : Int32} (hB : B < 2 ^ 30) (F : ST μ a f B) : EvA G 3 kX6_setKey [.ref a, .int key, .int v] μ sz 0 0 (QC a B μ (maySetF (hF f) key v) (f 3) (setsF f (hF f) key.toNatClampNeg v)) := by
  obtain ⟨h, rc, sc, S, I⟩ := F
  rw [I.h.1]
  refine (eX6_setKey S).imp ?_
  rintro r μ' ⟨w, rfl, ⟨h1, rfl, rfl⟩ | ⟨h1, k, hk, rfl, rfl, S', z⟩⟩
  · exact ⟨_, rfl, Or.inl ⟨maySet_lt h1, rfl, rfl⟩⟩
  · rw [nI_clamp (by omega)]
    refine ⟨_, rfl, Or.inr ⟨h1, I.next hB, rfl, ⟨h + 1, rc, sc, S', I.sets hk (by have := S'.1.1; omega)⟩, z⟩⟩
theorem sX6_removeKey {key : Int32} (hB : B < 2 ^ 30) (F : ST μ a f B) : EvA G 3 kX6_removeKey [.ref a, .int key] μ sz 0 0 (QC a B μ (mayRemoveF f (hF f) key) (f 3) (setsF f (hF f) key.toNatClampNeg (-6))) := by
  obtain ⟨h, rc, sc, S, I⟩ := F
  rw [I.h.1]
  refine (eX6_removeKey S).imp ?_
  rintro r μ' ⟨w, rfl, ⟨h1, rfl, rfl⟩ | ⟨h1, k, hk, rfl, rfl, S', z⟩⟩
  · exact ⟨_, rfl, Or.inl ⟨mayRemove_lt h1, rfl, rfl⟩⟩
  · rw [nI_clamp (by omega)]
    refine ⟨_, rfl, Or.inr ⟨h1, I.next hB, rfl, ⟨h + 1, rc, sc, S', I.sets hk (by have := S'.1.1; omega)⟩, z⟩⟩
theorem sX6_letPass {m : Int32} (F : ST μ a f B) : EvA G 1 kX6_letPass [.ref a, .int m] μ sz 0 0 (QC a B μ (mayPassF f m) (f 2 + m) (upd f 2 (f 2 + m))) := by
  obtain ⟨h, rc, sc, S, I⟩ := F
  refine (eX6_letPass S).imp ?_
  rintro r μ' ⟨w, rfl, ⟨h1, rfl, rfl⟩ | ⟨h1, rfl, S', z⟩⟩
  · exact ⟨_, rfl, Or.inl ⟨mayPass_lt h1, rfl, rfl⟩⟩
  · obtain ⟨q, q1, q2⟩ := passF_ok I.nv h1
    exact ⟨_, rfl, Or.inr ⟨h1, by rw [q2]; exact nI_le (Nat.zero_le _) (by omega), rfl, ⟨h, rc, sc, S', (I.pass h1).mono (by omega)⟩, z⟩⟩
theorem sX6_thinFeed (F : ST μ a f B) : EvA G 4 kX6_thinFeed [.ref a] μ sz 0 0 (QC a B μ (nI 0) (nI (hF f - leftF f (hF f) (f 0) (f 2))) (thinF f (hF f) (f 0) (f 2))) := by
  obtain ⟨h, rc, sc, S, I⟩ := F
  rw [I.h.1]
  refine (eX6_thinFeed S I.size).imp ?_
  rintro r μ' ⟨w, rfl, rfl, S', z⟩
  exact ⟨_, rfl, Or.inr ⟨rfl, nI_le (Nat.zero_le _) (by have := S.1.1; omega), rfl, ⟨_, rc, sc, S', I.thin.mono (by omega)⟩, z⟩⟩
theorem sX6_makeSnapshot (hB : B < 2 ^ 30) (F : ST μ a f B) : EvA G 4 kX6_makeSnapshot [.ref a] μ sz 0 0 (QC a B μ (nI 0) (f 3) (shotF f (sF f))) := by
  obtain ⟨h, rc, sc, S, I⟩ := F
  rw [I.h.2.2]
  refine (eX6_makeSnapshot S).imp ?_
  rintro r μ' ⟨w, rfl, rfl, S', z⟩
  exact ⟨_, rfl, Or.inr ⟨rfl, I.next hB, rfl, ⟨h, rc, _, S', (I.shot hB).mono (by omega)⟩, z⟩⟩
def mayComeF (rc : Nat) : Int32 := if rc = 6 then -4 else nI 0
theorem sX6_addReader (F : ST μ a f B) : EvA G 4 kX6_addReader [.ref a] μ sz 0 0 (QC a B μ (mayComeF (rF f)) (nI (rF f)) (comeF f (rF f))) := by
  obtain ⟨h, rc, sc, S, I⟩ := F
  rw [I.h.2.1]
  refine (eX6_addReader S).imp ?_
  rintro r μ' ⟨w, rfl, ⟨h1, rfl, rfl⟩ | ⟨h1, rfl, S', z⟩⟩
  · have e : mayComeF rc = -4 := if_pos h1
    exact ⟨_, rfl, Or.inl ⟨by rw [e]; decide, e.symm, rfl⟩⟩
  · exact ⟨_, rfl, Or.inr ⟨if_neg (by omega), nI_le (Nat.zero_le _) (by omega), rfl, ⟨h, rc + 1, sc, S', (I.come h1).mono (by omega)⟩, z⟩⟩
def mayIsF (rc : Nat) (r : Int32) : Int32 := if isRdB rc r = true then nI 0 else -1
theorem sX6_letConfirm {r : Int32} (F : ST μ a f B) : EvA G 3 kX6_letConfirm [.ref a, .int r] μ sz 0 0 (QC a B μ (mayIsF (rF f) r) (f (261 + 27 * r.toNatClampNeg)) (confF f r.toNatClampNeg)) := by
  obtain ⟨h, rc, sc, S, I⟩ := F
  rw [I.h.2.1]
  have hrc := S.1.2.1
  refine (eX6_letConfirm S).imp ?_
  rintro v μ' ⟨w, rfl, ⟨h1, rfl, rfl⟩ | ⟨h1, i, hi, rfl, rfl, S', z⟩⟩
  · have e : mayIsF rc r = -1 := if_neg (by rw [h1]; decide)
    exact ⟨_, rfl, Or.inl ⟨by rw [e]; decide, e.symm, rfl⟩⟩
  · rw [nI_clamp (by omega)]
    exact ⟨_, rfl, Or.inr ⟨if_pos h1, (I.nv.2.2.1 i hi).1, rfl, ⟨h, rc, sc, S', (I.conf hi).mono (by omega)⟩, z⟩⟩
theorem sX6_letGoBack {r : Int32} (F : ST μ a f B) : EvA G 3 kX6_letGoBack [.ref a, .int r] μ sz 0 0 (QC a B μ (mayIsF (rF f) r) (f (261 + 27 * r.toNatClampNeg + 1)) (backF f r.toNatClampNeg)) := by
  obtain ⟨h, rc, sc, S, I⟩ := F
  rw [I.h.2.1]
  have hrc := S.1.2.1
  refine (eX6_letGoBack S).imp ?_
  rintro v μ' ⟨w, rfl, ⟨h1, rfl, rfl⟩ | ⟨h1, i, hi, rfl, rfl, S', z⟩⟩
  · have e : mayIsF rc r = -1 := if_neg (by rw [h1]; decide)
    exact ⟨_, rfl, Or.inl ⟨by rw [e]; decide, e.symm, rfl⟩⟩
  · rw [nI_clamp (by omega)]
    exact ⟨_, rfl, Or.inr ⟨if_pos h1, (I.nv.2.2.1 i hi).2, rfl, ⟨h, rc, sc, S', (I.back hi).mono (by omega)⟩, z⟩⟩
theorem sX6_letBeginAnew {r : Int32} (hB : B < 2 ^ 30) (F : ST μ a f B) : EvA G 4 kX6_letBeginAnew [.ref a, .int r] μ sz 0 0 (QC a B μ (mayIsF (rF f) r) (nI (hF f)) (beginF f r.toNatClampNeg (nI 0) (fun _ => -6))) := by
  obtain ⟨h, rc, sc, S, I⟩ := F
  rw [I.h.2.1, I.h.1]
  have hrc := S.1.2.1
  refine (eX6_letBeginAnew S (I.nn (by omega))).imp ?_
  rintro v μ' ⟨w, rfl, ⟨h1, rfl, rfl⟩ | ⟨h1, i, hi, rfl, rfl, S', z⟩⟩
  · have e : mayIsF rc r = -1 := if_neg (by rw [h1]; decide)
    exact ⟨_, rfl, Or.inl ⟨by rw [e]; decide, e.symm, rfl⟩⟩
  · rw [nI_clamp (by omega)]
    exact ⟨_, rfl, Or.inr ⟨if_pos h1, nI_le (Nat.zero_le _) (by have := S.1.1; omega), rfl, ⟨h, rc, sc, S', (I.begin hi (by decide)).mono (by omega)⟩, z⟩⟩
theorem sX6_letLoad {r s : Int32} (F : ST μ a f B) : EvA G 4 kX6_letLoad [.ref a, .int r, .int s] μ sz 0 0 (QC a B μ (mayLoadF f (rF f) (sF f) r s) (f (423 + 13 * s.toNatClampNeg)) (beginF f r.toNatClampNeg (f (423 + 13 * s.toNatClampNeg)) (fun k => f (423 + 13 * s.toNatClampNeg + 1 + k)))) := by
  obtain ⟨h, rc, sc, S, I⟩ := F
  rw [I.h.2.1, I.h.2.2]
  have hrc := S.1.2.1
  have hsc := S.1.2.2
  refine (eX6_letLoad S).imp ?_
  rintro v μ' ⟨w, rfl, ⟨h1, rfl, rfl⟩ | ⟨h1, i, n, hi, hn, rfl, rfl, rfl, S', z⟩⟩
  · exact ⟨_, rfl, Or.inl ⟨mayLoad_lt h1, rfl, rfl⟩⟩
  · rw [nI_clamp (by omega), nI_clamp (by omega)]
    exact ⟨_, rfl, Or.inr ⟨h1, I.nv.2.2.2 n hn, rfl, ⟨h, rc, sc, S', (I.begin hi (I.nv.2.2.2 n hn)).mono (by omega)⟩, z⟩⟩
theorem sX6_letRead {r m : Int32} (hB : B < 2 ^ 30) (F : ST μ a f B) : EvA G 4 kX6_letRead [.ref a, .int r, .int m] μ sz 0 0 (QC a B μ (mayReadF f (rF f) r m) (nI (rdC f (hF f) r.toNatClampNeg m.toNatClampNeg)) (readF f r.toNatClampNeg (rdK f (hF f) r.toNatClampNeg) (rdC f (hF f) r.toNatClampNeg m.toNatClampNeg))) := by
  obtain ⟨h, rc, sc, S, I⟩ := F
  rw [I.h.2.1, I.h.1]
  have hrc := S.1.2.1
  refine (eX6_letRead S I.2.2.2.2.1).imp ?_
  rintro v μ' ⟨w, rfl, ⟨h1, rfl, rfl⟩ | ⟨h1, i, M, k, c, hi, rfl, rfl, M1, M2, hkc, hc, rfl, k2, k3, S', z⟩⟩
  · exact ⟨_, rfl, Or.inl ⟨mayRead_lt h1, rfl, rfl⟩⟩
  · rw [nI_clamp (by omega), nI_clamp (by omega)]
    have e : cntA f (f (261 + 27 * i)) h = h - k := cntA_eq (I.srt (by omega)) k2 k3 (Nat.le_refl h)
    have hh := S.1.1
    have ek : rdK f h i = k := by show h - cntA f _ h = k; rw [e]; omega
    have ec : rdC f h i M = c := by show min M (cntA f _ h) = c; rw [e, hc]
    rw [ek, ec]
    exact ⟨_, rfl, Or.inr ⟨h1, nI_le (Nat.zero_le _) (by omega), rfl, ⟨h, rc, sc, S', (I.read hB hi hkc).mono (by omega)⟩, z⟩⟩
end STOPS
end
section
/-! ===== the ChangeFeed at x: its State, history, pad, slots ===== -/
def CO (μ : Mm) (x : Nat) : Prop := μ x = some (obj 8 [.ref (x + 1), .ref (x + 53), .ref (x + 419), .ref (x + 421)])
def SL (μ : Mm) (x : Nat) (u : Nat → Bool) (S : Nat → Nat → Int32) (B : Nat) : Prop := (∃ r, μ (x + 421) = some (refs 5 2 r) ∧ ∀ i, i < 2 → r i = some (x + 422 + 53 * i)) ∧ ∀ i, i < 2 → μ (x + 422 + 53 * i) = some (obj 4 [.int (bI (u i)), .ref (x + 423 + 53 * i)]) ∧ SD μ (x + 423 + 53 * i) ∧ (u i = true → ST μ (x + 423 + 53 * i) (S i) B)
def PW (μ : Mm) (z : Nat) (Pp : Nat → Int32) (len : Nat) : Prop := PadOk Pp len ∧ ∃ pl lt fi se, PA μ z Pp len pl lt fi se
def CW (μ : Mm) (x : Nat) (f : Nat → Int32) (held : Nat) (P : Nat → Nat → Int32) (Pp : Nat → Int32) (len : Nat) (u : Nat → Bool) (S : Nat → Nat → Int32) (B : Nat) : Prop := CO μ x ∧ ST μ (x + 1) f B ∧ (∃ s, HA μ (x + 53) s held ∧ HP μ s held P B) ∧ PW μ (x + 419) Pp len ∧ SL μ x u S B
theorem SL.fr {μ μ' : Mm} {x a b B : Nat} {u : Nat → Bool} {S : Nat → Nat → Int32} (F : SL μ x u S B) (hF : Fr a b μ μ') (hd : x + 528 ≤ a ∨ b ≤ x + 421) : SL μ' x u S B := by
  obtain ⟨⟨r, r1, r2⟩, q⟩ := F
  exact ⟨⟨r, (hF _ (by omega)).trans r1, r2⟩, fun i hi => ⟨(hF _ (by omega)).trans (q i hi).1, (q i hi).2.1.fr hF (by omega), fun e => ((q i hi).2.2 e).fr hF (by omega)⟩⟩
theorem SL.mono {μ : Mm} {x B B' : Nat} {u : Nat → Bool} {S : Nat → Nat → Int32} (F : SL μ x u S B) (h : B ≤ B') : SL μ x u S B' := ⟨F.1, fun i hi => ⟨(F.2 i hi).1, (F.2 i hi).2.1, fun e => ((F.2 i hi).2.2 e).mono h⟩⟩
theorem PW.fr {μ μ' : Mm} {z len a b : Nat} {P : Nat → Int32} (F : PW μ z P len) (hF : Fr a b μ μ') (hd : z + 2 ≤ a ∨ b ≤ z) : PW μ' z P len := by
  obtain ⟨h, pl, lt, fi, se, q⟩ := F
  exact ⟨h, pl, lt, fi, se, q.fr hF hd⟩
theorem CO.fr {μ μ' : Mm} {x a b : Nat} (F : CO μ x) (hF : Fr a b μ μ') (hd : x + 1 ≤ a ∨ b ≤ x) : CO μ' x := (hF _ (by omega)).trans F
theorem HP.fr {μ μ' : Mm} {y held a b B : Nat} {s : Nat → Nat} {P : Nat → Nat → Int32} (H : HA μ y s held) (F : HP μ s held P B) (hF : Fr a b μ μ') (hd : y + 366 ≤ a ∨ b ≤ y + 2) : HP μ' s held P B := fun i hi => (F i hi).fr hF (by have := H.lo (show i < 7 by have := H.2.1; omega); omega)
theorem HP.mono {μ : Mm} {held B B' : Nat} {s : Nat → Nat} {P : Nat → Nat → Int32} (F : HP μ s held P B) (h : B ≤ B') : HP μ s held P B' := fun i hi => (F i hi).mono h
section CFD
variable {x held len B : Nat} {f : Nat → Int32} {P : Nat → Nat → Int32} {Pp : Nat → Int32} {u : Nat → Bool} {S : Nat → Nat → Int32}
theorem CW.fr {μ μ' : Mm} {a b : Nat} (C : CW μ x f held P Pp len u S B) (hF : Fr a b μ μ') (hd : x + 528 ≤ a ∨ b ≤ x) : CW μ' x f held P Pp len u S B := by
  obtain ⟨c1, c2, ⟨s, c3, c4⟩, c5, c6⟩ := C
  exact ⟨c1.fr hF (by omega), c2.fr hF (by omega), ⟨s, c3.fr hF (by omega), c4.fr c3 hF (by omega)⟩, c5.fr hF (by omega), c6.fr hF (by omega)⟩
theorem CW.mono {μ : Mm} {B' : Nat} (C : CW μ x f held P Pp len u S B) (h : B ≤ B') : CW μ x f held P Pp len u S B' := by
  obtain ⟨c1, c2, ⟨s, c3, c4⟩, c5, c6⟩ := C
  exact ⟨c1, c2.mono h, ⟨s, c3, c4.mono h⟩, c5, c6.mono h⟩
/-- behind prepare -/
def PP (x held len B : Nat) (f : Nat → Int32) (P : Nat → Nat → Int32) (Pp : Nat → Int32) (u : Nat → Bool) (S : Nat → Nat → Int32) (μ0 μ : Mm) : Prop := ∃ s, CO μ x ∧ PW μ (x + 419) Pp len ∧ SL μ x u S B ∧ HA μ (x + 53) s held ∧ HP μ s held P B ∧ ST μ (s held) f B ∧ Fr x (x + 528) μ0 μ
/-- behind the change, ahead of settle -/
def PD (x held len B : Nat) (f : Nat → Int32) (P : Nat → Nat → Int32) (Pp : Nat → Int32) (u : Nat → Bool) (S : Nat → Nat → Int32) (may val : Int32) (f' : Nat → Int32) (μ0 μ : Mm) (v : Int32) : Prop := PP x held len B f P Pp u S μ0 μ ∧ ((may < nI 0 ∧ v = may ∧ ST μ (x + 1) f B) ∨ (may = nI 0 ∧ nI 0 ≤ v ∧ v = val ∧ ST μ (x + 1) f' (B + 1)))
theorem PP.fr {μ0 μ μ' : Mm} {a b : Nat} (Z : PP x held len B f P Pp u S μ0 μ) (hF : Fr a b μ μ') (h1 : x + 1 ≤ a) (h2 : b ≤ x + 53) : PP x held len B f P Pp u S μ0 μ' := by
  obtain ⟨s, p1, p2, p3, p4, p5, p6, p7⟩ := Z
  have hl := p4.lo (show held < 7 by have := p4.2.1; omega)
  exact ⟨s, p1.fr hF (by omega), p2.fr hF (by omega), p3.fr hF (by omega), p4.fr hF (by omega), p5.fr p4 hF (by omega), p6.fr hF (by omega), p7.trans (hF.wide (by omega) (by omega))⟩
theorem PD.of {μ0 μ1 μ2 : Mm} {may val v : Int32} {f' : Nat → Int32} (Z : PP x held len B f P Pp u S μ0 μ1) (F : ST μ1 (x + 1) f B) (q : (may < nI 0 ∧ v = may ∧ μ2 = μ1) ∨ (may = nI 0 ∧ nI 0 ≤ val ∧ v = val ∧ ST μ2 (x + 1) f' (B + 1) ∧ Fr (x + 1) (x + 1 + 52) μ1 μ2)) : PD x held len B f P Pp u S may val f' μ0 μ2 v := by
  rcases q with ⟨h1, rfl, rfl⟩ | ⟨h1, h2, rfl, F2, z⟩
  · exact ⟨Z, Or.inl ⟨h1, rfl, F⟩⟩
  · exact ⟨Z.fr z (by omega) (by omega), Or.inr ⟨h1, h2, rfl, F2⟩⟩
end CFD
/-- what a change of the ChangeFeed answers, and what it leaves -/
abbrev QW (x held len B : Nat) (f : Nat → Int32) (P : Nat → Nat → Int32) (Pp : Nat → Int32) (u : Nat → Bool) (S : Nat → Nat → Int32) (may val : Int32) (f' : Nat → Int32) (μ0 : Mm) : Option Value → Mm → Prop := rI fun v μ' => ((may < nI 0 ∧ v = may ∧ CW μ' x f held P Pp len u S (B + 1)) ∨ (may = nI 0 ∧ nI 0 ≤ v ∧ v = val ∧ CW μ' x f' (if held < 6 then held + 1 else 6) (pushP P held f) Pp len u S (B + 1))) ∧ Fr x (x + 528) μ0 μ'
section CF
variable {G : GG} {μ : Mm} {sz x held len B : Nat} {f : Nat → Int32} {P : Nat → Nat → Int32} {Pp : Nat → Int32} {u : Nat → Bool} {S : Nat → Nat → Int32}
theorem eS_prepare (C : CW μ x f held P Pp len u S B) : EvA G 5 kX1_prepare [.ref (x + 53), .ref (x + 1)] μ sz 0 0 (rV fun μ' => PP x held len B f P Pp u S μ μ' ∧ ST μ' (x + 1) f B) := by
  obtain ⟨c1, c2, ⟨s, c3, c4⟩, c5, c6⟩ := C
  have hl := c3.lo (show held < 7 by have := c3.2.1; omega)
  refine (eX1_prepare c3 c2 (by omega)).imp ?_
  rintro r μ' ⟨rfl, h1, h2, z⟩
  refine ⟨rfl, ⟨s, c1.fr z (by omega), c5.fr z (by omega), c6.fr z (by omega), h1, fun i hi => (c4 i hi).fr z ?_, h2, z.wide (by omega) (by omega)⟩, c2.fr z (by omega)⟩
  have := c3.2.1
  have := c3.apart (show i < 7 by omega) (show held < 7 by omega) (by omega)
  omega
theorem eS_settle {μ0 : Mm} {may val v : Int32} {f' : Nat → Int32} (Z : PD x held len B f P Pp u S may val f' μ0 μ v) : EvA G 2 kX1_settle [.ref (x + 53), .int v] μ sz 0 0 (QW x held len B f P Pp u S may val f' μ0) := by
  obtain ⟨⟨s, p1, p2, p3, p4, p5, p6, p7⟩, ⟨h1, rfl, F⟩ | ⟨h1, h2, rfl, F⟩⟩ := Z
  · refine (eX1_settle_e h1).imp ?_
    rintro r μ' ⟨w, rfl, rfl, rfl⟩
    exact ⟨_, rfl, Or.inl ⟨h1, rfl, p1, F.mono (by omega), ⟨s, p4, p5.mono (by omega)⟩, p2, p3.mono (by omega)⟩, p7⟩
  · refine (eX1_settle h2 p4 (p5.mono (show B ≤ B + 1 by omega)) (p6.mono (show B ≤ B + 1 by omega))).imp ?_
    rintro r μ' ⟨w, rfl, rfl, s', held', rfl, q1, q2, z⟩
    exact ⟨_, rfl, Or.inr ⟨h1, h2, rfl, p1.fr z (by omega), F.fr z (by omega), ⟨s', q1, q2⟩, p2.fr z (by omega), (p3.fr z (by omega)).mono (by omega)⟩, p7.trans (z.wide (by omega) (by omega))⟩
theorem eX8_turn {s : Int32} {v : Int32} (C : CW μ x f held P Pp len u S B) : EvA G 6 kX8_turn [.ref x, .int s, .int v] μ sz 0 0 (QW x held len B f P Pp u S (mayTurnF s v) (f s.toNatClampNeg) (upd f s.toNatClampNeg v) μ) := by
  have hO := C.1
  obtain ⟨s0, c3, c4⟩ := C.2.2.1
  have yO := c3.1
  refine EvA.of (L := [some (.ref x), some (.int s), some (.int v)]) (by decide +kernel) (Nat.le_of_ble_eq_true rfl) rfl ?_
  refine Rn.aload_n (pc1 := 1)  dX8_turn_0 rfl rfl rfl ?_
  refine Rn.getfield (pc1 := 4)  dX8_turn_1 rfl fX8_19 (by first | assumption | exact mset_same | exact mget_ne (by omega) (by assumption)) rfl ?_
  refine Rn.aload_n (pc1 := 5)  dX8_turn_4 rfl rfl rfl ?_
  refine Rn.getfield (pc1 := 8)  dX8_turn_5 rfl fX8_10 (by first | assumption | exact mset_same | exact mget_ne (by omega) (by assumption)) rfl ?_
  refine Rn.cV_v (pc1 := 11) (eS_prepare C) dX8_turn_8 rfl qX8_37 oX1_prepare (by first | assumption | exact mset_same | exact mget_ne (by omega) (by assumption)) rfl rfl rfl rfl (Nat.le_of_ble_eq_true rfl) (by decide) (by decide) (fun μ8 h8 => ?_)
  obtain ⟨Z, F⟩ := h8
  obtain ⟨h, rc, sc, A, I⟩ := id F
  have nO : _ = _ := A.2.1
  obtain ⟨s1, p1, p2, p3, p4, -⟩ := id Z
  have hO1 := p1
  have yO1 := p4.1
  refine Rn.aload_n (pc1 := 12)  dX8_turn_11 rfl rfl rfl ?_
  refine Rn.getfield (pc1 := 15)  dX8_turn_12 rfl fX8_19 (by first | assumption | exact mset_same | exact mget_ne (by omega) (by assumption)) rfl ?_
  refine Rn.aload_n (pc1 := 16)  dX8_turn_15 rfl rfl rfl ?_
  refine Rn.getfield (pc1 := 19)  dX8_turn_16 rfl fX8_10 (by first | assumption | exact mset_same | exact mget_ne (by omega) (by assumption)) rfl ?_
  refine Rn.iload_n (pc1 := 20)  dX8_turn_19 rfl rfl rfl ?_
  refine Rn.iload_n (pc1 := 21)  dX8_turn_20 rfl rfl rfl ?_
  refine Rn.cV_i (pc1 := 24) (sX6_turnSetting F) dX8_turn_21 rfl qX8_41 oX6_turnSetting (by first | assumption | exact mset_same | exact mget_ne (by omega) (by assumption)) rfl rfl rfl rfl (Nat.le_of_ble_eq_true rfl) (by decide) (by decide) (fun v21 μ21 h21 => ?_)
  have Z2 := PD.of Z F h21
  obtain ⟨s2, q1, q2, q3, q4, -⟩ := id Z2.1
  have yO2 := q4.1
  refine Rn.cV_i (pc1 := 27) (eS_settle Z2) dX8_turn_24 rfl qX8_45 oX1_settle (by first | assumption | exact mset_same | exact mget_ne (by omega) (by assumption)) rfl rfl rfl rfl (Nat.le_of_ble_eq_true rfl) (by decide) (by decide) (fun v24 μ24 h24 => ?_)
  exact Rn.ireturn dX8_turn_27 rfl rfl ⟨_, rfl, h24⟩
theorem eX8_set {s : Int32} {v : Int32} (hB : B < 2 ^ 30) (C : CW μ x f held P Pp len u S B) : EvA G 6 kX8_set [.ref x, .int s, .int v] μ sz 0 0 (QW x held len B f P Pp u S (maySetF (hF f) s v) (f 3) (setsF f (hF f) s.toNatClampNeg v) μ) := by
  have hO := C.1
  obtain ⟨s0, c3, c4⟩ := C.2.2.1
  have yO := c3.1
  refine EvA.of (L := [some (.ref x), some (.int s), some (.int v)]) (by decide +kernel) (Nat.le_of_ble_eq_true rfl) rfl ?_
  refine Rn.aload_n (pc1 := 1)  dX8_set_0 rfl rfl rfl ?_
  refine Rn.getfield (pc1 := 4)  dX8_set_1 rfl fX8_19 (by first | assumption | exact mset_same | exact mget_ne (by omega) (by assumption)) rfl ?_
  refine Rn.aload_n (pc1 := 5)  dX8_set_4 rfl rfl rfl ?_
  refine Rn.getfield (pc1 := 8)  dX8_set_5 rfl fX8_10 (by first | assumption | exact mset_same | exact mget_ne (by omega) (by assumption)) rfl ?_
  refine Rn.cV_v (pc1 := 11) (eS_prepare C) dX8_set_8 rfl qX8_37 oX1_prepare (by first | assumption | exact mset_same | exact mget_ne (by omega) (by assumption)) rfl rfl rfl rfl (Nat.le_of_ble_eq_true rfl) (by decide) (by decide) (fun μ8 h8 => ?_)
  obtain ⟨Z, F⟩ := h8
  obtain ⟨h, rc, sc, A, I⟩ := id F
  have nO : _ = _ := A.2.1
  obtain ⟨s1, p1, p2, p3, p4, -⟩ := id Z
  have hO1 := p1
  have yO1 := p4.1
  refine Rn.aload_n (pc1 := 12)  dX8_set_11 rfl rfl rfl ?_
  refine Rn.getfield (pc1 := 15)  dX8_set_12 rfl fX8_19 (by first | assumption | exact mset_same | exact mget_ne (by omega) (by assumption)) rfl ?_
  refine Rn.aload_n (pc1 := 16)  dX8_set_15 rfl rfl rfl ?_
  refine Rn.getfield (pc1 := 19)  dX8_set_16 rfl fX8_10 (by first | assumption | exact mset_same | exact mget_ne (by omega) (by assumption)) rfl ?_
  refine Rn.iload_n (pc1 := 20)  dX8_set_19 rfl rfl rfl ?_
  refine Rn.iload_n (pc1 := 21)  dX8_set_20 rfl rfl rfl ?_
  refine Rn.cV_i (pc1 := 24) (sX6_setKey hB F) dX8_set_21 rfl qX8_49 oX6_setKey (by first | assumption | exact mset_same | exact mget_ne (by omega) (by assumption)) rfl rfl rfl rfl (Nat.le_of_ble_eq_true rfl) (by decide) (by decide) (fun v21 μ21 h21 => ?_)
  have Z2 := PD.of Z F h21
  obtain ⟨s2, q1, q2, q3, q4, -⟩ := id Z2.1
  have yO2 := q4.1
  refine Rn.cV_i (pc1 := 27) (eS_settle Z2) dX8_set_24 rfl qX8_45 oX1_settle (by first | assumption | exact mset_same | exact mget_ne (by omega) (by assumption)) rfl rfl rfl rfl (Nat.le_of_ble_eq_true rfl) (by decide) (by decide) (fun v24 μ24 h24 => ?_)
  exact Rn.ireturn dX8_set_27 rfl rfl ⟨_, rfl, h24⟩
theorem eX8_remove {s : Int32} (hB : B < 2 ^ 30) (C : CW μ x f held P Pp len u S B) : EvA G 6 kX8_remove [.ref x, .int s] μ sz 0 0 (QW x held len B f P Pp u S (mayRemoveF f (hF f) s) (f 3) (setsF f (hF f) s.toNatClampNeg (-6)) μ) := by
  have hO := C.1
  obtain ⟨s0, c3, c4⟩ := C.2.2.1
  have yO := c3.1
  refine EvA.of (L := [some (.ref x), some (.int s)]) (by decide +kernel) (Nat.le_of_ble_eq_true rfl) rfl ?_
  refine Rn.aload_n (pc1 := 1)  dX8_remove_0 rfl rfl rfl ?_
  refine Rn.getfield (pc1 := 4)  dX8_remove_1 rfl fX8_19 (by first | assumption | exact mset_same | exact mget_ne (by omega) (by assumption)) rfl ?_
  refine Rn.aload_n (pc1 := 5)  dX8_remove_4 rfl rfl rfl ?_
  refine Rn.getfield (pc1 := 8)  dX8_remove_5 rfl fX8_10 (by first | assumption | exact mset_same | exact mget_ne (by omega) (by assumption)) rfl ?_
  refine Rn.cV_v (pc1 := 11) (eS_prepare C) dX8_remove_8 rfl qX8_37 oX1_prepare (by first | assumption | exact mset_same | exact mget_ne (by omega) (by assumption)) rfl rfl rfl rfl (Nat.le_of_ble_eq_true rfl) (by decide) (by decide) (fun μ8 h8 => ?_)
  obtain ⟨Z, F⟩ := h8
  obtain ⟨h, rc, sc, A, I⟩ := id F
  have nO : _ = _ := A.2.1
  obtain ⟨s1, p1, p2, p3, p4, -⟩ := id Z
  have hO1 := p1
  have yO1 := p4.1
  refine Rn.aload_n (pc1 := 12)  dX8_remove_11 rfl rfl rfl ?_
  refine Rn.getfield (pc1 := 15)  dX8_remove_12 rfl fX8_19 (by first | assumption | exact mset_same | exact mget_ne (by omega) (by assumption)) rfl ?_
  refine Rn.aload_n (pc1 := 16)  dX8_remove_15 rfl rfl rfl ?_
  refine Rn.getfield (pc1 := 19)  dX8_remove_16 rfl fX8_10 (by first | assumption | exact mset_same | exact mget_ne (by omega) (by assumption)) rfl ?_
  refine Rn.iload_n (pc1 := 20)  dX8_remove_19 rfl rfl rfl ?_
  refine Rn.cV_i (pc1 := 23) (sX6_removeKey hB F) dX8_remove_20 rfl qX8_52 oX6_removeKey (by first | assumption | exact mset_same | exact mget_ne (by omega) (by assumption)) rfl rfl rfl rfl (Nat.le_of_ble_eq_true rfl) (by decide) (by decide) (fun v20 μ20 h20 => ?_)
  have Z2 := PD.of Z F h20
  obtain ⟨s2, q1, q2, q3, q4, -⟩ := id Z2.1
  have yO2 := q4.1
  refine Rn.cV_i (pc1 := 26) (eS_settle Z2) dX8_remove_23 rfl qX8_45 oX1_settle (by first | assumption | exact mset_same | exact mget_ne (by omega) (by assumption)) rfl rfl rfl rfl (Nat.le_of_ble_eq_true rfl) (by decide) (by decide) (fun v23 μ23 h23 => ?_)
  exact Rn.ireturn dX8_remove_26 rfl rfl ⟨_, rfl, h23⟩
theorem eX8_pass {s : Int32} (C : CW μ x f held P Pp len u S B) : EvA G 6 kX8_pass [.ref x, .int s] μ sz 0 0 (QW x held len B f P Pp u S (mayPassF f s) (f 2 + s) (upd f 2 (f 2 + s)) μ) := by
  have hO := C.1
  obtain ⟨s0, c3, c4⟩ := C.2.2.1
  have yO := c3.1
  refine EvA.of (L := [some (.ref x), some (.int s)]) (by decide +kernel) (Nat.le_of_ble_eq_true rfl) rfl ?_
  refine Rn.aload_n (pc1 := 1)  dX8_pass_0 rfl rfl rfl ?_
  refine Rn.getfield (pc1 := 4)  dX8_pass_1 rfl fX8_19 (by first | assumption | exact mset_same | exact mget_ne (by omega) (by assumption)) rfl ?_
  refine Rn.aload_n (pc1 := 5)  dX8_pass_4 rfl rfl rfl ?_
  refine Rn.getfield (pc1 := 8)  dX8_pass_5 rfl fX8_10 (by first | assumption | exact mset_same | exact mget_ne (by omega) (by assumption)) rfl ?_
  refine Rn.cV_v (pc1 := 11) (eS_prepare C) dX8_pass_8 rfl qX8_37 oX1_prepare (by first | assumption | exact mset_same | exact mget_ne (by omega) (by assumption)) rfl rfl rfl rfl (Nat.le_of_ble_eq_true rfl) (by decide) (by decide) (fun μ8 h8 => ?_)
  obtain ⟨Z, F⟩ := h8
  obtain ⟨h, rc, sc, A, I⟩ := id F
  have nO : _ = _ := A.2.1
  obtain ⟨s1, p1, p2, p3, p4, -⟩ := id Z
  have hO1 := p1
  have yO1 := p4.1
  refine Rn.aload_n (pc1 := 12)  dX8_pass_11 rfl rfl rfl ?_
  refine Rn.getfield (pc1 := 15)  dX8_pass_12 rfl fX8_19 (by first | assumption | exact mset_same | exact mget_ne (by omega) (by assumption)) rfl ?_
  refine Rn.aload_n (pc1 := 16)  dX8_pass_15 rfl rfl rfl ?_
  refine Rn.getfield (pc1 := 19)  dX8_pass_16 rfl fX8_10 (by first | assumption | exact mset_same | exact mget_ne (by omega) (by assumption)) rfl ?_
  refine Rn.iload_n (pc1 := 20)  dX8_pass_19 rfl rfl rfl ?_
  refine Rn.cV_i (pc1 := 23) (sX6_letPass F) dX8_pass_20 rfl qX8_55 oX6_letPass (by first | assumption | exact mset_same | exact mget_ne (by omega) (by assumption)) rfl rfl rfl rfl (Nat.le_of_ble_eq_true rfl) (by decide) (by decide) (fun v20 μ20 h20 => ?_)
  have Z2 := PD.of Z F h20
  obtain ⟨s2, q1, q2, q3, q4, -⟩ := id Z2.1
  have yO2 := q4.1
  refine Rn.cV_i (pc1 := 26) (eS_settle Z2) dX8_pass_23 rfl qX8_45 oX1_settle (by first | assumption | exact mset_same | exact mget_ne (by omega) (by assumption)) rfl rfl rfl rfl (Nat.le_of_ble_eq_true rfl) (by decide) (by decide) (fun v23 μ23 h23 => ?_)
  exact Rn.ireturn dX8_pass_26 rfl rfl ⟨_, rfl, h23⟩
theorem eX8_thin (C : CW μ x f held P Pp len u S B) : EvA G 6 kX8_thin [.ref x] μ sz 0 0 (QW x held len B f P Pp u S (nI 0) (nI (hF f - leftF f (hF f) (f 0) (f 2))) (thinF f (hF f) (f 0) (f 2)) μ) := by
  have hO := C.1
  obtain ⟨s0, c3, c4⟩ := C.2.2.1
  have yO := c3.1
  refine EvA.of (L := [some (.ref x)]) (by decide +kernel) (Nat.le_of_ble_eq_true rfl) rfl ?_
  refine Rn.aload_n (pc1 := 1)  dX8_thin_0 rfl rfl rfl ?_
  refine Rn.getfield (pc1 := 4)  dX8_thin_1 rfl fX8_19 (by first | assumption | exact mset_same | exact mget_ne (by omega) (by assumption)) rfl ?_
  refine Rn.aload_n (pc1 := 5)  dX8_thin_4 rfl rfl rfl ?_
  refine Rn.getfield (pc1 := 8)  dX8_thin_5 rfl fX8_10 (by first | assumption | exact mset_same | exact mget_ne (by omega) (by assumption)) rfl ?_
  refine Rn.cV_v (pc1 := 11) (eS_prepare C) dX8_thin_8 rfl qX8_37 oX1_prepare (by first | assumption | exact mset_same | exact mget_ne (by omega) (by assumption)) rfl rfl rfl rfl (Nat.le_of_ble_eq_true rfl) (by decide) (by decide) (fun μ8 h8 => ?_)
  obtain ⟨Z, F⟩ := h8
  obtain ⟨h, rc, sc, A, I⟩ := id F
  have nO : _ = _ := A.2.1
  obtain ⟨s1, p1, p2, p3, p4, -⟩ := id Z
  have hO1 := p1
  have yO1 := p4.1
  refine Rn.aload_n (pc1 := 12)  dX8_thin_11 rfl rfl rfl ?_
  refine Rn.getfield (pc1 := 15)  dX8_thin_12 rfl fX8_19 (by first | assumption | exact mset_same | exact mget_ne (by omega) (by assumption)) rfl ?_
  refine Rn.aload_n (pc1 := 16)  dX8_thin_15 rfl rfl rfl ?_
  refine Rn.getfield (pc1 := 19)  dX8_thin_16 rfl fX8_10 (by first | assumption | exact mset_same | exact mget_ne (by omega) (by assumption)) rfl ?_
  refine Rn.cV_i (pc1 := 22) (sX6_thinFeed F) dX8_thin_19 rfl qX8_58 oX6_thinFeed (by first | assumption | exact mset_same | exact mget_ne (by omega) (by assumption)) rfl rfl rfl rfl (Nat.le_of_ble_eq_true rfl) (by decide) (by decide) (fun v19 μ19 h19 => ?_)
  have Z2 := PD.of Z F h19
  obtain ⟨s2, q1, q2, q3, q4, -⟩ := id Z2.1
  have yO2 := q4.1
  refine Rn.cV_i (pc1 := 25) (eS_settle Z2) dX8_thin_22 rfl qX8_45 oX1_settle (by first | assumption | exact mset_same | exact mget_ne (by omega) (by assumption)) rfl rfl rfl rfl (Nat.le_of_ble_eq_true rfl) (by decide) (by decide) (fun v22 μ22 h22 => ?_)
  exact Rn.ireturn dX8_thin_25 rfl rfl ⟨_, rfl, h22⟩
theorem eX8_snapshot (hB : B < 2 ^ 30) (C : CW μ x f held P Pp len u S B) : EvA G 6 kX8_snapshot [.ref x] μ sz 0 0 (QW x held len B f P Pp u S (nI 0) (f 3) (shotF f (sF f)) μ) := by
  have hO := C.1
  obtain ⟨s0, c3, c4⟩ := C.2.2.1
  have yO := c3.1
  refine EvA.of (L := [some (.ref x)]) (by decide +kernel) (Nat.le_of_ble_eq_true rfl) rfl ?_
  refine Rn.aload_n (pc1 := 1)  dX8_snapshot_0 rfl rfl rfl ?_
  refine Rn.getfield (pc1 := 4)  dX8_snapshot_1 rfl fX8_19 (by first | assumption | exact mset_same | exact mget_ne (by omega) (by assumption)) rfl ?_
  refine Rn.aload_n (pc1 := 5)  dX8_snapshot_4 rfl rfl rfl ?_
  refine Rn.getfield (pc1 := 8)  dX8_snapshot_5 rfl fX8_10 (by first | assumption | exact mset_same | exact mget_ne (by omega) (by assumption)) rfl ?_
  refine Rn.cV_v (pc1 := 11) (eS_prepare C) dX8_snapshot_8 rfl qX8_37 oX1_prepare (by first | assumption | exact mset_same | exact mget_ne (by omega) (by assumption)) rfl rfl rfl rfl (Nat.le_of_ble_eq_true rfl) (by decide) (by decide) (fun μ8 h8 => ?_)
  obtain ⟨Z, F⟩ := h8
  obtain ⟨h, rc, sc, A, I⟩ := id F
  have nO : _ = _ := A.2.1
  obtain ⟨s1, p1, p2, p3, p4, -⟩ := id Z
  have hO1 := p1
  have yO1 := p4.1
  refine Rn.aload_n (pc1 := 12)  dX8_snapshot_11 rfl rfl rfl ?_
  refine Rn.getfield (pc1 := 15)  dX8_snapshot_12 rfl fX8_19 (by first | assumption | exact mset_same | exact mget_ne (by omega) (by assumption)) rfl ?_
  refine Rn.aload_n (pc1 := 16)  dX8_snapshot_15 rfl rfl rfl ?_
  refine Rn.getfield (pc1 := 19)  dX8_snapshot_16 rfl fX8_10 (by first | assumption | exact mset_same | exact mget_ne (by omega) (by assumption)) rfl ?_
  refine Rn.cV_i (pc1 := 22) (sX6_makeSnapshot hB F) dX8_snapshot_19 rfl qX8_62 oX6_makeSnapshot (by first | assumption | exact mset_same | exact mget_ne (by omega) (by assumption)) rfl rfl rfl rfl (Nat.le_of_ble_eq_true rfl) (by decide) (by decide) (fun v19 μ19 h19 => ?_)
  have Z2 := PD.of Z F h19
  obtain ⟨s2, q1, q2, q3, q4, -⟩ := id Z2.1
  have yO2 := q4.1
  refine Rn.cV_i (pc1 := 25) (eS_settle Z2) dX8_snapshot_22 rfl qX8_45 oX1_settle (by first | assumption | exact mset_same | exact mget_ne (by omega) (by assumption)) rfl rfl rfl rfl (Nat.le_of_ble_eq_true rfl) (by decide) (by decide) (fun v22 μ22 h22 => ?_)
  exact Rn.ireturn dX8_snapshot_25 rfl rfl ⟨_, rfl, h22⟩
theorem eX8_reader (C : CW μ x f held P Pp len u S B) : EvA G 6 kX8_reader [.ref x] μ sz 0 0 (QW x held len B f P Pp u S (mayComeF (rF f)) (nI (rF f)) (comeF f (rF f)) μ) := by
  have hO := C.1
  obtain ⟨s0, c3, c4⟩ := C.2.2.1
  have yO := c3.1
  refine EvA.of (L := [some (.ref x)]) (by decide +kernel) (Nat.le_of_ble_eq_true rfl) rfl ?_
  refine Rn.aload_n (pc1 := 1)  dX8_reader_0 rfl rfl rfl ?_
  refine Rn.getfield (pc1 := 4)  dX8_reader_1 rfl fX8_19 (by first | assumption | exact mset_same | exact mget_ne (by omega) (by assumption)) rfl ?_
  refine Rn.aload_n (pc1 := 5)  dX8_reader_4 rfl rfl rfl ?_
  refine Rn.getfield (pc1 := 8)  dX8_reader_5 rfl fX8_10 (by first | assumption | exact mset_same | exact mget_ne (by omega) (by assumption)) rfl ?_
  refine Rn.cV_v (pc1 := 11) (eS_prepare C) dX8_reader_8 rfl qX8_37 oX1_prepare (by first | assumption | exact mset_same | exact mget_ne (by omega) (by assumption)) rfl rfl rfl rfl (Nat.le_of_ble_eq_true rfl) (by decide) (by decide) (fun μ8 h8 => ?_)
  obtain ⟨Z, F⟩ := h8
  obtain ⟨h, rc, sc, A, I⟩ := id F
  have nO : _ = _ := A.2.1
  obtain ⟨s1, p1, p2, p3, p4, -⟩ := id Z
  have hO1 := p1
  have yO1 := p4.1
  refine Rn.aload_n (pc1 := 12)  dX8_reader_11 rfl rfl rfl ?_
  refine Rn.getfield (pc1 := 15)  dX8_reader_12 rfl fX8_19 (by first | assumption | exact mset_same | exact mget_ne (by omega) (by assumption)) rfl ?_
  refine Rn.aload_n (pc1 := 16)  dX8_reader_15 rfl rfl rfl ?_
  refine Rn.getfield (pc1 := 19)  dX8_reader_16 rfl fX8_10 (by first | assumption | exact mset_same | exact mget_ne (by omega) (by assumption)) rfl ?_
  refine Rn.cV_i (pc1 := 22) (sX6_addReader F) dX8_reader_19 rfl qX8_65 oX6_addReader (by first | assumption | exact mset_same | exact mget_ne (by omega) (by assumption)) rfl rfl rfl rfl (Nat.le_of_ble_eq_true rfl) (by decide) (by decide) (fun v19 μ19 h19 => ?_)
  have Z2 := PD.of Z F h19
  obtain ⟨s2, q1, q2, q3, q4, -⟩ := id Z2.1
  have yO2 := q4.1
  refine Rn.cV_i (pc1 := 25) (eS_settle Z2) dX8_reader_22 rfl qX8_45 oX1_settle (by first | assumption | exact mset_same | exact mget_ne (by omega) (by assumption)) rfl rfl rfl rfl (Nat.le_of_ble_eq_true rfl) (by decide) (by decide) (fun v22 μ22 h22 => ?_)
  exact Rn.ireturn dX8_reader_25 rfl rfl ⟨_, rfl, h22⟩
theorem eX8_read {s : Int32} {v : Int32} (hB : B < 2 ^ 30) (C : CW μ x f held P Pp len u S B) : EvA G 6 kX8_read [.ref x, .int s, .int v] μ sz 0 0 (QW x held len B f P Pp u S (mayReadF f (rF f) s v) (nI (rdC f (hF f) s.toNatClampNeg v.toNatClampNeg)) (readF f s.toNatClampNeg (rdK f (hF f) s.toNatClampNeg) (rdC f (hF f) s.toNatClampNeg v.toNatClampNeg)) μ) := by
  have hO := C.1
  obtain ⟨s0, c3, c4⟩ := C.2.2.1
  have yO := c3.1
  refine EvA.of (L := [some (.ref x), some (.int s), some (.int v)]) (by decide +kernel) (Nat.le_of_ble_eq_true rfl) rfl ?_
  refine Rn.aload_n (pc1 := 1)  dX8_read_0 rfl rfl rfl ?_
  refine Rn.getfield (pc1 := 4)  dX8_read_1 rfl fX8_19 (by first | assumption | exact mset_same | exact mget_ne (by omega) (by assumption)) rfl ?_
  refine Rn.aload_n (pc1 := 5)  dX8_read_4 rfl rfl rfl ?_
  refine Rn.getfield (pc1 := 8)  dX8_read_5 rfl fX8_10 (by first | assumption | exact mset_same | exact mget_ne (by omega) (by assumption)) rfl ?_
  refine Rn.cV_v (pc1 := 11) (eS_prepare C) dX8_read_8 rfl qX8_37 oX1_prepare (by first | assumption | exact mset_same | exact mget_ne (by omega) (by assumption)) rfl rfl rfl rfl (Nat.le_of_ble_eq_true rfl) (by decide) (by decide) (fun μ8 h8 => ?_)
  obtain ⟨Z, F⟩ := h8
  obtain ⟨h, rc, sc, A, I⟩ := id F
  have nO : _ = _ := A.2.1
  obtain ⟨s1, p1, p2, p3, p4, -⟩ := id Z
  have hO1 := p1
  have yO1 := p4.1
  refine Rn.aload_n (pc1 := 12)  dX8_read_11 rfl rfl rfl ?_
  refine Rn.getfield (pc1 := 15)  dX8_read_12 rfl fX8_19 (by first | assumption | exact mset_same | exact mget_ne (by omega) (by assumption)) rfl ?_
  refine Rn.aload_n (pc1 := 16)  dX8_read_15 rfl rfl rfl ?_
  refine Rn.getfield (pc1 := 19)  dX8_read_16 rfl fX8_10 (by first | assumption | exact mset_same | exact mget_ne (by omega) (by assumption)) rfl ?_
  refine Rn.iload_n (pc1 := 20)  dX8_read_19 rfl rfl rfl ?_
  refine Rn.iload_n (pc1 := 21)  dX8_read_20 rfl rfl rfl ?_
  refine Rn.cV_i (pc1 := 24) (sX6_letRead hB F) dX8_read_21 rfl qX8_68 oX6_letRead (by first | assumption | exact mset_same | exact mget_ne (by omega) (by assumption)) rfl rfl rfl rfl (Nat.le_of_ble_eq_true rfl) (by decide) (by decide) (fun v21 μ21 h21 => ?_)
  have Z2 := PD.of Z F h21
  obtain ⟨s2, q1, q2, q3, q4, -⟩ := id Z2.1
  have yO2 := q4.1
  refine Rn.cV_i (pc1 := 27) (eS_settle Z2) dX8_read_24 rfl qX8_45 oX1_settle (by first | assumption | exact mset_same | exact mget_ne (by omega) (by assumption)) rfl rfl rfl rfl (Nat.le_of_ble_eq_true rfl) (by decide) (by decide) (fun v24 μ24 h24 => ?_)
  exact Rn.ireturn dX8_read_27 rfl rfl ⟨_, rfl, h24⟩
theorem eX8_confirm {s : Int32} (C : CW μ x f held P Pp len u S B) : EvA G 6 kX8_confirm [.ref x, .int s] μ sz 0 0 (QW x held len B f P Pp u S (mayIsF (rF f) s) (f (261 + 27 * s.toNatClampNeg)) (confF f s.toNatClampNeg) μ) := by
  have hO := C.1
  obtain ⟨s0, c3, c4⟩ := C.2.2.1
  have yO := c3.1
  refine EvA.of (L := [some (.ref x), some (.int s)]) (by decide +kernel) (Nat.le_of_ble_eq_true rfl) rfl ?_
  refine Rn.aload_n (pc1 := 1)  dX8_confirm_0 rfl rfl rfl ?_
  refine Rn.getfield (pc1 := 4)  dX8_confirm_1 rfl fX8_19 (by first | assumption | exact mset_same | exact mget_ne (by omega) (by assumption)) rfl ?_
  refine Rn.aload_n (pc1 := 5)  dX8_confirm_4 rfl rfl rfl ?_
  refine Rn.getfield (pc1 := 8)  dX8_confirm_5 rfl fX8_10 (by first | assumption | exact mset_same | exact mget_ne (by omega) (by assumption)) rfl ?_
  refine Rn.cV_v (pc1 := 11) (eS_prepare C) dX8_confirm_8 rfl qX8_37 oX1_prepare (by first | assumption | exact mset_same | exact mget_ne (by omega) (by assumption)) rfl rfl rfl rfl (Nat.le_of_ble_eq_true rfl) (by decide) (by decide) (fun μ8 h8 => ?_)
  obtain ⟨Z, F⟩ := h8
  obtain ⟨h, rc, sc, A, I⟩ := id F
  have nO : _ = _ := A.2.1
  obtain ⟨s1, p1, p2, p3, p4, -⟩ := id Z
  have hO1 := p1
  have yO1 := p4.1
  refine Rn.aload_n (pc1 := 12)  dX8_confirm_11 rfl rfl rfl ?_
  refine Rn.getfield (pc1 := 15)  dX8_confirm_12 rfl fX8_19 (by first | assumption | exact mset_same | exact mget_ne (by omega) (by assumption)) rfl ?_
  refine Rn.aload_n (pc1 := 16)  dX8_confirm_15 rfl rfl rfl ?_
  refine Rn.getfield (pc1 := 19)  dX8_confirm_16 rfl fX8_10 (by first | assumption | exact mset_same | exact mget_ne (by omega) (by assumption)) rfl ?_
  refine Rn.iload_n (pc1 := 20)  dX8_confirm_19 rfl rfl rfl ?_
  refine Rn.cV_i (pc1 := 23) (sX6_letConfirm F) dX8_confirm_20 rfl qX8_71 oX6_letConfirm (by first | assumption | exact mset_same | exact mget_ne (by omega) (by assumption)) rfl rfl rfl rfl (Nat.le_of_ble_eq_true rfl) (by decide) (by decide) (fun v20 μ20 h20 => ?_)
  have Z2 := PD.of Z F h20
  obtain ⟨s2, q1, q2, q3, q4, -⟩ := id Z2.1
  have yO2 := q4.1
  refine Rn.cV_i (pc1 := 26) (eS_settle Z2) dX8_confirm_23 rfl qX8_45 oX1_settle (by first | assumption | exact mset_same | exact mget_ne (by omega) (by assumption)) rfl rfl rfl rfl (Nat.le_of_ble_eq_true rfl) (by decide) (by decide) (fun v23 μ23 h23 => ?_)
  exact Rn.ireturn dX8_confirm_26 rfl rfl ⟨_, rfl, h23⟩
theorem eX8_goBack {s : Int32} (C : CW μ x f held P Pp len u S B) : EvA G 6 kX8_goBack [.ref x, .int s] μ sz 0 0 (QW x held len B f P Pp u S (mayIsF (rF f) s) (f (261 + 27 * s.toNatClampNeg + 1)) (backF f s.toNatClampNeg) μ) := by
  have hO := C.1
  obtain ⟨s0, c3, c4⟩ := C.2.2.1
  have yO := c3.1
  refine EvA.of (L := [some (.ref x), some (.int s)]) (by decide +kernel) (Nat.le_of_ble_eq_true rfl) rfl ?_
  refine Rn.aload_n (pc1 := 1)  dX8_goBack_0 rfl rfl rfl ?_
  refine Rn.getfield (pc1 := 4)  dX8_goBack_1 rfl fX8_19 (by first | assumption | exact mset_same | exact mget_ne (by omega) (by assumption)) rfl ?_
  refine Rn.aload_n (pc1 := 5)  dX8_goBack_4 rfl rfl rfl ?_
  refine Rn.getfield (pc1 := 8)  dX8_goBack_5 rfl fX8_10 (by first | assumption | exact mset_same | exact mget_ne (by omega) (by assumption)) rfl ?_
  refine Rn.cV_v (pc1 := 11) (eS_prepare C) dX8_goBack_8 rfl qX8_37 oX1_prepare (by first | assumption | exact mset_same | exact mget_ne (by omega) (by assumption)) rfl rfl rfl rfl (Nat.le_of_ble_eq_true rfl) (by decide) (by decide) (fun μ8 h8 => ?_)
  obtain ⟨Z, F⟩ := h8
  obtain ⟨h, rc, sc, A, I⟩ := id F
  have nO : _ = _ := A.2.1
  obtain ⟨s1, p1, p2, p3, p4, -⟩ := id Z
  have hO1 := p1
  have yO1 := p4.1
  refine Rn.aload_n (pc1 := 12)  dX8_goBack_11 rfl rfl rfl ?_
  refine Rn.getfield (pc1 := 15)  dX8_goBack_12 rfl fX8_19 (by first | assumption | exact mset_same | exact mget_ne (by omega) (by assumption)) rfl ?_
  refine Rn.aload_n (pc1 := 16)  dX8_goBack_15 rfl rfl rfl ?_
  refine Rn.getfield (pc1 := 19)  dX8_goBack_16 rfl fX8_10 (by first | assumption | exact mset_same | exact mget_ne (by omega) (by assumption)) rfl ?_
  refine Rn.iload_n (pc1 := 20)  dX8_goBack_19 rfl rfl rfl ?_
  refine Rn.cV_i (pc1 := 23) (sX6_letGoBack F) dX8_goBack_20 rfl qX8_74 oX6_letGoBack (by first | assumption | exact mset_same | exact mget_ne (by omega) (by assumption)) rfl rfl rfl rfl (Nat.le_of_ble_eq_true rfl) (by decide) (by decide) (fun v20 μ20 h20 => ?_)
  have Z2 := PD.of Z F h20
  obtain ⟨s2, q1, q2, q3, q4, -⟩ := id Z2.1
  have yO2 := q4.1
  refine Rn.cV_i (pc1 := 26) (eS_settle Z2) dX8_goBack_23 rfl qX8_45 oX1_settle (by first | assumption | exact mset_same | exact mget_ne (by omega) (by assumption)) rfl rfl rfl rfl (Nat.le_of_ble_eq_true rfl) (by decide) (by decide) (fun v23 μ23 h23 => ?_)
  exact Rn.ireturn dX8_goBack_26 rfl rfl ⟨_, rfl, h23⟩
theorem eX8_beginAnew {s : Int32} (hB : B < 2 ^ 30) (C : CW μ x f held P Pp len u S B) : EvA G 6 kX8_beginAnew [.ref x, .int s] μ sz 0 0 (QW x held len B f P Pp u S (mayIsF (rF f) s) (nI (hF f)) (beginF f s.toNatClampNeg (nI 0) (fun _ => -6)) μ) := by
  have hO := C.1
  obtain ⟨s0, c3, c4⟩ := C.2.2.1
  have yO := c3.1
  refine EvA.of (L := [some (.ref x), some (.int s)]) (by decide +kernel) (Nat.le_of_ble_eq_true rfl) rfl ?_
  refine Rn.aload_n (pc1 := 1)  dX8_beginAnew_0 rfl rfl rfl ?_
  refine Rn.getfield (pc1 := 4)  dX8_beginAnew_1 rfl fX8_19 (by first | assumption | exact mset_same | exact mget_ne (by omega) (by assumption)) rfl ?_
  refine Rn.aload_n (pc1 := 5)  dX8_beginAnew_4 rfl rfl rfl ?_
  refine Rn.getfield (pc1 := 8)  dX8_beginAnew_5 rfl fX8_10 (by first | assumption | exact mset_same | exact mget_ne (by omega) (by assumption)) rfl ?_
  refine Rn.cV_v (pc1 := 11) (eS_prepare C) dX8_beginAnew_8 rfl qX8_37 oX1_prepare (by first | assumption | exact mset_same | exact mget_ne (by omega) (by assumption)) rfl rfl rfl rfl (Nat.le_of_ble_eq_true rfl) (by decide) (by decide) (fun μ8 h8 => ?_)
  obtain ⟨Z, F⟩ := h8
  obtain ⟨h, rc, sc, A, I⟩ := id F
  have nO : _ = _ := A.2.1
  obtain ⟨s1, p1, p2, p3, p4, -⟩ := id Z
  have hO1 := p1
  have yO1 := p4.1
  refine Rn.aload_n (pc1 := 12)  dX8_beginAnew_11 rfl rfl rfl ?_
  refine Rn.getfield (pc1 := 15)  dX8_beginAnew_12 rfl fX8_19 (by first | assumption | exact mset_same | exact mget_ne (by omega) (by assumption)) rfl ?_
  refine Rn.aload_n (pc1 := 16)  dX8_beginAnew_15 rfl rfl rfl ?_
  refine Rn.getfield (pc1 := 19)  dX8_beginAnew_16 rfl fX8_10 (by first | assumption | exact mset_same | exact mget_ne (by omega) (by assumption)) rfl ?_
  refine Rn.iload_n (pc1 := 20)  dX8_beginAnew_19 rfl rfl rfl ?_
  refine Rn.cV_i (pc1 := 23) (sX6_letBeginAnew hB F) dX8_beginAnew_20 rfl qX8_77 oX6_letBeginAnew (by first | assumption | exact mset_same | exact mget_ne (by omega) (by assumption)) rfl rfl rfl rfl (Nat.le_of_ble_eq_true rfl) (by decide) (by decide) (fun v20 μ20 h20 => ?_)
  have Z2 := PD.of Z F h20
  obtain ⟨s2, q1, q2, q3, q4, -⟩ := id Z2.1
  have yO2 := q4.1
  refine Rn.cV_i (pc1 := 26) (eS_settle Z2) dX8_beginAnew_23 rfl qX8_45 oX1_settle (by first | assumption | exact mset_same | exact mget_ne (by omega) (by assumption)) rfl rfl rfl rfl (Nat.le_of_ble_eq_true rfl) (by decide) (by decide) (fun v23 μ23 h23 => ?_)
  exact Rn.ireturn dX8_beginAnew_26 rfl rfl ⟨_, rfl, h23⟩
theorem eX8_load {s : Int32} {v : Int32} (C : CW μ x f held P Pp len u S B) : EvA G 6 kX8_load [.ref x, .int s, .int v] μ sz 0 0 (QW x held len B f P Pp u S (mayLoadF f (rF f) (sF f) s v) (f (423 + 13 * v.toNatClampNeg)) (beginF f s.toNatClampNeg (f (423 + 13 * v.toNatClampNeg)) (fun k => f (423 + 13 * v.toNatClampNeg + 1 + k))) μ) := by
  have hO := C.1
  obtain ⟨s0, c3, c4⟩ := C.2.2.1
  have yO := c3.1
  refine EvA.of (L := [some (.ref x), some (.int s), some (.int v)]) (by decide +kernel) (Nat.le_of_ble_eq_true rfl) rfl ?_
  refine Rn.aload_n (pc1 := 1)  dX8_load_0 rfl rfl rfl ?_
  refine Rn.getfield (pc1 := 4)  dX8_load_1 rfl fX8_19 (by first | assumption | exact mset_same | exact mget_ne (by omega) (by assumption)) rfl ?_
  refine Rn.aload_n (pc1 := 5)  dX8_load_4 rfl rfl rfl ?_
  refine Rn.getfield (pc1 := 8)  dX8_load_5 rfl fX8_10 (by first | assumption | exact mset_same | exact mget_ne (by omega) (by assumption)) rfl ?_
  refine Rn.cV_v (pc1 := 11) (eS_prepare C) dX8_load_8 rfl qX8_37 oX1_prepare (by first | assumption | exact mset_same | exact mget_ne (by omega) (by assumption)) rfl rfl rfl rfl (Nat.le_of_ble_eq_true rfl) (by decide) (by decide) (fun μ8 h8 => ?_)
  obtain ⟨Z, F⟩ := h8
  obtain ⟨h, rc, sc, A, I⟩ := id F
  have nO : _ = _ := A.2.1
  obtain ⟨s1, p1, p2, p3, p4, -⟩ := id Z
  have hO1 := p1
  have yO1 := p4.1
  refine Rn.aload_n (pc1 := 12)  dX8_load_11 rfl rfl rfl ?_
  refine Rn.getfield (pc1 := 15)  dX8_load_12 rfl fX8_19 (by first | assumption | exact mset_same | exact mget_ne (by omega) (by assumption)) rfl ?_
  refine Rn.aload_n (pc1 := 16)  dX8_load_15 rfl rfl rfl ?_
  refine Rn.getfield (pc1 := 19)  dX8_load_16 rfl fX8_10 (by first | assumption | exact mset_same | exact mget_ne (by omega) (by assumption)) rfl ?_
  refine Rn.iload_n (pc1 := 20)  dX8_load_19 rfl rfl rfl ?_
  refine Rn.iload_n (pc1 := 21)  dX8_load_20 rfl rfl rfl ?_
  refine Rn.cV_i (pc1 := 24) (sX6_letLoad F) dX8_load_21 rfl qX8_80 oX6_letLoad (by first | assumption | exact mset_same | exact mget_ne (by omega) (by assumption)) rfl rfl rfl rfl (Nat.le_of_ble_eq_true rfl) (by decide) (by decide) (fun v21 μ21 h21 => ?_)
  have Z2 := PD.of Z F h21
  obtain ⟨s2, q1, q2, q3, q4, -⟩ := id Z2.1
  have yO2 := q4.1
  refine Rn.cV_i (pc1 := 27) (eS_settle Z2) dX8_load_24 rfl qX8_45 oX1_settle (by first | assumption | exact mset_same | exact mget_ne (by omega) (by assumption)) rfl rfl rfl rfl (Nat.le_of_ble_eq_true rfl) (by decide) (by decide) (fun v24 μ24 h24 => ?_)
  exact Rn.ireturn dX8_load_27 rfl rfl ⟨_, rfl, h24⟩
end CF
end
section
/-! ===== ChangeFeed's questions ===== -/
theorem inB_f {v : Int32} {n : Nat} (hn : n < 2 ^ 31) (h : inB v (nI 0) (nI n) = false) : v.toInt < 0 ∨ (n : Int) < v.toInt := by
  by_cases q : v.toInt < 0
  · exact Or.inl q
  · right
    by_cases q2 : (n : Int) < v.toInt
    · exact q2
    · exfalso
      rw [inB_t (by rw [Int32.lt_iff_toInt_lt, nI_toInt (by decide)]; omega) (by rw [Int32.lt_iff_toInt_lt, nI_toInt hn]; omega)] at h
      cases h
def tableQ (f : Nat → Int32) (k : Int32) : Int32 := if inB k (nI 0) (nI 11) = true then f (9 + k.toNatClampNeg) else -1
def viewQ (f : Nat → Int32) (rc : Nat) (r k : Int32) : Int32 := if isRdB rc r = true ∧ inB k (nI 0) (nI 11) = true then f (261 + 27 * r.toNatClampNeg + 3 + k.toNatClampNeg) else -1
def entryW (f : Nat → Int32) (h e w : Nat) : Int32 := if w < 4 then f (21 + 4 * e + w) else if w = 4 then bI (lastB (e1 f) e h) else bI (closB (e0 f e) (f 3) (f 0))
def entryQ (f : Nat → Int32) (h : Nat) (e w : Int32) : Int32 := if isRdB h e = true then (if inB w (nI 0) (nI 5) = true then entryW f h e.toNatClampNeg w.toNatClampNeg else -2) else -1
def ofRdW (f : Nat → Int32) (h i w : Nat) : Int32 := match w with
  | 0 => f (261 + 27 * i)
  | 1 => f (261 + 27 * i + 1)
  | 2 => nI (cntA f (f (261 + 27 * i)) h)
  | 3 => bI (lateB (f (261 + 27 * i)) (f 4))
  | 4 => f (261 + 27 * i + 2)
  | 5 => difN (fun k => f (261 + 27 * i + 3 + k)) (fun k => f (9 + k)) 12
  | _ => difN (fun k => f (261 + 27 * i + 15 + k)) (fun k => f (9 + k)) 12
def ofReaderQ (f : Nat → Int32) (h rc : Nat) (r w : Int32) : Int32 := if isRdB rc r = true then (if inB w (nI 0) (nI 6) = true then ofRdW f h r.toNatClampNeg w.toNatClampNeg else -2) else -1
def ofSnW (f : Nat → Int32) (h n w : Nat) : Int32 := match w with
  | 0 => f (423 + 13 * n)
  | 1 => nI (cntN (fun k => f (423 + 13 * n + 1 + k)) 12)
  | _ => nI (cntA f (f (423 + 13 * n)) h)
def ofSnapshotQ (f : Nat → Int32) (h sc : Nat) (s w : Int32) : Int32 := if isRdB sc s = true then (if inB w (nI 0) (nI 2) = true then ofSnW f h s.toNatClampNeg w.toNatClampNeg else -2) else -1
def countW (f : Nat → Int32) (len held w : Nat) : Int32 := match w with
  | 0 => f 6
  | 1 => f 3
  | 2 => nI (cntN (fun k => f (9 + k)) 12)
  | 3 => f 2
  | 4 => f 4
  | 5 => f 5
  | 6 => f 7
  | 7 => lateN f (f 4) (rF f)
  | 8 => f 8
  | 9 => f 0
  | 10 => f 1
  | 11 => nI len
  | _ => nI held
def countQ (f : Nat → Int32) (len held : Nat) (w : Int32) : Int32 := if inB w (nI 0) (nI 12) = true then countW f len held w.toNatClampNeg else -2
def leftInQ (f : Nat → Int32) (m : Int32) : Int32 := if inB m (nI 0) (nI 999) = true then nI (leftF f (hF f) (f 0) (f 2 + m)) else -2
def lateInQ (f : Nat → Int32) (m : Int32) : Int32 := if inB m (nI 0) (nI 999) = true then lateN f (floorF f (hF f) (f 0) (f 2 + m)) (rF f) else -2
def shortestQ (f : Nat → Int32) (h rc sc : Nat) (r w : Int32) : Int32 := if isRdB rc r = true then (if inB w (nI 0) (nI 1) = true then (if w = nI 0 then nI (shN f h sc r.toNatClampNeg 5).1 else (shN f h sc r.toNatClampNeg 5).2) else -2) else -1
section SQ
variable {G : GG} {μ : Mm} {sz : Nat} {a h rc sc : Nat} {f : Nat → Int32}
theorem eS_left {s mi : Int32} (F : SA μ a f h rc sc) (hs : nI 1 ≤ s) : EvA G 3 kX0_leftAfterThinning [.ref (a + 3), .int s, .int (f 1), .int mi] μ sz 0 0 (rI fun v μ' => v = nI (leftF f h s mi) ∧ μ' = μ) := by
  obtain ⟨g0, g1, g2, g3, fd1, fd2⟩ := F.2.2.2.2.1
  refine (eX0_leftAfterThinning fd1 F.1.1 hs).imp ?_
  rintro r μ' ⟨v, rfl, rfl, rfl⟩
  exact ⟨_, rfl, by rw [leftN_congr (FdA.pF (B := 0) (f := f) (s := s) (mi := mi) fd2)]; rfl, rfl⟩
theorem eS_floor {s mi : Int32} (F : SA μ a f h rc sc) (hs : nI 1 ≤ s) : EvA G 3 kX0_floorAfterThinning [.ref (a + 3), .int s, .int (f 1), .int mi] μ sz 0 0 (rI fun v μ' => v = floorF f h s mi ∧ μ' = μ) := by
  obtain ⟨g0, g1, g2, g3, fd1, fd2⟩ := F.2.2.2.2.1
  refine (eX0_floorAfterThinning fd1 F.1.1 hs).imp ?_
  rintro r μ' ⟨v, rfl, rfl, rfl⟩
  exact ⟨_, rfl, floorN_congr (fun i hi => ⟨FdA.pF (B := 0) (f := f) (s := s) (mi := mi) fd2 i hi, lastB_congr (fun j _ h2 => (fd2 j h2).2.1) hi, (fd2 i hi).1⟩), rfl⟩
theorem SA.fO (F : SA μ a f h rc sc) : ∃ r1 r2 r3 r4, μ (a + 3) = some (obj 0 [.ref r1, .ref r2, .ref r3, .ref r4, .int (nI h), .int (f 3), .int (f 4), .int (f 5)]) := by
  obtain ⟨g0, g1, g2, g3, fd1, fd2⟩ := F.2.2.2.2.1
  exact ⟨_, _, _, _, fd1.1⟩
end SQ
section CQ
variable {G : GG} {μ : Mm} {sz x held len B : Nat} {f : Nat → Int32} {P : Nat → Nat → Int32} {Pp : Nat → Int32} {u : Nat → Bool} {S : Nat → Nat → Int32}
theorem eX8_table {k : Int32} (C : CW μ x f held P Pp len u S B) : EvA G 6 kX8_table [.ref x, .int k] μ sz 0 0 (rI fun v μ' => v = tableQ f k ∧ μ' = μ) := by
  have hO := C.1
  obtain ⟨h, rc, sc, A, I⟩ := C.2.1
  have nO : _ = _ := A.2.1
  have vO := A.2.2.2.1.1
  refine EvA.of (L := [some (.ref x), some (.int k)]) (by decide +kernel) (Nat.le_of_ble_eq_true rfl) rfl ?_
  refine Rn.iload_n (pc1 := 1)  dX8_table_0 rfl rfl rfl ?_
  refine Rn.cS_i (pc1 := 4) (eX8_isKey) dX8_table_1 rfl qX8_83 oX8_isKey rfl rfl (Nat.le_of_ble_eq_true rfl) (by decide) (by decide) (fun v1 μ1 h1 => ?_)
  obtain ⟨rfl, rfl⟩ := h1
  refine Rn.if_eq (pc1 := 7) 21 dX8_table_4 rfl (by decide) (fun c4 => ?_) (fun c4 => ?_)
  · have e : tableQ f k = -1 := if_neg (by rw [bI_0 c4]; decide)
    rw [e]
    refine Rn.iconst (pc1 := 22) (v := (-1)) dX8_table_21 rfl (by decide) ?_
    exact Rn.ireturn dX8_table_22 rfl rfl ⟨_, rfl, rfl, rfl⟩
  · obtain ⟨j, hj, rfl⟩ := inB_nI (by decide) (bI_n c4)
    have e : tableQ f (nI j) = f (9 + j) := by unfold tableQ; rw [if_pos (bI_n c4), nI_clamp (by omega)]
    rw [e]
    refine Rn.aload_n (pc1 := 8)  dX8_table_7 rfl rfl rfl ?_
    refine Rn.getfield (pc1 := 11)  dX8_table_8 rfl fX8_10 (by first | assumption | exact mset_same | exact mget_ne (by omega) (by assumption)) rfl ?_
    refine Rn.getfield (pc1 := 14)  dX8_table_11 rfl fX8_87 (by first | assumption | exact mset_same | exact mget_ne (by omega) (by assumption)) rfl ?_
    refine Rn.iload_n (pc1 := 15)  dX8_table_14 rfl rfl rfl ?_
    refine Rn.cV_i (pc1 := 18) (eX7_of A.2.2.2.1 rfl (show j < 12 by omega)) dX8_table_15 rfl qX8_91 oX7_of (by first | assumption | exact mset_same | exact mget_ne (by omega) (by assumption)) rfl rfl rfl rfl (Nat.le_of_ble_eq_true rfl) (by decide) (by decide) (fun v15 μ15 h15 => ?_)
    obtain ⟨rfl, rfl⟩ := h15
    refine Rn.goto 22 dX8_table_18 (by decide) ?_
    exact Rn.ireturn dX8_table_22 rfl rfl ⟨_, rfl, rfl, rfl⟩
theorem eX8_view {r k : Int32} (C : CW μ x f held P Pp len u S B) : EvA G 6 kX8_view [.ref x, .int r, .int k] μ sz 0 0 (rI fun v μ' => v = viewQ f (rF f) r k ∧ μ' = μ) := by
  have hO := C.1
  obtain ⟨h, rc, sc, A, I⟩ := C.2.1
  have nO : _ = _ := A.2.1
  have hrc := A.1.2.1
  rw [I.h.2.1]
  refine EvA.of (L := [some (.ref x), some (.int r), some (.int k), none]) (by decide +kernel) (Nat.le_of_ble_eq_true rfl) rfl ?_
  cases hr : isRdB rc r
  · have e : viewQ f rc r k = -1 := if_neg (fun q => by rw [hr] at q; cases q.1)
    rw [e]
    refine Rn.aload_n (pc1 := 1)  dX8_view_0 rfl rfl rfl ?_
    refine Rn.getfield (pc1 := 4)  dX8_view_1 rfl fX8_10 (by first | assumption | exact mset_same | exact mget_ne (by omega) (by assumption)) rfl ?_
    refine Rn.iload_n (pc1 := 5)  dX8_view_4 rfl rfl rfl ?_
    refine Rn.cV_r (pc1 := 8) (eX6_readerAt_n A (isRdB_f (by omega) hr)) dX8_view_5 rfl qX8_96 oX6_readerAt (by first | assumption | exact mset_same | exact mget_ne (by omega) (by assumption)) rfl rfl rfl rfl (Nat.le_of_ble_eq_true rfl) (by decide) (by decide) (fun v5 μ5 h5 => ?_)
    obtain ⟨rfl, rfl⟩ := h5
    show Rn G 6 kX8_view 8 _ [.null] _ _ _ _ _
    refine Rn.astore_nN (pc1 := 9)  dX8_view_8 rfl rfl (by decide) rfl rfl ?_
    refine Rn.aload_nN (pc1 := 10)  dX8_view_9 rfl rfl rfl ?_
    refine Rn.ifnullN 20 dX8_view_10 (by decide) ?_
    refine Rn.iconst (pc1 := 21) (v := (-1)) dX8_view_20 rfl (by decide) ?_
    exact Rn.ireturn dX8_view_21 rfl rfl ⟨_, rfl, rfl, rfl⟩
  · obtain ⟨i, hi, rfl⟩ := isRdB_t (by omega) hr
    obtain ⟨vw, cv, R, rv, rw⟩ := A.rd hi
    have rO := R.1
    have vO := R.2.1.1
    refine Rn.aload_n (pc1 := 1)  dX8_view_0 rfl rfl rfl ?_
    refine Rn.getfield (pc1 := 4)  dX8_view_1 rfl fX8_10 (by first | assumption | exact mset_same | exact mget_ne (by omega) (by assumption)) rfl ?_
    refine Rn.iload_n (pc1 := 5)  dX8_view_4 rfl rfl rfl ?_
    refine Rn.cV_r (pc1 := 8) (eX6_readerAt_y A rfl hi) dX8_view_5 rfl qX8_96 oX6_readerAt (by first | assumption | exact mset_same | exact mget_ne (by omega) (by assumption)) rfl rfl rfl rfl (Nat.le_of_ble_eq_true rfl) (by decide) (by decide) (fun v5 μ5 h5 => ?_)
    obtain ⟨rfl, rfl⟩ := h5
    refine Rn.astore_n (pc1 := 9) (x := x + 1 + 10 + 5 * i)  dX8_view_8 rfl rfl (by decide) rfl rfl ?_
    refine Rn.aload_n (pc1 := 10)  dX8_view_9 rfl rfl rfl ?_
    refine Rn.ifnull (pc1 := 13) dX8_view_10 rfl ?_
    refine Rn.iload_n (pc1 := 14)  dX8_view_13 rfl rfl rfl ?_
    refine Rn.cS_i (pc1 := 17) (eX8_isKey) dX8_view_14 rfl qX8_83 oX8_isKey rfl rfl (Nat.le_of_ble_eq_true rfl) (by decide) (by decide) (fun v14 μ14 h14 => ?_)
    obtain ⟨rfl, rfl⟩ := h14
    refine Rn.if_ne (pc1 := 20) 22 dX8_view_17 rfl (by decide) (fun c17 => ?_) (fun c17 => ?_)
    · obtain ⟨j, hj, rfl⟩ := inB_nI (by decide) (bI_n c17)
      have e : viewQ f rc (nI i) (nI j) = f (261 + 27 * i + 3 + j) := by unfold viewQ; rw [if_pos ⟨hr, bI_n c17⟩, nI_clamp (by omega), nI_clamp (by omega)]
      rw [e]
      refine Rn.aload_n (pc1 := 23)  dX8_view_22 rfl rfl rfl ?_
      refine Rn.getfield (pc1 := 26)  dX8_view_23 rfl fX8_100 (by first | assumption | exact mset_same | exact mget_ne (by omega) (by assumption)) rfl ?_
      refine Rn.iload_n (pc1 := 27)  dX8_view_26 rfl rfl rfl ?_
      refine Rn.cV_i (pc1 := 30) (eX7_of R.2.1 rfl (show j < 12 by omega)) dX8_view_27 rfl qX8_91 oX7_of (by first | assumption | exact mset_same | exact mget_ne (by omega) (by assumption)) rfl rfl rfl rfl (Nat.le_of_ble_eq_true rfl) (by decide) (by decide) (fun v27 μ27 h27 => ?_)
      obtain ⟨rfl, rfl⟩ := h27
      rw [rv j (by omega)]
      exact Rn.ireturn dX8_view_30 rfl rfl ⟨_, rfl, rfl, rfl⟩
    · have e : viewQ f rc (nI i) k = -1 := if_neg (fun q => by rw [bI_0 c17] at q; cases q.2)
      rw [e]
      refine Rn.iconst (pc1 := 21) (v := (-1)) dX8_view_20 rfl (by decide) ?_
      exact Rn.ireturn dX8_view_21 rfl rfl ⟨_, rfl, rfl, rfl⟩
theorem eX8_entry {e w : Int32} (C : CW μ x f held P Pp len u S B) : EvA G 6 kX8_entry [.ref x, .int e, .int w] μ sz 0 0 (rI fun v μ' => v = entryQ f (hF f) e w ∧ μ' = μ) := by
  have hO := C.1
  obtain ⟨h, rc, sc, A, I⟩ := C.2.1
  have nO : _ = _ := A.2.1
  have hh := A.1.1
  obtain ⟨g0, g1, g2, g3, fd1, fd2⟩ := id A.2.2.2.2.1
  have fO := fd1.1
  rw [I.h.1]
  refine EvA.of (L := [some (.ref x), some (.int e), some (.int w), none]) (by decide +kernel) (Nat.le_of_ble_eq_true rfl) rfl ?_
  cases hr : isRdB h e
  · have e0 : entryQ f h e w = -1 := if_neg (by rw [hr]; decide)
    rw [e0]
    refine Rn.aload_n (pc1 := 1)  dX8_entry_0 rfl rfl rfl ?_
    refine Rn.getfield (pc1 := 4)  dX8_entry_1 rfl fX8_10 (by first | assumption | exact mset_same | exact mget_ne (by omega) (by assumption)) rfl ?_
    refine Rn.getfield (pc1 := 7)  dX8_entry_4 rfl fX8_105 (by first | assumption | exact mset_same | exact mget_ne (by omega) (by assumption)) rfl ?_
    refine Rn.astore_n (pc1 := 8)  dX8_entry_7 rfl rfl (by decide) rfl rfl ?_
    refine Rn.iload_n (pc1 := 9)  dX8_entry_8 rfl rfl rfl ?_
    refine Rn.if_lt (pc1 := 12) 20 dX8_entry_9 rfl (by decide) (fun c9 => ?_) (fun c9 => ?_)
    · refine Rn.iconst (pc1 := 21) (v := (-1)) dX8_entry_20 rfl (by decide) ?_
      exact Rn.ireturn dX8_entry_21 rfl rfl ⟨_, rfl, rfl, rfl⟩
    · refine Rn.iload_n (pc1 := 13)  dX8_entry_12 rfl rfl rfl ?_
      refine Rn.aload_n (pc1 := 14)  dX8_entry_13 rfl rfl rfl ?_
      refine Rn.getfield (pc1 := 17)  dX8_entry_14 rfl fX8_109 (by first | assumption | exact mset_same | exact mget_ne (by omega) (by assumption)) rfl ?_
      refine Rn.icmp_lt (pc1 := 20) 22 dX8_entry_17 rfl (by decide) (fun c17 => ?_) (fun c17 => ?_)
      · exfalso
        obtain ⟨j, hj, rfl⟩ := nI_of (x := e) c9
        rw [nI_ltI hj (by omega)] at c17
        exact isRdB_f (by omega) hr j c17 rfl
      · refine Rn.iconst (pc1 := 21) (v := (-1)) dX8_entry_20 rfl (by decide) ?_
        exact Rn.ireturn dX8_entry_21 rfl rfl ⟨_, rfl, rfl, rfl⟩
  · obtain ⟨i, hi, rfl⟩ := isRdB_t (by omega) hr
    obtain ⟨m0, m1, m2, m3⟩ := fd2 i hi
    have e0 : entryQ f h (nI i) w = if inB w (nI 0) (nI 5) = true then entryW f h i w.toNatClampNeg else -2 := by unfold entryQ; rw [if_pos hr, nI_clamp (by omega)]
    rw [e0]
    refine Rn.aload_n (pc1 := 1)  dX8_entry_0 rfl rfl rfl ?_
    refine Rn.getfield (pc1 := 4)  dX8_entry_1 rfl fX8_10 (by first | assumption | exact mset_same | exact mget_ne (by omega) (by assumption)) rfl ?_
    refine Rn.getfield (pc1 := 7)  dX8_entry_4 rfl fX8_105 (by first | assumption | exact mset_same | exact mget_ne (by omega) (by assumption)) rfl ?_
    refine Rn.astore_n (pc1 := 8)  dX8_entry_7 rfl rfl (by decide) rfl rfl ?_
    refine Rn.iload_n (pc1 := 9)  dX8_entry_8 rfl rfl rfl ?_
    refine Rn.if_lt (pc1 := 12) 20 dX8_entry_9 rfl (by decide) (fun c9 => ?_) (fun c9 => ?_)
    · exact absurd c9 (nI_nlt (Nat.zero_le _) (by omega))
    · refine Rn.iload_n (pc1 := 13)  dX8_entry_12 rfl rfl rfl ?_
      refine Rn.aload_n (pc1 := 14)  dX8_entry_13 rfl rfl rfl ?_
      refine Rn.getfield (pc1 := 17)  dX8_entry_14 rfl fX8_109 (by first | assumption | exact mset_same | exact mget_ne (by omega) (by assumption)) rfl ?_
      refine Rn.icmp_lt (pc1 := 20) 22 dX8_entry_17 rfl (by decide) (fun c17 => ?_) (fun c17 => ?_)
      · refine Rn.iload_n (pc1 := 23)  dX8_entry_22 rfl rfl rfl ?_
        cases hw : inB w (nI 0) (nI 5)
        · rw [if_neg (by decide)]
          refine Rn.tableOut 109 dX8_entry_23 (by have := inB_f (by decide) hw; exact this) (by decide) ?_
          refine Rn.bipush (pc1 := 111) (v := (-2)) dX8_entry_109 rfl (by decide) ?_
          exact Rn.ireturn dX8_entry_111 rfl rfl ⟨_, rfl, rfl, rfl⟩
        · rw [if_pos rfl]
          obtain ⟨k, hk, rfl⟩ := inB_nI (by decide) hw
          rw [nI_clamp (by omega)]
          match k, hk with
          | 0, _ =>
            refine Rn.tableIn (off := 37) 60 dX8_entry_23 (by decide) (by decide) (by decide) (by decide) ?_
            refine Rn.aload_n (pc1 := 61)  dX8_entry_60 rfl rfl rfl ?_
            refine Rn.iload_n (pc1 := 62)  dX8_entry_61 rfl rfl rfl ?_
            refine Rn.cV_i (pc1 := 65) (eX0_numberAt fd1 rfl (show i < 60 by omega)) dX8_entry_62 rfl qX8_115 oX0_numberAt (by first | assumption | exact mset_same | exact mget_ne (by omega) (by assumption)) rfl rfl rfl rfl (Nat.le_of_ble_eq_true rfl) (by decide) (by decide) (fun v62 μ62 h62 => ?_)
            obtain ⟨rfl, rfl⟩ := h62
            exact Rn.ireturn dX8_entry_65 rfl rfl ⟨_, rfl, m0, rfl⟩
          | 1, _ =>
            refine Rn.tableIn (off := 43) 66 dX8_entry_23 (by decide) (by decide) (by decide) (by decide) ?_
            refine Rn.aload_n (pc1 := 67)  dX8_entry_66 rfl rfl rfl ?_
            refine Rn.iload_n (pc1 := 68)  dX8_entry_67 rfl rfl rfl ?_
            refine Rn.cV_i (pc1 := 71) (eX0_keyAt fd1 rfl (show i < 60 by omega)) dX8_entry_68 rfl qX8_118 oX0_keyAt (by first | assumption | exact mset_same | exact mget_ne (by omega) (by assumption)) rfl rfl rfl rfl (Nat.le_of_ble_eq_true rfl) (by decide) (by decide) (fun v68 μ68 h68 => ?_)
            obtain ⟨rfl, rfl⟩ := h68
            exact Rn.ireturn dX8_entry_71 rfl rfl ⟨_, rfl, m1, rfl⟩
          | 2, _ =>
            refine Rn.tableIn (off := 49) 72 dX8_entry_23 (by decide) (by decide) (by decide) (by decide) ?_
            refine Rn.aload_n (pc1 := 73)  dX8_entry_72 rfl rfl rfl ?_
            refine Rn.iload_n (pc1 := 74)  dX8_entry_73 rfl rfl rfl ?_
            refine Rn.cV_i (pc1 := 77) (eX0_valueAt fd1 rfl (show i < 60 by omega)) dX8_entry_74 rfl qX8_121 oX0_valueAt (by first | assumption | exact mset_same | exact mget_ne (by omega) (by assumption)) rfl rfl rfl rfl (Nat.le_of_ble_eq_true rfl) (by decide) (by decide) (fun v74 μ74 h74 => ?_)
            obtain ⟨rfl, rfl⟩ := h74
            exact Rn.ireturn dX8_entry_77 rfl rfl ⟨_, rfl, m2, rfl⟩
          | 3, _ =>
            refine Rn.tableIn (off := 55) 78 dX8_entry_23 (by decide) (by decide) (by decide) (by decide) ?_
            refine Rn.aload_n (pc1 := 79)  dX8_entry_78 rfl rfl rfl ?_
            refine Rn.iload_n (pc1 := 80)  dX8_entry_79 rfl rfl rfl ?_
            refine Rn.cV_i (pc1 := 83) (eX0_minuteAt fd1 rfl (show i < 60 by omega)) dX8_entry_80 rfl qX8_124 oX0_minuteAt (by first | assumption | exact mset_same | exact mget_ne (by omega) (by assumption)) rfl rfl rfl rfl (Nat.le_of_ble_eq_true rfl) (by decide) (by decide) (fun v80 μ80 h80 => ?_)
            obtain ⟨rfl, rfl⟩ := h80
            exact Rn.ireturn dX8_entry_83 rfl rfl ⟨_, rfl, m3, rfl⟩
          | 4, _ =>
            refine Rn.tableIn (off := 61) 84 dX8_entry_23 (by decide) (by decide) (by decide) (by decide) ?_
            refine Rn.aload_n (pc1 := 85)  dX8_entry_84 rfl rfl rfl ?_
            refine Rn.iload_n (pc1 := 86)  dX8_entry_85 rfl rfl rfl ?_
            refine Rn.cV_i (pc1 := 89) (eX0_isLastOfItsKey fd1 hh rfl hi) dX8_entry_86 rfl qX8_127 oX0_isLastOfItsKey (by first | assumption | exact mset_same | exact mget_ne (by omega) (by assumption)) rfl rfl rfl rfl (Nat.le_of_ble_eq_true rfl) (by decide) (by decide) (fun v86 μ86 h86 => ?_)
            obtain ⟨rfl, rfl⟩ := h86
            refine Rn.cS_i (pc1 := 92) (eX8_oneIf) dX8_entry_89 rfl qX8_130 oX8_oneIf rfl rfl (Nat.le_of_ble_eq_true rfl) (by decide) (by decide) (fun v89 μ89 h89 => ?_)
            obtain ⟨rfl, rfl⟩ := h89
            exact Rn.ireturn dX8_entry_92 rfl rfl ⟨_, rfl, by rw [lastB_congr (g' := e1 f) (fun j _ h2 => (fd2 j h2).2.1) hi]; rfl, rfl⟩
          | 5, _ =>
            refine Rn.tableIn (off := 70) 93 dX8_entry_23 (by decide) (by decide) (by decide) (by decide) ?_
            refine Rn.aload_n (pc1 := 94)  dX8_entry_93 rfl rfl rfl ?_
            refine Rn.iload_n (pc1 := 95)  dX8_entry_94 rfl rfl rfl ?_
            refine Rn.aload_n (pc1 := 96)  dX8_entry_95 rfl rfl rfl ?_
            refine Rn.getfield (pc1 := 99)  dX8_entry_96 rfl fX8_10 (by first | assumption | exact mset_same | exact mget_ne (by omega) (by assumption)) rfl ?_
            refine Rn.getfield (pc1 := 102)  dX8_entry_99 rfl fX8_134 (by first | assumption | exact mset_same | exact mget_ne (by omega) (by assumption)) rfl ?_
            refine Rn.cV_i (pc1 := 105) (eX0_isClosed fd1 rfl (show i < 60 by omega) I.size) dX8_entry_102 rfl qX8_137 oX0_isClosed (by first | assumption | exact mset_same | exact mget_ne (by omega) (by assumption)) rfl rfl rfl rfl (Nat.le_of_ble_eq_true rfl) (by decide) (by decide) (fun v102 μ102 h102 => ?_)
            obtain ⟨rfl, rfl⟩ := h102
            refine Rn.cS_i (pc1 := 108) (eX8_oneIf) dX8_entry_105 rfl qX8_130 oX8_oneIf rfl rfl (Nat.le_of_ble_eq_true rfl) (by decide) (by decide) (fun v105 μ105 h105 => ?_)
            obtain ⟨rfl, rfl⟩ := h105
            exact Rn.ireturn dX8_entry_108 rfl rfl ⟨_, rfl, by rw [m0]; rfl, rfl⟩
      · exact absurd (nI_lt hi (by omega)) c17
theorem eX8_leftIn {m : Int32} (C : CW μ x f held P Pp len u S B) : EvA G 6 kX8_leftIn [.ref x, .int m] μ sz 0 0 (rI fun v μ' => v = leftInQ f m ∧ μ' = μ) := by
  have hO := C.1
  obtain ⟨h, rc, sc, A, I⟩ := C.2.1
  have nO : _ = _ := A.2.1
  obtain ⟨r1, r2, r3, r4, fO⟩ := A.fO
  refine EvA.of (L := [some (.ref x), some (.int m)]) (by decide +kernel) (Nat.le_of_ble_eq_true rfl) rfl ?_
  refine Rn.iload_n (pc1 := 1)  dX8_leftIn_0 rfl rfl rfl ?_
  refine Rn.cS_i (pc1 := 4) (eX8_isNumber) dX8_leftIn_1 rfl qX8_204 oX8_isNumber rfl rfl (Nat.le_of_ble_eq_true rfl) (by decide) (by decide) (fun v1 μ1 h1 => ?_)
  obtain ⟨rfl, rfl⟩ := h1
  refine Rn.if_ne (pc1 := 7) 10 dX8_leftIn_4 rfl (by decide) (fun c4 => ?_) (fun c4 => ?_)
  · have e : leftInQ f m = nI (leftF f h (f 0) (f 2 + m)) := by unfold leftInQ; rw [if_pos (bI_n c4), I.h.1]
    rw [e]
    refine Rn.aload_n (pc1 := 11)  dX8_leftIn_10 rfl rfl rfl ?_
    refine Rn.getfield (pc1 := 14)  dX8_leftIn_11 rfl fX8_10 (by first | assumption | exact mset_same | exact mget_ne (by omega) (by assumption)) rfl ?_
    refine Rn.getfield (pc1 := 17)  dX8_leftIn_14 rfl fX8_105 (by first | assumption | exact mset_same | exact mget_ne (by omega) (by assumption)) rfl ?_
    refine Rn.aload_n (pc1 := 18)  dX8_leftIn_17 rfl rfl rfl ?_
    refine Rn.getfield (pc1 := 21)  dX8_leftIn_18 rfl fX8_10 (by first | assumption | exact mset_same | exact mget_ne (by omega) (by assumption)) rfl ?_
    refine Rn.getfield (pc1 := 24)  dX8_leftIn_21 rfl fX8_134 (by first | assumption | exact mset_same | exact mget_ne (by omega) (by assumption)) rfl ?_
    refine Rn.aload_n (pc1 := 25)  dX8_leftIn_24 rfl rfl rfl ?_
    refine Rn.getfield (pc1 := 28)  dX8_leftIn_25 rfl fX8_10 (by first | assumption | exact mset_same | exact mget_ne (by omega) (by assumption)) rfl ?_
    refine Rn.getfield (pc1 := 31)  dX8_leftIn_28 rfl fX8_197 (by first | assumption | exact mset_same | exact mget_ne (by omega) (by assumption)) rfl ?_
    refine Rn.aload_n (pc1 := 32)  dX8_leftIn_31 rfl rfl rfl ?_
    refine Rn.getfield (pc1 := 35)  dX8_leftIn_32 rfl fX8_10 (by first | assumption | exact mset_same | exact mget_ne (by omega) (by assumption)) rfl ?_
    refine Rn.getfield (pc1 := 38)  dX8_leftIn_35 rfl fX8_182 (by first | assumption | exact mset_same | exact mget_ne (by omega) (by assumption)) rfl ?_
    refine Rn.iload_n (pc1 := 39)  dX8_leftIn_38 rfl rfl rfl ?_
    refine Rn.iadd (pc1 := 40)  dX8_leftIn_39 rfl rfl ?_
    refine Rn.cV_i (pc1 := 43) (eS_left A I.size) dX8_leftIn_40 rfl qX8_207 oX0_leftAfterThinning (by first | assumption | exact mset_same | exact mget_ne (by omega) (by assumption)) rfl rfl rfl rfl (Nat.le_of_ble_eq_true rfl) (by decide) (by decide) (fun v40 μ40 h40 => ?_)
    obtain ⟨rfl, rfl⟩ := h40
    exact Rn.ireturn dX8_leftIn_43 rfl rfl ⟨_, rfl, rfl, rfl⟩
  · have e : leftInQ f m = -2 := if_neg (by rw [bI_0 c4]; decide)
    rw [e]
    refine Rn.bipush (pc1 := 9) (v := (-2)) dX8_leftIn_7 rfl (by decide) ?_
    exact Rn.ireturn dX8_leftIn_9 rfl rfl ⟨_, rfl, rfl, rfl⟩
theorem eX8_ofReader {r w : Int32} (hB : B < 2 ^ 30) (C : CW μ x f held P Pp len u S B) : EvA G 6 kX8_ofReader [.ref x, .int r, .int w] μ sz 0 0 (rI fun v μ' => v = ofReaderQ f (hF f) (rF f) r w ∧ μ' = μ) := by
  have hO := C.1
  obtain ⟨h, rc, sc, A, I⟩ := C.2.1
  have nO : _ = _ := A.2.1
  have hrc := A.1.2.1
  obtain ⟨r1, r2, r3, r4, fO⟩ := A.fO
  rw [I.h.1, I.h.2.1]
  refine EvA.of (L := [some (.ref x), some (.int r), some (.int w), none]) (by decide +kernel) (Nat.le_of_ble_eq_true rfl) rfl ?_
  cases hr : isRdB rc r
  · have e : ofReaderQ f h rc r w = -1 := if_neg (by rw [hr]; decide)
    rw [e]
    refine Rn.aload_n (pc1 := 1)  dX8_ofReader_0 rfl rfl rfl ?_
    refine Rn.getfield (pc1 := 4)  dX8_ofReader_1 rfl fX8_10 (by first | assumption | exact mset_same | exact mget_ne (by omega) (by assumption)) rfl ?_
    refine Rn.iload_n (pc1 := 5)  dX8_ofReader_4 rfl rfl rfl ?_
    refine Rn.cV_r (pc1 := 8) (eX6_readerAt_n A (isRdB_f (by omega) hr)) dX8_ofReader_5 rfl qX8_96 oX6_readerAt (by first | assumption | exact mset_same | exact mget_ne (by omega) (by assumption)) rfl rfl rfl rfl (Nat.le_of_ble_eq_true rfl) (by decide) (by decide) (fun v5 μ5 h5 => ?_)
    obtain ⟨rfl, rfl⟩ := h5
    show Rn G 6 kX8_ofReader 8 _ [.null] _ _ _ _ _
    refine Rn.astore_nN (pc1 := 9)  dX8_ofReader_8 rfl rfl (by decide) rfl rfl ?_
    refine Rn.aload_nN (pc1 := 10)  dX8_ofReader_9 rfl rfl rfl ?_
    refine Rn.ifnonnullN (pc1 := 13) dX8_ofReader_10 rfl ?_
    refine Rn.iconst (pc1 := 14) (v := (-1)) dX8_ofReader_13 rfl (by decide) ?_
    exact Rn.ireturn dX8_ofReader_14 rfl rfl ⟨_, rfl, rfl, rfl⟩
  · obtain ⟨i, hi, rfl⟩ := isRdB_t (by omega) hr
    obtain ⟨vw, cv, R, rv, rw⟩ := A.rd hi
    have rO := R.1
    have vO := R.2.1.1
    have wO := R.2.2.1
    have e0 : ofReaderQ f h rc (nI i) w = if inB w (nI 0) (nI 6) = true then ofRdW f h i w.toNatClampNeg else -2 := by unfold ofReaderQ; rw [if_pos hr, nI_clamp (by omega)]
    rw [e0]
    refine Rn.aload_n (pc1 := 1)  dX8_ofReader_0 rfl rfl rfl ?_
    refine Rn.getfield (pc1 := 4)  dX8_ofReader_1 rfl fX8_10 (by first | assumption | exact mset_same | exact mget_ne (by omega) (by assumption)) rfl ?_
    refine Rn.iload_n (pc1 := 5)  dX8_ofReader_4 rfl rfl rfl ?_
    refine Rn.cV_r (pc1 := 8) (eX6_readerAt_y A rfl hi) dX8_ofReader_5 rfl qX8_96 oX6_readerAt (by first | assumption | exact mset_same | exact mget_ne (by omega) (by assumption)) rfl rfl rfl rfl (Nat.le_of_ble_eq_true rfl) (by decide) (by decide) (fun v5 μ5 h5 => ?_)
    obtain ⟨rfl, rfl⟩ := h5
    refine Rn.astore_n (pc1 := 9) (x := x + 1 + 10 + 5 * i)  dX8_ofReader_8 rfl rfl (by decide) rfl rfl ?_
    refine Rn.aload_n (pc1 := 10)  dX8_ofReader_9 rfl rfl rfl ?_
    refine Rn.ifnonnull 15 dX8_ofReader_10 (by decide) ?_
    refine Rn.iload_n (pc1 := 16)  dX8_ofReader_15 rfl rfl rfl ?_
    cases hw : inB w (nI 0) (nI 6)
    · rw [if_neg (by decide)]
      refine Rn.tableOut 141 dX8_ofReader_16 (by have := inB_f (by decide) hw; exact this) (by decide) ?_
      refine Rn.bipush (pc1 := 143) (v := (-2)) dX8_ofReader_141 rfl (by decide) ?_
      exact Rn.ireturn dX8_ofReader_143 rfl rfl ⟨_, rfl, rfl, rfl⟩
    · rw [if_pos rfl]
      obtain ⟨k, hk, rfl⟩ := inB_nI (by decide) hw
      rw [nI_clamp (by omega)]
      match k, hk with
      | 0, _ =>
        refine Rn.tableIn (off := 44) 60 dX8_ofReader_16 (by decide) (by decide) (by decide) (by decide) ?_
        refine Rn.aload_n (pc1 := 61)  dX8_ofReader_60 rfl rfl rfl ?_
        refine Rn.getfield (pc1 := 64)  dX8_ofReader_61 rfl fX8_141 (by first | assumption | exact mset_same | exact mget_ne (by omega) (by assumption)) rfl ?_
        exact Rn.ireturn dX8_ofReader_64 rfl rfl ⟨_, rfl, rfl, rfl⟩
      | 1, _ =>
        refine Rn.tableIn (off := 49) 65 dX8_ofReader_16 (by decide) (by decide) (by decide) (by decide) ?_
        refine Rn.aload_n (pc1 := 66)  dX8_ofReader_65 rfl rfl rfl ?_
        refine Rn.getfield (pc1 := 69)  dX8_ofReader_66 rfl fX8_144 (by first | assumption | exact mset_same | exact mget_ne (by omega) (by assumption)) rfl ?_
        exact Rn.ireturn dX8_ofReader_69 rfl rfl ⟨_, rfl, rfl, rfl⟩
      | 2, _ =>
        refine Rn.tableIn (off := 54) 70 dX8_ofReader_16 (by decide) (by decide) (by decide) (by decide) ?_
        refine Rn.aload_n (pc1 := 71)  dX8_ofReader_70 rfl rfl rfl ?_
        refine Rn.getfield (pc1 := 74)  dX8_ofReader_71 rfl fX8_10 (by first | assumption | exact mset_same | exact mget_ne (by omega) (by assumption)) rfl ?_
        refine Rn.getfield (pc1 := 77)  dX8_ofReader_74 rfl fX8_105 (by first | assumption | exact mset_same | exact mget_ne (by omega) (by assumption)) rfl ?_
        refine Rn.aload_n (pc1 := 78)  dX8_ofReader_77 rfl rfl rfl ?_
        refine Rn.getfield (pc1 := 81)  dX8_ofReader_78 rfl fX8_141 (by first | assumption | exact mset_same | exact mget_ne (by omega) (by assumption)) rfl ?_
        refine Rn.cV_i (pc1 := 84) (eS_ahead A (I.srt (by omega))) dX8_ofReader_81 rfl qX8_147 oX0_aheadOf (by first | assumption | exact mset_same | exact mget_ne (by omega) (by assumption)) rfl rfl rfl rfl (Nat.le_of_ble_eq_true rfl) (by decide) (by decide) (fun v81 μ81 h81 => ?_)
        obtain ⟨rfl, rfl⟩ := h81
        exact Rn.ireturn dX8_ofReader_84 rfl rfl ⟨_, rfl, rfl, rfl⟩
      | 3, _ =>
        refine Rn.tableIn (off := 69) 85 dX8_ofReader_16 (by decide) (by decide) (by decide) (by decide) ?_
        refine Rn.aload_n (pc1 := 86)  dX8_ofReader_85 rfl rfl rfl ?_
        refine Rn.getfield (pc1 := 89)  dX8_ofReader_86 rfl fX8_141 (by first | assumption | exact mset_same | exact mget_ne (by omega) (by assumption)) rfl ?_
        refine Rn.aload_n (pc1 := 90)  dX8_ofReader_89 rfl rfl rfl ?_
        refine Rn.getfield (pc1 := 93)  dX8_ofReader_90 rfl fX8_10 (by first | assumption | exact mset_same | exact mget_ne (by omega) (by assumption)) rfl ?_
        refine Rn.getfield (pc1 := 96)  dX8_ofReader_93 rfl fX8_105 (by first | assumption | exact mset_same | exact mget_ne (by omega) (by assumption)) rfl ?_
        refine Rn.getfield (pc1 := 99)  dX8_ofReader_96 rfl fX8_150 (by first | assumption | exact mset_same | exact mget_ne (by omega) (by assumption)) rfl ?_
        refine Rn.cS_i (pc1 := 102) (eX8_isLate) dX8_ofReader_99 rfl qX8_153 oX8_isLate rfl rfl (Nat.le_of_ble_eq_true rfl) (by decide) (by decide) (fun v99 μ99 h99 => ?_)
        obtain ⟨rfl, rfl⟩ := h99
        refine Rn.cS_i (pc1 := 105) (eX8_oneIf) dX8_ofReader_102 rfl qX8_130 oX8_oneIf rfl rfl (Nat.le_of_ble_eq_true rfl) (by decide) (by decide) (fun v102 μ102 h102 => ?_)
        obtain ⟨rfl, rfl⟩ := h102
        exact Rn.ireturn dX8_ofReader_105 rfl rfl ⟨_, rfl, rfl, rfl⟩
      | 4, _ =>
        refine Rn.tableIn (off := 90) 106 dX8_ofReader_16 (by decide) (by decide) (by decide) (by decide) ?_
        refine Rn.aload_n (pc1 := 107)  dX8_ofReader_106 rfl rfl rfl ?_
        refine Rn.getfield (pc1 := 110)  dX8_ofReader_107 rfl fX8_156 (by first | assumption | exact mset_same | exact mget_ne (by omega) (by assumption)) rfl ?_
        exact Rn.ireturn dX8_ofReader_110 rfl rfl ⟨_, rfl, rfl, rfl⟩
      | 5, _ =>
        refine Rn.tableIn (off := 95) 111 dX8_ofReader_16 (by decide) (by decide) (by decide) (by decide) ?_
        refine Rn.aload_n (pc1 := 112)  dX8_ofReader_111 rfl rfl rfl ?_
        refine Rn.getfield (pc1 := 115)  dX8_ofReader_112 rfl fX8_100 (by first | assumption | exact mset_same | exact mget_ne (by omega) (by assumption)) rfl ?_
        refine Rn.aload_n (pc1 := 116)  dX8_ofReader_115 rfl rfl rfl ?_
        refine Rn.getfield (pc1 := 119)  dX8_ofReader_116 rfl fX8_10 (by first | assumption | exact mset_same | exact mget_ne (by omega) (by assumption)) rfl ?_
        refine Rn.getfield (pc1 := 122)  dX8_ofReader_119 rfl fX8_87 (by first | assumption | exact mset_same | exact mget_ne (by omega) (by assumption)) rfl ?_
        refine Rn.cV_i (pc1 := 125) (eX7_differingFrom R.2.1 A.2.2.2.1) dX8_ofReader_122 rfl qX8_159 oX7_differingFrom (by first | assumption | exact mset_same | exact mget_ne (by omega) (by assumption)) rfl rfl rfl rfl (Nat.le_of_ble_eq_true rfl) (by decide) (by decide) (fun v122 μ122 h122 => ?_)
        obtain ⟨rfl, rfl⟩ := h122
        exact Rn.ireturn dX8_ofReader_125 rfl rfl ⟨_, rfl, difN_congr 12 rv (fun _ _ => rfl), rfl⟩
      | 6, _ =>
        refine Rn.tableIn (off := 110) 126 dX8_ofReader_16 (by decide) (by decide) (by decide) (by decide) ?_
        refine Rn.aload_n (pc1 := 127)  dX8_ofReader_126 rfl rfl rfl ?_
        refine Rn.getfield (pc1 := 130)  dX8_ofReader_127 rfl fX8_163 (by first | assumption | exact mset_same | exact mget_ne (by omega) (by assumption)) rfl ?_
        refine Rn.aload_n (pc1 := 131)  dX8_ofReader_130 rfl rfl rfl ?_
        refine Rn.getfield (pc1 := 134)  dX8_ofReader_131 rfl fX8_10 (by first | assumption | exact mset_same | exact mget_ne (by omega) (by assumption)) rfl ?_
        refine Rn.getfield (pc1 := 137)  dX8_ofReader_134 rfl fX8_87 (by first | assumption | exact mset_same | exact mget_ne (by omega) (by assumption)) rfl ?_
        refine Rn.cV_i (pc1 := 140) (eX7_differingFrom R.2.2 A.2.2.2.1) dX8_ofReader_137 rfl qX8_159 oX7_differingFrom (by first | assumption | exact mset_same | exact mget_ne (by omega) (by assumption)) rfl rfl rfl rfl (Nat.le_of_ble_eq_true rfl) (by decide) (by decide) (fun v137 μ137 h137 => ?_)
        obtain ⟨rfl, rfl⟩ := h137
        exact Rn.ireturn dX8_ofReader_140 rfl rfl ⟨_, rfl, difN_congr 12 rw (fun _ _ => rfl), rfl⟩
theorem eX8_ofSnapshot {s w : Int32} (hB : B < 2 ^ 30) (C : CW μ x f held P Pp len u S B) : EvA G 6 kX8_ofSnapshot [.ref x, .int s, .int w] μ sz 0 0 (rI fun v μ' => v = ofSnapshotQ f (hF f) (sF f) s w ∧ μ' = μ) := by
  have hO := C.1
  obtain ⟨h, rc, sc, A, I⟩ := C.2.1
  have nO : _ = _ := A.2.1
  have hsc := A.1.2.2
  obtain ⟨r1, r2, r3, r4, fO⟩ := A.fO
  rw [I.h.1, I.h.2.2]
  refine EvA.of (L := [some (.ref x), some (.int s), some (.int w), none]) (by decide +kernel) (Nat.le_of_ble_eq_true rfl) rfl ?_
  cases hr : isRdB sc s
  · have e : ofSnapshotQ f h sc s w = -1 := if_neg (by rw [hr]; decide)
    rw [e]
    refine Rn.aload_n (pc1 := 1)  dX8_ofSnapshot_0 rfl rfl rfl ?_
    refine Rn.getfield (pc1 := 4)  dX8_ofSnapshot_1 rfl fX8_10 (by first | assumption | exact mset_same | exact mget_ne (by omega) (by assumption)) rfl ?_
    refine Rn.iload_n (pc1 := 5)  dX8_ofSnapshot_4 rfl rfl rfl ?_
    refine Rn.cV_r (pc1 := 8) (eX6_snapshotAt_n A (isRdB_f (by omega) hr)) dX8_ofSnapshot_5 rfl qX8_166 oX6_snapshotAt (by first | assumption | exact mset_same | exact mget_ne (by omega) (by assumption)) rfl rfl rfl rfl (Nat.le_of_ble_eq_true rfl) (by decide) (by decide) (fun v5 μ5 h5 => ?_)
    obtain ⟨rfl, rfl⟩ := h5
    show Rn G 6 kX8_ofSnapshot 8 _ [.null] _ _ _ _ _
    refine Rn.astore_nN (pc1 := 9)  dX8_ofSnapshot_8 rfl rfl (by decide) rfl rfl ?_
    refine Rn.aload_nN (pc1 := 10)  dX8_ofSnapshot_9 rfl rfl rfl ?_
    refine Rn.ifnonnullN (pc1 := 13) dX8_ofSnapshot_10 rfl ?_
    refine Rn.iconst (pc1 := 14) (v := (-1)) dX8_ofSnapshot_13 rfl (by decide) ?_
    exact Rn.ireturn dX8_ofSnapshot_14 rfl rfl ⟨_, rfl, rfl, rfl⟩
  · obtain ⟨i, hi, rfl⟩ := isRdB_t (by omega) hr
    obtain ⟨tb, R, st⟩ := A.sn hi
    have rO := R.1
    have vO := R.2.1
    have e0 : ofSnapshotQ f h sc (nI i) w = if inB w (nI 0) (nI 2) = true then ofSnW f h i w.toNatClampNeg else -2 := by unfold ofSnapshotQ; rw [if_pos hr, nI_clamp (by omega)]
    rw [e0]
    refine Rn.aload_n (pc1 := 1)  dX8_ofSnapshot_0 rfl rfl rfl ?_
    refine Rn.getfield (pc1 := 4)  dX8_ofSnapshot_1 rfl fX8_10 (by first | assumption | exact mset_same | exact mget_ne (by omega) (by assumption)) rfl ?_
    refine Rn.iload_n (pc1 := 5)  dX8_ofSnapshot_4 rfl rfl rfl ?_
    refine Rn.cV_r (pc1 := 8) (eX6_snapshotAt_y A rfl hi) dX8_ofSnapshot_5 rfl qX8_166 oX6_snapshotAt (by first | assumption | exact mset_same | exact mget_ne (by omega) (by assumption)) rfl rfl rfl rfl (Nat.le_of_ble_eq_true rfl) (by decide) (by decide) (fun v5 μ5 h5 => ?_)
    obtain ⟨rfl, rfl⟩ := h5
    refine Rn.astore_n (pc1 := 9) (x := x + 1 + 40 + 3 * i)  dX8_ofSnapshot_8 rfl rfl (by decide) rfl rfl ?_
    refine Rn.aload_n (pc1 := 10)  dX8_ofSnapshot_9 rfl rfl rfl ?_
    refine Rn.ifnonnull 15 dX8_ofSnapshot_10 (by decide) ?_
    refine Rn.iload_n (pc1 := 16)  dX8_ofSnapshot_15 rfl rfl rfl ?_
    cases hw : inB w (nI 0) (nI 2)
    · rw [if_neg (by decide)]
      refine Rn.tableOut 72 dX8_ofSnapshot_16 (by have := inB_f (by decide) hw; exact this) (by decide) ?_
      refine Rn.bipush (pc1 := 74) (v := (-2)) dX8_ofSnapshot_72 rfl (by decide) ?_
      exact Rn.ireturn dX8_ofSnapshot_74 rfl rfl ⟨_, rfl, rfl, rfl⟩
    · rw [if_pos rfl]
      obtain ⟨k, hk, rfl⟩ := inB_nI (by decide) hw
      rw [nI_clamp (by omega)]
      match k, hk with
      | 0, _ =>
        refine Rn.tableIn (off := 28) 44 dX8_ofSnapshot_16 (by decide) (by decide) (by decide) (by decide) ?_
        refine Rn.aload_n (pc1 := 45)  dX8_ofSnapshot_44 rfl rfl rfl ?_
        refine Rn.getfield (pc1 := 48)  dX8_ofSnapshot_45 rfl fX8_170 (by first | assumption | exact mset_same | exact mget_ne (by omega) (by assumption)) rfl ?_
        exact Rn.ireturn dX8_ofSnapshot_48 rfl rfl ⟨_, rfl, rfl, rfl⟩
      | 1, _ =>
        refine Rn.tableIn (off := 33) 49 dX8_ofSnapshot_16 (by decide) (by decide) (by decide) (by decide) ?_
        refine Rn.aload_n (pc1 := 50)  dX8_ofSnapshot_49 rfl rfl rfl ?_
        refine Rn.getfield (pc1 := 53)  dX8_ofSnapshot_50 rfl fX8_175 (by first | assumption | exact mset_same | exact mget_ne (by omega) (by assumption)) rfl ?_
        refine Rn.cV_i (pc1 := 56) (eX7_howMany R.2) dX8_ofSnapshot_53 rfl qX8_176 oX7_howMany (by first | assumption | exact mset_same | exact mget_ne (by omega) (by assumption)) rfl rfl rfl rfl (Nat.le_of_ble_eq_true rfl) (by decide) (by decide) (fun v53 μ53 h53 => ?_)
        obtain ⟨rfl, rfl⟩ := h53
        exact Rn.ireturn dX8_ofSnapshot_56 rfl rfl ⟨_, rfl, by rw [cntN_congr 12 st]; rfl, rfl⟩
      | 2, _ =>
        refine Rn.tableIn (off := 41) 57 dX8_ofSnapshot_16 (by decide) (by decide) (by decide) (by decide) ?_
        refine Rn.aload_n (pc1 := 58)  dX8_ofSnapshot_57 rfl rfl rfl ?_
        refine Rn.getfield (pc1 := 61)  dX8_ofSnapshot_58 rfl fX8_10 (by first | assumption | exact mset_same | exact mget_ne (by omega) (by assumption)) rfl ?_
        refine Rn.getfield (pc1 := 64)  dX8_ofSnapshot_61 rfl fX8_105 (by first | assumption | exact mset_same | exact mget_ne (by omega) (by assumption)) rfl ?_
        refine Rn.aload_n (pc1 := 65)  dX8_ofSnapshot_64 rfl rfl rfl ?_
        refine Rn.getfield (pc1 := 68)  dX8_ofSnapshot_65 rfl fX8_170 (by first | assumption | exact mset_same | exact mget_ne (by omega) (by assumption)) rfl ?_
        refine Rn.cV_i (pc1 := 71) (eS_ahead A (I.srt (by omega))) dX8_ofSnapshot_68 rfl qX8_147 oX0_aheadOf (by first | assumption | exact mset_same | exact mget_ne (by omega) (by assumption)) rfl rfl rfl rfl (Nat.le_of_ble_eq_true rfl) (by decide) (by decide) (fun v68 μ68 h68 => ?_)
        obtain ⟨rfl, rfl⟩ := h68
        exact Rn.ireturn dX8_ofSnapshot_71 rfl rfl ⟨_, rfl, rfl, rfl⟩
theorem eX8_count {w : Int32} (C : CW μ x f held P Pp len u S B) : EvA G 6 kX8_count [.ref x, .int w] μ sz 0 0 (rI fun v μ' => v = countQ f len held w ∧ μ' = μ) := by
  have hO := C.1
  obtain ⟨h, rc, sc, A, I⟩ := C.2.1
  have nO : _ = _ := A.2.1
  obtain ⟨r1, r2, r3, r4, fO⟩ := A.fO
  have tO := A.2.2.2.1.1
  obtain ⟨s0, c3, c4⟩ := C.2.2.1
  have yO := c3.1
  obtain ⟨po, pl, lt, fi, se, p⟩ := C.2.2.2.1
  have pO := p.1
  refine EvA.of (L := [some (.ref x), some (.int w)]) (by decide +kernel) (Nat.le_of_ble_eq_true rfl) rfl ?_
  refine Rn.iload_n (pc1 := 1)  dX8_count_0 rfl rfl rfl ?_
  cases hw : inB w (nI 0) (nI 12)
  · have e : countQ f len held w = -2 := if_neg (by rw [hw]; decide)
    rw [e]
    refine Rn.tableOut 197 dX8_count_1 (by have := inB_f (by decide) hw; exact this) (by decide) ?_
    refine Rn.bipush (pc1 := 199) (v := (-2)) dX8_count_197 rfl (by decide) ?_
    exact Rn.ireturn dX8_count_199 rfl rfl ⟨_, rfl, rfl, rfl⟩
  · have e : countQ f len held w = countW f len held w.toNatClampNeg := if_pos hw
    rw [e]
    obtain ⟨k, hk, rfl⟩ := inB_nI (by decide) hw
    rw [nI_clamp (by omega)]
    match k, hk with
    | 0, _ =>
      refine Rn.tableIn (off := 67) 68 dX8_count_1 (by decide) (by decide) (by decide) (by decide) ?_
      refine Rn.aload_n (pc1 := 69)  dX8_count_68 rfl rfl rfl ?_
      refine Rn.getfield (pc1 := 72)  dX8_count_69 rfl fX8_10 (by first | assumption | exact mset_same | exact mget_ne (by omega) (by assumption)) rfl ?_
      refine Rn.getfield (pc1 := 75)  dX8_count_72 rfl fX8_105 (by first | assumption | exact mset_same | exact mget_ne (by omega) (by assumption)) rfl ?_
      refine Rn.getfield (pc1 := 78)  dX8_count_75 rfl fX8_109 (by first | assumption | exact mset_same | exact mget_ne (by omega) (by assumption)) rfl ?_
      exact Rn.ireturn dX8_count_78 rfl rfl ⟨_, rfl, I.1.1.symm, rfl⟩
    | 1, _ =>
      refine Rn.tableIn (off := 78) 79 dX8_count_1 (by decide) (by decide) (by decide) (by decide) ?_
      refine Rn.aload_n (pc1 := 80)  dX8_count_79 rfl rfl rfl ?_
      refine Rn.getfield (pc1 := 83)  dX8_count_80 rfl fX8_10 (by first | assumption | exact mset_same | exact mget_ne (by omega) (by assumption)) rfl ?_
      refine Rn.getfield (pc1 := 86)  dX8_count_83 rfl fX8_105 (by first | assumption | exact mset_same | exact mget_ne (by omega) (by assumption)) rfl ?_
      refine Rn.getfield (pc1 := 89)  dX8_count_86 rfl fX8_179 (by first | assumption | exact mset_same | exact mget_ne (by omega) (by assumption)) rfl ?_
      exact Rn.ireturn dX8_count_89 rfl rfl ⟨_, rfl, rfl, rfl⟩
    | 2, _ =>
      refine Rn.tableIn (off := 89) 90 dX8_count_1 (by decide) (by decide) (by decide) (by decide) ?_
      refine Rn.aload_n (pc1 := 91)  dX8_count_90 rfl rfl rfl ?_
      refine Rn.getfield (pc1 := 94)  dX8_count_91 rfl fX8_10 (by first | assumption | exact mset_same | exact mget_ne (by omega) (by assumption)) rfl ?_
      refine Rn.getfield (pc1 := 97)  dX8_count_94 rfl fX8_87 (by first | assumption | exact mset_same | exact mget_ne (by omega) (by assumption)) rfl ?_
      refine Rn.cV_i (pc1 := 100) (eX7_howMany A.2.2.2.1) dX8_count_97 rfl qX8_176 oX7_howMany (by first | assumption | exact mset_same | exact mget_ne (by omega) (by assumption)) rfl rfl rfl rfl (Nat.le_of_ble_eq_true rfl) (by decide) (by decide) (fun v97 μ97 h97 => ?_)
      obtain ⟨rfl, rfl⟩ := h97
      exact Rn.ireturn dX8_count_100 rfl rfl ⟨_, rfl, rfl, rfl⟩
    | 3, _ =>
      refine Rn.tableIn (off := 100) 101 dX8_count_1 (by decide) (by decide) (by decide) (by decide) ?_
      refine Rn.aload_n (pc1 := 102)  dX8_count_101 rfl rfl rfl ?_
      refine Rn.getfield (pc1 := 105)  dX8_count_102 rfl fX8_10 (by first | assumption | exact mset_same | exact mget_ne (by omega) (by assumption)) rfl ?_
      refine Rn.getfield (pc1 := 108)  dX8_count_105 rfl fX8_182 (by first | assumption | exact mset_same | exact mget_ne (by omega) (by assumption)) rfl ?_
      exact Rn.ireturn dX8_count_108 rfl rfl ⟨_, rfl, rfl, rfl⟩
    | 4, _ =>
      refine Rn.tableIn (off := 108) 109 dX8_count_1 (by decide) (by decide) (by decide) (by decide) ?_
      refine Rn.aload_n (pc1 := 110)  dX8_count_109 rfl rfl rfl ?_
      refine Rn.getfield (pc1 := 113)  dX8_count_110 rfl fX8_10 (by first | assumption | exact mset_same | exact mget_ne (by omega) (by assumption)) rfl ?_
      refine Rn.getfield (pc1 := 116)  dX8_count_113 rfl fX8_105 (by first | assumption | exact mset_same | exact mget_ne (by omega) (by assumption)) rfl ?_
      refine Rn.getfield (pc1 := 119)  dX8_count_116 rfl fX8_150 (by first | assumption | exact mset_same | exact mget_ne (by omega) (by assumption)) rfl ?_
      exact Rn.ireturn dX8_count_119 rfl rfl ⟨_, rfl, rfl, rfl⟩
    | 5, _ =>
      refine Rn.tableIn (off := 119) 120 dX8_count_1 (by decide) (by decide) (by decide) (by decide) ?_
      refine Rn.aload_n (pc1 := 121)  dX8_count_120 rfl rfl rfl ?_
      refine Rn.getfield (pc1 := 124)  dX8_count_121 rfl fX8_10 (by first | assumption | exact mset_same | exact mget_ne (by omega) (by assumption)) rfl ?_
      refine Rn.getfield (pc1 := 127)  dX8_count_124 rfl fX8_105 (by first | assumption | exact mset_same | exact mget_ne (by omega) (by assumption)) rfl ?_
      refine Rn.getfield (pc1 := 130)  dX8_count_127 rfl fX8_185 (by first | assumption | exact mset_same | exact mget_ne (by omega) (by assumption)) rfl ?_
      exact Rn.ireturn dX8_count_130 rfl rfl ⟨_, rfl, rfl, rfl⟩
    | 6, _ =>
      refine Rn.tableIn (off := 130) 131 dX8_count_1 (by decide) (by decide) (by decide) (by decide) ?_
      refine Rn.aload_n (pc1 := 132)  dX8_count_131 rfl rfl rfl ?_
      refine Rn.getfield (pc1 := 135)  dX8_count_132 rfl fX8_10 (by first | assumption | exact mset_same | exact mget_ne (by omega) (by assumption)) rfl ?_
      refine Rn.getfield (pc1 := 138)  dX8_count_135 rfl fX8_188 (by first | assumption | exact mset_same | exact mget_ne (by omega) (by assumption)) rfl ?_
      exact Rn.ireturn dX8_count_138 rfl rfl ⟨_, rfl, I.1.2.1.symm, rfl⟩
    | 7, _ =>
      refine Rn.tableIn (off := 138) 139 dX8_count_1 (by decide) (by decide) (by decide) (by decide) ?_
      refine Rn.aload_n (pc1 := 140)  dX8_count_139 rfl rfl rfl ?_
      refine Rn.getfield (pc1 := 143)  dX8_count_140 rfl fX8_10 (by first | assumption | exact mset_same | exact mget_ne (by omega) (by assumption)) rfl ?_
      refine Rn.aload_n (pc1 := 144)  dX8_count_143 rfl rfl rfl ?_
      refine Rn.getfield (pc1 := 147)  dX8_count_144 rfl fX8_10 (by first | assumption | exact mset_same | exact mget_ne (by omega) (by assumption)) rfl ?_
      refine Rn.getfield (pc1 := 150)  dX8_count_147 rfl fX8_105 (by first | assumption | exact mset_same | exact mget_ne (by omega) (by assumption)) rfl ?_
      refine Rn.getfield (pc1 := 153)  dX8_count_150 rfl fX8_150 (by first | assumption | exact mset_same | exact mget_ne (by omega) (by assumption)) rfl ?_
      refine Rn.cV_i (pc1 := 156) (eX6_lateBelow A) dX8_count_153 rfl qX8_191 oX6_lateBelow (by first | assumption | exact mset_same | exact mget_ne (by omega) (by assumption)) rfl rfl rfl rfl (Nat.le_of_ble_eq_true rfl) (by decide) (by decide) (fun v153 μ153 h153 => ?_)
      obtain ⟨rfl, rfl⟩ := h153
      exact Rn.ireturn dX8_count_156 rfl rfl ⟨_, rfl, by show _ = lateN f (f 4) (rF f); rw [I.h.2.1], rfl⟩
    | 8, _ =>
      refine Rn.tableIn (off := 156) 157 dX8_count_1 (by decide) (by decide) (by decide) (by decide) ?_
      refine Rn.aload_n (pc1 := 158)  dX8_count_157 rfl rfl rfl ?_
      refine Rn.getfield (pc1 := 161)  dX8_count_158 rfl fX8_10 (by first | assumption | exact mset_same | exact mget_ne (by omega) (by assumption)) rfl ?_
      refine Rn.getfield (pc1 := 164)  dX8_count_161 rfl fX8_194 (by first | assumption | exact mset_same | exact mget_ne (by omega) (by assumption)) rfl ?_
      exact Rn.ireturn dX8_count_164 rfl rfl ⟨_, rfl, I.1.2.2.symm, rfl⟩
    | 9, _ =>
      refine Rn.tableIn (off := 164) 165 dX8_count_1 (by decide) (by decide) (by decide) (by decide) ?_
      refine Rn.aload_n (pc1 := 166)  dX8_count_165 rfl rfl rfl ?_
      refine Rn.getfield (pc1 := 169)  dX8_count_166 rfl fX8_10 (by first | assumption | exact mset_same | exact mget_ne (by omega) (by assumption)) rfl ?_
      refine Rn.getfield (pc1 := 172)  dX8_count_169 rfl fX8_134 (by first | assumption | exact mset_same | exact mget_ne (by omega) (by assumption)) rfl ?_
      exact Rn.ireturn dX8_count_172 rfl rfl ⟨_, rfl, rfl, rfl⟩
    | 10, _ =>
      refine Rn.tableIn (off := 172) 173 dX8_count_1 (by decide) (by decide) (by decide) (by decide) ?_
      refine Rn.aload_n (pc1 := 174)  dX8_count_173 rfl rfl rfl ?_
      refine Rn.getfield (pc1 := 177)  dX8_count_174 rfl fX8_10 (by first | assumption | exact mset_same | exact mget_ne (by omega) (by assumption)) rfl ?_
      refine Rn.getfield (pc1 := 180)  dX8_count_177 rfl fX8_197 (by first | assumption | exact mset_same | exact mget_ne (by omega) (by assumption)) rfl ?_
      exact Rn.ireturn dX8_count_180 rfl rfl ⟨_, rfl, rfl, rfl⟩
    | 11, _ =>
      refine Rn.tableIn (off := 180) 181 dX8_count_1 (by decide) (by decide) (by decide) (by decide) ?_
      refine Rn.aload_n (pc1 := 182)  dX8_count_181 rfl rfl rfl ?_
      refine Rn.getfield (pc1 := 185)  dX8_count_182 rfl fX8_26 (by first | assumption | exact mset_same | exact mget_ne (by omega) (by assumption)) rfl ?_
      refine Rn.getfield (pc1 := 188)  dX8_count_185 rfl fX8_200 (by first | assumption | exact mset_same | exact mget_ne (by omega) (by assumption)) rfl ?_
      exact Rn.ireturn dX8_count_188 rfl rfl ⟨_, rfl, rfl, rfl⟩
    | 12, _ =>
      refine Rn.tableIn (off := 188) 189 dX8_count_1 (by decide) (by decide) (by decide) (by decide) ?_
      refine Rn.aload_n (pc1 := 190)  dX8_count_189 rfl rfl rfl ?_
      refine Rn.getfield (pc1 := 193)  dX8_count_190 rfl fX8_19 (by first | assumption | exact mset_same | exact mget_ne (by omega) (by assumption)) rfl ?_
      refine Rn.getfield (pc1 := 196)  dX8_count_193 rfl fX8_203 (by first | assumption | exact mset_same | exact mget_ne (by omega) (by assumption)) rfl ?_
      exact Rn.ireturn dX8_count_196 rfl rfl ⟨_, rfl, rfl, rfl⟩
theorem eX8_shortest {r w : Int32} (hB : B < 2 ^ 30) (C : CW μ x f held P Pp len u S B) : EvA G 6 kX8_shortest [.ref x, .int r, .int w] μ sz 0 0 (rI fun v μ' => v = shortestQ f (hF f) (rF f) (sF f) r w ∧ μ' = μ) := by
  have hO := C.1
  obtain ⟨h, rc, sc, A, I⟩ := C.2.1
  have nO : _ = _ := A.2.1
  have hrc := A.1.2.1
  have hs := I.srt (by omega)
  rw [I.h.1, I.h.2.1, I.h.2.2]
  refine EvA.of (L := [some (.ref x), some (.int r), some (.int w), none, none]) (by decide +kernel) (Nat.le_of_ble_eq_true rfl) rfl ?_
  cases hr : isRdB rc r
  · have e : shortestQ f h rc sc r w = -1 := if_neg (by rw [hr]; decide)
    rw [e]
    refine Rn.aload_n (pc1 := 1)  dX8_shortest_0 rfl rfl rfl ?_
    refine Rn.getfield (pc1 := 4)  dX8_shortest_1 rfl fX8_10 (by first | assumption | exact mset_same | exact mget_ne (by omega) (by assumption)) rfl ?_
    refine Rn.iload_n (pc1 := 5)  dX8_shortest_4 rfl rfl rfl ?_
    refine Rn.cV_r (pc1 := 8) (eX6_readerAt_n A (isRdB_f (by omega) hr)) dX8_shortest_5 rfl qX8_96 oX6_readerAt (by first | assumption | exact mset_same | exact mget_ne (by omega) (by assumption)) rfl rfl rfl rfl (Nat.le_of_ble_eq_true rfl) (by decide) (by decide) (fun v5 μ5 h5 => ?_)
    obtain ⟨rfl, rfl⟩ := h5
    show Rn G 6 kX8_shortest 8 _ [.null] _ _ _ _ _
    refine Rn.astore_nN (pc1 := 9)  dX8_shortest_8 rfl rfl (by decide) rfl rfl ?_
    refine Rn.aload_nN (pc1 := 10)  dX8_shortest_9 rfl rfl rfl ?_
    refine Rn.ifnonnullN (pc1 := 13) dX8_shortest_10 rfl ?_
    refine Rn.iconst (pc1 := 14) (v := (-1)) dX8_shortest_13 rfl (by decide) ?_
    exact Rn.ireturn dX8_shortest_14 rfl rfl ⟨_, rfl, rfl, rfl⟩
  · obtain ⟨i, hi, rfl⟩ := isRdB_t (by omega) hr
    have e0 : shortestQ f h rc sc (nI i) w = if inB w (nI 0) (nI 1) = true then (if w = nI 0 then nI (shN f h sc i 5).1 else (shN f h sc i 5).2) else -2 := by unfold shortestQ; rw [if_pos hr, nI_clamp (by omega)]
    rw [e0]
    obtain ⟨k1, k2⟩ := shN_ok f h sc i 5
    refine Rn.aload_n (pc1 := 1)  dX8_shortest_0 rfl rfl rfl ?_
    refine Rn.getfield (pc1 := 4)  dX8_shortest_1 rfl fX8_10 (by first | assumption | exact mset_same | exact mget_ne (by omega) (by assumption)) rfl ?_
    refine Rn.iload_n (pc1 := 5)  dX8_shortest_4 rfl rfl rfl ?_
    refine Rn.cV_r (pc1 := 8) (eX6_readerAt_y A rfl hi) dX8_shortest_5 rfl qX8_96 oX6_readerAt (by first | assumption | exact mset_same | exact mget_ne (by omega) (by assumption)) rfl rfl rfl rfl (Nat.le_of_ble_eq_true rfl) (by decide) (by decide) (fun v5 μ5 h5 => ?_)
    obtain ⟨rfl, rfl⟩ := h5
    refine Rn.astore_n (pc1 := 9) (x := x + 1 + 10 + 5 * i)  dX8_shortest_8 rfl rfl (by decide) rfl rfl ?_
    refine Rn.aload_n (pc1 := 10)  dX8_shortest_9 rfl rfl rfl ?_
    refine Rn.ifnonnull 15 dX8_shortest_10 (by decide) ?_
    refine Rn.iload_n (pc1 := 16)  dX8_shortest_15 rfl rfl rfl ?_
    refine Rn.if_lt (pc1 := 19) 24 dX8_shortest_16 rfl (by decide) (fun c16 => ?_) (fun c16 => ?_)
    · rw [inB_lo c16, if_neg (by decide)]
      refine Rn.bipush (pc1 := 26) (v := (-2)) dX8_shortest_24 rfl (by decide) ?_
      exact Rn.ireturn dX8_shortest_26 rfl rfl ⟨_, rfl, rfl, rfl⟩
    · refine Rn.iload_n (pc1 := 20)  dX8_shortest_19 rfl rfl rfl ?_
      refine Rn.iconst (pc1 := 21) (v := nI 1) dX8_shortest_20 rfl (by decide) ?_
      refine Rn.icmp_le (pc1 := 24) 27 dX8_shortest_21 rfl (by decide) (fun c21 => ?_) (fun c21 => ?_)
      · rw [inB_t c16 (i32_nlt.mpr c21), if_pos rfl]
        refine Rn.aload_n (pc1 := 28)  dX8_shortest_27 rfl rfl rfl ?_
        refine Rn.getfield (pc1 := 31)  dX8_shortest_28 rfl fX8_10 (by first | assumption | exact mset_same | exact mget_ne (by omega) (by assumption)) rfl ?_
        refine Rn.aload_n (pc1 := 32)  dX8_shortest_31 rfl rfl rfl ?_
        refine Rn.cV_i (pc1 := 35) (eX6_shortestWay A hs hi) dX8_shortest_32 rfl qX8_214 oX6_shortestWay (by first | assumption | exact mset_same | exact mget_ne (by omega) (by assumption)) rfl rfl rfl rfl (Nat.le_of_ble_eq_true rfl) (by decide) (by decide) (fun v32 μ32 h32 => ?_)
        obtain ⟨rfl, rfl⟩ := h32
        refine Rn.istore (pc1 := 37)  dX8_shortest_35 rfl (by decide) rfl rfl ?_
        refine Rn.iload_n (pc1 := 38)  dX8_shortest_37 rfl rfl rfl ?_
        refine Rn.if_ne (pc1 := 41) 46 dX8_shortest_38 rfl (by decide) (fun c38 => ?_) (fun c38 => ?_)
        · rw [if_neg c38]
          refine Rn.aload_n (pc1 := 47)  dX8_shortest_46 rfl rfl rfl ?_
          refine Rn.getfield (pc1 := 50)  dX8_shortest_47 rfl fX8_10 (by first | assumption | exact mset_same | exact mget_ne (by omega) (by assumption)) rfl ?_
          refine Rn.aload_n (pc1 := 51)  dX8_shortest_50 rfl rfl rfl ?_
          refine Rn.iload (pc1 := 53)  dX8_shortest_51 rfl rfl ?_
          refine Rn.cV_i (pc1 := 56) (eX6_entriesOnWay A hs hi k2) dX8_shortest_53 rfl qX8_218 oX6_entriesOnWay (by first | assumption | exact mset_same | exact mget_ne (by omega) (by assumption)) rfl rfl rfl rfl (Nat.le_of_ble_eq_true rfl) (by decide) (by decide) (fun v53 μ53 h53 => ?_)
          obtain ⟨rfl, rfl⟩ := h53
          rw [k1]
          exact Rn.ireturn dX8_shortest_56 rfl rfl ⟨_, rfl, rfl, rfl⟩
        · rw [if_pos c38]
          refine Rn.iload (pc1 := 43)  dX8_shortest_41 rfl rfl ?_
          refine Rn.goto 56 dX8_shortest_43 (by decide) ?_
          exact Rn.ireturn dX8_shortest_56 rfl rfl ⟨_, rfl, rfl, rfl⟩
      · rw [inB_hi (i32_nle.mp c21), if_neg (by decide)]
        refine Rn.bipush (pc1 := 26) (v := (-2)) dX8_shortest_24 rfl (by decide) ?_
        exact Rn.ireturn dX8_shortest_26 rfl rfl ⟨_, rfl, rfl, rfl⟩
end CQ
end
section
/-! ===== what is made ===== -/
-- LOOK2
theorem VA.ne {μ : Mm} {b q : Nat} {f : Nat → Int32} {c : Cl} (h : VA μ b f) (hq : q < b ∨ b + 2 ≤ q) : VA (mset μ q c) b f := h.fr (Fr.set (a := q) (b := q + 1) (Nat.le_refl _) (Nat.lt_succ_self _)) (by omega)
theorem RA.ne {μ : Mm} {b q : Nat} {pl cp rs : Int32} {vw cv : Nat → Int32} {c : Cl} (h : RA μ b pl cp rs vw cv) (hq : q < b ∨ b + 5 ≤ q) : RA (mset μ q c) b pl cp rs vw cv := h.fr (Fr.set (a := q) (b := q + 1) (Nat.le_refl _) (Nat.lt_succ_self _)) (by omega)
section CTOR
variable {G : GG} {μ : Mm} {a : Nat}
theorem eX7_init (hO : μ a = some (obj 7 [.null])) : EvA G 2 kX7_init [.ref a] μ (a + 1) 1 12 (rV fun μ' => VA μ' a (fun _ => -6) ∧ Fr a (a + 2) μ μ') := by
  refine EvA.of (L := [some (.ref a)]) (by decide +kernel) (Nat.le_of_ble_eq_true rfl) rfl ?_
  refine Rn.aload_n (pc1 := 1)  dX7_init_0 rfl rfl rfl ?_
  refine Rn.objInit (pc1 := 4) dX7_init_1 rfl qX7_3 (Nat.le_of_ble_eq_true rfl) (by decide) ?_
  refine Rn.aload_n (pc1 := 5)  dX7_init_4 rfl rfl rfl ?_
  refine Rn.bipush (pc1 := 7) (v := nI 12) dX7_init_5 rfl (by decide) ?_
  refine Rn.newints (pc1 := 9) (n := 12) (mc := 0) (ms := 0)  dX7_init_7 rfl qac_int (by decide) (by decide) (by decide) ?_
  refine Rn.putfield (pc1 := 12)  dX7_init_9 rfl pX7_9 (fun _ => rfl) (by first | assumption | exact mset_same | exact mget_ne (by omega) (by assumption) | exact mget_ne (by omega) mset_same) (Nat.le_of_ble_eq_true rfl) rfl rfl rfl ?_
  refine Rn.aload_n (pc1 := 13)  dX7_init_12 rfl rfl rfl ?_
  refine Rn.cV_v (pc1 := 16) (eX7_clear (a := a) ⟨mset_same, fun _ => 0, mget_ne (by omega) mset_same, fun _ _ => rfl⟩) dX7_init_13 rfl qX7_15 oX7_clear (by first | assumption | exact mset_same | exact mget_ne (by omega) (by assumption) | exact mget_ne (by omega) mset_same) rfl rfl rfl rfl (Nat.le_of_ble_eq_true rfl) (by decide) (by decide) (fun μ13 h13 => ?_)
  obtain ⟨V, z⟩ := h13
  exact Rn.vreturn dX7_init_16 rfl ⟨rfl, V, ((Fr.set (by omega) (by omega)).set_ (by omega) (by omega)).trans z⟩
theorem eX0_init (hO : μ a = some (obj 0 [.null, .null, .null, .null, .int 0, .int 0, .int 0, .int 0])) : EvA G 1 kX0_init [.ref a] μ (a + 1) 4 240 (rV fun μ' => FB μ' a 0 (nI 0) (nI 0) (nI 0) (fun _ => 0) (fun _ => 0) (fun _ => 0) (fun _ => 0) ∧ Fr a (a + 5) μ μ') := by
  refine EvA.of (L := [some (.ref a)]) (by decide +kernel) (Nat.le_of_ble_eq_true rfl) rfl ?_
  refine Rn.aload_n (pc1 := 1)  dX0_init_0 rfl rfl rfl ?_
  refine Rn.objInit (pc1 := 4) dX0_init_1 rfl qX0_3 (Nat.le_of_ble_eq_true rfl) (by decide) ?_
  refine Rn.aload_n (pc1 := 5)  dX0_init_4 rfl rfl rfl ?_
  refine Rn.bipush (pc1 := 7) (v := nI 60) dX0_init_5 rfl (by decide) ?_
  refine Rn.newints (pc1 := 9) (n := 60) (mc := 3) (ms := 180)  dX0_init_7 rfl qac_int (by decide) (by decide) (by decide) ?_
  refine Rn.putfield (pc1 := 12)  dX0_init_9 rfl pX0_9 (fun _ => rfl) (by first | assumption | exact mset_same | exact mget_ne (by omega) (by assumption) | exact mget_ne (by omega) mset_same) (Nat.le_of_ble_eq_true rfl) rfl rfl rfl ?_
  refine Rn.aload_n (pc1 := 13)  dX0_init_12 rfl rfl rfl ?_
  refine Rn.bipush (pc1 := 15) (v := nI 60) dX0_init_13 rfl (by decide) ?_
  refine Rn.newints (pc1 := 17) (n := 60) (mc := 2) (ms := 120)  dX0_init_15 rfl qac_int (by decide) (by decide) (by decide) ?_
  refine Rn.putfield (pc1 := 20)  dX0_init_17 rfl pX0_15 (fun _ => rfl) (by first | assumption | exact mset_same | exact mget_ne (by omega) (by assumption) | exact mget_ne (by omega) mset_same) (Nat.le_of_ble_eq_true rfl) rfl rfl rfl ?_
  refine Rn.aload_n (pc1 := 21)  dX0_init_20 rfl rfl rfl ?_
  refine Rn.bipush (pc1 := 23) (v := nI 60) dX0_init_21 rfl (by decide) ?_
  refine Rn.newints (pc1 := 25) (n := 60) (mc := 1) (ms := 60)  dX0_init_23 rfl qac_int (by decide) (by decide) (by decide) ?_
  refine Rn.putfield (pc1 := 28)  dX0_init_25 rfl pX0_18 (fun _ => rfl) (by first | assumption | exact mset_same | exact mget_ne (by omega) (by assumption) | exact mget_ne (by omega) mset_same) (Nat.le_of_ble_eq_true rfl) rfl rfl rfl ?_
  refine Rn.aload_n (pc1 := 29)  dX0_init_28 rfl rfl rfl ?_
  refine Rn.bipush (pc1 := 31) (v := nI 60) dX0_init_29 rfl (by decide) ?_
  refine Rn.newints (pc1 := 33) (n := 60) (mc := 0) (ms := 0)  dX0_init_31 rfl qac_int (by decide) (by decide) (by decide) ?_
  refine Rn.putfield (pc1 := 36)  dX0_init_33 rfl pX0_21 (fun _ => rfl) (by first | assumption | exact mset_same | exact mget_ne (by omega) (by assumption) | exact mget_ne (by omega) mset_same) (Nat.le_of_ble_eq_true rfl) rfl rfl rfl ?_
  refine Rn.aload_n (pc1 := 37)  dX0_init_36 rfl rfl rfl ?_
  refine Rn.iconst (pc1 := 38) (v := nI 0) dX0_init_37 rfl (by decide) ?_
  refine Rn.putfield (pc1 := 41)  dX0_init_38 rfl pX0_24 (fun h => Bool.noConfusion h) (by first | assumption | exact mset_same | exact mget_ne (by omega) (by assumption) | exact mget_ne (by omega) mset_same) (Nat.le_of_ble_eq_true rfl) rfl rfl rfl ?_
  refine Rn.aload_n (pc1 := 42)  dX0_init_41 rfl rfl rfl ?_
  refine Rn.iconst (pc1 := 43) (v := nI 0) dX0_init_42 rfl (by decide) ?_
  refine Rn.putfield (pc1 := 46)  dX0_init_43 rfl pX0_28 (fun h => Bool.noConfusion h) (by first | assumption | exact mset_same | exact mget_ne (by omega) (by assumption) | exact mget_ne (by omega) mset_same) (Nat.le_of_ble_eq_true rfl) rfl rfl rfl ?_
  refine Rn.aload_n (pc1 := 47)  dX0_init_46 rfl rfl rfl ?_
  refine Rn.iconst (pc1 := 48) (v := nI 0) dX0_init_47 rfl (by decide) ?_
  refine Rn.putfield (pc1 := 51)  dX0_init_48 rfl pX0_31 (fun h => Bool.noConfusion h) (by first | assumption | exact mset_same | exact mget_ne (by omega) (by assumption) | exact mget_ne (by omega) mset_same) (Nat.le_of_ble_eq_true rfl) rfl rfl rfl ?_
  refine Rn.aload_n (pc1 := 52)  dX0_init_51 rfl rfl rfl ?_
  refine Rn.iconst (pc1 := 53) (v := nI 0) dX0_init_52 rfl (by decide) ?_
  refine Rn.putfield (pc1 := 56)  dX0_init_53 rfl pX0_34 (fun h => Bool.noConfusion h) (by first | assumption | exact mset_same | exact mget_ne (by omega) (by assumption) | exact mget_ne (by omega) mset_same) (Nat.le_of_ble_eq_true rfl) rfl rfl rfl ?_
  exact Rn.vreturn dX0_init_56 rfl ⟨rfl, ⟨mset_same, by simp (disch := omega) only [mset_ne, mset_same], by simp (disch := omega) only [mset_ne, mset_same], by simp (disch := omega) only [mset_ne, mset_same], by simp (disch := omega) only [mset_ne, mset_same]⟩, fun q hq => by simp (disch := omega) only [mset_ne]⟩
theorem eX3_init (hO : μ a = some (obj 3 [.int 0, .int 0, .int 0, .null, .null])) : EvA G 3 kX3_init [.ref a] μ (a + 1) 4 26 (rV fun μ' => RA μ' a (nI 0) (nI 0) (nI 0) (fun _ => -6) (fun _ => -6) ∧ Fr a (a + 5) μ μ') := by
  refine EvA.of (L := [some (.ref a)]) (by decide +kernel) (Nat.le_of_ble_eq_true rfl) rfl ?_
  refine Rn.aload_n (pc1 := 1)  dX3_init_0 rfl rfl rfl ?_
  refine Rn.objInit (pc1 := 4) dX3_init_1 rfl qX3_1 (Nat.le_of_ble_eq_true rfl) (by decide) ?_
  refine Rn.aload_n (pc1 := 5)  dX3_init_4 rfl rfl rfl ?_
  refine Rn.iconst (pc1 := 6) (v := nI 0) dX3_init_5 rfl (by decide) ?_
  refine Rn.putfield (pc1 := 9)  dX3_init_6 rfl pX3_7 (fun h => Bool.noConfusion h) (by first | assumption | exact mset_same | exact mget_ne (by omega) (by assumption) | exact mget_ne (by omega) mset_same) (Nat.le_of_ble_eq_true rfl) rfl rfl rfl ?_
  refine Rn.aload_n (pc1 := 10)  dX3_init_9 rfl rfl rfl ?_
  refine Rn.iconst (pc1 := 11) (v := nI 0) dX3_init_10 rfl (by decide) ?_
  refine Rn.putfield (pc1 := 14)  dX3_init_11 rfl pX3_13 (fun h => Bool.noConfusion h) (by first | assumption | exact mset_same | exact mget_ne (by omega) (by assumption) | exact mget_ne (by omega) mset_same) (Nat.le_of_ble_eq_true rfl) rfl rfl rfl ?_
  refine Rn.aload_n (pc1 := 15)  dX3_init_14 rfl rfl rfl ?_
  refine Rn.iconst (pc1 := 16) (v := nI 0) dX3_init_15 rfl (by decide) ?_
  refine Rn.putfield (pc1 := 19)  dX3_init_16 rfl pX3_16 (fun h => Bool.noConfusion h) (by first | assumption | exact mset_same | exact mget_ne (by omega) (by assumption) | exact mget_ne (by omega) mset_same) (Nat.le_of_ble_eq_true rfl) rfl rfl rfl ?_
  refine Rn.aload_n (pc1 := 20)  dX3_init_19 rfl rfl rfl ?_
  refine Rn.newobj (pc1 := 23) (fs := [.null]) (mc := 3) (ms := 25) (ci := 7) (N0 := 1) tyX7 dX3_init_20 rfl qX3_19 qins_X7 qini_X7 rfl inX7 tyX7_ok (by decide) ?_
  refine Rn.dup (pc1 := 24)  dX3_init_23 rfl rfl ?_
  refine Rn.cI (pc1 := 27) (mc := 2) (ms := 13) (host := "") (eX7_init (a := a + 1) mset_same) dX3_init_24 rfl qX3_21 rfl oX7_init rfl rfl (Nat.le_of_ble_eq_true rfl) (by decide) (by decide) rfl rfl (fun μ24 h24 => ?_)
  obtain ⟨V1, z1⟩ := h24
  have hO1 := (z1 a (by omega)).trans (mget_ne (by omega) mset_same)
  refine Rn.putfield (pc1 := 30)  dX3_init_27 rfl pX3_22 (fun _ => rfl) (by first | assumption | exact mset_same | exact mget_ne (by omega) (by assumption) | exact mget_ne (by omega) mset_same) (Nat.le_of_ble_eq_true rfl) rfl rfl rfl ?_
  refine Rn.aload_n (pc1 := 31)  dX3_init_30 rfl rfl rfl ?_
  refine Rn.newobj (pc1 := 34) (fs := [.null]) (mc := 1) (ms := 12) (ci := 7) (N0 := 1) tyX7 dX3_init_31 rfl qX3_19 qins_X7 qini_X7 rfl inX7 tyX7_ok (by decide) ?_
  refine Rn.dup (pc1 := 35)  dX3_init_34 rfl rfl ?_
  refine Rn.cI (pc1 := 38) (mc := 0) (ms := 0) (host := "") (eX7_init (a := a + 3) mset_same) dX3_init_35 rfl qX3_21 rfl oX7_init rfl rfl (Nat.le_of_ble_eq_true rfl) (by decide) (by decide) rfl rfl (fun μ35 h35 => ?_)
  obtain ⟨V2, z2⟩ := h35
  have hO2 := (z2 a (by omega)).trans ((mset_ne (by omega)).trans mset_same)
  refine Rn.putfield (pc1 := 41)  dX3_init_38 rfl pX3_26 (fun _ => rfl) (by first | assumption | exact mset_same | exact mget_ne (by omega) (by assumption) | exact mget_ne (by omega) mset_same) (Nat.le_of_ble_eq_true rfl) rfl rfl rfl ?_
  exact Rn.vreturn dX3_init_41 rfl ⟨rfl, ⟨mset_same, (((V1.ne (by omega)).ne (by omega)).fr z2 (by omega)).ne (by omega), V2.ne (by omega)⟩, fun q hq => (mset_ne (by omega)).trans ((z2 q (by omega)).trans ((mset_ne (by omega)).trans ((mset_ne (by omega)).trans ((z1 q (by omega)).trans (by simp (disch := omega) only [mset_ne])))))⟩
theorem eX5_init (hO : μ a = some (obj 5 [.int 0, .null])) : EvA G 3 kX5_init [.ref a] μ (a + 1) 2 13 (rV fun μ' => SN μ' a (nI 0) (fun _ => -6) ∧ Fr a (a + 3) μ μ') := by
  refine EvA.of (L := [some (.ref a)]) (by decide +kernel) (Nat.le_of_ble_eq_true rfl) rfl ?_
  refine Rn.aload_n (pc1 := 1)  dX5_init_0 rfl rfl rfl ?_
  refine Rn.objInit (pc1 := 4) dX5_init_1 rfl qX5_1 (Nat.le_of_ble_eq_true rfl) (by decide) ?_
  refine Rn.aload_n (pc1 := 5)  dX5_init_4 rfl rfl rfl ?_
  refine Rn.iconst (pc1 := 6) (v := nI 0) dX5_init_5 rfl (by decide) ?_
  refine Rn.putfield (pc1 := 9)  dX5_init_6 rfl pX5_7 (fun h => Bool.noConfusion h) (by first | assumption | exact mset_same | exact mget_ne (by omega) (by assumption) | exact mget_ne (by omega) mset_same) (Nat.le_of_ble_eq_true rfl) rfl rfl rfl ?_
  refine Rn.aload_n (pc1 := 10)  dX5_init_9 rfl rfl rfl ?_
  refine Rn.newobj (pc1 := 13) (fs := [.null]) (mc := 1) (ms := 12) (ci := 7) (N0 := 1) tyX7 dX5_init_10 rfl qX5_13 qins_X7 qini_X7 rfl inX7 tyX7_ok (by decide) ?_
  refine Rn.dup (pc1 := 14)  dX5_init_13 rfl rfl ?_
  refine Rn.cI (pc1 := 17) (mc := 0) (ms := 0) (host := "") (eX7_init (a := a + 1) mset_same) dX5_init_14 rfl qX5_15 rfl oX7_init rfl rfl (Nat.le_of_ble_eq_true rfl) (by decide) (by decide) rfl rfl (fun μ14 h14 => ?_)
  obtain ⟨V1, z1⟩ := h14
  have hO1 := (z1 a (by omega)).trans ((mset_ne (by omega)).trans mset_same)
  refine Rn.putfield (pc1 := 20)  dX5_init_17 rfl pX5_16 (fun _ => rfl) (by first | assumption | exact mset_same | exact mget_ne (by omega) (by assumption) | exact mget_ne (by omega) mset_same) (Nat.le_of_ble_eq_true rfl) rfl rfl rfl ?_
  exact Rn.vreturn dX5_init_20 rfl ⟨rfl, ⟨mset_same, V1.ne (by omega)⟩, fun q hq => (mset_ne (by omega)).trans ((z1 q (by omega)).trans (by simp (disch := omega) only [mset_ne]))⟩
theorem eX2_init (hO : μ a = some (obj 2 [.null, .int 0, .int 0, .int 0, .int 0, .int 0])) : EvA G 1 kX2_init [.ref a] μ (a + 1) 1 80 (rV fun μ' => PA μ' a (fun _ => 0) 0 0 (nI 0) (nI 0) (nI 0) ∧ Fr a (a + 2) μ μ') := by
  refine EvA.of (L := [some (.ref a)]) (by decide +kernel) (Nat.le_of_ble_eq_true rfl) rfl ?_
  refine Rn.aload_n (pc1 := 1)  dX2_init_0 rfl rfl rfl ?_
  refine Rn.objInit (pc1 := 4) dX2_init_1 rfl qX2_3 (Nat.le_of_ble_eq_true rfl) (by decide) ?_
  refine Rn.aload_n (pc1 := 5)  dX2_init_4 rfl rfl rfl ?_
  refine Rn.bipush (pc1 := 7) (v := nI 80) dX2_init_5 rfl (by decide) ?_
  refine Rn.newints (pc1 := 9) (n := 80) (mc := 0) (ms := 0)  dX2_init_7 rfl qac_int (by decide) (by decide) (by decide) ?_
  refine Rn.putfield (pc1 := 12)  dX2_init_9 rfl pX2_9 (fun _ => rfl) (by first | assumption | exact mset_same | exact mget_ne (by omega) (by assumption) | exact mget_ne (by omega) mset_same) (Nat.le_of_ble_eq_true rfl) rfl rfl rfl ?_
  refine Rn.aload_n (pc1 := 13)  dX2_init_12 rfl rfl rfl ?_
  refine Rn.iconst (pc1 := 14) (v := nI 0) dX2_init_13 rfl (by decide) ?_
  refine Rn.putfield (pc1 := 17)  dX2_init_14 rfl pX2_15 (fun h => Bool.noConfusion h) (by first | assumption | exact mset_same | exact mget_ne (by omega) (by assumption) | exact mget_ne (by omega) mset_same) (Nat.le_of_ble_eq_true rfl) rfl rfl rfl ?_
  refine Rn.aload_n (pc1 := 18)  dX2_init_17 rfl rfl rfl ?_
  refine Rn.iconst (pc1 := 19) (v := nI 0) dX2_init_18 rfl (by decide) ?_
  refine Rn.putfield (pc1 := 22)  dX2_init_19 rfl pX2_19 (fun h => Bool.noConfusion h) (by first | assumption | exact mset_same | exact mget_ne (by omega) (by assumption) | exact mget_ne (by omega) mset_same) (Nat.le_of_ble_eq_true rfl) rfl rfl rfl ?_
  refine Rn.aload_n (pc1 := 23)  dX2_init_22 rfl rfl rfl ?_
  refine Rn.iconst (pc1 := 24) (v := nI 0) dX2_init_23 rfl (by decide) ?_
  refine Rn.putfield (pc1 := 27)  dX2_init_24 rfl pX2_22 (fun h => Bool.noConfusion h) (by first | assumption | exact mset_same | exact mget_ne (by omega) (by assumption) | exact mget_ne (by omega) mset_same) (Nat.le_of_ble_eq_true rfl) rfl rfl rfl ?_
  refine Rn.aload_n (pc1 := 28)  dX2_init_27 rfl rfl rfl ?_
  refine Rn.iconst (pc1 := 29) (v := nI 0) dX2_init_28 rfl (by decide) ?_
  refine Rn.putfield (pc1 := 32)  dX2_init_29 rfl pX2_25 (fun h => Bool.noConfusion h) (by first | assumption | exact mset_same | exact mget_ne (by omega) (by assumption) | exact mget_ne (by omega) mset_same) (Nat.le_of_ble_eq_true rfl) rfl rfl rfl ?_
  refine Rn.aload_n (pc1 := 33)  dX2_init_32 rfl rfl rfl ?_
  refine Rn.iconst (pc1 := 34) (v := nI 0) dX2_init_33 rfl (by decide) ?_
  refine Rn.putfield (pc1 := 37)  dX2_init_34 rfl pX2_28 (fun h => Bool.noConfusion h) (by first | assumption | exact mset_same | exact mget_ne (by omega) (by assumption) | exact mget_ne (by omega) mset_same) (Nat.le_of_ble_eq_true rfl) rfl rfl rfl ?_
  exact Rn.vreturn dX2_init_37 rfl ⟨rfl, ⟨mset_same, by simp (disch := omega) only [mset_ne, mset_same]⟩, fun q hq => by simp (disch := omega) only [mset_ne]⟩
/-- the reference's row, when it is made -/
def f9 : Nat → Int32 := blk (upd (upd (fun _ => 0) 0 (nI 5)) 1 (nI 30)) 9 12 (fun _ => -6)
end CTOR
end
section
/-! ===== what is made: State, History, Slot, ChangeFeed ===== -/
-- LOOK2
def PS (μ : Mm) (a i j : Nat) : Prop := μ a = some (obj 6 [.int (nI 5), .int (nI 30), .int (nI 0), .int (nI 0), .int (nI 0), .ref (a + 1), .ref (a + 3), .ref (a + 8), .ref (a + 9)]) ∧ μ (a + 8) = some (refs 3 6 (fun q => if q < i then some (a + 10 + 5 * q) else none)) ∧ μ (a + 9) = some (refs 4 4 (fun q => if q < j then some (a + 40 + 3 * q) else none)) ∧ VA μ (a + 1) (fun _ => -6) ∧ FB μ (a + 3) 0 (nI 0) (nI 0) (nI 0) (fun _ => 0) (fun _ => 0) (fun _ => 0) (fun _ => 0) ∧ (∀ q, q < i → RA μ (a + 10 + 5 * q) (nI 0) (nI 0) (nI 0) (fun _ => -6) (fun _ => -6)) ∧ ∀ q, q < j → SN μ (a + 40 + 3 * q) (nI 0) (fun _ => -6)
theorem PS.fr {μ μ' : Mm} {a i j x y : Nat} (F : PS μ a i j) (z : Fr x y μ μ') (h : (a + 10 + 5 * i ≤ x ∧ (j = 0 ∨ a + 40 + 3 * j ≤ x)) ∨ y ≤ a) (hi : i ≤ 6) : PS μ' a i j := by
  obtain ⟨p1, p2, p3, p4, p5, p6, p7⟩ := F
  exact ⟨(z _ (by omega)).trans p1, (z _ (by omega)).trans p2, (z _ (by omega)).trans p3, p4.fr z (by omega), p5.fr z (by omega), fun q hq => (p6 q hq).fr z (by omega), fun q hq => (p7 q hq).fr z (by omega)⟩
theorem f9_at {j : Nat} (h0 : j ≠ 0) (h1 : j ≠ 1) (h2 : j < 9 ∨ 21 ≤ j) : f9 j = 0 := by unfold f9; rw [blk_out (by omega), upd_ne h1, upd_ne h0]
theorem f9_iv : IV f9 0 0 0 0 := by
  refine ⟨⟨f9_at (by omega) (by omega) (by omega), f9_at (by omega) (by omega) (by omega), f9_at (by omega) (by omega) (by omega)⟩, ⟨by omega, by omega, by omega⟩, ⟨5, by omega, by omega, ?_⟩, ⟨0, fun _ => 0, Nat.le_refl _, f9_at (by omega) (by omega) (by omega), fun j hj => by omega, fun i j _ hj => by omega⟩, fun j hj => by omega, ?_, ⟨0, by omega, f9_at (by omega) (by omega) (by omega)⟩, fun i hi => by omega, fun i hi => by omega⟩
  · unfold f9; rw [blk_out (by omega), upd_ne (by omega), upd_at rfl]
  · unfold f9; rw [blk_out (by omega), upd_at rfl]; decide
theorem PS.st {μ : Mm} {a : Nat} (F : PS μ a 6 4) : ST μ a f9 0 := by
  obtain ⟨p1, p2, p3, p4, p5, p6, p7⟩ := F
  have p5' : FB μ (a + 3) 0 (f9 3) (f9 4) (f9 5) (fun _ => 0) (fun _ => 0) (fun _ => 0) (fun _ => 0) := by
    rw [show f9 3 = nI 0 from f9_at (by omega) (by omega) (by omega), show f9 4 = nI 0 from f9_at (by omega) (by omega) (by omega), show f9 5 = nI 0 from f9_at (by omega) (by omega) (by omega)]
    exact p5
  refine ⟨0, 0, 0, ⟨⟨by omega, by omega, by omega⟩, ?_, ⟨⟨_, p2, fun i hi => if_pos hi⟩, ⟨_, p3, fun i hi => if_pos hi⟩⟩, ?_, ⟨_, _, _, _, p5', fun j hj => by omega⟩, fun i hi => ⟨_, _, _, _, _, p6 i hi, fun q => by omega⟩, fun n hn => ⟨_, _, p7 n hn, fun q => by omega⟩⟩, f9_iv⟩
  · unfold SO
    rw [show f9 0 = nI 5 by unfold f9; rw [blk_out (by omega), upd_ne (by omega), upd_at rfl], show f9 1 = nI 30 by unfold f9; rw [blk_out (by omega), upd_at rfl], show f9 2 = nI 0 from f9_at (by omega) (by omega) (by omega)]
    exact p1
  · obtain ⟨v1, g, v2, v3⟩ := p4
    exact ⟨v1, g, v2, fun j hj => (v3 j hj).trans (show (-6 : Int32) = f9 (9 + j) by unfold f9; rw [blk_in (q := j) rfl hj])⟩
theorem refs_s {n : Nat} {s : Nat → Nat} : va_up (fun q => if q < n then some (s q) else none) n (some (s n)) = (fun q => if q < n + 1 then some (s q) else none) := by
  funext q
  unfold va_up
  by_cases e : q = n
  · subst e; rw [if_pos rfl, if_pos (by omega)]
  · rw [if_neg e]
    show (if q < n then some (s q) else none) = _
    by_cases e2 : q < n
    · rw [if_pos e2, if_pos (by omega)]
    · rw [if_neg e2, if_neg (by omega)]
theorem FB.ne {μ : Mm} {b q h : Nat} {nx fl gn : Int32} {g0 g1 g2 g3 : Nat → Int32} {c : Cl} (H : FB μ b h nx fl gn g0 g1 g2 g3) (hq : q < b ∨ b + 5 ≤ q) : FB (mset μ q c) b h nx fl gn g0 g1 g2 g3 := H.fr (Fr.set (a := q) (b := q + 1) (Nat.le_refl _) (Nat.lt_succ_self _)) (by omega)
theorem refs_0 {s : Nat → Nat} : (fun _ => none : Nat → Option Nat) = fun q => if q < 0 then some (s q) else none := funext fun q => (if_neg (by omega)).symm
section CTOR2
variable {G : GG} {μ : Mm} {a : Nat}
theorem eX6_init (hO : μ a = some (obj 6 [.int 0, .int 0, .int 0, .int 0, .int 0, .null, .null, .null, .null])) : EvA G 4 kX6_init [.ref a] μ (a + 1) 51 517 (rV fun μ' => ST μ' a f9 0 ∧ Fr a (a + 52) μ μ') := by
  have loop2 : ∀ (n i : Nat) (μ1 : Mm), i + n = 4 → PS μ1 a 6 i → Fr a (a + 52) μ μ1 → Rn G 4 kX6_init 101 [some (.ref a), some (.int (nI i))] [] μ1 (a + 40 + 3 * i) (3 * n) (15 * n) (rV fun μ' => ST μ' a f9 0 ∧ Fr a (a + 52) μ μ') := by
    intro n
    induction n with
    | zero =>
      intro i μ1 hi F1 z1
      obtain rfl : i = 4 := by omega
      have hO := F1.1
      have hR := F1.2.2.1
      refine Rn.iload_n (pc1 := 102)  dX6_init_101 rfl rfl rfl ?_
      refine Rn.aload_n (pc1 := 103)  dX6_init_102 rfl rfl rfl ?_
      refine Rn.getfield (pc1 := 106)  dX6_init_103 rfl fX6_49 (by first | assumption | exact mset_same | exact mget_ne (by omega) (by assumption) | exact mget_ne (by omega) mset_same) rfl ?_
      refine Rn.alen (pc1 := 107)  dX6_init_106 rfl (by first | assumption | exact mset_same | exact mget_ne (by omega) (by assumption) | exact mget_ne (by omega) mset_same) (fun _ => rfl) rfl ?_
      refine Rn.icmp_ge (pc1 := 110) 129 dX6_init_107 rfl (by decide) (fun c107 => ?_) (fun c107 => ?_)
      · exact Rn.vreturn dX6_init_129 rfl ⟨rfl, F1.st, z1⟩
      · exact absurd (nI_le (Nat.le_refl 4) (by decide)) c107
    | succ n ih =>
      intro i μ1 hi F1 z1
      have hO := F1.1
      have hR := F1.2.2.1
      rw [show 3 * (n + 1) = 3 * n + 2 + 1 by omega, show 15 * (n + 1) = 15 * n + 13 + 2 by omega]
      refine Rn.iload_n (pc1 := 102)  dX6_init_101 rfl rfl rfl ?_
      refine Rn.aload_n (pc1 := 103)  dX6_init_102 rfl rfl rfl ?_
      refine Rn.getfield (pc1 := 106)  dX6_init_103 rfl fX6_49 (by first | assumption | exact mset_same | exact mget_ne (by omega) (by assumption) | exact mget_ne (by omega) mset_same) rfl ?_
      refine Rn.alen (pc1 := 107)  dX6_init_106 rfl (by first | assumption | exact mset_same | exact mget_ne (by omega) (by assumption) | exact mget_ne (by omega) mset_same) (fun _ => rfl) rfl ?_
      refine Rn.icmp_ge (pc1 := 110) 129 dX6_init_107 rfl (by decide) (fun c107 => ?_) (fun c107 => ?_)
      · exact absurd c107 (nI_ge (show i < 4 by omega) (show (4 : Nat) < 2 ^ 31 by decide))
      · refine Rn.aload_n (pc1 := 111)  dX6_init_110 rfl rfl rfl ?_
        refine Rn.getfield (pc1 := 114)  dX6_init_111 rfl fX6_49 (by first | assumption | exact mset_same | exact mget_ne (by omega) (by assumption) | exact mget_ne (by omega) mset_same) rfl ?_
        refine Rn.iload_n (pc1 := 115)  dX6_init_114 rfl rfl rfl ?_
        refine Rn.newobj (pc1 := 118) (fs := [.int 0, .null]) (mc := 3 * n + 2) (ms := 15 * n + 13) (ci := 5) (N0 := 2) tyX5 dX6_init_115 rfl qX6_47 qins_X5 qini_X5 rfl inX5 tyX5_ok (by decide) ?_
        refine Rn.dup (pc1 := 119)  dX6_init_118 rfl rfl ?_
        refine Rn.cJ (pc1 := 122) (mc := 3 * n) (ms := 15 * n) (eX5_init (a := a + 40 + 3 * i) mset_same) dX6_init_119 rfl nX6_54 rfl oX5_init rfl rfl (Nat.le_of_ble_eq_true rfl) (by decide) (by decide) (by omega) (by omega) (fun μ119 h119 => ?_)
        obtain ⟨V, z⟩ := h119
        have F2 : PS μ119 a 6 i := (F1.fr (Fr.set (a := a + 40 + 3 * i) (b := a + 40 + 3 * i + 3) (Nat.le_refl _) (by omega)) (by omega) (by omega)).fr z (by omega) (by omega)
        have z2 : Fr a (a + 52) μ μ119 := (z1.set_ (by omega) (by omega)).trans (z.wide (by omega) (by omega))
        refine Rn.aastore (pc1 := 123) (f' := fun q => if q < i + 1 then some (a + 40 + 3 * q) else none)  dX6_init_122 rfl F2.2.2.1 (fun _ => rfl) V.1 rfl (vp_nI (j := i) rfl (by omega) (by decide)) (by rw [nI_clamp (by omega)]; exact refs_s (s := fun q => a + 40 + 3 * q)) ?_
        refine Rn.iinc (pc1 := 126)  dX6_init_123 rfl rfl (nI_1 i) (by decide) rfl rfl ?_
        refine Rn.goto 101 dX6_init_126 (by decide) ?_
        have N := ih (i + 1) _ (by omega) (show PS (mset μ119 (a + 9) (refs 4 4 (fun q => if q < i + 1 then some (a + 40 + 3 * q) else none))) a 6 (i + 1) from by
          obtain ⟨p1, p2, p3, p4, p5, p6, p7⟩ := F2
          refine ⟨mget_ne (by omega) p1, mget_ne (by omega) p2, mset_same, p4.ne (by omega), p5.fr (Fr.set (a := a + 9) (b := a + 10) (Nat.le_refl _) (by omega)) (by omega), fun q hq => (p6 q hq).ne (by omega), fun q hq => ?_⟩
          by_cases e : q = i
          · subst e; exact V.fr (Fr.set (a := a + 9) (b := a + 10) (Nat.le_refl _) (by omega)) (by omega)
          · exact (p7 q (by omega)).fr (Fr.set (a := a + 9) (b := a + 10) (Nat.le_refl _) (by omega)) (by omega)) (z2.set_ (by omega) (by omega))
        rw [show a + 40 + 3 * (i + 1) = a + 40 + 3 * i + 1 + 2 by omega] at N
        exact N
  have loop1 : ∀ (n i : Nat) (μ1 : Mm), i + n = 6 → PS μ1 a i 0 → Fr a (a + 52) μ μ1 → Rn G 4 kX6_init 71 [some (.ref a), some (.int (nI i))] [] μ1 (a + 10 + 5 * i) (5 * n + 12) (31 * n + 60) (rV fun μ' => ST μ' a f9 0 ∧ Fr a (a + 52) μ μ') := by
    intro n
    induction n with
    | zero =>
      intro i μ1 hi F1 z1
      obtain rfl : i = 6 := by omega
      have hO := F1.1
      have hR := F1.2.1
      refine Rn.iload_n (pc1 := 72)  dX6_init_71 rfl rfl rfl ?_
      refine Rn.aload_n (pc1 := 73)  dX6_init_72 rfl rfl rfl ?_
      refine Rn.getfield (pc1 := 76)  dX6_init_73 rfl fX6_43 (by first | assumption | exact mset_same | exact mget_ne (by omega) (by assumption) | exact mget_ne (by omega) mset_same) rfl ?_
      refine Rn.alen (pc1 := 77)  dX6_init_76 rfl (by first | assumption | exact mset_same | exact mget_ne (by omega) (by assumption) | exact mget_ne (by omega) mset_same) (fun _ => rfl) rfl ?_
      refine Rn.icmp_ge (pc1 := 80) 99 dX6_init_77 rfl (by decide) (fun c77 => ?_) (fun c77 => ?_)
      · refine Rn.iconst (pc1 := 100) (v := nI 0) dX6_init_99 rfl (by decide) ?_
        refine Rn.istore_n (pc1 := 101)  dX6_init_100 rfl rfl (by decide) rfl rfl ?_
        exact loop2 4 0 μ1 rfl F1 z1
      · exact absurd (nI_le (Nat.le_refl 6) (by decide)) c77
    | succ n ih =>
      intro i μ1 hi F1 z1
      have hO := F1.1
      have hR := F1.2.1
      rw [show 5 * (n + 1) + 12 = 5 * n + 12 + 4 + 1 by omega, show 31 * (n + 1) + 60 = 31 * n + 60 + 26 + 5 by omega]
      refine Rn.iload_n (pc1 := 72)  dX6_init_71 rfl rfl rfl ?_
      refine Rn.aload_n (pc1 := 73)  dX6_init_72 rfl rfl rfl ?_
      refine Rn.getfield (pc1 := 76)  dX6_init_73 rfl fX6_43 (by first | assumption | exact mset_same | exact mget_ne (by omega) (by assumption) | exact mget_ne (by omega) mset_same) rfl ?_
      refine Rn.alen (pc1 := 77)  dX6_init_76 rfl (by first | assumption | exact mset_same | exact mget_ne (by omega) (by assumption) | exact mget_ne (by omega) mset_same) (fun _ => rfl) rfl ?_
      refine Rn.icmp_ge (pc1 := 80) 99 dX6_init_77 rfl (by decide) (fun c77 => ?_) (fun c77 => ?_)
      · exact absurd c77 (nI_ge (show i < 6 by omega) (show (6 : Nat) < 2 ^ 31 by decide))
      · refine Rn.aload_n (pc1 := 81)  dX6_init_80 rfl rfl rfl ?_
        refine Rn.getfield (pc1 := 84)  dX6_init_81 rfl fX6_43 (by first | assumption | exact mset_same | exact mget_ne (by omega) (by assumption) | exact mget_ne (by omega) mset_same) rfl ?_
        refine Rn.iload_n (pc1 := 85)  dX6_init_84 rfl rfl rfl ?_
        refine Rn.newobj (pc1 := 88) (fs := [.int 0, .int 0, .int 0, .null, .null]) (mc := 5 * n + 12 + 4) (ms := 31 * n + 60 + 26) (ci := 3) (N0 := 5) tyX3 dX6_init_85 rfl qX6_41 qins_X3 qini_X3 rfl inX3 tyX3_ok (by decide) ?_
        refine Rn.dup (pc1 := 89)  dX6_init_88 rfl rfl ?_
        refine Rn.cJ (pc1 := 92) (mc := 5 * n + 12) (ms := 31 * n + 60) (eX3_init (a := a + 10 + 5 * i) mset_same) dX6_init_89 rfl nX6_53 rfl oX3_init rfl rfl (Nat.le_of_ble_eq_true rfl) (by decide) (by decide) (by omega) (by omega) (fun μ89 h89 => ?_)
        obtain ⟨V, z⟩ := h89
        have F2 : PS μ89 a i 0 := (F1.fr (Fr.set (a := a + 10 + 5 * i) (b := a + 10 + 5 * i + 5) (Nat.le_refl _) (by omega)) (by omega) (by omega)).fr z (by omega) (by omega)
        have z2 : Fr a (a + 52) μ μ89 := (z1.set_ (by omega) (by omega)).trans (z.wide (by omega) (by omega))
        refine Rn.aastore (pc1 := 93) (f' := fun q => if q < i + 1 then some (a + 10 + 5 * q) else none)  dX6_init_92 rfl F2.2.1 (fun _ => rfl) V.1 rfl (vp_nI (j := i) rfl (by omega) (by decide)) (by rw [nI_clamp (by omega)]; exact refs_s (s := fun q => a + 10 + 5 * q)) ?_
        refine Rn.iinc (pc1 := 96)  dX6_init_93 rfl rfl (nI_1 i) (by decide) rfl rfl ?_
        refine Rn.goto 71 dX6_init_96 (by decide) ?_
        have N := ih (i + 1) _ (by omega) (show PS (mset μ89 (a + 8) (refs 3 6 (fun q => if q < i + 1 then some (a + 10 + 5 * q) else none))) a (i + 1) 0 from by
          obtain ⟨p1, p2, p3, p4, p5, p6, p7⟩ := F2
          refine ⟨mget_ne (by omega) p1, mset_same, mget_ne (by omega) p3, p4.ne (by omega), p5.fr (Fr.set (a := a + 8) (b := a + 9) (Nat.le_refl _) (by omega)) (by omega), fun q hq => ?_, fun q hq => by omega⟩
          by_cases e : q = i
          · subst e; exact V.ne (by omega)
          · exact (p6 q (by omega)).ne (by omega)) (z2.set_ (by omega) (by omega))
        rw [show a + 10 + 5 * (i + 1) = a + 10 + 5 * i + 1 + 4 by omega] at N
        exact N
  refine EvA.of (L := [some (.ref a), none]) (by decide +kernel) (Nat.le_of_ble_eq_true rfl) rfl ?_
  refine Rn.aload_n (pc1 := 1)  dX6_init_0 rfl rfl rfl ?_
  refine Rn.objInit (pc1 := 4) dX6_init_1 rfl qX6_3 (Nat.le_of_ble_eq_true rfl) (by decide) ?_
  refine Rn.aload_n (pc1 := 5)  dX6_init_4 rfl rfl rfl ?_
  refine Rn.iconst (pc1 := 6) (v := nI 5) dX6_init_5 rfl (by decide) ?_
  refine Rn.putfield (pc1 := 9)  dX6_init_6 rfl pX6_9 (fun h => Bool.noConfusion h) (by first | assumption | exact mset_same | exact mget_ne (by omega) (by assumption) | exact mget_ne (by omega) mset_same) (Nat.le_of_ble_eq_true rfl) rfl rfl rfl ?_
  refine Rn.aload_n (pc1 := 10)  dX6_init_9 rfl rfl rfl ?_
  refine Rn.bipush (pc1 := 12) (v := nI 30) dX6_init_10 rfl (by decide) ?_
  refine Rn.putfield (pc1 := 15)  dX6_init_12 rfl pX6_15 (fun h => Bool.noConfusion h) (by first | assumption | exact mset_same | exact mget_ne (by omega) (by assumption) | exact mget_ne (by omega) mset_same) (Nat.le_of_ble_eq_true rfl) rfl rfl rfl ?_
  refine Rn.aload_n (pc1 := 16)  dX6_init_15 rfl rfl rfl ?_
  refine Rn.iconst (pc1 := 17) (v := nI 0) dX6_init_16 rfl (by decide) ?_
  refine Rn.putfield (pc1 := 20)  dX6_init_17 rfl pX6_18 (fun h => Bool.noConfusion h) (by first | assumption | exact mset_same | exact mget_ne (by omega) (by assumption) | exact mget_ne (by omega) mset_same) (Nat.le_of_ble_eq_true rfl) rfl rfl rfl ?_
  refine Rn.aload_n (pc1 := 21)  dX6_init_20 rfl rfl rfl ?_
  refine Rn.iconst (pc1 := 22) (v := nI 0) dX6_init_21 rfl (by decide) ?_
  refine Rn.putfield (pc1 := 25)  dX6_init_22 rfl pX6_21 (fun h => Bool.noConfusion h) (by first | assumption | exact mset_same | exact mget_ne (by omega) (by assumption) | exact mget_ne (by omega) mset_same) (Nat.le_of_ble_eq_true rfl) rfl rfl rfl ?_
  refine Rn.aload_n (pc1 := 26)  dX6_init_25 rfl rfl rfl ?_
  refine Rn.iconst (pc1 := 27) (v := nI 0) dX6_init_26 rfl (by decide) ?_
  refine Rn.putfield (pc1 := 30)  dX6_init_27 rfl pX6_24 (fun h => Bool.noConfusion h) (by first | assumption | exact mset_same | exact mget_ne (by omega) (by assumption) | exact mget_ne (by omega) mset_same) (Nat.le_of_ble_eq_true rfl) rfl rfl rfl ?_
  refine Rn.aload_n (pc1 := 31)  dX6_init_30 rfl rfl rfl ?_
  refine Rn.newobj (pc1 := 34) (fs := [.null]) (mc := 50) (ms := 516) (ci := 7) (N0 := 1) tyX7 dX6_init_31 rfl qX6_27 qins_X7 qini_X7 rfl inX7 tyX7_ok (by decide) ?_
  refine Rn.dup (pc1 := 35)  dX6_init_34 rfl rfl ?_
  refine Rn.cI (pc1 := 38) (mc := 49) (ms := 504) (host := "") (eX7_init (a := a + 1) mset_same) dX6_init_35 rfl qX6_29 rfl oX7_init rfl rfl (Nat.le_of_ble_eq_true rfl) (by decide) (by decide) rfl rfl (fun μ35 h35 => ?_)
  obtain ⟨V1, z1⟩ := h35
  have hO1 := (z1 a (by omega)).trans ((mset_ne (by omega)).trans mset_same)
  refine Rn.putfield (pc1 := 41)  dX6_init_38 rfl pX6_30 (fun _ => rfl) (by first | assumption | exact mset_same | exact mget_ne (by omega) (by assumption) | exact mget_ne (by omega) mset_same) (Nat.le_of_ble_eq_true rfl) rfl rfl rfl ?_
  refine Rn.aload_n (pc1 := 42)  dX6_init_41 rfl rfl rfl ?_
  refine Rn.newobj (pc1 := 45) (fs := [.null, .null, .null, .null, .int 0, .int 0, .int 0, .int 0]) (mc := 48) (ms := 496) (ci := 0) (N0 := 8) tyX0 dX6_init_42 rfl qX6_34 qins_X0 qini_X0 rfl inX0 tyX0_ok (by decide) ?_
  refine Rn.dup (pc1 := 46)  dX6_init_45 rfl rfl ?_
  refine Rn.cJ (pc1 := 49) (mc := 44) (ms := 256) (eX0_init (a := a + 3) mset_same) dX6_init_46 rfl nX6_36 rfl oX0_init rfl rfl (Nat.le_of_ble_eq_true rfl) (by decide) (by decide) rfl rfl (fun μ46 h46 => ?_)
  obtain ⟨V2, z2⟩ := h46
  have hO2 := (z2 a (by omega)).trans ((mset_ne (by omega)).trans mset_same)
  refine Rn.putfield (pc1 := 52)  dX6_init_49 rfl pX6_37 (fun _ => rfl) (by first | assumption | exact mset_same | exact mget_ne (by omega) (by assumption) | exact mget_ne (by omega) mset_same) (Nat.le_of_ble_eq_true rfl) rfl rfl rfl ?_
  refine Rn.aload_n (pc1 := 53)  dX6_init_52 rfl rfl rfl ?_
  refine Rn.bipush (pc1 := 55) (v := nI 6) dX6_init_53 rfl (by decide) ?_
  refine Rn.newrefs (pc1 := 58) (n := 6) (t := 3) (mc := 43) (ms := 250)  dX6_init_55 rfl qX6_41 (fun _ h => h.2.1) (fun _ => rfl) (by decide) (by decide) (by decide) ?_
  refine Rn.putfield (pc1 := 61)  dX6_init_58 rfl pX6_43 (fun _ => rfl) (by first | assumption | exact mset_same | exact mget_ne (by omega) (by assumption) | exact mget_ne (by omega) mset_same) (Nat.le_of_ble_eq_true rfl) rfl rfl rfl ?_
  refine Rn.aload_n (pc1 := 62)  dX6_init_61 rfl rfl rfl ?_
  refine Rn.iconst (pc1 := 63) (v := nI 4) dX6_init_62 rfl (by decide) ?_
  refine Rn.newrefs (pc1 := 66) (n := 4) (t := 4) (mc := 42) (ms := 246)  dX6_init_63 rfl qX6_47 (fun _ h => h.2.2.1) (fun _ => rfl) (by decide) (by decide) (by decide) ?_
  refine Rn.putfield (pc1 := 69)  dX6_init_66 rfl pX6_49 (fun _ => rfl) (by first | assumption | exact mset_same | exact mget_ne (by omega) (by assumption) | exact mget_ne (by omega) mset_same) (Nat.le_of_ble_eq_true rfl) rfl rfl rfl ?_
  refine Rn.iconst (pc1 := 70) (v := nI 0) dX6_init_69 rfl (by decide) ?_
  refine Rn.istore_n (pc1 := 71)  dX6_init_70 rfl rfl (by decide) rfl rfl ?_
  have p2 : ∀ (μ0 : Mm) (c1 c2 c3 : Cl), mset (mset (mset (mset μ0 (a + 8) (.inl (3, 6, .inr (.inr (.inr (.inr (fun _ => none))))))) a c1) (a + 9) c2) a c3 (a + 8) = some (refs 3 6 (fun q => if q < 0 then some (a + 10 + 5 * q) else none)) := fun μ0 c1 c2 c3 => (mset_ne (by omega)).trans ((mset_ne (by omega)).trans ((mset_ne (by omega)).trans (mset_same.trans (by rw [refs_0 (s := fun q => a + 10 + 5 * q)]))))
  have p3 : ∀ (μ0 : Mm) (c3 : Cl), mset (mset μ0 (a + 9) (.inl (4, 4, .inr (.inr (.inr (.inr (fun _ => none))))))) a c3 (a + 9) = some (refs 4 4 (fun q => if q < 0 then some (a + 40 + 3 * q) else none)) := fun μ0 c3 => (mset_ne (by omega)).trans (mset_same.trans (by rw [refs_0 (s := fun q => a + 40 + 3 * q)]))
  exact loop1 6 0 _ (by omega) ⟨mset_same, p2 _ _ _ _, p3 _ _, ((((((((V1.ne (by omega)).ne (by omega)).fr z2 (by omega)).ne (by omega)).ne (by omega)).ne (by omega)).ne (by omega)).ne (by omega)), (((((V2.ne (by omega)).ne (by omega)).ne (by omega)).ne (by omega)).ne (by omega)), fun q hq => by omega, fun q hq => by omega⟩ (fun q hq => (mset_ne (by omega)).trans ((mset_ne (by omega)).trans ((mset_ne (by omega)).trans ((mset_ne (by omega)).trans ((mset_ne (by omega)).trans ((z2 q (by omega)).trans ((mset_ne (by omega)).trans ((mset_ne (by omega)).trans ((z1 q (by omega)).trans (by simp (disch := omega) only [mset_ne]))))))))))
end CTOR2
end
section
/-! ===== what is made: History, Slot, ChangeFeed ===== -/
-- LOOK2
theorem ST.ne {μ : Mm} {b q B : Nat} {f : Nat → Int32} {c : Cl} (H : ST μ b f B) (hq : q < b ∨ b + 52 ≤ q) : ST (mset μ q c) b f B := H.fr (Fr.set (a := q) (b := q + 1) (Nat.le_refl _) (Nat.lt_succ_self _)) (by omega)
theorem SD.ne {μ : Mm} {b q : Nat} {c : Cl} (H : SD μ b) (hq : q < b ∨ b + 52 ≤ q) : SD (mset μ q c) b := H.fr (Fr.set (a := q) (b := q + 1) (Nat.le_refl _) (Nat.lt_succ_self _)) (by omega)
def PH (μ : Mm) (y i : Nat) : Prop := μ y = some (obj 1 [.ref (y + 1), .int (nI 0)]) ∧ μ (y + 1) = some (refs 2 7 (fun q => if q < i then some (y + 2 + 52 * q) else none)) ∧ ∀ q, q < i → SD μ (y + 2 + 52 * q)
theorem PH.fr {μ μ' : Mm} {y i x z : Nat} (F : PH μ y i) (hF : Fr x z μ μ') (h : y + 2 + 52 * i ≤ x ∨ z ≤ y) : PH μ' y i := ⟨(hF _ (by omega)).trans F.1, (hF _ (by omega)).trans F.2.1, fun q hq => (F.2.2 q hq).fr hF (by omega)⟩
theorem PH.ha {μ : Mm} {y : Nat} (F : PH μ y 7) : HA μ y (fun t => y + 2 + 52 * t) 0 := ⟨F.1, by omega, ⟨_, F.2.1, fun i hi => if_pos hi⟩, fun i hi => ⟨i, hi, rfl⟩, fun i j hi hj e => by simp only at e; omega, fun i hi => F.2.2 i hi⟩
theorem PH.ne {μ : Mm} {y i q : Nat} {c : Cl} (H : PH μ y i) (hq : q < y ∨ y + 2 + 52 * i ≤ q) : PH (mset μ q c) y i := H.fr (Fr.set (a := q) (b := q + 1) (Nat.le_refl _) (Nat.lt_succ_self _)) (by omega)
theorem PA.ne {μ : Mm} {z q len pl : Nat} {P : Nat → Int32} {lt fi se : Int32} {c : Cl} (H : PA μ z P len pl lt fi se) (hq : q < z ∨ z + 2 ≤ q) : PA (mset μ q c) z P len pl lt fi se := H.fr (Fr.set (a := q) (b := q + 1) (Nat.le_refl _) (Nat.lt_succ_self _)) (by omega)
section CTOR3
variable {G : GG} {μ : Mm} {a : Nat}
theorem eX1_init (hO : μ a = some (obj 1 [.null, .int 0])) : EvA G 5 kX1_init [.ref a] μ (a + 1) 365 3689 (rV fun μ' => PH μ' a 7 ∧ Fr a (a + 366) μ μ') := by
  have loop : ∀ (n i : Nat) (μ1 : Mm), i + n = 7 → PH μ1 a i → Fr a (a + 366) μ μ1 → Rn G 5 kX1_init 20 [some (.ref a), some (.int (nI i))] [] μ1 (a + 2 + 52 * i) (52 * n) (526 * n) (rV fun μ' => PH μ' a 7 ∧ Fr a (a + 366) μ μ') := by
    intro n
    induction n with
    | zero =>
      intro i μ1 hi F1 z1
      obtain rfl : i = 7 := by omega
      have hO := F1.1
      have hR := F1.2.1
      refine Rn.iload_n (pc1 := 21)  dX1_init_20 rfl rfl rfl ?_
      refine Rn.aload_n (pc1 := 22)  dX1_init_21 rfl rfl rfl ?_
      refine Rn.getfield (pc1 := 25)  dX1_init_22 rfl fX1_11 (by first | assumption | exact mset_same | exact mget_ne (by omega) (by assumption) | exact mget_ne (by omega) mset_same) rfl ?_
      refine Rn.alen (pc1 := 26)  dX1_init_25 rfl (by first | assumption | exact mset_same | exact mget_ne (by omega) (by assumption) | exact mget_ne (by omega) mset_same) (fun _ => rfl) rfl ?_
      refine Rn.icmp_ge (pc1 := 29) 48 dX1_init_26 rfl (by decide) (fun c26 => ?_) (fun c26 => ?_)
      · exact Rn.vreturn dX1_init_48 rfl ⟨rfl, F1, z1⟩
      · exact absurd (nI_le (Nat.le_refl 7) (by decide)) c26
    | succ n ih =>
      intro i μ1 hi F1 z1
      have hO := F1.1
      have hR := F1.2.1
      rw [show 52 * (n + 1) = 52 * n + 51 + 1 by omega, show 526 * (n + 1) = 526 * n + 517 + 9 by omega]
      refine Rn.iload_n (pc1 := 21)  dX1_init_20 rfl rfl rfl ?_
      refine Rn.aload_n (pc1 := 22)  dX1_init_21 rfl rfl rfl ?_
      refine Rn.getfield (pc1 := 25)  dX1_init_22 rfl fX1_11 (by first | assumption | exact mset_same | exact mget_ne (by omega) (by assumption) | exact mget_ne (by omega) mset_same) rfl ?_
      refine Rn.alen (pc1 := 26)  dX1_init_25 rfl (by first | assumption | exact mset_same | exact mget_ne (by omega) (by assumption) | exact mget_ne (by omega) mset_same) (fun _ => rfl) rfl ?_
      refine Rn.icmp_ge (pc1 := 29) 48 dX1_init_26 rfl (by decide) (fun c26 => ?_) (fun c26 => ?_)
      · exact absurd c26 (nI_ge (show i < 7 by omega) (show (7 : Nat) < 2 ^ 31 by decide))
      · refine Rn.aload_n (pc1 := 30)  dX1_init_29 rfl rfl rfl ?_
        refine Rn.getfield (pc1 := 33)  dX1_init_30 rfl fX1_11 (by first | assumption | exact mset_same | exact mget_ne (by omega) (by assumption) | exact mget_ne (by omega) mset_same) rfl ?_
        refine Rn.iload_n (pc1 := 34)  dX1_init_33 rfl rfl rfl ?_
        refine Rn.newobj (pc1 := 37) (fs := [.int 0, .int 0, .int 0, .int 0, .int 0, .null, .null, .null, .null]) (mc := 52 * n + 51) (ms := 526 * n + 517) (ci := 6) (N0 := 9) tyX6 dX1_init_34 rfl qX1_9 qins_X6 qini_X6 rfl inX6 tyX6_ok (by decide) ?_
        refine Rn.dup (pc1 := 38)  dX1_init_37 rfl rfl ?_
        refine Rn.cI (pc1 := 41) (mc := 52 * n) (ms := 526 * n) (host := "") (eX6_init (a := a + 2 + 52 * i) mset_same) dX1_init_38 rfl qX1_21 rfl oX6_init rfl rfl (Nat.le_of_ble_eq_true rfl) (by decide) (by decide) (by omega) (by omega) (fun μ38 h38 => ?_)
        obtain ⟨V, z⟩ := h38
        have F2 : PH μ38 a i := (F1.fr (Fr.set (a := a + 2 + 52 * i) (b := a + 2 + 52 * i + 3) (Nat.le_refl _) (by omega)) (by omega)).fr z (by omega)
        have z2 : Fr a (a + 366) μ μ38 := (z1.set_ (by omega) (by omega)).trans (z.wide (by omega) (by omega))
        have VO : ∃ vs, μ38 (a + 2 + 52 * i) = some (.inr (6, vs)) := (by obtain ⟨h, rc, sc, A, _⟩ := V; exact ⟨_, A.2.1⟩)
        obtain ⟨vs, VO⟩ := VO
        refine Rn.aastore (pc1 := 42) (f' := fun q => if q < i + 1 then some (a + 2 + 52 * q) else none)  dX1_init_41 rfl F2.2.1 (fun _ => rfl) VO rfl (vp_nI (j := i) rfl (by omega) (by decide)) (by rw [nI_clamp (by omega)]; exact refs_s (s := fun q => a + 2 + 52 * q)) ?_
        refine Rn.iinc (pc1 := 45)  dX1_init_42 rfl rfl (nI_1 i) (by decide) rfl rfl ?_
        refine Rn.goto 20 dX1_init_45 (by decide) ?_
        have N := ih (i + 1) _ (by omega) (show PH (mset μ38 (a + 1) (refs 2 7 (fun q => if q < i + 1 then some (a + 2 + 52 * q) else none))) a (i + 1) from by
          obtain ⟨p1, p2, p3⟩ := F2
          refine ⟨mget_ne (by omega) p1, mset_same, fun q hq => ?_⟩
          by_cases e : q = i
          · subst e; exact V.sd.ne (by omega)
          · exact (p3 q (by omega)).ne (by omega)) (z2.set_ (by omega) (by omega))
        rw [show a + 2 + 52 * (i + 1) = a + 2 + 52 * i + 1 + 51 by omega] at N
        exact N
  refine EvA.of (L := [some (.ref a), none]) (by decide +kernel) (Nat.le_of_ble_eq_true rfl) rfl ?_
  refine Rn.aload_n (pc1 := 1)  dX1_init_0 rfl rfl rfl ?_
  refine Rn.objInit (pc1 := 4) dX1_init_1 rfl qX1_3 (Nat.le_of_ble_eq_true rfl) (by decide) ?_
  refine Rn.aload_n (pc1 := 5)  dX1_init_4 rfl rfl rfl ?_
  refine Rn.bipush (pc1 := 7) (v := nI 7) dX1_init_5 rfl (by decide) ?_
  refine Rn.newrefs (pc1 := 10) (n := 7) (t := 2) (mc := 364) (ms := 3682)  dX1_init_7 rfl qX1_9 (fun _ h => h.1) (fun _ => rfl) (by decide) (by decide) (by decide) ?_
  refine Rn.putfield (pc1 := 13)  dX1_init_10 rfl pX1_11 (fun _ => rfl) (by first | assumption | exact mset_same | exact mget_ne (by omega) (by assumption) | exact mget_ne (by omega) mset_same) (Nat.le_of_ble_eq_true rfl) rfl rfl rfl ?_
  refine Rn.aload_n (pc1 := 14)  dX1_init_13 rfl rfl rfl ?_
  refine Rn.iconst (pc1 := 15) (v := nI 0) dX1_init_14 rfl (by decide) ?_
  refine Rn.putfield (pc1 := 18)  dX1_init_15 rfl pX1_17 (fun h => Bool.noConfusion h) (by first | assumption | exact mset_same | exact mget_ne (by omega) (by assumption) | exact mget_ne (by omega) mset_same) (Nat.le_of_ble_eq_true rfl) rfl rfl rfl ?_
  refine Rn.iconst (pc1 := 19) (v := nI 0) dX1_init_18 rfl (by decide) ?_
  refine Rn.istore_n (pc1 := 20)  dX1_init_19 rfl rfl (by decide) rfl rfl ?_
  have p2 : ∀ (μ0 : Mm) (c1 c2 : Cl), mset (mset (mset μ0 (a + 1) (.inl (2, 7, .inr (.inr (.inr (.inr (fun _ => none))))))) a c1) a c2 (a + 1) = some (refs 2 7 (fun q => if q < 0 then some (a + 2 + 52 * q) else none)) := fun μ0 c1 c2 => (mset_ne (by omega)).trans ((mset_ne (by omega)).trans (mset_same.trans (by rw [refs_0 (s := fun q => a + 2 + 52 * q)])))
  exact loop 7 0 _ (by omega) ⟨mset_same, p2 _ _ _, fun q hq => by omega⟩ (fun q hq => by simp (disch := omega) only [mset_ne])
theorem eX4_init (hO : μ a = some (obj 4 [.int 0, .null])) : EvA G 5 kX4_init [.ref a] μ (a + 1) 52 526 (rV fun μ' => (μ' a = some (obj 4 [.int (bI false), .ref (a + 1)]) ∧ SD μ' (a + 1)) ∧ Fr a (a + 53) μ μ') := by
  refine EvA.of (L := [some (.ref a)]) (by decide +kernel) (Nat.le_of_ble_eq_true rfl) rfl ?_
  refine Rn.aload_n (pc1 := 1)  dX4_init_0 rfl rfl rfl ?_
  refine Rn.objInit (pc1 := 4) dX4_init_1 rfl qX4_1 (Nat.le_of_ble_eq_true rfl) (by decide) ?_
  refine Rn.aload_n (pc1 := 5)  dX4_init_4 rfl rfl rfl ?_
  refine Rn.iconst (pc1 := 6) (v := nI 0) dX4_init_5 rfl (by decide) ?_
  refine Rn.putfield (pc1 := 9)  dX4_init_6 rfl pX4_7 (fun h => Bool.noConfusion h) (by first | assumption | exact mset_same | exact mget_ne (by omega) (by assumption) | exact mget_ne (by omega) mset_same) (Nat.le_of_ble_eq_true rfl) rfl rfl rfl ?_
  refine Rn.aload_n (pc1 := 10)  dX4_init_9 rfl rfl rfl ?_
  refine Rn.newobj (pc1 := 13) (fs := [.int 0, .int 0, .int 0, .int 0, .int 0, .null, .null, .null, .null]) (mc := 51) (ms := 517) (ci := 6) (N0 := 9) tyX6 dX4_init_10 rfl qX4_13 qins_X6 qini_X6 rfl inX6 tyX6_ok (by decide) ?_
  refine Rn.dup (pc1 := 14)  dX4_init_13 rfl rfl ?_
  refine Rn.cI (pc1 := 17) (mc := 0) (ms := 0) (host := "") (eX6_init (a := a + 1) mset_same) dX4_init_14 rfl qX4_15 rfl oX6_init rfl rfl (Nat.le_of_ble_eq_true rfl) (by decide) (by decide) rfl rfl (fun μ14 h14 => ?_)
  obtain ⟨V1, z1⟩ := h14
  have hO1 := (z1 a (by omega)).trans ((mset_ne (by omega)).trans mset_same)
  refine Rn.putfield (pc1 := 20)  dX4_init_17 rfl pX4_16 (fun _ => rfl) (by first | assumption | exact mset_same | exact mget_ne (by omega) (by assumption) | exact mget_ne (by omega) mset_same) (Nat.le_of_ble_eq_true rfl) rfl rfl rfl ?_
  exact Rn.vreturn dX4_init_20 rfl ⟨rfl, ⟨mset_same, V1.sd.ne (by omega)⟩, fun q hq => (mset_ne (by omega)).trans ((z1 q (by omega)).trans (by simp (disch := omega) only [mset_ne]))⟩
def PC (μ : Mm) (x i : Nat) : Prop := CO μ x ∧ ST μ (x + 1) f9 0 ∧ PH μ (x + 53) 7 ∧ PA μ (x + 419) (fun _ => 0) 0 0 (nI 0) (nI 0) (nI 0) ∧ μ (x + 421) = some (refs 5 2 (fun q => if q < i then some (x + 422 + 53 * q) else none)) ∧ ∀ q, q < i → μ (x + 422 + 53 * q) = some (obj 4 [.int (bI false), .ref (x + 422 + 53 * q + 1)]) ∧ SD μ (x + 422 + 53 * q + 1)
theorem PC.fr {μ μ' : Mm} {x i b z : Nat} (F : PC μ x i) (hF : Fr b z μ μ') (h : x + 422 + 53 * i ≤ b ∨ z ≤ x) : PC μ' x i := ⟨(hF _ (by omega)).trans F.1, F.2.1.fr hF (by omega), F.2.2.1.fr hF (by omega), F.2.2.2.1.fr hF (by omega), (hF _ (by omega)).trans F.2.2.2.2.1, fun q hq => ⟨(hF _ (by omega)).trans (F.2.2.2.2.2 q hq).1, (F.2.2.2.2.2 q hq).2.fr hF (by omega)⟩⟩
theorem PC.cw {μ : Mm} {x : Nat} (F : PC μ x 2) (P S : Nat → Nat → Int32) : CW μ x f9 0 P (fun _ => 0) 0 (fun _ => false) S 0 := by
  obtain ⟨c1, c2, c3, c4, c5, c6⟩ := F
  refine ⟨c1, c2, ⟨_, c3.ha, fun i hi => by omega⟩, ⟨⟨by omega, fun j hj => by omega⟩, _, _, _, _, c4⟩, ⟨_, c5, fun i hi => if_pos hi⟩, fun i hi => ?_⟩
  obtain ⟨d1, d2⟩ := c6 i hi
  rw [show x + 422 + 53 * i + 1 = x + 423 + 53 * i by omega] at d1 d2
  exact ⟨d1, d2, fun q => by cases q⟩
theorem eX8_init (hO : μ a = some (obj 8 [.null, .null, .null, .null])) : EvA G 6 kX8_init [.ref a] μ (a + 1) 527 5361 (rV fun μ' => PC μ' a 2 ∧ Fr a (a + 528) μ μ') := by
  have loop : ∀ (n i : Nat) (μ1 : Mm), i + n = 2 → PC μ1 a i → Fr a (a + 528) μ μ1 → Rn G 6 kX8_init 47 [some (.ref a), some (.int (nI i))] [] μ1 (a + 422 + 53 * i) (53 * n) (528 * n) (rV fun μ' => PC μ' a 2 ∧ Fr a (a + 528) μ μ') := by
    intro n
    induction n with
    | zero =>
      intro i μ1 hi F1 z1
      obtain rfl : i = 2 := by omega
      have hO := F1.1
      have hR := F1.2.2.2.2.1
      refine Rn.iload_n (pc1 := 48)  dX8_init_47 rfl rfl rfl ?_
      refine Rn.aload_n (pc1 := 49)  dX8_init_48 rfl rfl rfl ?_
      refine Rn.getfield (pc1 := 52)  dX8_init_49 rfl fX8_32 (by first | assumption | exact mset_same | exact mget_ne (by omega) (by assumption) | exact mget_ne (by omega) mset_same) rfl ?_
      refine Rn.alen (pc1 := 53)  dX8_init_52 rfl (by first | assumption | exact mset_same | exact mget_ne (by omega) (by assumption) | exact mget_ne (by omega) mset_same) (fun _ => rfl) rfl ?_
      refine Rn.icmp_ge (pc1 := 56) 75 dX8_init_53 rfl (by decide) (fun c53 => ?_) (fun c53 => ?_)
      · exact Rn.vreturn dX8_init_75 rfl ⟨rfl, F1, z1⟩
      · exact absurd (nI_le (Nat.le_refl 2) (by decide)) c53
    | succ n ih =>
      intro i μ1 hi F1 z1
      have hO : _ = _ := F1.1
      have hR := F1.2.2.2.2.1
      rw [show 53 * (n + 1) = 53 * n + 52 + 1 by omega, show 528 * (n + 1) = 528 * n + 526 + 2 by omega]
      refine Rn.iload_n (pc1 := 48)  dX8_init_47 rfl rfl rfl ?_
      refine Rn.aload_n (pc1 := 49)  dX8_init_48 rfl rfl rfl ?_
      refine Rn.getfield (pc1 := 52)  dX8_init_49 rfl fX8_32 (by first | assumption | exact mset_same | exact mget_ne (by omega) (by assumption) | exact mget_ne (by omega) mset_same) rfl ?_
      refine Rn.alen (pc1 := 53)  dX8_init_52 rfl (by first | assumption | exact mset_same | exact mget_ne (by omega) (by assumption) | exact mget_ne (by omega) mset_same) (fun _ => rfl) rfl ?_
      refine Rn.icmp_ge (pc1 := 56) 75 dX8_init_53 rfl (by decide) (fun c53 => ?_) (fun c53 => ?_)
      · exact absurd c53 (nI_ge (show i < 2 by omega) (show (2 : Nat) < 2 ^ 31 by decide))
      · refine Rn.aload_n (pc1 := 57)  dX8_init_56 rfl rfl rfl ?_
        refine Rn.getfield (pc1 := 60)  dX8_init_57 rfl fX8_32 (by first | assumption | exact mset_same | exact mget_ne (by omega) (by assumption) | exact mget_ne (by omega) mset_same) rfl ?_
        refine Rn.iload_n (pc1 := 61)  dX8_init_60 rfl rfl rfl ?_
        refine Rn.newobj (pc1 := 64) (fs := [.int 0, .null]) (mc := 53 * n + 52) (ms := 528 * n + 526) (ci := 4) (N0 := 2) tyX4 dX8_init_61 rfl qX8_30 qins_X4 qini_X4 rfl inX4 tyX4_ok (by decide) ?_
        refine Rn.dup (pc1 := 65)  dX8_init_64 rfl rfl ?_
        refine Rn.cJ (pc1 := 68) (mc := 53 * n) (ms := 528 * n) (eX4_init (a := a + 422 + 53 * i) mset_same) dX8_init_65 rfl nX8_36 rfl oX4_init rfl rfl (Nat.le_of_ble_eq_true rfl) (by decide) (by decide) (by omega) (by omega) (fun μ65 h65 => ?_)
        obtain ⟨V, z⟩ := h65
        have F2 : PC μ65 a i := (F1.fr (Fr.set (a := a + 422 + 53 * i) (b := a + 422 + 53 * i + 3) (Nat.le_refl _) (by omega)) (by omega)).fr z (by omega)
        have z2 : Fr a (a + 528) μ μ65 := (z1.set_ (by omega) (by omega)).trans (z.wide (by omega) (by omega))
        refine Rn.aastore (pc1 := 69) (f' := fun q => if q < i + 1 then some (a + 422 + 53 * q) else none)  dX8_init_68 rfl F2.2.2.2.2.1 (fun _ => rfl) V.1 rfl (vp_nI (j := i) rfl (by omega) (by decide)) (by rw [nI_clamp (by omega)]; exact refs_s (s := fun q => a + 422 + 53 * q)) ?_
        refine Rn.iinc (pc1 := 72)  dX8_init_69 rfl rfl (nI_1 i) (by decide) rfl rfl ?_
        refine Rn.goto 47 dX8_init_72 (by decide) ?_
        have w : Fr (a + 421) (a + 422) μ65 (mset μ65 (a + 421) (refs 5 2 (fun q => if q < i + 1 then some (a + 422 + 53 * q) else none))) := Fr.set (by omega) (by omega)
        have N := ih (i + 1) _ (by omega) (show PC (mset μ65 (a + 421) (refs 5 2 (fun q => if q < i + 1 then some (a + 422 + 53 * q) else none))) a (i + 1) from by
          obtain ⟨p1, p2, p3, p4, p5, p6⟩ := F2
          refine ⟨(w _ (by omega)).trans p1, p2.fr w (by omega), p3.fr w (by omega), p4.fr w (by omega), mset_same, fun q hq => ?_⟩
          by_cases e : q = i
          · subst e; exact ⟨(w _ (by omega)).trans V.1, V.2.fr w (by omega)⟩
          · exact ⟨(w _ (by omega)).trans (p6 q (by omega)).1, (p6 q (by omega)).2.fr w (by omega)⟩) (z2.set_ (by omega) (by omega))
        rw [show a + 422 + 53 * (i + 1) = a + 422 + 53 * i + 1 + 52 by omega] at N
        exact N
  refine EvA.of (L := [some (.ref a), none]) (by decide +kernel) (Nat.le_of_ble_eq_true rfl) rfl ?_
  refine Rn.aload_n (pc1 := 1)  dX8_init_0 rfl rfl rfl ?_
  refine Rn.objInit (pc1 := 4) dX8_init_1 rfl qX8_1 (Nat.le_of_ble_eq_true rfl) (by decide) ?_
  refine Rn.aload_n (pc1 := 5)  dX8_init_4 rfl rfl rfl ?_
  refine Rn.newobj (pc1 := 8) (fs := [.int 0, .int 0, .int 0, .int 0, .int 0, .null, .null, .null, .null]) (mc := 526) (ms := 5352) (ci := 6) (N0 := 9) tyX6 dX8_init_5 rfl qX8_7 qins_X6 qini_X6 rfl inX6 tyX6_ok (by decide) ?_
  refine Rn.dup (pc1 := 9)  dX8_init_8 rfl rfl ?_
  refine Rn.cI (pc1 := 12) (mc := 475) (ms := 4835) (host := "") (eX6_init (a := a + 1) mset_same) dX8_init_9 rfl qX8_9 rfl oX6_init rfl rfl (Nat.le_of_ble_eq_true rfl) (by decide) (by decide) rfl rfl (fun μ9 h9 => ?_)
  obtain ⟨V1, z1⟩ := h9
  have hO1 := (z1 a (by omega)).trans ((mset_ne (by omega)).trans hO)
  refine Rn.putfield (pc1 := 15)  dX8_init_12 rfl pX8_10 (fun _ => rfl) (by first | assumption | exact mset_same | exact mget_ne (by omega) (by assumption) | exact mget_ne (by omega) mset_same) (Nat.le_of_ble_eq_true rfl) rfl rfl rfl ?_
  refine Rn.aload_n (pc1 := 16)  dX8_init_15 rfl rfl rfl ?_
  refine Rn.newobj (pc1 := 19) (fs := [.null, .int 0]) (mc := 474) (ms := 4833) (ci := 1) (N0 := 2) tyX1 dX8_init_16 rfl qX8_16 qins_X1 qini_X1 rfl inX1 tyX1_ok (by decide) ?_
  refine Rn.dup (pc1 := 20)  dX8_init_19 rfl rfl ?_
  refine Rn.cI (pc1 := 23) (mc := 109) (ms := 1144) (host := "") (eX1_init (a := a + 53) mset_same) dX8_init_20 rfl qX8_18 rfl oX1_init rfl rfl (Nat.le_of_ble_eq_true rfl) (by decide) (by decide) rfl rfl (fun μ20 h20 => ?_)
  obtain ⟨V2, z2⟩ := h20
  have hO2 := (z2 a (by omega)).trans ((mset_ne (by omega)).trans mset_same)
  refine Rn.putfield (pc1 := 26)  dX8_init_23 rfl pX8_19 (fun _ => rfl) (by first | assumption | exact mset_same | exact mget_ne (by omega) (by assumption) | exact mget_ne (by omega) mset_same) (Nat.le_of_ble_eq_true rfl) rfl rfl rfl ?_
  refine Rn.aload_n (pc1 := 27)  dX8_init_26 rfl rfl rfl ?_
  refine Rn.newobj (pc1 := 30) (fs := [.null, .int 0, .int 0, .int 0, .int 0, .int 0]) (mc := 108) (ms := 1138) (ci := 2) (N0 := 6) tyX2 dX8_init_27 rfl qX8_23 qins_X2 qini_X2 rfl inX2 tyX2_ok (by decide) ?_
  refine Rn.dup (pc1 := 31)  dX8_init_30 rfl rfl ?_
  refine Rn.cJ (pc1 := 34) (mc := 107) (ms := 1058) (eX2_init (a := a + 419) mset_same) dX8_init_31 rfl nX8_25 rfl oX2_init rfl rfl (Nat.le_of_ble_eq_true rfl) (by decide) (by decide) rfl rfl (fun μ31 h31 => ?_)
  obtain ⟨V3, z3⟩ := h31
  have hO3 := (z3 a (by omega)).trans ((mset_ne (by omega)).trans mset_same)
  refine Rn.putfield (pc1 := 37)  dX8_init_34 rfl pX8_26 (fun _ => rfl) (by first | assumption | exact mset_same | exact mget_ne (by omega) (by assumption) | exact mget_ne (by omega) mset_same) (Nat.le_of_ble_eq_true rfl) rfl rfl rfl ?_
  refine Rn.aload_n (pc1 := 38)  dX8_init_37 rfl rfl rfl ?_
  refine Rn.iconst (pc1 := 39) (v := nI 2) dX8_init_38 rfl (by decide) ?_
  refine Rn.newrefs (pc1 := 42) (n := 2) (t := 5) (mc := 106) (ms := 1056)  dX8_init_39 rfl qX8_30 (fun _ h => h.2.2.2) (fun _ => rfl) (by decide) (by decide) (by decide) ?_
  refine Rn.putfield (pc1 := 45)  dX8_init_42 rfl pX8_32 (fun _ => rfl) (by first | assumption | exact mset_same | exact mget_ne (by omega) (by assumption) | exact mget_ne (by omega) mset_same) (Nat.le_of_ble_eq_true rfl) rfl rfl rfl ?_
  refine Rn.iconst (pc1 := 46) (v := nI 0) dX8_init_45 rfl (by decide) ?_
  refine Rn.istore_n (pc1 := 47)  dX8_init_46 rfl rfl (by decide) rfl rfl ?_
  have p5 : ∀ (μ0 : Mm) (c : Cl), mset (mset μ0 (a + 421) (.inl (5, 2, .inr (.inr (.inr (.inr (fun _ => none))))))) a c (a + 421) = some (refs 5 2 (fun q => if q < 0 then some (a + 422 + 53 * q) else none)) := fun μ0 c => (mset_ne (by omega)).trans (mset_same.trans (by rw [refs_0 (s := fun q => a + 422 + 53 * q)]))
  exact loop 2 0 _ (by omega) ⟨mset_same, ((((((((V1.ne (by omega)).ne (by omega)).fr z2 (by omega)).ne (by omega)).ne (by omega)).fr z3 (by omega)).ne (by omega)).ne (by omega)).ne (by omega), (((((V2.ne (by omega)).ne (by omega)).fr z3 (by omega)).ne (by omega)).ne (by omega)).ne (by omega), ((V3.ne (by omega)).ne (by omega)).ne (by omega), p5 _ _, fun q hq => by omega⟩ (fun q hq => (mset_ne (by omega)).trans ((mset_ne (by omega)).trans ((mset_ne (by omega)).trans ((z3 q (by omega)).trans ((mset_ne (by omega)).trans ((mset_ne (by omega)).trans ((z2 q (by omega)).trans ((mset_ne (by omega)).trans ((mset_ne (by omega)).trans ((z1 q (by omega)).trans (by simp (disch := omega) only [mset_ne])))))))))))
end CTOR3
end
section
/-! ===== what holds of a feed: entries, table, floor; a place with its view ===== -/
theorem nI12 {a b : Nat} (ha : a < 12) (hb : b < 12) (h : nI a = nI b) : a = b := (nI_eq (by omega) (by omega)).mp h
theorem lastOf {P : Nat → Prop} : ∀ {h : Nat}, (∃ j, j < h ∧ P j) → ∃ L, L < h ∧ P L ∧ ∀ j, L < j → j < h → ¬ P j
  | 0, ⟨j, hj, _⟩ => absurd hj (Nat.not_lt_zero j)
  | h + 1, ⟨j, hj, pj⟩ => by
    by_cases q : P h
    · exact ⟨h, by omega, q, fun j h1 h2 => by omega⟩
    · have hjh : j < h := by
        by_cases e : j = h
        · subst e; exact absurd pj q
        · omega
      obtain ⟨L, l1, l2, l3⟩ := lastOf (h := h) ⟨j, hjh, pj⟩
      refine ⟨L, by omega, l2, fun i h1 h2 => ?_⟩
      by_cases e : i = h
      · subst e; exact q
      · exact l3 i h1 (by omega)
/-- table, keys and values of entries, their numbers and minutes; how many, the next number, the floor, the minute -/
def Co (T ky vl : Nat → Int32) (n t : Nat → Nat) (h N fl m : Nat) : Prop :=
  (∀ j, j < h → n j < N ∧ t j ≤ m) ∧ (∀ i j, i < j → j < h → n i < n j ∧ t i ≤ t j) ∧ (∀ j, j < h → ∃ k, k < 12 ∧ ky j = nI k) ∧ (∀ k, k < 12 → T k = -6 ∨ nI 0 ≤ T k) ∧ (∀ j k, j < h → k < 12 → ky j = nI k → (∀ j', j < j' → j' < h → ¬ ky j' = ky j) → T k = vl j) ∧ (∀ k, k < 12 → (∀ j, j < h → ¬ ky j = nI k) → T k = -6) ∧ fl ≤ N
/-- a place and a view -/
def GP (T ky : Nat → Int32) (n : Nat → Nat) (h N fl p : Nat) (v : Nat → Int32) : Prop :=
  p ≤ N ∧ (p = 0 → ∀ k, k < 12 → v k = -6) ∧ (p = 0 ∨ fl ≤ p → ∀ k, k < 12 → (∀ j, j < h → ky j = nI k → n j < p) → v k = T k)
section CO
variable {T T' ky ky' vl vl' v v' : Nat → Int32} {n n' t t' : Nat → Nat} {h h' N fl fl' m m' p : Nat}
theorem Co.congr (C : Co T ky vl n t h N fl m) (hm : m ≤ m') (eT : ∀ k, k < 12 → T' k = T k) (ej : ∀ j, j < h → ky' j = ky j ∧ vl' j = vl j ∧ n' j = n j ∧ t' j = t j) : Co T' ky' vl' n' t' h N fl m' := by
  obtain ⟨c1, c2, c3, c4, c5, c6, c7⟩ := C
  refine ⟨fun j hj => ?_, fun i j hij hj => ?_, fun j hj => ?_, fun q hq => ?_, fun j q hj hq hkq hl => ?_, fun q hq hno => ?_, c7⟩
  · rw [(ej j hj).2.2.1, (ej j hj).2.2.2]
    have := c1 j hj
    exact ⟨this.1, by omega⟩
  · rw [(ej j hj).2.2.1, (ej j hj).2.2.2, (ej i (by omega)).2.2.1, (ej i (by omega)).2.2.2]
    exact c2 i j hij hj
  · rw [(ej j hj).1]; exact c3 j hj
  · rw [eT q hq]; exact c4 q hq
  · rw [eT q hq, (ej j hj).2.1]
    refine c5 j q hj hq (by rw [← (ej j hj).1]; exact hkq) (fun j' h1 h2 => ?_)
    rw [← (ej j' h2).1, ← (ej j hj).1]; exact hl j' h1 h2
  · rw [eT q hq]
    exact c6 q hq (fun j hj => by rw [← (ej j hj).1]; exact hno j hj)
theorem GP.congr (H : GP T ky n h N fl p v) (eT : ∀ k, k < 12 → T' k = T k) (ek : ∀ j, j < h → ky' j = ky j ∧ n' j = n j) (ev : ∀ k, k < 12 → v' k = v k) : GP T' ky' n' h N fl p v' := by
  obtain ⟨h1, h2, h3⟩ := H
  refine ⟨h1, fun hp k hk => by rw [ev k hk]; exact h2 hp k hk, fun hp k hk hj => ?_⟩
  rw [ev k hk, eT k hk]
  exact h3 hp k hk (fun j hj2 hkj => by rw [← (ek j hj2).2]; exact hj j hj2 (by rw [(ek j hj2).1]; exact hkj))
theorem Co.set {k : Nat} (C : Co T ky vl n t h N fl m) (hk : k < 12) (eT : T' k = vl' h) (eT2 : ∀ q, q < 12 → q ≠ k → T' q = T q) (ev : T' k = -6 ∨ nI 0 ≤ T' k) (ek : ky' h = nI k) (en : n' h = N) (et : t' h = m) (ej : ∀ j, j < h → ky' j = ky j ∧ vl' j = vl j ∧ n' j = n j ∧ t' j = t j) : Co T' ky' vl' n' t' (h + 1) (N + 1) fl m := by
  obtain ⟨c1, c2, c3, c4, c5, c6, c7⟩ := C
  refine ⟨fun j hj => ?_, fun i j hij hj => ?_, fun j hj => ?_, fun q hq => ?_, fun j q hj hq hkq hl => ?_, fun q hq hno => ?_, by omega⟩
  · by_cases e : j = h
    · subst e; rw [en, et]; exact ⟨by omega, Nat.le_refl _⟩
    · rw [(ej j (by omega)).2.2.1, (ej j (by omega)).2.2.2]
      have := c1 j (by omega)
      exact ⟨by omega, this.2⟩
  · by_cases e : j = h
    · subst e; rw [en, et, (ej i hij).2.2.1, (ej i hij).2.2.2]; exact c1 i hij
    · rw [(ej j (by omega)).2.2.1, (ej j (by omega)).2.2.2, (ej i (by omega)).2.2.1, (ej i (by omega)).2.2.2]
      exact c2 i j hij (by omega)
  · by_cases e : j = h
    · subst e; exact ⟨k, hk, ek⟩
    · rw [(ej j (by omega)).1]; exact c3 j (by omega)
  · by_cases e : q = k
    · subst e; exact ev
    · rw [eT2 q hq e]; exact c4 q hq
  · by_cases e : j = h
    · subst e
      have := nI12 hk hq (ek.symm.trans hkq)
      subst this
      exact eT
    · have hne : q ≠ k := by
        rintro rfl
        exact hl h (by omega) (by omega) (ek.trans hkq.symm)
      rw [eT2 q hq hne, (ej j (by omega)).2.1]
      refine c5 j q (by omega) hq (by rw [← (ej j (by omega)).1]; exact hkq) (fun j' h1 h2 => ?_)
      rw [← (ej j' h2).1, ← (ej j (by omega)).1]
      exact hl j' h1 (by omega)
  · have hne : q ≠ k := by
      rintro rfl
      exact hno h (by omega) ek
    rw [eT2 q hq hne]
    exact c6 q hq (fun j hj => by rw [← (ej j hj).1]; exact hno j (by omega))
theorem GP.set {k : Nat} (H : GP T ky n h N fl p v) (eT2 : ∀ q, q < 12 → q ≠ k → T' q = T q) (ek : ky' h = nI k) (en : n' h = N) (ej : ∀ j, j < h → ky' j = ky j ∧ n' j = n j) : GP T' ky' n' (h + 1) (N + 1) fl p v := by
  obtain ⟨h1, h2, h3⟩ := H
  refine ⟨by omega, h2, fun hp q hq hj => ?_⟩
  have hne : q ≠ k := by
    rintro rfl
    have := hj h (by omega) ek
    omega
  rw [eT2 q hq hne]
  exact h3 hp q hq (fun j hj2 hkj => by rw [← (ej j hj2).2]; exact hj j (by omega) (by rw [(ej j hj2).1]; exact hkj))
theorem GP.zero (C : Co T ky vl n t h N fl m) (hv : ∀ k, k < 12 → v k = -6) : GP T ky n h N fl 0 v := by
  obtain ⟨c1, c2, c3, c4, c5, c6, c7⟩ := C
  refine ⟨Nat.zero_le _, fun _ => hv, fun _ k hk hj => ?_⟩
  rw [hv k hk, c6 k hk (fun j hj2 e => absurd (hj j hj2 e) (Nat.not_lt_zero _))]
theorem GP.now (C : Co T ky vl n t h N fl m) (hv : ∀ k, k < 12 → v k = T k) : GP T ky n h N fl N v := by
  obtain ⟨c1, c2, c3, c4, c5, c6, c7⟩ := C
  refine ⟨Nat.le_refl _, fun e k hk => ?_, fun _ k hk _ => hv k hk⟩
  rw [hv k hk]
  exact c6 k hk (fun j hj _ => by have := (c1 j hj).1; omega)
/-- what goes, and what stays of it: the entries j of the new feed were at s j -/
theorem thin_key {go : Nat → Bool} {k : Nat} (C : Co T ky vl n t h N fl m) (hk : k < 12) (g2 : ∀ i, i < h → go i = true → (∀ j, i < j → j < h → ¬ ky j = ky i) → vl i = -6 ∧ n i + 1 ≤ fl') (ex : ∃ j, j < h ∧ ky j = nI k) : ∃ L, L < h ∧ ky L = nI k ∧ (∀ j, L < j → j < h → ¬ ky j = nI k) ∧ (go L = false ∨ (go L = true ∧ T k = -6 ∧ n L + 1 ≤ fl')) := by
  obtain ⟨L, l1, l2, l3⟩ := lastOf ex
  refine ⟨L, l1, l2, l3, ?_⟩
  have hl : ∀ j, L < j → j < h → ¬ ky j = ky L := fun j h1 h2 => by rw [l2]; exact l3 j h1 h2
  cases hg : go L
  · exact Or.inl rfl
  · obtain ⟨e1, e2⟩ := g2 L l1 hg hl
    exact Or.inr ⟨rfl, (C.2.2.2.2.1 L k l1 hk l2 hl).trans e1, e2⟩
theorem Co.thin {go : Nat → Bool} {s : Nat → Nat} (C : Co T ky vl n t h N fl m) (g1 : ∀ i j j', i < j → j < h → go j = true → i < j' → j' < h → ky j' = ky i → go i = true) (g2 : ∀ i, i < h → go i = true → (∀ j, i < j → j < h → ¬ ky j = ky i) → vl i = -6 ∧ n i + 1 ≤ fl') (f2 : fl' ≤ N) (s1 : ∀ j, j < h' → s j < h ∧ go (s j) = false) (s2 : ∀ i j, i < j → j < h' → s i < s j) (s3 : ∀ i, i < h → go i = false → ∃ j, j < h' ∧ s j = i) (eT : ∀ k, k < 12 → T' k = T k) (ej : ∀ j, j < h' → ky' j = ky (s j) ∧ vl' j = vl (s j) ∧ n' j = n (s j) ∧ t' j = t (s j)) : Co T' ky' vl' n' t' h' N fl' m := by
  have C0 := C
  obtain ⟨c1, c2, c3, c4, c5, c6, c7⟩ := C
  refine ⟨fun j hj => ?_, fun i j hij hj => ?_, fun j hj => ?_, fun q hq => ?_, fun j q hj hq hkq hl => ?_, fun q hq hno => ?_, f2⟩
  · rw [(ej j hj).2.2.1, (ej j hj).2.2.2]; exact c1 _ (s1 j hj).1
  · rw [(ej j hj).2.2.1, (ej j hj).2.2.2, (ej i (by omega)).2.2.1, (ej i (by omega)).2.2.2]
    exact c2 _ _ (s2 i j hij hj) (s1 j hj).1
  · rw [(ej j hj).1]; exact c3 _ (s1 j hj).1
  · rw [eT q hq]; exact c4 q hq
  · obtain ⟨a1, a2⟩ := s1 j hj
    have hky : ky (s j) = nI q := by rw [← (ej j hj).1]; exact hkq
    rw [eT q hq, (ej j hj).2.1]
    refine c5 (s j) q a1 hq hky (fun j' h1 h2 e => ?_)
    obtain ⟨L, l1, l2, l3, l4⟩ := thin_key C0 hq g2 ⟨s j, a1, hky⟩
    have hL : s j < L := by
      by_cases z : L < j'
      · exact absurd (e.trans hky) (l3 j' z h2)
      · omega
    rcases l4 with l4 | ⟨l4, -, -⟩
    · obtain ⟨j2, b1, b2⟩ := s3 L l1 l4
      have hjj : j < j2 := by
        by_cases z : j2 < j
        · have := s2 j2 j z hj; omega
        · by_cases z2 : j2 = j
          · subst z2; omega
          · omega
      refine hl j2 hjj b1 ?_
      rw [(ej j2 b1).1, (ej j hj).1, b2, l2, hky]
    · rw [g1 (s j) L L hL l1 l4 hL l1 (l2.trans hky.symm)] at a2
      cases a2
  · rw [eT q hq]
    by_cases ex : ∃ j, j < h ∧ ky j = nI q
    · obtain ⟨L, l1, l2, l3, l4⟩ := thin_key C0 hq g2 ex
      rcases l4 with l4 | ⟨l4, l5, -⟩
      · obtain ⟨j2, b1, b2⟩ := s3 L l1 l4
        exact absurd ((ej j2 b1).1.trans (by rw [b2]; exact l2)) (hno j2 b1)
      · exact l5
    · exact c6 q hq (fun j hj e => ex ⟨j, hj, e⟩)
theorem GP.thin {go : Nat → Bool} {s : Nat → Nat} (H : GP T ky n h N fl p v) (C : Co T ky vl n t h N fl m) (g2 : ∀ i, i < h → go i = true → (∀ j, i < j → j < h → ¬ ky j = ky i) → vl i = -6 ∧ n i + 1 ≤ fl') (f1 : fl ≤ fl') (s3 : ∀ i, i < h → go i = false → ∃ j, j < h' ∧ s j = i) (eT : ∀ k, k < 12 → T' k = T k) (ej : ∀ j, j < h' → ky' j = ky (s j) ∧ n' j = n (s j)) : GP T' ky' n' h' N fl' p v := by
  obtain ⟨h1, h2, h3⟩ := H
  refine ⟨h1, h2, fun hp k hk hj => ?_⟩
  rw [eT k hk]
  by_cases ex : ∃ j, j < h ∧ ky j = nI k ∧ p ≤ n j
  · obtain ⟨j0, a1, a2, a3⟩ := ex
    obtain ⟨L, l1, l2, l3, l4⟩ := thin_key C hk g2 ⟨j0, a1, a2⟩
    have hn : n j0 ≤ n L := by
      by_cases z : j0 < L
      · have := (C.2.1 j0 L z l1).1; omega
      · by_cases z2 : j0 = L
        · subst z2; exact Nat.le_refl _
        · exact absurd a2 (l3 j0 (by omega) a1)
    rcases l4 with l4 | ⟨l4, l5, l6⟩
    · obtain ⟨j2, b1, b2⟩ := s3 L l1 l4
      have := hj j2 b1 (by rw [(ej j2 b1).1, b2]; exact l2)
      rw [(ej j2 b1).2, b2] at this
      omega
    · have p0 : p = 0 := by omega
      rw [h2 p0 k hk, l5]
  · refine h3 (by omega) k hk (fun j hj2 e => ?_)
    by_cases z : n j < p
    · exact z
    · exact absurd ⟨j, hj2, e, by omega⟩ ex
theorem vwN_spec {k : Nat} {w : Nat → Int32} (c3 : ∀ j, j < h → ∃ q, q < 12 ∧ ky j = nI q) {q : Nat} (hq : q < 12) : ∀ c, k + c ≤ h → (∃ i, k ≤ i ∧ i < k + c ∧ ky i = nI q ∧ (∀ j, i < j → j < k + c → ¬ ky j = nI q) ∧ vwN ky vl w k c q = vl i) ∨ ((∀ j, k ≤ j → j < k + c → ¬ ky j = nI q) ∧ vwN ky vl w k c q = w q)
  | 0, _ => Or.inr ⟨fun j h1 h2 => by omega, rfl⟩
  | c + 1, hc => by
    obtain ⟨q', hq', e'⟩ := c3 (k + c) (by omega)
    have ee : vwN ky vl w k (c + 1) q = if q = q' then vl (k + c) else vwN ky vl w k c q := by
      show upd _ _ _ q = _
      rw [e', nI_clamp (by omega)]; rfl
    by_cases hqq : q = q'
    · subst hqq
      exact Or.inl ⟨k + c, by omega, by omega, e', fun j h1 h2 => by omega, by rw [ee, if_pos rfl]⟩
    · rw [ee, if_neg hqq]
      have hne : ¬ ky (k + c) = nI q := fun z => hqq (nI12 hq hq' (z.symm.trans e'))
      rcases vwN_spec (k := k) (w := w) c3 hq c (by omega) with ⟨i, i1, i2, i3, i4, i5⟩ | ⟨i1, i2⟩
      · refine Or.inl ⟨i, i1, by omega, i3, fun j h1 h2 => ?_, i5⟩
        by_cases z : j = k + c
        · rw [z]; exact hne
        · exact i4 j h1 (by omega)
      · refine Or.inr ⟨fun j h1 h2 => ?_, i2⟩
        by_cases z : j = k + c
        · rw [z]; exact hne
        · exact i1 j h1 (by omega)
theorem GP.read {k c : Nat} (H : GP T ky n h N fl p v) (C : Co T ky vl n t h N fl m) (hkc : k + (c + 1) ≤ h) (k2 : ∀ j, j < k → n j < p) (hp0 : p = 0 ∨ fl ≤ p) (hv : ∀ q, q < 12 → v' q = vwN ky vl v k (c + 1) q) : GP T ky n h N fl (n (k + c) + 1) v' := by
  obtain ⟨h1, h2, h3⟩ := H
  obtain ⟨c1, c2, c3, c4, c5, c6, c7⟩ := C
  have hN := (c1 (k + c) (by omega)).1
  refine ⟨by omega, fun e => by omega, fun _ q hq hj => ?_⟩
  have far : ∀ j, k + (c + 1) ≤ j → j < h → ¬ ky j = nI q := fun j a1 a2 e => by
    have b1 := hj j a2 e
    have b2 := (c2 (k + c) j (by omega) a2).1
    omega
  rw [hv q hq]
  rcases vwN_spec (vl := vl) (w := v) c3 hq (c + 1) hkc with ⟨i, i1, i2, i3, i4, i5⟩ | ⟨i1, i2⟩
  · rw [i5]
    refine (c5 i q (by omega) hq i3 (fun j a1 a2 e => ?_)).symm
    by_cases z : j < k + (c + 1)
    · exact i4 j a1 z (e.trans i3)
    · exact far j (by omega) a2 (e.trans i3)
  · rw [i2]
    refine h3 hp0 q hq (fun j a1 e => ?_)
    by_cases z : j < k
    · exact k2 j z
    · by_cases z2 : j < k + (c + 1)
      · exact absurd e (i1 j (by omega) z2)
      · exact absurd e (far j (by omega) a1)
end CO
theorem kept_mem {p : Nat → Bool} : ∀ {n i : Nat}, i ∈ kept p n ↔ i < n ∧ p i = false
  | 0, i => ⟨fun q => absurd q List.not_mem_nil, fun q => absurd q.1 (Nat.not_lt_zero i)⟩
  | n + 1, i => by
    unfold kept
    by_cases hp : p n = true
    · rw [if_pos hp, kept_mem (n := n)]
      constructor
      · rintro ⟨h1, h2⟩; exact ⟨by omega, h2⟩
      · rintro ⟨h1, h2⟩
        refine ⟨?_, h2⟩
        by_cases e : i = n
        · subst e; rw [hp] at h2; cases h2
        · omega
    · rw [if_neg hp, List.mem_append, kept_mem (n := n), List.mem_singleton]
      constructor
      · rintro (⟨h1, h2⟩ | rfl)
        · exact ⟨by omega, h2⟩
        · exact ⟨by omega, by simpa using hp⟩
      · rintro ⟨h1, h2⟩
        by_cases e : i = n
        · exact Or.inr e
        · exact Or.inl ⟨by omega, h2⟩
end
section
/-! ===== the law's invariant of a flat row, and that each change keeps it ===== -/
def PG (f : Nat → Int32) (n : Nat → Nat) (h N fl pa va : Nat) : Prop := ∃ p, f pa = nI p ∧ GP (fun k => f (9 + k)) (e1 f) n h N fl p (fun k => f (va + k))
def JL (f : Nat → Int32) (h B N : Nat) (n t : Nat → Nat) (g fl m : Nat) : Prop := (N ≤ B ∧ f 3 = nI N ∧ f 5 = nI g ∧ h + g = N ∧ f 4 = nI fl ∧ f 2 = nI m ∧ m ≤ 99999) ∧ (∀ j, j < h → e0 f j = nI (n j) ∧ e3 f j = nI (t j)) ∧ Co (fun k => f (9 + k)) (e1 f) (e2 f) n t h N fl m
def JV (f : Nat → Int32) (h rc sc B : Nat) : Prop := ∃ (N : Nat) (n t : Nat → Nat) (g fl m : Nat), JL f h B N n t g fl m ∧ (∀ i, i < rc → PG f n h N fl (261 + 27 * i) (261 + 27 * i + 3) ∧ PG f n h N fl (261 + 27 * i + 1) (261 + 27 * i + 15)) ∧ (∀ i, i < sc → PG f n h N fl (423 + 13 * i) (423 + 13 * i + 1)) ∧ (∀ i, i + 1 < sc → f (423 + 13 * (i + 1)) ≤ f (423 + 13 * i))
section KEEP
variable {f f' : Nat → Int32} {h rc sc B N g fl m : Nat} {n t : Nat → Nat}
theorem JL.to (J : JL f h B N n t g fl m) (hh : h ≤ 60) (q : ∀ j, 2 ≤ j → j < 261 → j ≠ 6 → j ≠ 7 → j ≠ 8 → f' j = f j) : JL f' h B N n t g fl m := by
  obtain ⟨⟨a1, a2, a3, a4, a5, a6, a7⟩, e, c⟩ := J
  refine ⟨⟨a1, (q 3 (by omega) (by omega) (by omega) (by omega) (by omega)).trans a2, (q 5 (by omega) (by omega) (by omega) (by omega) (by omega)).trans a3, a4, (q 4 (by omega) (by omega) (by omega) (by omega) (by omega)).trans a5, (q 2 (by omega) (by omega) (by omega) (by omega) (by omega)).trans a6, a7⟩, fun j hj => ⟨(q (21 + 4 * j) (by omega) (by omega) (by omega) (by omega) (by omega)).trans (e j hj).1, (q (21 + 4 * j + 3) (by omega) (by omega) (by omega) (by omega) (by omega)).trans (e j hj).2⟩, c.congr (Nat.le_refl _) (fun k hk => q (9 + k) (by omega) (by omega) (by omega) (by omega) (by omega)) (fun j hj => ⟨q (21 + 4 * j + 1) (by omega) (by omega) (by omega) (by omega) (by omega), q (21 + 4 * j + 2) (by omega) (by omega) (by omega) (by omega) (by omega), rfl, rfl⟩)⟩
theorem PG.to {pa va pa' va' : Nat} (H : PG f n h N fl pa va) (hh : h ≤ 60) (q : ∀ j, 9 ≤ j → j < 261 → f' j = f j) (e1 : f' pa' = f pa) (e2 : ∀ k, k < 12 → f' (va' + k) = f (va + k)) : PG f' n h N fl pa' va' := by
  obtain ⟨p, p1, p2⟩ := H
  exact ⟨p, e1.trans p1, p2.congr (fun k hk => q (9 + k) (by omega) (by omega)) (fun j hj => ⟨q (21 + 4 * j + 1) (by omega) (by omega), rfl⟩) e2⟩
/-- a reader's pairs are others, all else stays -/
theorem JV.rd {i : Nat} (J : JV f h rc sc B) (hh : h ≤ 60) (hrc : rc ≤ 6) (hi : i < rc) (q : ∀ j, j < 261 + 27 * i ∨ 261 + 27 * i + 27 ≤ j → f' j = f j) (k : ∀ (N : Nat) (n t : Nat → Nat) (g fl m : Nat), JL f h B N n t g fl m → (∀ i, i < rc → PG f n h N fl (261 + 27 * i) (261 + 27 * i + 3) ∧ PG f n h N fl (261 + 27 * i + 1) (261 + 27 * i + 15)) → (∀ i, i < sc → PG f n h N fl (423 + 13 * i) (423 + 13 * i + 1)) → PG f' n h N fl (261 + 27 * i) (261 + 27 * i + 3) ∧ PG f' n h N fl (261 + 27 * i + 1) (261 + 27 * i + 15)) : JV f' h rc sc B := by
  obtain ⟨N, n, t, g, fl, m, j, r, s, d⟩ := J
  refine ⟨N, n, t, g, fl, m, j.to hh (fun j _ h2 _ _ _ => q j (by omega)), fun x hx => ?_, fun x hx => (s x hx).to hh (fun j _ h2 => q j (by omega)) (q _ (by omega)) (fun k hk => q _ (by omega)), fun x hx => by rw [q _ (by omega), q _ (by omega)]; exact d x hx⟩
  by_cases e : x = i
  · subst e; exact k N n t g fl m j r s
  · exact ⟨(r x hx).1.to hh (fun j _ h2 => q j (by omega)) (q _ (by omega)) (fun k hk => q _ (by omega)), (r x hx).2.to hh (fun j _ h2 => q j (by omega)) (q _ (by omega)) (fun k hk => q _ (by omega))⟩
theorem JV.mono {B' : Nat} (J : JV f h rc sc B) (hB : B ≤ B') : JV f h rc sc B' := by
  obtain ⟨N, n, t, g, fl, m, ⟨⟨a1, a2⟩, e⟩, r⟩ := J
  exact ⟨N, n, t, g, fl, m, ⟨⟨by omega, a2⟩, e⟩, r⟩
theorem JV.turn {k : Nat} {v : Int32} (J : JV f h rc sc B) (hh : h ≤ 60) (hk : k < 2) : JV (upd f k v) h rc sc B := by
  obtain ⟨N, n, t, g, fl, m, j, r, s, d⟩ := J
  have q : ∀ j, 2 ≤ j → upd f k v j = f j := fun j h1 => upd_ne (by omega)
  exact ⟨N, n, t, g, fl, m, j.to hh (fun j h1 h2 _ _ _ => q j h1), fun x hx => ⟨(r x hx).1.to hh (fun j h1 h2 => q j (by omega)) (q _ (by omega)) (fun k hk => q _ (by omega)), (r x hx).2.to hh (fun j h1 h2 => q j (by omega)) (q _ (by omega)) (fun k hk => q _ (by omega))⟩, fun x hx => (s x hx).to hh (fun j h1 h2 => q j (by omega)) (q _ (by omega)) (fun k hk => q _ (by omega)), fun x hx => by rw [q _ (by omega), q _ (by omega)]; exact d x hx⟩
theorem JV.pass {v : Int32} (J : JV f h rc sc B) (hh : h ≤ 60) (V : NV f rc sc) (hm : mayPassF f v = nI 0) : JV (upd f 2 (f 2 + v)) h rc sc B := by
  obtain ⟨N, n, t, g, fl, m, ⟨⟨a1, a2, a3, a4, a5, a6, a7⟩, e, c⟩, r, s, d⟩ := J
  obtain ⟨m', b1, b2⟩ := passF_ok V hm
  have hle : m ≤ m' := by
    have hin : inB v (nI 1) (nI 999) = true := by
      unfold mayPassF at hm
      split at hm
      · assumption
      · exact absurd hm (by decide)
    unfold inB at hin
    rw [Bool.and_eq_true, decide_eq_true_eq, decide_eq_true_eq] at hin
    obtain ⟨w, hw, rfl⟩ := nI_of (x := v) (fun z => by
      have h0 : (nI 1 : Int32) < 0 := Int32.lt_of_le_of_lt hin.1 z
      exact absurd h0 (by decide))
    have hw2 := (nI_leI hw (by omega)).mp hin.2
    rw [a6, nI_add] at b2
    have := (nI_eq (by omega) (by omega)).mp b2
    omega
  have q : ∀ j, j ≠ 2 → upd f 2 (f 2 + v) j = f j := fun j h1 => upd_ne h1
  refine ⟨N, n, t, g, fl, m', ⟨⟨a1, (q 3 (by omega)).trans a2, (q 5 (by omega)).trans a3, a4, (q 4 (by omega)).trans a5, (upd_at rfl).trans b2, b1⟩, fun j hj => ⟨(q _ (by omega)).trans (e j hj).1, (q _ (by omega)).trans (e j hj).2⟩, c.congr hle (fun k hk => q _ (by omega)) (fun j hj => ⟨q _ (by omega), q _ (by omega), rfl, rfl⟩)⟩, fun x hx => ⟨(r x hx).1.to hh (fun j h1 h2 => q j (by omega)) (q _ (by omega)) (fun k hk => q _ (by omega)), (r x hx).2.to hh (fun j h1 h2 => q j (by omega)) (q _ (by omega)) (fun k hk => q _ (by omega))⟩, fun x hx => (s x hx).to hh (fun j h1 h2 => q j (by omega)) (q _ (by omega)) (fun k hk => q _ (by omega)), fun x hx => by rw [q _ (by omega), q _ (by omega)]; exact d x hx⟩
-- an entry comes
theorem setsF_out {k j : Nat} {v : Int32} (h1 : j ≠ 3) (h2 : j ≠ 6) (h3 : j ≠ 9 + k) (h4 : j < 21 + 4 * h ∨ 21 + 4 * h + 4 ≤ j) : setsF f h k v j = f j := by
  unfold setsF
  rw [upd_ne (by omega), upd_ne (by omega), upd_ne (by omega), upd_ne (by omega), upd_ne (by omega), upd_ne (by omega), upd_ne (by omega)]
theorem JV.sets {k : Nat} {v : Int32} (J : JV f h rc sc B) (hk : k < 12) (hh : h < 60) (hv : v = -6 ∨ nI 0 ≤ v) : JV (setsF f h k v) (h + 1) rc sc (B + 1) := by
  obtain ⟨N, n, t, g, fl, m, ⟨⟨a1, a2, a3, a4, a5, a6, a7⟩, e, c⟩, r, s, d⟩ := J
  have x0 : setsF f h k v (21 + 4 * h) = f 3 := by
    unfold setsF
    rw [upd_ne (by omega), upd_ne (by omega), upd_ne (by omega), upd_ne (by omega), upd_ne (by omega), upd_ne (by omega), upd_at rfl]
  have x1 : setsF f h k v (21 + 4 * h + 1) = nI k := by
    unfold setsF
    rw [upd_ne (by omega), upd_ne (by omega), upd_ne (by omega), upd_ne (by omega), upd_ne (by omega), upd_at rfl]
  have x2 : setsF f h k v (21 + 4 * h + 2) = v := by
    unfold setsF
    rw [upd_ne (by omega), upd_ne (by omega), upd_ne (by omega), upd_ne (by omega), upd_at rfl]
  have x3 : setsF f h k v (21 + 4 * h + 3) = f 2 := by
    unfold setsF
    rw [upd_ne (by omega), upd_ne (by omega), upd_ne (by omega), upd_at rfl]
  have xk : setsF f h k v (9 + k) = v := by
    unfold setsF
    rw [upd_ne (by omega), upd_at rfl]
  have xn : setsF f h k v 3 = f 3 + nI 1 := by
    unfold setsF
    rw [upd_at rfl]
  have eT : ∀ q, q < 12 → q ≠ k → setsF f h k v (9 + q) = f (9 + q) := fun q hq hne => setsF_out (by omega) (by omega) (by omega) (by omega)
  have ej : ∀ j w, j < h → w < 4 → setsF f h k v (21 + 4 * j + w) = f (21 + 4 * j + w) := fun j w hj hw => setsF_out (by omega) (by omega) (by omega) (by omega)
  have up : ∀ {pa va : Nat}, 261 ≤ pa → 261 ≤ va → PG f n h N fl pa va → PG (setsF f h k v) (fun j => if j = h then N else n j) (h + 1) (N + 1) fl pa va := by
    rintro pa va h1 h2 ⟨p, p1, p2⟩
    refine ⟨p, (setsF_out (by omega) (by omega) (by omega) (by omega)).trans p1, ?_⟩
    have p3 := p2.set (T' := fun q => setsF f h k v (9 + q)) (ky' := e1 (setsF f h k v)) (n' := fun j => if j = h then N else n j) (k := k) eT x1 (if_pos rfl) (fun j hj => ⟨ej j 1 hj (by omega), if_neg (by omega)⟩)
    exact p3.congr (fun _ _ => rfl) (fun _ _ => ⟨rfl, rfl⟩) (fun q hq => setsF_out (by omega) (by omega) (by omega) (by omega))
  refine ⟨N + 1, fun j => if j = h then N else n j, fun j => if j = h then m else t j, g, fl, m, ⟨⟨by omega, by rw [xn, a2, nI_add], (setsF_out (by omega) (by omega) (by omega) (by omega)).trans a3, by omega, (setsF_out (by omega) (by omega) (by omega) (by omega)).trans a5, (setsF_out (by omega) (by omega) (by omega) (by omega)).trans a6, a7⟩, fun j hj => ?_, ?_⟩, fun x hx => ⟨up (by omega) (by omega) (r x hx).1, up (by omega) (by omega) (r x hx).2⟩, fun x hx => up (by omega) (by omega) (s x hx), fun x hx => by rw [setsF_out (by omega) (by omega) (by omega) (by omega), setsF_out (by omega) (by omega) (by omega) (by omega)]; exact d x hx⟩
  · by_cases z : j = h
    · subst z
      refine ⟨?_, ?_⟩
      · show setsF f j k v (21 + 4 * j) = nI (if j = j then N else n j)
        rw [x0, a2, if_pos rfl]
      · show setsF f j k v (21 + 4 * j + 3) = nI (if j = j then m else t j)
        rw [x3, a6, if_pos rfl]
    · refine ⟨?_, ?_⟩
      · show setsF f h k v (21 + 4 * j) = nI (if j = h then N else n j)
        rw [if_neg z]; exact (ej j 0 (by omega) (by omega)).trans (e j (by omega)).1
      · show setsF f h k v (21 + 4 * j + 3) = nI (if j = h then m else t j)
        rw [if_neg z]; exact (ej j 3 (by omega) (by omega)).trans (e j (by omega)).2
  · exact c.set (k := k) hk (xk.trans x2.symm) eT (by show setsF f h k v (9 + k) = -6 ∨ nI 0 ≤ setsF f h k v (9 + k); rw [xk]; exact hv) x1 (if_pos rfl) (if_pos rfl) (fun j hj => ⟨ej j 1 hj (by omega), ej j 2 hj (by omega), if_neg (by omega), if_neg (by omega)⟩)
-- readers
theorem confF_out {i j : Nat} (h1 : j < 261 + 27 * i ∨ 261 + 27 * i + 27 ≤ j) : confF f i j = f j := by unfold confF; rw [upd_ne (by omega), blk_out (by omega)]
theorem JV.conf {i : Nat} (J : JV f h rc sc B) (hh : h ≤ 60) (hrc : rc ≤ 6) (hi : i < rc) : JV (confF f i) h rc sc B := by
  refine J.rd hh hrc hi (fun j hj => confF_out hj) (fun N n t g fl m j r s => ?_)
  have q : ∀ j, 9 ≤ j → j < 261 → confF f i j = f j := fun j _ h2 => confF_out (by omega)
  refine ⟨(r i hi).1.to hh q ?_ (fun k hk => ?_), (r i hi).1.to hh q ?_ (fun k hk => ?_)⟩
  · unfold confF; rw [upd_ne (by omega), blk_out (by omega)]
  · unfold confF; rw [upd_ne (by omega), blk_out (by omega)]
  · unfold confF; rw [upd_at rfl]
  · unfold confF; rw [upd_ne (by omega), blk_in rfl hk]
theorem backF_out {i j : Nat} (h1 : j < 261 + 27 * i ∨ 261 + 27 * i + 27 ≤ j) : backF f i j = f j := by unfold backF; rw [upd_ne (by omega), blk_out (by omega)]
theorem JV.back {i : Nat} (J : JV f h rc sc B) (hh : h ≤ 60) (hrc : rc ≤ 6) (hi : i < rc) : JV (backF f i) h rc sc B := by
  refine J.rd hh hrc hi (fun j hj => backF_out hj) (fun N n t g fl m j r s => ?_)
  have q : ∀ j, 9 ≤ j → j < 261 → backF f i j = f j := fun j _ h2 => backF_out (by omega)
  refine ⟨(r i hi).2.to hh q ?_ (fun k hk => ?_), (r i hi).2.to hh q ?_ (fun k hk => ?_)⟩
  · unfold backF; rw [upd_at rfl]
  · unfold backF; rw [upd_ne (by omega), blk_in rfl hk]
  · unfold backF; rw [upd_ne (by omega), blk_out (by omega)]
  · unfold backF; rw [upd_ne (by omega), blk_out (by omega)]
theorem beginF_out {i j : Nat} {pl : Int32} {vw : Nat → Int32} (h1 : j < 261 + 27 * i ∨ 261 + 27 * i + 27 ≤ j) : beginF f i pl vw j = f j := by unfold beginF; rw [blk_out (by omega), blk_out (by omega), upd_ne (by omega), upd_ne (by omega)]
theorem beginF_at {i : Nat} {pl : Int32} {vw : Nat → Int32} : (beginF f i pl vw (261 + 27 * i) = pl ∧ beginF f i pl vw (261 + 27 * i + 1) = pl) ∧ ∀ k, k < 12 → beginF f i pl vw (261 + 27 * i + 3 + k) = vw k ∧ beginF f i pl vw (261 + 27 * i + 15 + k) = vw k := by
  refine ⟨⟨?_, ?_⟩, fun k hk => ⟨?_, ?_⟩⟩
  · unfold beginF; rw [blk_out (by omega), blk_out (by omega), upd_ne (by omega), upd_at rfl]
  · unfold beginF; rw [blk_out (by omega), blk_out (by omega), upd_at rfl]
  · unfold beginF; rw [blk_out (by omega), blk_in rfl hk]
  · unfold beginF; rw [blk_in rfl hk]
/-- a pair put to a reader, in a row that is alike below -/
theorem PG.begin {i p : Nat} {pl : Int32} {vw : Nat → Int32} (hh : h ≤ 60) (H : GP (fun k => f (9 + k)) (e1 f) n h N fl p vw) (hp : pl = nI p) : PG (beginF f i pl vw) n h N fl (261 + 27 * i) (261 + 27 * i + 3) ∧ PG (beginF f i pl vw) n h N fl (261 + 27 * i + 1) (261 + 27 * i + 15) := by
  obtain ⟨⟨b1, b2⟩, b3⟩ := beginF_at (f := f) (i := i) (pl := pl) (vw := vw)
  exact ⟨⟨p, b1.trans hp, H.congr (fun k hk => beginF_out (by omega)) (fun j hj => ⟨beginF_out (by omega), rfl⟩) (fun k hk => (b3 k hk).1)⟩, ⟨p, b2.trans hp, H.congr (fun k hk => beginF_out (by omega)) (fun j hj => ⟨beginF_out (by omega), rfl⟩) (fun k hk => (b3 k hk).2)⟩⟩
theorem JV.anew {i : Nat} (J : JV f h rc sc B) (hh : h ≤ 60) (hrc : rc ≤ 6) (hi : i < rc) : JV (beginF f i (nI 0) (fun _ => -6)) h rc sc B :=
  J.rd hh hrc hi (fun j hj => beginF_out hj) (fun N n t g fl m j r s => PG.begin hh (GP.zero j.2.2 (fun _ _ => rfl)) rfl)
theorem JV.load {i x : Nat} (J : JV f h rc sc B) (hh : h ≤ 60) (hrc : rc ≤ 6) (hi : i < rc) (hx : x < sc) : JV (beginF f i (f (423 + 13 * x)) (fun k => f (423 + 13 * x + 1 + k))) h rc sc B :=
  J.rd hh hrc hi (fun j hj => beginF_out hj) (fun N n t g fl m j r s => by
    obtain ⟨p, p1, p2⟩ := s x hx
    exact PG.begin hh p2 p1)
theorem JV.come (J : JV f h rc sc B) (hh : h ≤ 60) (hr : rc < 6) : JV (comeF f rc) h (rc + 1) sc B := by
  obtain ⟨N, n, t, g, fl, m, j, r, s, d⟩ := J
  have q : ∀ j, j ≠ 7 → (j < 261 + 27 * rc ∨ 261 + 27 * rc + 27 ≤ j) → comeF f rc j = f j := fun j h1 h2 => by
    unfold comeF
    rw [upd_ne h1, beginF_out h2, upd_ne (by omega)]
  have q9 : ∀ j, 9 ≤ j → j < 261 → comeF f rc j = f j := fun j h1 h2 => q j (by omega) (by omega)
  refine ⟨N, n, t, g, fl, m, j.to hh (fun j _ h2 _ h4 _ => q j h4 (by omega)), fun x hx => ?_, fun x hx => (s x hx).to hh q9 (q _ (by omega) (by omega)) (fun k hk => q _ (by omega) (by omega)), fun x hx => by rw [q _ (by omega) (by omega), q _ (by omega) (by omega)]; exact d x hx⟩
  by_cases e : x = rc
  · subst e
    have G0 := GP.zero (v := fun _ => -6) j.2.2 (fun _ _ => rfl)
    have G1 : GP (fun k => upd f (261 + 27 * x + 2) (nI 0) (9 + k)) (e1 (upd f (261 + 27 * x + 2) (nI 0))) n h N fl 0 (fun _ => -6) := G0.congr (fun k hk => upd_ne (by omega)) (fun j hj => ⟨upd_ne (by omega), rfl⟩) (fun _ _ => rfl)
    have G2 := PG.begin (i := x) hh G1 rfl
    have z : ∀ j, j ≠ 7 → comeF f x j = beginF (upd f (261 + 27 * x + 2) (nI 0)) x (nI 0) (fun _ => -6) j := fun j hj => upd_ne hj
    exact ⟨G2.1.to hh (fun j h1 h2 => z j (by omega)) (z _ (by omega)) (fun k hk => z _ (by omega)), G2.2.to hh (fun j h1 h2 => z j (by omega)) (z _ (by omega)) (fun k hk => z _ (by omega))⟩
  · exact ⟨(r x (by omega)).1.to hh q9 (q _ (by omega) (by omega)) (fun k hk => q _ (by omega) (by omega)), (r x (by omega)).2.to hh q9 (q _ (by omega) (by omega)) (fun k hk => q _ (by omega) (by omega))⟩
theorem JV.shot (J : JV f h rc sc B) (hh : h ≤ 60) (hrc : rc ≤ 6) (hsc : sc ≤ 4) (hB : B < 2 ^ 30) : JV (shotF f sc) h rc (if sc < 4 then sc + 1 else sc) B := by
  obtain ⟨N, n, t, g, fl, m, j, r, s, d⟩ := J
  have q : ∀ j, j ≠ 8 → j < 423 → shotF f sc j = f j := fun j h1 h2 => by
    unfold shotF
    rw [upd_ne h1, blk_out (by omega), upd_ne (by omega), blk_out (by omega)]
  have q9 : ∀ j, 9 ≤ j → j < 261 → shotF f sc j = f j := fun j h1 h2 => q j (by omega) (by omega)
  have x0 : shotF f sc 423 = f 3 := by
    unfold shotF
    rw [upd_ne (by omega), blk_out (by omega), upd_at rfl]
  have x1 : ∀ k, k < 12 → shotF f sc (424 + k) = f (9 + k) := fun k hk => by
    unfold shotF
    rw [upd_ne (by omega), blk_in rfl hk]
  have x2 : ∀ y, y < 39 → shotF f sc (436 + y) = f (423 + y) := fun y hy => by
    unfold shotF
    rw [upd_ne (by omega), blk_out (by omega), upd_ne (by omega), blk_in rfl hy]
  have hsm : ∀ x, x + 1 < (if sc < 4 then sc + 1 else sc) → x < sc ∧ x < 3 := fun x hx => by split at hx <;> omega
  have z0 : ∀ y, y < 3 → shotF f sc (423 + 13 * (y + 1)) = f (423 + 13 * y) := fun y hy => by
    rw [show 423 + 13 * (y + 1) = 436 + 13 * y by omega, x2 _ (by omega)]
  have z1 : ∀ y k, y < 3 → k < 12 → shotF f sc (423 + 13 * (y + 1) + 1 + k) = f (423 + 13 * y + 1 + k) := fun y k hy hk => by
    have := x2 (13 * y + 1 + k) (by omega)
    rw [show 436 + (13 * y + 1 + k) = 423 + 13 * (y + 1) + 1 + k by omega, show 423 + (13 * y + 1 + k) = 423 + 13 * y + 1 + k by omega] at this
    exact this
  refine ⟨N, n, t, g, fl, m, j.to hh (fun j _ h2 _ _ h5 => q j h5 (by omega)), fun x hx => ⟨(r x hx).1.to hh q9 (q _ (by omega) (by omega)) (fun k hk => q _ (by omega) (by omega)), (r x hx).2.to hh q9 (q _ (by omega) (by omega)) (fun k hk => q _ (by omega) (by omega))⟩, fun x hx => ?_, fun x hx => ?_⟩
  · cases x with
    | zero =>
      have G0 := GP.now (v := fun k => f (9 + k)) j.2.2 (fun _ _ => rfl)
      exact ⟨N, x0.trans j.1.2.1, G0.congr (fun k hk => q9 _ (by omega) (by omega)) (fun j hj => ⟨q9 _ (by omega) (by omega), rfl⟩) (fun k hk => x1 k hk)⟩
    | succ y =>
      obtain ⟨h1, h2⟩ := hsm y hx
      exact (s y h1).to hh q9 (z0 y h2) (fun k hk => z1 y k h2 hk)
  · obtain ⟨h1, h2⟩ := hsm x hx
    rw [z0 x h2]
    cases x with
    | zero =>
      obtain ⟨p, p1, p2⟩ := s 0 h1
      show f (423 + 13 * 0) ≤ shotF f sc 423
      rw [p1, x0, j.1.2.1]
      exact nI_le p2.1 (by have := j.1.1; omega)
    | succ y =>
      rw [z0 y (by omega)]
      exact d y (by omega)
end KEEP
end
section
/-! ===== thinning and reading keep it ===== -/
section KEEP2
variable {f : Nat → Int32} {h rc sc B N g fl m : Nat} {n t : Nat → Nat}
theorem closB_mono {a b s : Nat} (hab : a ≤ b) (hbN : b < N) (hN : N < 2 ^ 31) (hs : 0 < s) (hs2 : s < 2 ^ 31) (h : closB (nI b) (nI N) (nI s) = true) : closB (nI a) (nI N) (nI s) = true := by
  unfold closB at h ⊢
  rw [pk_div (by omega) hs hs2, pk_div hN hs hs2] at h
  rw [pk_div (by omega) hs hs2, pk_div hN hs hs2]
  have d1 : a / s ≤ b / s := Nat.div_le_div_right hab
  have d2 : b / s ≤ N / s := Nat.div_le_div_right (by omega)
  have d3 : N / s ≤ N := Nat.div_le_self _ _
  rw [Bool.not_eq_true', decide_eq_false_iff_not, nI_eq (by omega) (by omega)] at h
  rw [Bool.not_eq_true', decide_eq_false_iff_not, nI_eq (by omega) (by omega)]
  omega
theorem floorN_spec {p q : Nat → Bool} {g0 : Nat → Int32} (hg : ∀ i, i < h → g0 i = nI (n i) ∧ n i < N) (hfl : fl ≤ N) (hN : N < 2 ^ 30) : ∀ x, x ≤ h → ∃ F, floorN p q g0 (nI fl) x = nI F ∧ fl ≤ F ∧ F ≤ N ∧ ∀ i, i < x → q i = true → p i = true → n i + 1 ≤ F
  | 0, _ => ⟨fl, rfl, Nat.le_refl _, hfl, fun i hi => absurd hi (Nat.not_lt_zero _)⟩
  | x + 1, hx => by
    obtain ⟨F, f1, f2, f3, f4⟩ := floorN_spec (p := p) (q := q) (g0 := g0) hg hfl hN x (by omega)
    obtain ⟨k1, k2⟩ := hg x (by omega)
    unfold floorN
    rw [f1, k1, nI_add]
    by_cases c : q x = true ∧ p x = true
    · rw [if_pos c]
      by_cases c2 : nI F < nI (n x + 1)
      · rw [if_pos c2]
        have := (nI_ltI (by omega) (by omega)).mp c2
        refine ⟨n x + 1, rfl, by omega, by omega, fun i hi h1 h2 => ?_⟩
        by_cases e : i = x
        · subst e; omega
        · have := f4 i (by omega) h1 h2; omega
      · rw [if_neg c2]
        refine ⟨F, rfl, f2, f3, fun i hi h1 h2 => ?_⟩
        by_cases e : i = x
        · subst e
          by_cases z : n i + 1 ≤ F
          · exact z
          · exact absurd (nI_lt (show F < n i + 1 by omega) (by omega)) c2
        · exact f4 i (by omega) h1 h2
    · rw [if_neg c]
      refine ⟨F, rfl, f2, f3, fun i hi h1 h2 => ?_⟩
      by_cases e : i = x
      · subst e; exact absurd ⟨h1, h2⟩ c
      · exact f4 i (by omega) h1 h2
theorem thinF_out {s mi : Int32} {j : Nat} (h4 : j ≠ 4) (h5 : j ≠ 5) (h6 : j ≠ 6) (hj : j < 21 ∨ 21 + 4 * leftF f h s mi ≤ j) : thinF f h s mi j = f j := by
  unfold thinF
  rw [if_neg h4, if_neg h5, if_neg h6, if_neg (by omega)]
theorem JV.thin {s : Nat} (J : JV f h rc sc B) (hh : h ≤ 60) (hB : B < 2 ^ 30) (hs : 1 ≤ s) (hs2 : s ≤ 20) (hf : f 0 = nI s) : JV (thinF f h (f 0) (f 2)) (leftF f h (f 0) (f 2)) rc sc B := by
  obtain ⟨N, n, t, g, fl, m, ⟨⟨a1, a2, a3, a4, a5, a6, a7⟩, e, c⟩, r, s', d⟩ := J
  have hle : leftF f h (f 0) (f 2) ≤ h := leftN_le _ _
  have hlen : (kept (pF f h (f 0) (f 2)) h).length = leftF f h (f 0) (f 2) := kept_len _ _
  have hn : ∀ i, i < h → e0 f i = nI (n i) ∧ n i < N := fun i hi => ⟨(e i hi).1, (c.1 i hi).1⟩
  obtain ⟨F, k1, k2, k3, k4⟩ := floorN_spec (p := pF f h (f 0) (f 2)) (q := fun i => lastB (e1 f) i h) (g0 := e0 f) hn c.2.2.2.2.2.2 (by omega) h (Nat.le_refl _)
  have un : ∀ i, i < h → pF f h (f 0) (f 2) i = true → closB (nI (n i)) (nI N) (nI s) = true ∧ (lastB (e1 f) i h = false ∨ e2 f i = -6) := by
    intro i hi hp
    unfold pF goB at hp
    rw [Bool.and_eq_true, Bool.or_eq_true, (e i hi).1, a2, hf] at hp
    refine ⟨hp.1, ?_⟩
    rcases hp.2 with h1 | h1
    · left; simpa using h1
    · right
      unfold oldB at h1
      rw [Bool.and_eq_true, decide_eq_true_eq] at h1
      exact h1.1
  have g1 : ∀ i j j', i < j → j < h → pF f h (f 0) (f 2) j = true → i < j' → j' < h → e1 f j' = e1 f i → pF f h (f 0) (f 2) i = true := by
    intro i j j' hij hj hp h1 h2 h3
    have hcl := closB_mono (Nat.le_of_lt (c.2.1 i j hij hj).1) (c.1 j hj).1 (by omega) (by omega) (by omega) (un j hj hp).1
    have hla : lastB (e1 f) i h = false := by
      cases z : lastB (e1 f) i h
      · rfl
      · exact absurd h3 (lastB_iff.mp z j' h1 h2)
    show goB h (f 3) (f 0) (f 1) (f 2) (e0 f) (e1 f) (e2 f) (e3 f) i = true
    unfold goB
    rw [(e i (by omega)).1, a2, hf, hcl, hla]
    rfl
  have g2 : ∀ i, i < h → pF f h (f 0) (f 2) i = true → (∀ j, i < j → j < h → ¬ e1 f j = e1 f i) → e2 f i = -6 ∧ n i + 1 ≤ F := by
    intro i hi hp hl
    have hla : lastB (e1 f) i h = true := lastB_iff.mpr hl
    refine ⟨?_, k4 i hi hla hp⟩
    rcases (un i hi hp).2 with z | z
    · rw [hla] at z; cases z
    · exact z
  have sx : ∀ j, j < leftF f h (f 0) (f 2) → (kept (pF f h (f 0) (f 2)) h)[j]? = some ((kept (pF f h (f 0) (f 2)) h).getD j 0) := fun j hj => by
    rw [List.getD_eq_getElem?_getD, List.getElem?_eq_getElem (by omega)]
    rfl
  have s1 : ∀ j, j < leftF f h (f 0) (f 2) → (kept (pF f h (f 0) (f 2)) h).getD j 0 < h ∧ pF f h (f 0) (f 2) ((kept (pF f h (f 0) (f 2)) h).getD j 0) = false := fun j hj => kept_mem.mp (List.mem_of_getElem? (sx j hj))
  have s2 : ∀ i j, i < j → j < leftF f h (f 0) (f 2) → (kept (pF f h (f 0) (f 2)) h).getD i 0 < (kept (pF f h (f 0) (f 2)) h).getD j 0 := fun i j hij hj => kept_mono (sx i (by omega)) (sx j hj) hij
  have s3 : ∀ i, i < h → pF f h (f 0) (f 2) i = false → ∃ j, j < leftF f h (f 0) (f 2) ∧ (kept (pF f h (f 0) (f 2)) h).getD j 0 = i := by
    intro i hi hp
    obtain ⟨j, hj⟩ := List.getElem?_of_mem (kept_mem.mpr ⟨hi, hp⟩)
    have hj2 := (List.getElem?_eq_some_iff.mp hj).1
    refine ⟨j, by omega, ?_⟩
    rw [List.getD_eq_getElem?_getD, hj]
    rfl
  have ev : ∀ j w, j < leftF f h (f 0) (f 2) → w < 4 → thinF f h (f 0) (f 2) (21 + 4 * j + w) = f (21 + 4 * ((kept (pF f h (f 0) (f 2)) h).getD j 0) + w) := by
    intro j w hj hw
    obtain ⟨q, q1, q2, q3⟩ := thinF_e (f := f) (h := h) (s := f 0) (mi := f 2) hj hw
    rw [q3]
    have := (sx j hj).symm.trans q1
    rw [Option.some.inj this]
  have qh : ∀ j, 261 ≤ j → thinF f h (f 0) (f 2) j = f j := fun j hj => thinF_out (by omega) (by omega) (by omega) (by omega)
  have eT : ∀ k, k < 12 → thinF f h (f 0) (f 2) (9 + k) = f (9 + k) := fun k hk => thinF_out (by omega) (by omega) (by omega) (by omega)
  have up : ∀ {pa va : Nat}, 261 ≤ pa → 261 ≤ va → PG f n h N fl pa va → PG (thinF f h (f 0) (f 2)) (fun j => n ((kept (pF f h (f 0) (f 2)) h).getD j 0)) (leftF f h (f 0) (f 2)) N F pa va := by
    rintro pa va h1 h2 ⟨p, p1, p2⟩
    refine ⟨p, (qh _ h1).trans p1, ?_⟩
    have p3 := p2.thin (T' := fun q => thinF f h (f 0) (f 2) (9 + q)) (ky' := e1 (thinF f h (f 0) (f 2))) (n' := fun j => n ((kept (pF f h (f 0) (f 2)) h).getD j 0)) c g2 k2 s3 eT (fun j hj => ⟨ev j 1 hj (by omega), rfl⟩)
    exact p3.congr (fun _ _ => rfl) (fun _ _ => ⟨rfl, rfl⟩) (fun q hq => qh _ (by omega))
  have x4 : thinF f h (f 0) (f 2) 4 = nI F := by
    unfold thinF
    rw [if_pos rfl]
    show floorN _ _ _ (f 4) h = _
    rw [a5]; exact k1
  have x5 : thinF f h (f 0) (f 2) 5 = nI (g + (h - leftF f h (f 0) (f 2))) := by
    unfold thinF
    rw [if_neg (by omega), if_pos rfl, a3, nI_add]
  refine ⟨N, fun j => n ((kept (pF f h (f 0) (f 2)) h).getD j 0), fun j => t ((kept (pF f h (f 0) (f 2)) h).getD j 0), g + (h - leftF f h (f 0) (f 2)), F, m, ⟨⟨a1, (thinF_out (by omega) (by omega) (by omega) (by omega)).trans a2, x5, by omega, x4, (thinF_out (by omega) (by omega) (by omega) (by omega)).trans a6, a7⟩, fun j hj => ?_, ?_⟩, fun x hx => ⟨up (by omega) (by omega) (r x hx).1, up (by omega) (by omega) (r x hx).2⟩, fun x hx => up (by omega) (by omega) (s' x hx), fun x hx => by rw [qh _ (by omega), qh _ (by omega)]; exact d x hx⟩
  · exact ⟨(ev j 0 hj (by omega)).trans (e _ (s1 j hj).1).1, (ev j 3 hj (by omega)).trans (e _ (s1 j hj).1).2⟩
  · exact c.thin g1 g2 k3 s1 s2 s3 eT (fun j hj => ⟨ev j 1 hj (by omega), ev j 2 hj (by omega), rfl, rfl⟩)
theorem cntA_at {p : Nat} (hn : ∀ j, j < h → e0 f j = nI (n j) ∧ n j < N) (hm : ∀ i j, i < j → j < h → n i < n j) (hp : p ≤ N) (hN : N < 2 ^ 31) : ∀ x, x ≤ h → ∃ K, K ≤ x ∧ (∀ j, j < K → n j < p) ∧ (∀ j, K ≤ j → j < x → p ≤ n j) ∧ cntA f (nI p) x = x - K
  | 0, _ => ⟨0, Nat.le_refl _, fun j hj => absurd hj (Nat.not_lt_zero _), fun j _ hj => absurd hj (Nat.not_lt_zero _), rfl⟩
  | x + 1, hx => by
    obtain ⟨K, k1, k2, k3, k4⟩ := cntA_at hn hm hp hN x (by omega)
    obtain ⟨b1, b2⟩ := hn x (by omega)
    have ee : cntA f (nI p) (x + 1) = cntA f (nI p) x + if nI p ≤ nI (n x) then 1 else 0 := by
      rw [← b1]; rfl
    by_cases z : p ≤ n x
    · refine ⟨K, by omega, k2, fun j h1 h2 => ?_, by rw [ee, if_pos (nI_le z (by omega)), k4]; omega⟩
      by_cases e : j = x
      · subst e; exact z
      · exact k3 j h1 (by omega)
    · have hK : K = x := by
        by_cases e : K = x
        · exact e
        · have h1 := k3 K (Nat.le_refl _) (by omega)
          have h2 := hm K x (by omega) (by omega)
          omega
      refine ⟨x + 1, Nat.le_refl _, fun j hj => ?_, fun j h1 h2 => by omega, by rw [ee, if_neg (nI_ge (by omega) (by omega)), k4]; omega⟩
      by_cases e : j = x
      · subst e; omega
      · exact k2 j (by omega)
theorem readF_out {i k c j : Nat} (h1 : j < 261 + 27 * i ∨ 261 + 27 * i + 27 ≤ j) : readF f i k c j = f j := by unfold readF; rw [upd_ne (by omega), upd_ne (by omega), blk_out (by omega)]
theorem lateB_f {p fl : Nat} (hp : p < 2 ^ 31) (hfl : fl < 2 ^ 31) (h : lateB (nI p) (nI fl) = false) : p = 0 ∨ fl ≤ p := by
  unfold lateB at h
  by_cases z : p = 0
  · exact Or.inl z
  · right
    rw [decide_eq_true (nI_lt (by omega) hp), Bool.true_and, decide_eq_false_iff_not, nI_ltI hp hfl] at h
    omega
theorem lateB_t {p fl : Nat} (hp : p < 2 ^ 31) (hfl : fl < 2 ^ 31) (h : lateB (nI p) (nI fl) = true) : 0 < p ∧ p < fl := by
  unfold lateB at h
  rw [Bool.and_eq_true, decide_eq_true_eq, decide_eq_true_eq, nI_ltI (by omega) hp, nI_ltI hp hfl] at h
  exact h
theorem JV.read {i M : Nat} (J : JV f h rc sc B) (hh : h ≤ 60) (hrc : rc ≤ 6) (hB : B < 2 ^ 30) (hi : i < rc) (hl : lateB (f (261 + 27 * i)) (f 4) = false) : JV (readF f i (rdK f h i) (rdC f h i M)) h rc sc B := by
  refine J.rd hh hrc hi (fun j hj => readF_out hj) (fun N n t g fl m j r s => ?_)
  obtain ⟨⟨a1, a2, a3, a4, a5, a6, a7⟩, e, c⟩ := j
  obtain ⟨p, p1, p2⟩ := (r i hi).1
  obtain ⟨K, k1, k2, k3, k4⟩ := cntA_at (fun j hj => ⟨(e j hj).1, (c.1 j hj).1⟩) (fun i j h1 h2 => (c.2.1 i j h1 h2).1) p2.1 (by omega) h (Nat.le_refl _)
  have hK : rdK f h i = K := by show h - cntA f (f (261 + 27 * i)) h = K; rw [p1, k4]; omega
  have hC : K + rdC f h i M ≤ h := by
    have : rdC f h i M ≤ cntA f (f (261 + 27 * i)) h := Nat.min_le_right _ _
    rw [p1, k4] at this
    omega
  have hfl := c.2.2.2.2.2.2
  have hp0 := p2.1
  rw [p1, a5] at hl
  have hp := lateB_f (by omega) (by omega) hl
  rw [hK]
  generalize rdC f h i M = C at hC
  have q9 : ∀ j, 9 ≤ j → j < 261 → readF f i K C j = f j := fun j h1 h2 => readF_out (by omega)
  have v1 : readF f i K C (261 + 27 * i) = plN (e0 f) (f (261 + 27 * i)) K C := by unfold readF; rw [upd_ne (by omega), upd_at rfl]
  have v2 : ∀ k, k < 12 → readF f i K C (261 + 27 * i + 3 + k) = vwN (e1 f) (e2 f) (fun q => f (261 + 27 * i + 3 + q)) K C k := fun k hk => by unfold readF; rw [upd_ne (by omega), upd_ne (by omega), blk_in rfl hk]
  refine ⟨?_, (r i hi).2.to hh q9 (by unfold readF; rw [upd_ne (by omega), upd_ne (by omega), blk_out (by omega)]) (fun k hk => by unfold readF; rw [upd_ne (by omega), upd_ne (by omega), blk_out (by omega)])⟩
  cases C with
  | zero => exact (r i hi).1.to hh q9 v1 v2
  | succ C =>
    have G0 := p2.read (v' := fun k => readF f i K (C + 1) (261 + 27 * i + 3 + k)) c hC k2 hp v2
    refine ⟨n (K + C) + 1, ?_, G0.congr (fun k hk => q9 _ (by omega) (by omega)) (fun j hj => ⟨q9 _ (by omega) (by omega), rfl⟩) (fun _ _ => rfl)⟩
    rw [v1]
    show e0 f (K + C) + nI 1 = _
    rw [(e (K + C) (by omega)).1, nI_add]
/-- a new object's row -/
theorem f9_jv : JV f9 0 0 0 0 := by
  have x : ∀ j, j ≠ 0 → j ≠ 1 → (j < 9 ∨ 21 ≤ j) → f9 j = nI 0 := fun j h0 h1 h2 => f9_at h0 h1 h2
  have v : ∀ k, k < 12 → f9 (9 + k) = -6 := fun k hk => by
    unfold f9
    rw [blk_in rfl hk]
  refine ⟨0, fun _ => 0, fun _ => 0, 0, 0, 0, ⟨⟨Nat.le_refl _, x 3 (by omega) (by omega) (by omega), x 5 (by omega) (by omega) (by omega), rfl, x 4 (by omega) (by omega) (by omega), x 2 (by omega) (by omega) (by omega), by omega⟩, fun j hj => absurd hj (Nat.not_lt_zero _), ?_⟩, fun i hi => absurd hi (Nat.not_lt_zero _), fun i hi => absurd hi (Nat.not_lt_zero _), fun i hi => absurd hi (Nat.not_lt_zero _)⟩
  exact ⟨fun j hj => absurd hj (Nat.not_lt_zero _), fun i j _ hj => absurd hj (Nat.not_lt_zero _), fun j hj => absurd hj (Nat.not_lt_zero _), fun k hk => Or.inl (v k hk), fun j k hj => absurd hj (Nat.not_lt_zero _), fun k hk _ => v k hk, Nat.le_refl _⟩
end KEEP2
end
section
/-! ===== the changes as the law calls them keep the invariant ===== -/
def JVf (f : Nat → Int32) (B : Nat) : Prop := JV f (hF f) (rF f) (sF f) B
section JO
variable {f f' : Nat → Int32} {h rc sc B a : Nat} {μ : Mm}
theorem JV.fin (J : JV f h rc sc B) (I : IV f h rc sc B) : JVf f B := by
  obtain ⟨e1, e2, e3⟩ := I.h
  unfold JVf
  rw [e1, e2, e3]
  exact J
theorem JVf.get (J : JVf f B) (I : IV f h rc sc B) : JV f h rc sc B := by
  obtain ⟨e1, e2, e3⟩ := I.h
  unfold JVf at J
  rw [e1, e2, e3] at J
  exact J
theorem JVf.mono {B' : Nat} (J : JVf f B) (h : B ≤ B') : JVf f B' := JV.mono J h
theorem jO_set {s v : Int32} (F : ST μ a f B) (J : JVf f B) (hm : maySetF (hF f) s v = nI 0) : JVf (setsF f (hF f) s.toNatClampNeg v) (B + 1) := by
  obtain ⟨h, rc, sc, -, I⟩ := F
  rw [I.h.1] at hm ⊢
  have J := J.get I
  unfold maySetF at hm
  split at hm
  · rename_i h1
    split at hm
    · rename_i h2
      split at hm
      · exact absurd hm (by decide)
      · rename_i h3
        obtain ⟨k, hk, rfl⟩ := inB_nI (by decide) h1
        rw [nI_clamp (by omega)]
        have hh : h < 60 := by have := I.2.1.1; omega
        exact (J.sets (by omega) hh (Or.inr (le_of_in0 h2))).fin (I.sets (by omega) hh)
    · exact absurd hm (by decide)
  · exact absurd hm (by decide)
theorem jO_remove {s : Int32} (F : ST μ a f B) (J : JVf f B) (hm : mayRemoveF f (hF f) s = nI 0) : JVf (setsF f (hF f) s.toNatClampNeg (-6)) (B + 1) := by
  obtain ⟨h, rc, sc, -, I⟩ := F
  rw [I.h.1] at hm ⊢
  have J := J.get I
  unfold mayRemoveF at hm
  split at hm
  · rename_i h1
    split at hm
    · exact absurd hm (by decide)
    · rename_i h3
      obtain ⟨k, hk, rfl⟩ := inB_nI (by decide) h1
      rw [nI_clamp (by omega)]
      have hh : h < 60 := by have := I.2.1.1; omega
      exact (J.sets (by omega) hh (Or.inl rfl)).fin (I.sets (by omega) hh)
  · exact absurd hm (by decide)
theorem jO_pass {s : Int32} (F : ST μ a f B) (J : JVf f B) (hm : mayPassF f s = nI 0) : JVf (upd f 2 (f 2 + s)) (B + 1) := by
  obtain ⟨h, rc, sc, -, I⟩ := F
  have J := J.get I
  exact ((J.pass I.2.1.1 I.nv hm).fin (I.pass hm)).mono (by omega)
theorem jO_turn {s v : Int32} (F : ST μ a f B) (J : JVf f B) (hm : mayTurnF s v = nI 0) : JVf (upd f s.toNatClampNeg v) (B + 1) := by
  obtain ⟨h, rc, sc, -, I⟩ := F
  have J := J.get I
  have hs : s = nI 0 ∨ s = nI 1 := by
    unfold mayTurnF at hm
    split at hm
    · left; assumption
    · split at hm
      · rename_i h2; exact Or.inr h2.1
      · exact absurd hm (by decide)
  rcases hs with rfl | rfl
  · rw [nI_clamp (by omega)]
    exact ((J.turn I.2.1.1 (by omega)).fin (I.turn hm (by omega))).mono (by omega)
  · rw [nI_clamp (by omega)]
    exact ((J.turn I.2.1.1 (by omega)).fin (I.turn hm (by omega))).mono (by omega)
theorem jO_thin (hB : B < 2 ^ 30) (F : ST μ a f B) (J : JVf f B) : JVf (thinF f (hF f) (f 0) (f 2)) (B + 1) := by
  obtain ⟨h, rc, sc, -, I⟩ := F
  rw [I.h.1]
  have J := J.get I
  obtain ⟨s, s1, s2, s3⟩ := I.2.2.1
  exact ((J.thin I.2.1.1 hB s1 s2 s3).fin I.thin).mono (by omega)
theorem jO_shot (hB : B < 2 ^ 30) (F : ST μ a f B) (J : JVf f B) : JVf (shotF f (sF f)) (B + 1) := by
  obtain ⟨h, rc, sc, -, I⟩ := F
  rw [I.h.2.2]
  have J := J.get I
  exact ((J.shot I.2.1.1 I.2.1.2.1 I.2.1.2.2 hB).fin (I.shot hB)).mono (by omega)
theorem jO_come (F : ST μ a f B) (J : JVf f B) (hm : mayComeF (rF f) = nI 0) : JVf (comeF f (rF f)) (B + 1) := by
  obtain ⟨h, rc, sc, -, I⟩ := F
  rw [I.h.2.1] at hm ⊢
  have J := J.get I
  unfold mayComeF at hm
  split at hm
  · exact absurd hm (by decide)
  · have hr : rc < 6 := by have := I.2.1.2.1; omega
    exact ((J.come I.2.1.1 hr).fin (I.come hr)).mono (by omega)
theorem isRd_of {r : Int32} (hrc : rc ≤ 6) (hm : mayIsF rc r = nI 0) : ∃ i, i < rc ∧ r = nI i := by
  unfold mayIsF at hm
  split at hm
  · rename_i h1; exact isRdB_t (by omega) h1
  · exact absurd hm (by decide)
theorem jO_conf {r : Int32} (F : ST μ a f B) (J : JVf f B) (hm : mayIsF (rF f) r = nI 0) : JVf (confF f r.toNatClampNeg) (B + 1) := by
  obtain ⟨h, rc, sc, -, I⟩ := F
  rw [I.h.2.1] at hm
  have J := J.get I
  obtain ⟨i, hi, rfl⟩ := isRd_of I.2.1.2.1 hm
  rw [nI_clamp (by have := I.2.1.2.1; omega)]
  exact ((J.conf I.2.1.1 I.2.1.2.1 hi).fin (I.conf hi)).mono (by omega)
theorem jO_back {r : Int32} (F : ST μ a f B) (J : JVf f B) (hm : mayIsF (rF f) r = nI 0) : JVf (backF f r.toNatClampNeg) (B + 1) := by
  obtain ⟨h, rc, sc, -, I⟩ := F
  rw [I.h.2.1] at hm
  have J := J.get I
  obtain ⟨i, hi, rfl⟩ := isRd_of I.2.1.2.1 hm
  rw [nI_clamp (by have := I.2.1.2.1; omega)]
  exact ((J.back I.2.1.1 I.2.1.2.1 hi).fin (I.back hi)).mono (by omega)
theorem jO_anew {r : Int32} (F : ST μ a f B) (J : JVf f B) (hm : mayIsF (rF f) r = nI 0) : JVf (beginF f r.toNatClampNeg (nI 0) (fun _ => -6)) (B + 1) := by
  obtain ⟨h, rc, sc, -, I⟩ := F
  rw [I.h.2.1] at hm
  have J := J.get I
  obtain ⟨i, hi, rfl⟩ := isRd_of I.2.1.2.1 hm
  rw [nI_clamp (by have := I.2.1.2.1; omega)]
  exact ((J.anew I.2.1.1 I.2.1.2.1 hi).fin (I.begin hi (nI_le (Nat.le_refl 0) (by omega)))).mono (by omega)
theorem jO_load {r s : Int32} (F : ST μ a f B) (J : JVf f B) (hm : mayLoadF f (rF f) (sF f) r s = nI 0) : JVf (beginF f r.toNatClampNeg (f (423 + 13 * s.toNatClampNeg)) (fun k => f (423 + 13 * s.toNatClampNeg + 1 + k))) (B + 1) := by
  obtain ⟨h, rc, sc, -, I⟩ := F
  rw [I.h.2.1, I.h.2.2] at hm
  have J := J.get I
  unfold mayLoadF at hm
  split at hm
  · rename_i h1
    obtain ⟨i, hi, rfl⟩ := isRdB_t (by have := I.2.1.2.1; omega) h1.1
    obtain ⟨x, hx, rfl⟩ := isRdB_t (by have := I.2.1.2.2; omega) h1.2
    rw [nI_clamp (by have := I.2.1.2.1; omega), nI_clamp (by have := I.2.1.2.2; omega)]
    exact ((J.load I.2.1.1 I.2.1.2.1 hi hx).fin (I.begin hi (I.nv.2.2.2 x hx))).mono (by omega)
  · exact absurd hm (by decide)
theorem jO_read {r m : Int32} (hB : B < 2 ^ 30) (F : ST μ a f B) (J : JVf f B) (hm : mayReadF f (rF f) r m = nI 0) : JVf (readF f r.toNatClampNeg (rdK f (hF f) r.toNatClampNeg) (rdC f (hF f) r.toNatClampNeg m.toNatClampNeg)) (B + 1) := by
  obtain ⟨h, rc, sc, -, I⟩ := F
  rw [I.h.2.1] at hm
  rw [I.h.1]
  have J := J.get I
  unfold mayReadF at hm
  split at hm
  · rename_i h1
    obtain ⟨i, hi, rfl⟩ := isRdB_t (by have := I.2.1.2.1; omega) h1
    rw [nI_clamp (by have := I.2.1.2.1; omega)] at hm
    rw [nI_clamp (by have := I.2.1.2.1; omega)]
    split at hm
    · split at hm
      · exact absurd hm (by decide)
      · rename_i h3
        have hl : lateB (f (261 + 27 * i)) (f 4) = false := by simpa using h3
        refine ((J.read I.2.1.1 I.2.1.2.1 hB hi hl).fin (I.read hB hi ?_)).mono (by omega)
        have c1 := cntA_le f (f (261 + 27 * i)) h
        have c2 : rdC f h i m.toNatClampNeg ≤ cntA f (f (261 + 27 * i)) h := Nat.min_le_right _ _
        show h - cntA f (f (261 + 27 * i)) h + _ ≤ h
        omega
    · exact absurd hm (by decide)
  · exact absurd hm (by decide)
end JO
/-- what is known of a feed at a row -/
def FA (f : Nat → Int32) (h rc sc B N : Nat) (n t : Nat → Nat) (g fl m : Nat) : Prop := (h ≤ 60 ∧ rc ≤ 6 ∧ sc ≤ 4 ∧ B < 2 ^ 30) ∧ (hF f = h ∧ rF f = rc ∧ sF f = sc) ∧ (f 6 = nI h ∧ f 7 = nI rc ∧ f 8 = nI sc) ∧ JL f h B N n t g fl m ∧ (∀ i, i < rc → PG f n h N fl (261 + 27 * i) (261 + 27 * i + 3) ∧ PG f n h N fl (261 + 27 * i + 1) (261 + 27 * i + 15)) ∧ (∀ i, i < sc → PG f n h N fl (423 + 13 * i) (423 + 13 * i + 1)) ∧ (∀ i, i + 1 < sc → f (423 + 13 * (i + 1)) ≤ f (423 + 13 * i))
theorem FA.of {μ : Mm} {a B : Nat} {f : Nat → Int32} (hB : B < 2 ^ 30) (F : ST μ a f B) (J : JVf f B) : ∃ h rc sc N n t g fl m, FA f h rc sc B N n t g fl m := by
  obtain ⟨h, rc, sc, -, I⟩ := F
  obtain ⟨N, n, t, g, fl, m, j, r, s, d⟩ := J.get I
  exact ⟨h, rc, sc, N, n, t, g, fl, m, ⟨I.2.1.1, I.2.1.2.1, I.2.1.2.2, hB⟩, I.h, I.1, j, r, s, d⟩
section KQ
variable {G : GG} {μ : Mm} {sz x held len B : Nat} {f : Nat → Int32} {P : Nat → Nat → Int32} {Pp : Nat → Int32} {u : Nat → Bool} {S : Nat → Nat → Int32} {y : Int32}
theorem k_cnt {w : Nat} (C : CW μ x f held P Pp len u S B) (hw : w ≤ 12) (hy : countW f len held w = y) : EvA G 6 kX8_count [.ref x, .int (nI w)] μ sz 0 0 (rI fun v μ' => v = y ∧ μ' = μ) := by
  refine (eX8_count C).imp ?_
  rintro r μ' ⟨v, rfl, rfl, rfl⟩
  refine ⟨_, rfl, ?_, rfl⟩
  unfold countQ
  rw [if_pos (inB_of hw (by omega)), nI_clamp (by omega)]
  exact hy
theorem k_ent {e w : Nat} (C : CW μ x f held P Pp len u S B) (hh : hF f ≤ 60) (he : e < hF f) (hw : w ≤ 5) (hy : entryW f (hF f) e w = y) : EvA G 6 kX8_entry [.ref x, .int (nI e), .int (nI w)] μ sz 0 0 (rI fun v μ' => v = y ∧ μ' = μ) := by
  refine (eX8_entry C).imp ?_
  rintro r μ' ⟨v, rfl, rfl, rfl⟩
  refine ⟨_, rfl, ?_, rfl⟩
  unfold entryQ
  rw [if_pos (isRdB_of (by omega) he), if_pos (inB_of hw (by omega)), nI_clamp (by omega), nI_clamp (by omega)]
  exact hy
theorem k_tab {k : Nat} (C : CW μ x f held P Pp len u S B) (hk : k < 12) (hy : f (9 + k) = y) : EvA G 6 kX8_table [.ref x, .int (nI k)] μ sz 0 0 (rI fun v μ' => v = y ∧ μ' = μ) := by
  refine (eX8_table C).imp ?_
  rintro r μ' ⟨v, rfl, rfl, rfl⟩
  refine ⟨_, rfl, ?_, rfl⟩
  unfold tableQ
  rw [if_pos (inB_of (show k ≤ 11 by omega) (by omega)), nI_clamp (by omega)]
  exact hy
theorem k_view {r k : Nat} (C : CW μ x f held P Pp len u S B) (hrc : rF f ≤ 6) (hr : r < rF f) (hk : k < 12) (hy : f (261 + 27 * r + 3 + k) = y) : EvA G 6 kX8_view [.ref x, .int (nI r), .int (nI k)] μ sz 0 0 (rI fun v μ' => v = y ∧ μ' = μ) := by
  refine (eX8_view C).imp ?_
  rintro r μ' ⟨v, rfl, rfl, rfl⟩
  refine ⟨_, rfl, ?_, rfl⟩
  unfold viewQ
  rw [if_pos ⟨isRdB_of (by omega) hr, inB_of (show k ≤ 11 by omega) (by omega)⟩, nI_clamp (by omega), nI_clamp (by omega)]
  exact hy
theorem k_ofr {r w : Nat} (hB : B < 2 ^ 30) (C : CW μ x f held P Pp len u S B) (hrc : rF f ≤ 6) (hr : r < rF f) (hw : w ≤ 6) (hy : ofRdW f (hF f) r w = y) : EvA G 6 kX8_ofReader [.ref x, .int (nI r), .int (nI w)] μ sz 0 0 (rI fun v μ' => v = y ∧ μ' = μ) := by
  refine (eX8_ofReader hB C).imp ?_
  rintro r μ' ⟨v, rfl, rfl, rfl⟩
  refine ⟨_, rfl, ?_, rfl⟩
  unfold ofReaderQ
  rw [if_pos (isRdB_of (by omega) hr), if_pos (inB_of hw (by omega)), nI_clamp (by omega), nI_clamp (by omega)]
  exact hy
theorem k_ofs {s w : Nat} (hB : B < 2 ^ 30) (C : CW μ x f held P Pp len u S B) (hsc : sF f ≤ 4) (hs : s < sF f) (hw : w ≤ 2) (hy : ofSnW f (hF f) s w = y) : EvA G 6 kX8_ofSnapshot [.ref x, .int (nI s), .int (nI w)] μ sz 0 0 (rI fun v μ' => v = y ∧ μ' = μ) := by
  refine (eX8_ofSnapshot hB C).imp ?_
  rintro r μ' ⟨v, rfl, rfl, rfl⟩
  refine ⟨_, rfl, ?_, rfl⟩
  unfold ofSnapshotQ
  rw [if_pos (isRdB_of (by omega) hs), if_pos (inB_of hw (by omega)), nI_clamp (by omega), nI_clamp (by omega)]
  exact hy
theorem k_short {r : Nat} (hB : B < 2 ^ 30) (C : CW μ x f held P Pp len u S B) (hrc : rF f ≤ 6) (hr : r < rF f) (hy : (shN f (hF f) (sF f) r 5).2 = y) : EvA G 6 kX8_shortest [.ref x, .int (nI r), .int (nI 1)] μ sz 0 0 (rI fun v μ' => v = y ∧ μ' = μ) := by
  refine (eX8_shortest hB C).imp ?_
  rintro r μ' ⟨v, rfl, rfl, rfl⟩
  refine ⟨_, rfl, ?_, rfl⟩
  unfold shortestQ
  rw [if_pos (isRdB_of (by omega) hr), if_pos (by decide), if_neg (by decide), nI_clamp (by omega)]
  exact hy
theorem k_left (C : CW μ x f held P Pp len u S B) (hy : nI (leftF f (hF f) (f 0) (f 2 + nI 0)) = y) : EvA G 6 kX8_leftIn [.ref x, .int (nI 0)] μ sz 0 0 (rI fun v μ' => v = y ∧ μ' = μ) := by
  refine (eX8_leftIn C).imp ?_
  rintro r μ' ⟨v, rfl, rfl, rfl⟩
  refine ⟨_, rfl, ?_, rfl⟩
  unfold leftInQ
  rw [if_pos (by decide)]
  exact hy
end KQ
end
section
/-! ===== the law's helpers: low, cell, act ===== -/
-- LOOK2
theorem andmax (x : Int32) : ∃ c, c < 2 ^ 31 ∧ x &&& 2147483647 = nI c := by
  refine ⟨(x &&& 2147483647).toBitVec.toNat, ?_, ?_⟩
  · have h : (x &&& 2147483647).toBitVec.toNat ≤ (2147483647 : Int32).toBitVec.toNat := by
      rw [Int32.toBitVec_and, BitVec.toNat_and]
      exact Nat.and_le_right
    have h2 : (2147483647 : Int32).toBitVec.toNat = 2147483647 := by decide +kernel
    omega
  · apply Int32.toBitVec_inj.mp
    show _ = BitVec.ofNat 32 _
    rw [BitVec.ofNat_toNat, BitVec.setWidth_eq]
theorem rem_nI {a n : Nat} (ha : a < 2 ^ 31) (h0 : 0 < n) (hn : n < 2 ^ 31) : nI a - nI a / nI n * nI n = nI (a % n) := by
  have h1 := Nat.div_add_mod a n
  rw [pk_div ha h0 hn, nI_mul, nI_sub (Nat.div_mul_le_self a n)]
  congr 1
  rw [Nat.mul_comm] at h1
  omega
abbrev QAb (x len B held : Nat) (f : Nat → Int32) (Pp : Nat → Int32) (u : Nat → Bool) (S : Nat → Nat → Int32) (v : Int32) (μ' : Mm) : Prop := ∃ f' held' P', CW μ' x f' held' P' Pp len u S (B + 1) ∧ JVf f' (B + 1) ∧ (v < nI 0 → f' = f ∧ held' = held)
section LAWH
variable {G : GG} {μ : Mm} {sz x held len B n : Nat} {f : Nat → Int32} {P : Nat → Nat → Int32} {Pp : Nat → Int32} {u : Nat → Bool} {S : Nat → Nat → Int32} {sv : Nat → Int32}
theorem qa {μ' : Mm} {may val v : Int32} {f' : Nat → Int32} (J : JVf f B) (hJ : may = nI 0 → JVf f' (B + 1)) (q : ((may < nI 0 ∧ v = may ∧ CW μ' x f held P Pp len u S (B + 1)) ∨ (may = nI 0 ∧ nI 0 ≤ v ∧ v = val ∧ CW μ' x f' (if held < 6 then held + 1 else 6) (pushP P held f) Pp len u S (B + 1))) ∧ Fr x (x + 528) μ μ') : QAb x len B held f Pp u S v μ' := by
  obtain ⟨⟨h1, rfl, C⟩ | ⟨h1, h2, h3, C⟩, -⟩ := q
  · exact ⟨_, _, _, C, J.mono (by omega), fun _ => ⟨rfl, rfl⟩⟩
  · exact ⟨_, _, _, C, hJ h1, fun h => absurd h (i32_nlt.mpr h2)⟩
theorem eL_low {v : Int32} {m : Nat} (h0 : 0 < m) (hm : m < 2 ^ 31) : EvA G 0 kL_low [.int v, .int (nI m)] μ sz 0 0 (rI fun r μ' => (∃ c, c < m ∧ r = nI c) ∧ μ' = μ) := by
  obtain ⟨a, ha, ea⟩ := andmax v
  refine EvA.of (L := [some (.int v), some (.int (nI m))]) (by decide +kernel) (Nat.le_of_ble_eq_true rfl) rfl ?_
  refine Rn.iload_n (pc1 := 1)  dL_low_0 rfl rfl rfl ?_
  refine Rn.ldc (pc1 := 3) dL_low_1 rfl qL_7 ?_
  refine Rn.iand (pc1 := 4)  dL_low_3 rfl ea ?_
  refine Rn.iload_n (pc1 := 5)  dL_low_4 rfl rfl rfl ?_
  refine Rn.irem (pc1 := 6)  dL_low_5 rfl (nI_ne0 h0 hm) (rem_nI ha h0 hm) ?_
  exact Rn.ireturn dL_low_6 rfl rfl ⟨_, rfl, ⟨_, Nat.mod_lt a h0, rfl⟩, rfl⟩
theorem eL_cell {k : Nat} (hn : (gS G).slots.size = n) (hn2 : n ≤ 260) (hs : ∀ i, i < n → (gS G).slots[i]? = some (.int (sv i))) (hk : k < n) : EvA G 0 kL_cell [.ref (gB G), .int (nI k)] μ sz 0 0 (rI fun r μ' => r = sv k ∧ μ' = μ) := by
  have hz : (gS G).slots.size.toInt32 = nI n := by rw [hn]; rfl
  refine EvA.of (L := [some (.ref (gB G)), some (.int (nI k))]) (by decide +kernel) (Nat.le_of_ble_eq_true rfl) rfl ?_
  refine Rn.iload_n (pc1 := 1)  dL_cell_0 rfl rfl rfl ?_
  refine Rn.aload_n (pc1 := 2)  dL_cell_1 rfl rfl rfl ?_
  refine Rn.slen (pc1 := 3)  dL_cell_2 rfl hz ?_
  refine Rn.icmp_ge (pc1 := 6) 12 dL_cell_3 rfl (by decide) (fun c3 => ?_) (fun c3 => ?_)
  · exact absurd c3 (nI_ge hk (by omega))
  · refine Rn.aload_n (pc1 := 7)  dL_cell_6 rfl rfl rfl ?_
    refine Rn.iload_n (pc1 := 8)  dL_cell_7 rfl rfl rfl ?_
    refine Rn.sld (pc1 := 9) (v := sv k)  dL_cell_8 rfl (vp_nI (j := k) rfl (by omega) (by omega)) (by rw [nI_clamp (by omega)]; exact hs _ (by omega)) ?_
    refine Rn.goto 20 dL_cell_9 (by decide) ?_
    exact Rn.ireturn dL_cell_20 rfl rfl ⟨_, rfl, rfl, rfl⟩
theorem lA_108 {k : Nat} {a b r : Int32} (hB : B < 2 ^ 30) (C : CW μ x f held P Pp len u S B) (J : JVf f B) : Rn G 7 kL_act 108 [some (.ref x), some (.ref (gB G)), some (.int (nI k)), some (.int a), some (.int b), some (.int r)] [] μ sz 0 0 (rI fun v μ' => QAb x len B held f Pp u S v μ') := by
  have hO := C.1
  refine Rn.aload_n (pc1 := 109)  dL_act_108 rfl rfl rfl ?_
  refine Rn.iload_n (pc1 := 110)  dL_act_109 rfl rfl rfl ?_
  refine Rn.bipush (pc1 := 112) (v := nI 6) dL_act_110 rfl (by decide) ?_
  refine Rn.cS_i (pc1 := 115) (eL_low (m := 6) (by omega) (by omega)) dL_act_112 rfl qL_15 oL_low rfl rfl (Nat.le_of_ble_eq_true rfl) (by decide) (by decide) (fun v112 μ112 h112 => ?_)
  obtain ⟨⟨c112, h112, rfl⟩, rfl⟩ := h112
  refine Rn.iload (pc1 := 117)  dL_act_115 rfl rfl ?_
  refine Rn.sipush (pc1 := 120) (v := nI 1000) dL_act_117 rfl (by decide) ?_
  refine Rn.cS_i (pc1 := 123) (eL_low (m := 1000) (by omega) (by omega)) dL_act_120 rfl qL_15 oL_low rfl rfl (Nat.le_of_ble_eq_true rfl) (by decide) (by decide) (fun v120 μ120 h120 => ?_)
  obtain ⟨⟨c120, h120, rfl⟩, rfl⟩ := h120
  refine Rn.cV_i (pc1 := 126) (eX8_set hB C) dL_act_123 rfl qL_19 oX8_set (by first | assumption | exact mset_same | exact mget_ne (by omega) (by assumption) | exact mget_ne (by omega) mset_same) rfl rfl rfl rfl (Nat.le_of_ble_eq_true rfl) (by decide) (by decide) (fun v123 μ123 h123 => ?_)
  exact Rn.ireturn dL_act_126 rfl rfl ⟨_, rfl, qa J (jO_set C.2.1 J) h123⟩
theorem lA_127 {k : Nat} {a b r : Int32} (hB : B < 2 ^ 30) (C : CW μ x f held P Pp len u S B) (J : JVf f B) : Rn G 7 kL_act 127 [some (.ref x), some (.ref (gB G)), some (.int (nI k)), some (.int a), some (.int b), some (.int r)] [] μ sz 0 0 (rI fun v μ' => QAb x len B held f Pp u S v μ') := by
  have hO := C.1
  refine Rn.aload_n (pc1 := 128)  dL_act_127 rfl rfl rfl ?_
  refine Rn.iload_n (pc1 := 129)  dL_act_128 rfl rfl rfl ?_
  refine Rn.bipush (pc1 := 131) (v := nI 6) dL_act_129 rfl (by decide) ?_
  refine Rn.cS_i (pc1 := 134) (eL_low (m := 6) (by omega) (by omega)) dL_act_131 rfl qL_15 oL_low rfl rfl (Nat.le_of_ble_eq_true rfl) (by decide) (by decide) (fun v131 μ131 h131 => ?_)
  obtain ⟨⟨c131, h131, rfl⟩, rfl⟩ := h131
  refine Rn.cV_i (pc1 := 137) (eX8_remove hB C) dL_act_134 rfl qL_24 oX8_remove (by first | assumption | exact mset_same | exact mget_ne (by omega) (by assumption) | exact mget_ne (by omega) mset_same) rfl rfl rfl rfl (Nat.le_of_ble_eq_true rfl) (by decide) (by decide) (fun v134 μ134 h134 => ?_)
  exact Rn.ireturn dL_act_137 rfl rfl ⟨_, rfl, qa J (jO_remove C.2.1 J) h134⟩
theorem lA_138 {k : Nat} {a b r : Int32} (C : CW μ x f held P Pp len u S B) (J : JVf f B) : Rn G 7 kL_act 138 [some (.ref x), some (.ref (gB G)), some (.int (nI k)), some (.int a), some (.int b), some (.int r)] [] μ sz 0 0 (rI fun v μ' => QAb x len B held f Pp u S v μ') := by
  have hO := C.1
  refine Rn.aload_n (pc1 := 139)  dL_act_138 rfl rfl rfl ?_
  refine Rn.iconst (pc1 := 140) (v := nI 1) dL_act_139 rfl (by decide) ?_
  refine Rn.iload (pc1 := 142)  dL_act_140 rfl rfl ?_
  refine Rn.bipush (pc1 := 144) (v := nI 40) dL_act_142 rfl (by decide) ?_
  refine Rn.cS_i (pc1 := 147) (eL_low (m := 40) (by omega) (by omega)) dL_act_144 rfl qL_15 oL_low rfl rfl (Nat.le_of_ble_eq_true rfl) (by decide) (by decide) (fun v144 μ144 h144 => ?_)
  obtain ⟨⟨c144, h144, rfl⟩, rfl⟩ := h144
  refine Rn.iadd (pc1 := 148)  dL_act_147 rfl rfl ?_
  refine Rn.cV_i (pc1 := 151) (eX8_pass C) dL_act_148 rfl qL_28 oX8_pass (by first | assumption | exact mset_same | exact mget_ne (by omega) (by assumption) | exact mget_ne (by omega) mset_same) rfl rfl rfl rfl (Nat.le_of_ble_eq_true rfl) (by decide) (by decide) (fun v148 μ148 h148 => ?_)
  exact Rn.ireturn dL_act_151 rfl rfl ⟨_, rfl, qa J (jO_pass C.2.1 J) h148⟩
theorem lA_152 {k : Nat} {a b r : Int32} (C : CW μ x f held P Pp len u S B) (J : JVf f B) : Rn G 7 kL_act 152 [some (.ref x), some (.ref (gB G)), some (.int (nI k)), some (.int a), some (.int b), some (.int r)] [] μ sz 0 0 (rI fun v μ' => QAb x len B held f Pp u S v μ') := by
  have hO := C.1
  refine Rn.aload_n (pc1 := 153)  dL_act_152 rfl rfl rfl ?_
  refine Rn.cV_i (pc1 := 156) (eX8_reader C) dL_act_153 rfl qL_31 oX8_reader (by first | assumption | exact mset_same | exact mget_ne (by omega) (by assumption) | exact mget_ne (by omega) mset_same) rfl rfl rfl rfl (Nat.le_of_ble_eq_true rfl) (by decide) (by decide) (fun v153 μ153 h153 => ?_)
  exact Rn.ireturn dL_act_156 rfl rfl ⟨_, rfl, qa J (jO_come C.2.1 J) h153⟩
theorem lA_157 {k : Nat} {a b r : Int32} (hB : B < 2 ^ 30) (C : CW μ x f held P Pp len u S B) (J : JVf f B) : Rn G 7 kL_act 157 [some (.ref x), some (.ref (gB G)), some (.int (nI k)), some (.int a), some (.int b), some (.int r)] [] μ sz 0 0 (rI fun v μ' => QAb x len B held f Pp u S v μ') := by
  have hO := C.1
  refine Rn.aload_n (pc1 := 158)  dL_act_157 rfl rfl rfl ?_
  refine Rn.iload (pc1 := 160)  dL_act_158 rfl rfl ?_
  refine Rn.iconst (pc1 := 161) (v := nI 1) dL_act_160 rfl (by decide) ?_
  refine Rn.iload (pc1 := 163)  dL_act_161 rfl rfl ?_
  refine Rn.bipush (pc1 := 165) (v := nI 9) dL_act_163 rfl (by decide) ?_
  refine Rn.cS_i (pc1 := 168) (eL_low (m := 9) (by omega) (by omega)) dL_act_165 rfl qL_15 oL_low rfl rfl (Nat.le_of_ble_eq_true rfl) (by decide) (by decide) (fun v165 μ165 h165 => ?_)
  obtain ⟨⟨c165, h165, rfl⟩, rfl⟩ := h165
  refine Rn.iadd (pc1 := 169)  dL_act_168 rfl rfl ?_
  refine Rn.cV_i (pc1 := 172) (eX8_read hB C) dL_act_169 rfl qL_35 oX8_read (by first | assumption | exact mset_same | exact mget_ne (by omega) (by assumption) | exact mget_ne (by omega) mset_same) rfl rfl rfl rfl (Nat.le_of_ble_eq_true rfl) (by decide) (by decide) (fun v169 μ169 h169 => ?_)
  exact Rn.ireturn dL_act_172 rfl rfl ⟨_, rfl, qa J (jO_read hB C.2.1 J) h169⟩
theorem lA_173 {k : Nat} {a b r : Int32} (C : CW μ x f held P Pp len u S B) (J : JVf f B) : Rn G 7 kL_act 173 [some (.ref x), some (.ref (gB G)), some (.int (nI k)), some (.int a), some (.int b), some (.int r)] [] μ sz 0 0 (rI fun v μ' => QAb x len B held f Pp u S v μ') := by
  have hO := C.1
  refine Rn.aload_n (pc1 := 174)  dL_act_173 rfl rfl rfl ?_
  refine Rn.iload (pc1 := 176)  dL_act_174 rfl rfl ?_
  refine Rn.cV_i (pc1 := 179) (eX8_confirm C) dL_act_176 rfl qL_38 oX8_confirm (by first | assumption | exact mset_same | exact mget_ne (by omega) (by assumption) | exact mget_ne (by omega) mset_same) rfl rfl rfl rfl (Nat.le_of_ble_eq_true rfl) (by decide) (by decide) (fun v176 μ176 h176 => ?_)
  exact Rn.ireturn dL_act_179 rfl rfl ⟨_, rfl, qa J (jO_conf C.2.1 J) h176⟩
theorem lA_180 {k : Nat} {a b r : Int32} (hB : B < 2 ^ 30) (C : CW μ x f held P Pp len u S B) (J : JVf f B) : Rn G 7 kL_act 180 [some (.ref x), some (.ref (gB G)), some (.int (nI k)), some (.int a), some (.int b), some (.int r)] [] μ sz 0 0 (rI fun v μ' => QAb x len B held f Pp u S v μ') := by
  have hO := C.1
  refine Rn.iload (pc1 := 182)  dL_act_180 rfl rfl ?_
  refine Rn.iconst (pc1 := 183) (v := nI 2) dL_act_182 rfl (by decide) ?_
  refine Rn.cS_i (pc1 := 186) (eL_low (m := 2) (by omega) (by omega)) dL_act_183 rfl qL_15 oL_low rfl rfl (Nat.le_of_ble_eq_true rfl) (by decide) (by decide) (fun v183 μ183 h183 => ?_)
  obtain ⟨⟨c183, h183, rfl⟩, rfl⟩ := h183
  refine Rn.if_ne (pc1 := 189) 198 dL_act_186 rfl (by decide) (fun c186 => ?_) (fun c186 => ?_)
  · refine Rn.aload_n (pc1 := 199)  dL_act_198 rfl rfl rfl ?_
    refine Rn.cV_i (pc1 := 202) (eX8_snapshot hB C) dL_act_199 rfl qL_44 oX8_snapshot (by first | assumption | exact mset_same | exact mget_ne (by omega) (by assumption) | exact mget_ne (by omega) mset_same) rfl rfl rfl rfl (Nat.le_of_ble_eq_true rfl) (by decide) (by decide) (fun v199 μ199 h199 => ?_)
    have hret := qa J (fun _ => jO_shot hB C.2.1 J) h199
    exact Rn.ireturn dL_act_202 rfl rfl ⟨_, rfl, hret⟩
  · refine Rn.aload_n (pc1 := 190)  dL_act_189 rfl rfl rfl ?_
    refine Rn.iload (pc1 := 192)  dL_act_190 rfl rfl ?_
    refine Rn.cV_i (pc1 := 195) (eX8_goBack C) dL_act_192 rfl qL_41 oX8_goBack (by first | assumption | exact mset_same | exact mget_ne (by omega) (by assumption) | exact mget_ne (by omega) mset_same) rfl rfl rfl rfl (Nat.le_of_ble_eq_true rfl) (by decide) (by decide) (fun v192 μ192 h192 => ?_)
    have hret := qa J (jO_back C.2.1 J) h192
    refine Rn.goto 202 dL_act_195 (by decide) ?_
    exact Rn.ireturn dL_act_202 rfl rfl ⟨_, rfl, hret⟩
theorem lA_203 {k : Nat} {a b r : Int32} (hB : B < 2 ^ 30) (C : CW μ x f held P Pp len u S B) (J : JVf f B) : Rn G 7 kL_act 203 [some (.ref x), some (.ref (gB G)), some (.int (nI k)), some (.int a), some (.int b), some (.int r)] [] μ sz 0 0 (rI fun v μ' => QAb x len B held f Pp u S v μ') := by
  have hO := C.1
  refine Rn.iload (pc1 := 205)  dL_act_203 rfl rfl ?_
  refine Rn.iconst (pc1 := 206) (v := nI 3) dL_act_205 rfl (by decide) ?_
  refine Rn.cS_i (pc1 := 209) (eL_low (m := 3) (by omega) (by omega)) dL_act_206 rfl qL_15 oL_low rfl rfl (Nat.le_of_ble_eq_true rfl) (by decide) (by decide) (fun v206 μ206 h206 => ?_)
  obtain ⟨⟨c206, h206, rfl⟩, rfl⟩ := h206
  refine Rn.if_ne (pc1 := 212) 221 dL_act_209 rfl (by decide) (fun c209 => ?_) (fun c209 => ?_)
  · refine Rn.aload_n (pc1 := 222)  dL_act_221 rfl rfl rfl ?_
    refine Rn.iload (pc1 := 224)  dL_act_222 rfl rfl ?_
    refine Rn.iload (pc1 := 226)  dL_act_224 rfl rfl ?_
    refine Rn.iconst (pc1 := 227) (v := nI 4) dL_act_226 rfl (by decide) ?_
    refine Rn.cS_i (pc1 := 230) (eL_low (m := 4) (by omega) (by omega)) dL_act_227 rfl qL_15 oL_low rfl rfl (Nat.le_of_ble_eq_true rfl) (by decide) (by decide) (fun v227 μ227 h227 => ?_)
    obtain ⟨⟨c227, h227, rfl⟩, rfl⟩ := h227
    refine Rn.cV_i (pc1 := 233) (eX8_load C) dL_act_230 rfl qL_50 oX8_load (by first | assumption | exact mset_same | exact mget_ne (by omega) (by assumption) | exact mget_ne (by omega) mset_same) rfl rfl rfl rfl (Nat.le_of_ble_eq_true rfl) (by decide) (by decide) (fun v230 μ230 h230 => ?_)
    have hret := qa J (jO_load C.2.1 J) h230
    exact Rn.ireturn dL_act_233 rfl rfl ⟨_, rfl, hret⟩
  · refine Rn.aload_n (pc1 := 213)  dL_act_212 rfl rfl rfl ?_
    refine Rn.iload (pc1 := 215)  dL_act_213 rfl rfl ?_
    refine Rn.cV_i (pc1 := 218) (eX8_beginAnew hB C) dL_act_215 rfl qL_47 oX8_beginAnew (by first | assumption | exact mset_same | exact mget_ne (by omega) (by assumption) | exact mget_ne (by omega) mset_same) rfl rfl rfl rfl (Nat.le_of_ble_eq_true rfl) (by decide) (by decide) (fun v215 μ215 h215 => ?_)
    have hret := qa J (jO_anew C.2.1 J) h215
    refine Rn.goto 233 dL_act_218 (by decide) ?_
    exact Rn.ireturn dL_act_233 rfl rfl ⟨_, rfl, hret⟩
theorem lA_234 {k : Nat} {a b r : Int32} (C : CW μ x f held P Pp len u S B) (J : JVf f B) : Rn G 7 kL_act 234 [some (.ref x), some (.ref (gB G)), some (.int (nI k)), some (.int a), some (.int b), some (.int r)] [] μ sz 0 0 (rI fun v μ' => QAb x len B held f Pp u S v μ') := by
  have hO := C.1
  refine Rn.iload (pc1 := 236)  dL_act_234 rfl rfl ?_
  refine Rn.iconst (pc1 := 237) (v := nI 2) dL_act_236 rfl (by decide) ?_
  refine Rn.cS_i (pc1 := 240) (eL_low (m := 2) (by omega) (by omega)) dL_act_237 rfl qL_15 oL_low rfl rfl (Nat.le_of_ble_eq_true rfl) (by decide) (by decide) (fun v237 μ237 h237 => ?_)
  obtain ⟨⟨c237, h237, rfl⟩, rfl⟩ := h237
  refine Rn.if_ne (pc1 := 243) 259 dL_act_240 rfl (by decide) (fun c240 => ?_) (fun c240 => ?_)
  · refine Rn.aload_n (pc1 := 260)  dL_act_259 rfl rfl rfl ?_
    refine Rn.iconst (pc1 := 261) (v := nI 1) dL_act_260 rfl (by decide) ?_
    refine Rn.iload_n (pc1 := 262)  dL_act_261 rfl rfl rfl ?_
    refine Rn.bipush (pc1 := 264) (v := nI 60) dL_act_262 rfl (by decide) ?_
    refine Rn.cS_i (pc1 := 267) (eL_low (m := 60) (by omega) (by omega)) dL_act_264 rfl qL_15 oL_low rfl rfl (Nat.le_of_ble_eq_true rfl) (by decide) (by decide) (fun v264 μ264 h264 => ?_)
    obtain ⟨⟨c264, h264, rfl⟩, rfl⟩ := h264
    refine Rn.cV_i (pc1 := 270) (eX8_turn C) dL_act_267 rfl qL_53 oX8_turn (by first | assumption | exact mset_same | exact mget_ne (by omega) (by assumption) | exact mget_ne (by omega) mset_same) rfl rfl rfl rfl (Nat.le_of_ble_eq_true rfl) (by decide) (by decide) (fun v267 μ267 h267 => ?_)
    have hret := qa J (jO_turn C.2.1 J) h267
    exact Rn.ireturn dL_act_270 rfl rfl ⟨_, rfl, hret⟩
  · refine Rn.aload_n (pc1 := 244)  dL_act_243 rfl rfl rfl ?_
    refine Rn.iconst (pc1 := 245) (v := nI 0) dL_act_244 rfl (by decide) ?_
    refine Rn.iconst (pc1 := 246) (v := nI 1) dL_act_245 rfl (by decide) ?_
    refine Rn.iload_n (pc1 := 247)  dL_act_246 rfl rfl rfl ?_
    refine Rn.bipush (pc1 := 249) (v := nI 20) dL_act_247 rfl (by decide) ?_
    refine Rn.cS_i (pc1 := 252) (eL_low (m := 20) (by omega) (by omega)) dL_act_249 rfl qL_15 oL_low rfl rfl (Nat.le_of_ble_eq_true rfl) (by decide) (by decide) (fun v249 μ249 h249 => ?_)
    obtain ⟨⟨c249, h249, rfl⟩, rfl⟩ := h249
    refine Rn.iadd (pc1 := 253)  dL_act_252 rfl rfl ?_
    refine Rn.cV_i (pc1 := 256) (eX8_turn C) dL_act_253 rfl qL_53 oX8_turn (by first | assumption | exact mset_same | exact mget_ne (by omega) (by assumption) | exact mget_ne (by omega) mset_same) rfl rfl rfl rfl (Nat.le_of_ble_eq_true rfl) (by decide) (by decide) (fun v253 μ253 h253 => ?_)
    have hret := qa J (jO_turn C.2.1 J) h253
    refine Rn.goto 270 dL_act_256 (by decide) ?_
    exact Rn.ireturn dL_act_270 rfl rfl ⟨_, rfl, hret⟩
theorem lA_271 {k : Nat} {a b r : Int32} (hB : B < 2 ^ 30) (C : CW μ x f held P Pp len u S B) (J : JVf f B) : Rn G 7 kL_act 271 [some (.ref x), some (.ref (gB G)), some (.int (nI k)), some (.int a), some (.int b), some (.int r)] [] μ sz 0 0 (rI fun v μ' => QAb x len B held f Pp u S v μ') := by
  have hO := C.1
  refine Rn.aload_n (pc1 := 272)  dL_act_271 rfl rfl rfl ?_
  refine Rn.cV_i (pc1 := 275) (eX8_thin C) dL_act_272 rfl qL_56 oX8_thin (by first | assumption | exact mset_same | exact mget_ne (by omega) (by assumption) | exact mget_ne (by omega) mset_same) rfl rfl rfl rfl (Nat.le_of_ble_eq_true rfl) (by decide) (by decide) (fun v272 μ272 h272 => ?_)
  exact Rn.ireturn dL_act_275 rfl rfl ⟨_, rfl, qa J (fun _ => jO_thin hB C.2.1 J) h272⟩
theorem eL_act {k : Nat} (hn : (gS G).slots.size = n) (hn2 : n ≤ 260) (hs : ∀ i, i < n → (gS G).slots[i]? = some (.int (sv i))) (hk : k + 2 < n) (hB : B < 2 ^ 30) (C : CW μ x f held P Pp len u S B) (J : JVf f B) : EvA G 7 kL_act [.ref x, .ref (gB G), .int (nI k)] μ sz 0 0 (rI fun v μ' => QAb x len B held f Pp u S v μ') := by
  refine EvA.of (L := [some (.ref x), some (.ref (gB G)), some (.int (nI k)), none, none, none]) (by decide +kernel) (Nat.le_of_ble_eq_true rfl) rfl ?_
  refine Rn.aload_n (pc1 := 1)  dL_act_0 rfl rfl rfl ?_
  refine Rn.iload_n (pc1 := 2)  dL_act_1 rfl rfl rfl ?_
  refine Rn.iconst (pc1 := 3) (v := nI 1) dL_act_2 rfl (by decide) ?_
  refine Rn.iadd (pc1 := 4)  dL_act_3 rfl (nI_add k 1) ?_
  refine Rn.cS_i (pc1 := 7) (eL_cell hn hn2 hs (show k + 1 < n by omega)) dL_act_4 rfl qL_9 oL_cell rfl rfl (Nat.le_of_ble_eq_true rfl) (by decide) (by decide) (fun v4 μ4 h4 => ?_)
  obtain ⟨rfl, rfl⟩ := h4
  refine Rn.istore_n (pc1 := 8)  dL_act_7 rfl rfl (by decide) rfl rfl ?_
  refine Rn.aload_n (pc1 := 9)  dL_act_8 rfl rfl rfl ?_
  refine Rn.iload_n (pc1 := 10)  dL_act_9 rfl rfl rfl ?_
  refine Rn.iconst (pc1 := 11) (v := nI 2) dL_act_10 rfl (by decide) ?_
  refine Rn.iadd (pc1 := 12)  dL_act_11 rfl (nI_add k 2) ?_
  refine Rn.cS_i (pc1 := 15) (eL_cell hn hn2 hs (show k + 2 < n by omega)) dL_act_12 rfl qL_9 oL_cell rfl rfl (Nat.le_of_ble_eq_true rfl) (by decide) (by decide) (fun v12 μ12 h12 => ?_)
  obtain ⟨rfl, rfl⟩ := h12
  refine Rn.istore (pc1 := 17)  dL_act_15 rfl (by decide) rfl rfl ?_
  refine Rn.iload_n (pc1 := 18)  dL_act_17 rfl rfl rfl ?_
  refine Rn.iconst (pc1 := 19) (v := nI 4) dL_act_18 rfl (by decide) ?_
  refine Rn.cS_i (pc1 := 22) (eL_low (m := 4) (by omega) (by omega)) dL_act_19 rfl qL_15 oL_low rfl rfl (Nat.le_of_ble_eq_true rfl) (by decide) (by decide) (fun v19 μ19 h19 => ?_)
  obtain ⟨⟨c19, h19, rfl⟩, rfl⟩ := h19
  refine Rn.istore (pc1 := 24)  dL_act_22 rfl (by decide) rfl rfl ?_
  refine Rn.aload_n (pc1 := 25)  dL_act_24 rfl rfl rfl ?_
  refine Rn.iload_n (pc1 := 26)  dL_act_25 rfl rfl rfl ?_
  refine Rn.cS_i (pc1 := 29) (eL_cell hn hn2 hs (show k < n by omega)) dL_act_26 rfl qL_9 oL_cell rfl rfl (Nat.le_of_ble_eq_true rfl) (by decide) (by decide) (fun v26 μ26 h26 => ?_)
  obtain ⟨rfl, rfl⟩ := h26
  refine Rn.bipush (pc1 := 31) (v := nI 16) dL_act_29 rfl (by decide) ?_
  refine Rn.cS_i (pc1 := 34) (eL_low (m := 16) (by omega) (by omega)) dL_act_31 rfl qL_15 oL_low rfl rfl (Nat.le_of_ble_eq_true rfl) (by decide) (by decide) (fun v31 μ31 h31 => ?_)
  obtain ⟨⟨c31, h31, rfl⟩, rfl⟩ := h31
  by_cases q0 : c31 = 0
  · subst q0
    exact Rn.tableIn (off := 74) 108 dL_act_34 (by decide) (by decide) rfl (by decide) (lA_108 hB C J)
  by_cases q1 : c31 = 1
  · subst q1
    exact Rn.tableIn (off := 74) 108 dL_act_34 (by decide) (by decide) rfl (by decide) (lA_108 hB C J)
  by_cases q2 : c31 = 2
  · subst q2
    exact Rn.tableIn (off := 74) 108 dL_act_34 (by decide) (by decide) rfl (by decide) (lA_108 hB C J)
  by_cases q3 : c31 = 3
  · subst q3
    exact Rn.tableIn (off := 74) 108 dL_act_34 (by decide) (by decide) rfl (by decide) (lA_108 hB C J)
  by_cases q4 : c31 = 4
  · subst q4
    exact Rn.tableIn (off := 74) 108 dL_act_34 (by decide) (by decide) rfl (by decide) (lA_108 hB C J)
  by_cases q5 : c31 = 5
  · subst q5
    exact Rn.tableIn (off := 93) 127 dL_act_34 (by decide) (by decide) rfl (by decide) (lA_127 hB C J)
  by_cases q6 : c31 = 6
  · subst q6
    exact Rn.tableIn (off := 93) 127 dL_act_34 (by decide) (by decide) rfl (by decide) (lA_127 hB C J)
  by_cases q7 : c31 = 7
  · subst q7
    exact Rn.tableIn (off := 104) 138 dL_act_34 (by decide) (by decide) rfl (by decide) (lA_138 C J)
  by_cases q8 : c31 = 8
  · subst q8
    exact Rn.tableIn (off := 118) 152 dL_act_34 (by decide) (by decide) rfl (by decide) (lA_152 C J)
  by_cases q9 : c31 = 9
  · subst q9
    exact Rn.tableIn (off := 123) 157 dL_act_34 (by decide) (by decide) rfl (by decide) (lA_157 hB C J)
  by_cases q10 : c31 = 10
  · subst q10
    exact Rn.tableIn (off := 123) 157 dL_act_34 (by decide) (by decide) rfl (by decide) (lA_157 hB C J)
  by_cases q11 : c31 = 11
  · subst q11
    exact Rn.tableIn (off := 139) 173 dL_act_34 (by decide) (by decide) rfl (by decide) (lA_173 C J)
  by_cases q12 : c31 = 12
  · subst q12
    exact Rn.tableIn (off := 146) 180 dL_act_34 (by decide) (by decide) rfl (by decide) (lA_180 hB C J)
  by_cases q13 : c31 = 13
  · subst q13
    exact Rn.tableIn (off := 169) 203 dL_act_34 (by decide) (by decide) rfl (by decide) (lA_203 hB C J)
  by_cases q14 : c31 = 14
  · subst q14
    exact Rn.tableIn (off := 200) 234 dL_act_34 (by decide) (by decide) rfl (by decide) (lA_234 C J)
  exact Rn.tableOut 271 dL_act_34 (by rw [nI_toInt (by omega)]; omega) (by decide) (lA_271 hB C J)
end LAWH
end
section
/-! ===== the law's feed ===== -/
-- LOOK2
def tolB (ky : Nat → Int32) (k : Nat) : Nat → Bool
  | 0 => false
  | n + 1 => tolB ky k n || decide (ky n = nI k)
theorem tolB_f {ky : Nat → Int32} {k : Nat} : ∀ {n : Nat}, tolB ky k n = false → ∀ j, j < n → ¬ ky j = nI k
  | 0, _, j, hj => absurd hj (Nat.not_lt_zero j)
  | n + 1, h, j, hj => by
    have h' : (tolB ky k n || decide (ky n = nI k)) = false := h
    rw [Bool.or_eq_false_iff] at h'
    by_cases e : j = n
    · subst e; exact of_decide_eq_false h'.2
    · exact tolB_f h'.1 j (by omega)
theorem m1_nI {a : Nat} (h : a < 2 ^ 31) : (-1 : Int32) < nI a := by
  rw [Int32.lt_iff_toInt_lt, nI_toInt h]
  have : (-1 : Int32).toInt = -1 := by decide
  omega
abbrev QT (μ : Mm) : Option Value → Mm → Prop := rI fun v μ' => v = nI 1 ∧ μ' = μ
section LAWF
variable {G : GG} {μ : Mm} {sz x held len B : Nat} {f : Nat → Int32} {P : Nat → Nat → Int32} {Pp : Nat → Int32} {u : Nat → Bool} {S : Nat → Nat → Int32} {h rc sc N g fl m : Nat} {n t : Nat → Nat}
theorem FA.le (A : FA f h rc sc B N n t g fl m) : (h ≤ 60 ∧ rc ≤ 6 ∧ sc ≤ 4) ∧ B < 2 ^ 30 ∧ N ≤ B ∧ fl ≤ N ∧ m ≤ 99999 ∧ h + g = N ∧ ∀ j, j < h → n j < N ∧ t j ≤ m := by
  obtain ⟨⟨b1, b2, b3, b4⟩, -, -, ⟨⟨a1, a2, a3, a4, a5, a6, a7⟩, -, c⟩, -⟩ := A
  exact ⟨⟨b1, b2, b3⟩, b4, a1, c.2.2.2.2.2.2, a7, a4, c.1⟩
theorem FA.c0 (A : FA f h rc sc B N n t g fl m) : countW f len held 0 = nI h := A.2.2.1.1
theorem FA.c1 (A : FA f h rc sc B N n t g fl m) : countW f len held 1 = nI N := A.2.2.2.1.1.2.1
theorem FA.c3 (A : FA f h rc sc B N n t g fl m) : countW f len held 3 = nI m := A.2.2.2.1.1.2.2.2.2.2.1
theorem FA.c4 (A : FA f h rc sc B N n t g fl m) : countW f len held 4 = nI fl := A.2.2.2.1.1.2.2.2.2.1
theorem FA.c5 (A : FA f h rc sc B N n t g fl m) : countW f len held 5 = nI g := A.2.2.2.1.1.2.2.1
theorem FA.c6 (A : FA f h rc sc B N n t g fl m) : countW f len held 6 = nI rc := A.2.2.1.2.1
theorem FA.c8 (A : FA f h rc sc B N n t g fl m) : countW f len held 8 = nI sc := A.2.2.1.2.2
theorem FA.n0 {e : Nat} (A : FA f h rc sc B N n t g fl m) (he : e < h) : entryW f (hF f) e 0 = nI (n e) := (A.2.2.2.1.2.1 e he).1
theorem FA.n3 {e : Nat} (A : FA f h rc sc B N n t g fl m) (he : e < h) : entryW f (hF f) e 3 = nI (t e) := (A.2.2.2.1.2.1 e he).2
theorem FA.n4 {e : Nat} (A : FA f h rc sc B N n t g fl m) : entryW f (hF f) e 4 = bI (lastB (e1 f) e h) := by
  show bI (lastB (e1 f) e (hF f)) = _
  rw [A.2.1.1]
theorem FA.hh (A : FA f h rc sc B N n t g fl m) : hF f ≤ 60 := by rw [A.2.1.1]; exact A.1.1
theorem FA.he {e : Nat} (A : FA f h rc sc B N n t g fl m) (he : e < h) : e < hF f := by rw [A.2.1.1]; exact he
theorem lF_218 (C : CW μ x f held P Pp len u S B) (A : FA f h rc sc B N n t g fl m) {bf tm va : Int32} {k : Nat} (hk : k < 12) (K : Rn G 7 kL_feed 258 [some (.ref x), some (.int bf), some (.int tm), some (.int va), some (.int (nI 1)), some (.int (nI k)), some (.int (bI (tolB (e1 f) k h))), some (.int (nI h))] [] μ sz 0 0 (QT μ)) : ∀ (r e : Nat), e + r = h → Rn G 7 kL_feed 218 [some (.ref x), some (.int bf), some (.int tm), some (.int va), some (.int (nI 1)), some (.int (nI k)), some (.int (bI (tolB (e1 f) k e))), some (.int (nI e))] [] μ sz 0 0 (QT μ) := by
  have hO := C.1
  have hl := A.le
  intro r
  induction r with
  | zero =>
    intro e he
    obtain rfl : e = h := by omega
    refine Rn.iload (pc1 := 220)  dL_feed_218 rfl rfl ?_
    refine Rn.aload_n (pc1 := 221)  dL_feed_220 rfl rfl rfl ?_
    refine Rn.iconst (pc1 := 222) (v := nI 0) dL_feed_221 rfl (by decide) ?_
    refine Rn.cV_i (pc1 := 225) (k_cnt C (w := 0) (by omega) A.c0) dL_feed_222 rfl qL_59 oX8_count (by first | assumption | exact mset_same | exact mget_ne (by omega) (by assumption) | exact mget_ne (by omega) mset_same) rfl rfl rfl rfl (Nat.le_of_ble_eq_true rfl) (by decide) (by decide) (fun v222 μ222 h222 => ?_)
    obtain ⟨rfl, rfl⟩ := h222
    refine Rn.icmp_ge (pc1 := 228) 258 dL_feed_225 rfl (by decide) (fun c225 => ?_) (fun c225 => ?_)
    · exact K
    · exact absurd (nI_le (Nat.le_refl _) (by omega)) c225
  | succ r ih =>
    intro e he
    have he2 : e < h := by omega
    refine Rn.iload (pc1 := 220)  dL_feed_218 rfl rfl ?_
    refine Rn.aload_n (pc1 := 221)  dL_feed_220 rfl rfl rfl ?_
    refine Rn.iconst (pc1 := 222) (v := nI 0) dL_feed_221 rfl (by decide) ?_
    refine Rn.cV_i (pc1 := 225) (k_cnt C (w := 0) (by omega) A.c0) dL_feed_222 rfl qL_59 oX8_count (by first | assumption | exact mset_same | exact mget_ne (by omega) (by assumption) | exact mget_ne (by omega) mset_same) rfl rfl rfl rfl (Nat.le_of_ble_eq_true rfl) (by decide) (by decide) (fun v222 μ222 h222 => ?_)
    obtain ⟨rfl, rfl⟩ := h222
    refine Rn.icmp_ge (pc1 := 228) 258 dL_feed_225 rfl (by decide) (fun c225 => ?_) (fun c225 => ?_)
    · exact absurd c225 (nI_ge he2 (by omega))
    · refine Rn.iload (pc1 := 230)  dL_feed_228 rfl rfl ?_
      refine Rn.if_ne (pc1 := 233) 245 dL_feed_230 rfl (by decide) (fun c230 => ?_) (fun c230 => ?_)
      · have ee : bI (tolB (e1 f) k (e + 1)) = nI 1 := by show bI (tolB (e1 f) k e || _) = _; rw [bI_n c230]; rfl
        refine Rn.iconst (pc1 := 246) (v := nI 1) dL_feed_245 rfl (by decide) ?_
        refine Rn.goto 250 dL_feed_246 (by decide) ?_
        refine Rn.istore (pc1 := 252)  dL_feed_250 rfl (by decide) rfl rfl ?_
        refine Rn.iinc (pc1 := 255)  dL_feed_252 rfl rfl (nI_1 e) (by decide) rfl rfl ?_
        refine Rn.goto 218 dL_feed_255 (by decide) ?_
        have := ih (e + 1) (by omega); rw [ee] at this; exact this
      · refine Rn.aload_n (pc1 := 234)  dL_feed_233 rfl rfl rfl ?_
        refine Rn.iload (pc1 := 236)  dL_feed_234 rfl rfl ?_
        refine Rn.iconst (pc1 := 237) (v := nI 1) dL_feed_236 rfl (by decide) ?_
        refine Rn.cV_i (pc1 := 240) (k_ent C A.hh (A.he he2) (w := 1) (y := e1 f e) (by omega) rfl) dL_feed_237 rfl qL_62 oX8_entry (by first | assumption | exact mset_same | exact mget_ne (by omega) (by assumption) | exact mget_ne (by omega) mset_same) rfl rfl rfl rfl (Nat.le_of_ble_eq_true rfl) (by decide) (by decide) (fun v237 μ237 h237 => ?_)
        obtain ⟨rfl, rfl⟩ := h237
        refine Rn.iload (pc1 := 242)  dL_feed_240 rfl rfl ?_
        refine Rn.icmp_ne (pc1 := 245) 249 dL_feed_242 rfl (by decide) (fun c242 => ?_) (fun c242 => ?_)
        · have ee : bI (tolB (e1 f) k (e + 1)) = nI 0 := by show bI (tolB (e1 f) k e || decide (e1 f e = nI k)) = _; rw [bI_0 c230, decide_eq_false c242]; rfl
          refine Rn.iconst (pc1 := 250) (v := nI 0) dL_feed_249 rfl (by decide) ?_
          refine Rn.istore (pc1 := 252)  dL_feed_250 rfl (by decide) rfl rfl ?_
          refine Rn.iinc (pc1 := 255)  dL_feed_252 rfl rfl (nI_1 e) (by decide) rfl rfl ?_
          refine Rn.goto 218 dL_feed_255 (by decide) ?_
          have := ih (e + 1) (by omega); rw [ee] at this; exact this
        · have ee : bI (tolB (e1 f) k (e + 1)) = nI 1 := by show bI (tolB (e1 f) k e || decide (e1 f e = nI k)) = _; rw [decide_eq_true c242, Bool.or_true]; rfl
          refine Rn.iconst (pc1 := 246) (v := nI 1) dL_feed_245 rfl (by decide) ?_
          refine Rn.goto 250 dL_feed_246 (by decide) ?_
          refine Rn.istore (pc1 := 252)  dL_feed_250 rfl (by decide) rfl rfl ?_
          refine Rn.iinc (pc1 := 255)  dL_feed_252 rfl rfl (nI_1 e) (by decide) rfl rfl ?_
          refine Rn.goto 218 dL_feed_255 (by decide) ?_
          have := ih (e + 1) (by omega); rw [ee] at this; exact this
theorem FA.val (A : FA f h rc sc B N n t g fl m) {k : Nat} (hk : k < 12) : f (9 + k) = -6 ∨ nI 0 ≤ f (9 + k) := A.2.2.2.1.2.2.2.2.2.1 k hk
theorem lF_200 (C : CW μ x f held P Pp len u S B) (A : FA f h rc sc B N n t g fl m) {bf tm : Int32} : ∀ (r k : Nat), k + r = 12 → ∀ (o6 o7 : Option Value), Rn G 7 kL_feed 200 [some (.ref x), some (.int bf), some (.int tm), some (.int (nI (cntN (fun q => f (9 + q)) k))), some (.int (nI 1)), some (.int (nI k)), o6, o7] [] μ sz 0 0 (QT μ) := by
  have hO := C.1
  have hl := A.le
  intro r
  induction r with
  | zero =>
    intro k hk o6 o7
    obtain rfl : k = 12 := by omega
    refine Rn.iload (pc1 := 202)  dL_feed_200 rfl rfl ?_
    refine Rn.bipush (pc1 := 204) (v := nI 12) dL_feed_202 rfl (by decide) ?_
    refine Rn.icmp_ge (pc1 := 207) 304 dL_feed_204 rfl (by decide) (fun c204 => ?_) (fun c204 => ?_)
    · refine Rn.iload (pc1 := 306)  dL_feed_304 rfl rfl ?_
      refine Rn.if_eq (pc1 := 309) 322 dL_feed_306 rfl (by decide) (fun c306 => ?_) (fun c306 => ?_)
      · exact absurd c306 (by decide)
      · refine Rn.aload_n (pc1 := 310)  dL_feed_309 rfl rfl rfl ?_
        refine Rn.iconst (pc1 := 311) (v := nI 2) dL_feed_310 rfl (by decide) ?_
        refine Rn.cV_i (pc1 := 314) (k_cnt C (w := 2) (by omega) rfl) dL_feed_311 rfl qL_59 oX8_count (by first | assumption | exact mset_same | exact mget_ne (by omega) (by assumption) | exact mget_ne (by omega) mset_same) rfl rfl rfl rfl (Nat.le_of_ble_eq_true rfl) (by decide) (by decide) (fun v311 μ311 h311 => ?_)
        obtain ⟨rfl, rfl⟩ := h311
        refine Rn.iload_n (pc1 := 315)  dL_feed_314 rfl rfl rfl ?_
        refine Rn.icmp_ne (pc1 := 318) 322 dL_feed_315 rfl (by decide) (fun c315 => ?_) (fun c315 => ?_)
        · exact absurd rfl c315
        · refine Rn.iconst (pc1 := 319) (v := nI 1) dL_feed_318 rfl (by decide) ?_
          refine Rn.goto 323 dL_feed_319 (by decide) ?_
          exact Rn.ireturn dL_feed_323 rfl rfl ⟨_, rfl, rfl, rfl⟩
    · exact absurd (nI_le (Nat.le_refl _) (by omega)) c204
  | succ r ih =>
    intro k hk o6 o7
    have hk2 : k < 12 := by omega
    have KK : Rn G 7 kL_feed 258 [some (.ref x), some (.int bf), some (.int tm), some (.int (nI (cntN (fun q => f (9 + q)) k))), some (.int (nI 1)), some (.int (nI k)), some (.int (bI (tolB (e1 f) k h))), some (.int (nI h))] [] μ sz 0 0 (QT μ) := by
      refine Rn.iload_n (pc1 := 259)  dL_feed_258 rfl rfl rfl ?_
      refine Rn.aload_n (pc1 := 260)  dL_feed_259 rfl rfl rfl ?_
      refine Rn.iload (pc1 := 262)  dL_feed_260 rfl rfl ?_
      refine Rn.cV_i (pc1 := 265) (k_tab C hk2 rfl) dL_feed_262 rfl qL_65 oX8_table (by first | assumption | exact mset_same | exact mget_ne (by omega) (by assumption) | exact mget_ne (by omega) mset_same) rfl rfl rfl rfl (Nat.le_of_ble_eq_true rfl) (by decide) (by decide) (fun v262 μ262 h262 => ?_)
      obtain ⟨rfl, rfl⟩ := h262
      refine Rn.if_lt (pc1 := 268) 272 dL_feed_265 rfl (by decide) (fun c265 => ?_) (fun c265 => ?_)
      · have ee : cntN (fun q => f (9 + q)) (k + 1) = cntN (fun q => f (9 + q)) k + 0 := by show _ + (if f (9 + k) = -6 then 0 else 1) = _; rw [if_pos ((A.val hk2).resolve_right (i32_nle.mpr c265))]
        refine Rn.iconst (pc1 := 273) (v := nI 0) dL_feed_272 rfl (by decide) ?_
        refine Rn.iadd (pc1 := 274)  dL_feed_273 rfl (nI_add _ _) ?_
        refine Rn.istore_n (pc1 := 275)  dL_feed_274 rfl rfl (by decide) rfl rfl ?_
        refine Rn.iload (pc1 := 277)  dL_feed_275 rfl rfl ?_
        refine Rn.if_ne (pc1 := 280) 291 dL_feed_277 rfl (by decide) (fun c277 => ?_) (fun c277 => ?_)
        · refine Rn.iconst (pc1 := 292) (v := nI 1) dL_feed_291 rfl (by decide) ?_
          refine Rn.goto 296 dL_feed_292 (by decide) ?_
          refine Rn.istore (pc1 := 298)  dL_feed_296 rfl (by decide) rfl rfl ?_
          refine Rn.iinc (pc1 := 301)  dL_feed_298 rfl rfl (nI_1 k) (by decide) rfl rfl ?_
          refine Rn.goto 200 dL_feed_301 (by decide) ?_
          have := ih (k + 1) (by omega); rw [ee] at this; exact this _ _
        · refine Rn.aload_n (pc1 := 281)  dL_feed_280 rfl rfl rfl ?_
          refine Rn.iload (pc1 := 283)  dL_feed_281 rfl rfl ?_
          refine Rn.cV_i (pc1 := 286) (k_tab C hk2 rfl) dL_feed_283 rfl qL_65 oX8_table (by first | assumption | exact mset_same | exact mget_ne (by omega) (by assumption) | exact mget_ne (by omega) mset_same) rfl rfl rfl rfl (Nat.le_of_ble_eq_true rfl) (by decide) (by decide) (fun v283 μ283 h283 => ?_)
          obtain ⟨rfl, rfl⟩ := h283
          refine Rn.bipush (pc1 := 288) (v := (-6)) dL_feed_286 rfl (by decide) ?_
          refine Rn.icmp_ne (pc1 := 291) 295 dL_feed_288 rfl (by decide) (fun c288 => ?_) (fun c288 => ?_)
          · exact absurd (A.2.2.2.1.2.2.2.2.2.2.2.1 k hk2 (tolB_f (bI_0 c277))) c288
          · refine Rn.iconst (pc1 := 292) (v := nI 1) dL_feed_291 rfl (by decide) ?_
            refine Rn.goto 296 dL_feed_292 (by decide) ?_
            refine Rn.istore (pc1 := 298)  dL_feed_296 rfl (by decide) rfl rfl ?_
            refine Rn.iinc (pc1 := 301)  dL_feed_298 rfl rfl (nI_1 k) (by decide) rfl rfl ?_
            refine Rn.goto 200 dL_feed_301 (by decide) ?_
            have := ih (k + 1) (by omega); rw [ee] at this; exact this _ _
      · have ee : cntN (fun q => f (9 + q)) (k + 1) = cntN (fun q => f (9 + q)) k + 1 := by show _ + (if f (9 + k) = -6 then 0 else 1) = _; rw [if_neg (fun z => c265 (by rw [z]; decide))]
        refine Rn.iconst (pc1 := 269) (v := nI 1) dL_feed_268 rfl (by decide) ?_
        refine Rn.goto 273 dL_feed_269 (by decide) ?_
        refine Rn.iadd (pc1 := 274)  dL_feed_273 rfl (nI_add _ _) ?_
        refine Rn.istore_n (pc1 := 275)  dL_feed_274 rfl rfl (by decide) rfl rfl ?_
        refine Rn.iload (pc1 := 277)  dL_feed_275 rfl rfl ?_
        refine Rn.if_ne (pc1 := 280) 291 dL_feed_277 rfl (by decide) (fun c277 => ?_) (fun c277 => ?_)
        · refine Rn.iconst (pc1 := 292) (v := nI 1) dL_feed_291 rfl (by decide) ?_
          refine Rn.goto 296 dL_feed_292 (by decide) ?_
          refine Rn.istore (pc1 := 298)  dL_feed_296 rfl (by decide) rfl rfl ?_
          refine Rn.iinc (pc1 := 301)  dL_feed_298 rfl rfl (nI_1 k) (by decide) rfl rfl ?_
          refine Rn.goto 200 dL_feed_301 (by decide) ?_
          have := ih (k + 1) (by omega); rw [ee] at this; exact this _ _
        · refine Rn.aload_n (pc1 := 281)  dL_feed_280 rfl rfl rfl ?_
          refine Rn.iload (pc1 := 283)  dL_feed_281 rfl rfl ?_
          refine Rn.cV_i (pc1 := 286) (k_tab C hk2 rfl) dL_feed_283 rfl qL_65 oX8_table (by first | assumption | exact mset_same | exact mget_ne (by omega) (by assumption) | exact mget_ne (by omega) mset_same) rfl rfl rfl rfl (Nat.le_of_ble_eq_true rfl) (by decide) (by decide) (fun v283 μ283 h283 => ?_)
          obtain ⟨rfl, rfl⟩ := h283
          refine Rn.bipush (pc1 := 288) (v := (-6)) dL_feed_286 rfl (by decide) ?_
          refine Rn.icmp_ne (pc1 := 291) 295 dL_feed_288 rfl (by decide) (fun c288 => ?_) (fun c288 => ?_)
          · exact absurd (A.2.2.2.1.2.2.2.2.2.2.2.1 k hk2 (tolB_f (bI_0 c277))) c288
          · refine Rn.iconst (pc1 := 292) (v := nI 1) dL_feed_291 rfl (by decide) ?_
            refine Rn.goto 296 dL_feed_292 (by decide) ?_
            refine Rn.istore (pc1 := 298)  dL_feed_296 rfl (by decide) rfl rfl ?_
            refine Rn.iinc (pc1 := 301)  dL_feed_298 rfl rfl (nI_1 k) (by decide) rfl rfl ?_
            refine Rn.goto 200 dL_feed_301 (by decide) ?_
            have := ih (k + 1) (by omega); rw [ee] at this; exact this _ _
    refine Rn.iload (pc1 := 202)  dL_feed_200 rfl rfl ?_
    refine Rn.bipush (pc1 := 204) (v := nI 12) dL_feed_202 rfl (by decide) ?_
    refine Rn.icmp_ge (pc1 := 207) 304 dL_feed_204 rfl (by decide) (fun c204 => ?_) (fun c204 => ?_)
    · exact absurd c204 (nI_ge hk2 (by omega))
    · refine Rn.iload (pc1 := 209)  dL_feed_207 rfl rfl ?_
      refine Rn.if_eq (pc1 := 212) 304 dL_feed_209 rfl (by decide) (fun c209 => ?_) (fun c209 => ?_)
      · exact absurd c209 (by decide)
      · refine Rn.iconst (pc1 := 213) (v := nI 0) dL_feed_212 rfl (by decide) ?_
        refine Rn.istore (pc1 := 215)  dL_feed_213 rfl (by decide) rfl rfl ?_
        refine Rn.iconst (pc1 := 216) (v := nI 0) dL_feed_215 rfl (by decide) ?_
        refine Rn.istore (pc1 := 218)  dL_feed_216 rfl (by decide) rfl rfl ?_
        exact lF_218 C A hk2 KK h 0 (by omega)
theorem lF_58 (C : CW μ x f held P Pp len u S B) (A : FA f h rc sc B N n t g fl m) : ∀ (r e : Nat), e + r = h → ∀ (bf tm : Int32), (e < h → bf < nI (n e)) → (e < h → tm ≤ nI (t e)) → Rn G 7 kL_feed 58 [some (.ref x), some (.int bf), some (.int tm), some (.int (nI 0)), some (.int (nI 1)), some (.int (nI e)), none, none] [] μ sz 0 0 (QT μ) := by
  have hO := C.1
  have hl := A.le
  intro r
  induction r with
  | zero =>
    intro e he bf tm hb ht
    obtain rfl : e = h := by omega
    refine Rn.iload (pc1 := 60)  dL_feed_58 rfl rfl ?_
    refine Rn.aload_n (pc1 := 61)  dL_feed_60 rfl rfl rfl ?_
    refine Rn.iconst (pc1 := 62) (v := nI 0) dL_feed_61 rfl (by decide) ?_
    refine Rn.cV_i (pc1 := 65) (k_cnt C (w := 0) (by omega) A.c0) dL_feed_62 rfl qL_59 oX8_count (by first | assumption | exact mset_same | exact mget_ne (by omega) (by assumption) | exact mget_ne (by omega) mset_same) rfl rfl rfl rfl (Nat.le_of_ble_eq_true rfl) (by decide) (by decide) (fun v62 μ62 h62 => ?_)
    obtain ⟨rfl, rfl⟩ := h62
    refine Rn.icmp_ge (pc1 := 68) 197 dL_feed_65 rfl (by decide) (fun c65 => ?_) (fun c65 => ?_)
    · refine Rn.iconst (pc1 := 198) (v := nI 0) dL_feed_197 rfl (by decide) ?_
      refine Rn.istore (pc1 := 200)  dL_feed_198 rfl (by decide) rfl rfl ?_
      exact lF_200 C A 12 0 (by omega) _ _
    · exact absurd (nI_le (Nat.le_refl _) (by omega)) c65
  | succ r ih =>
    intro e he bf tm hb ht
    have he2 : e < h := by omega
    have hnt := hl.2.2.2.2.2.2 e he2
    obtain ⟨k, hk, ek⟩ := A.2.2.2.1.2.2.2.2.1 e he2
    have mono := A.2.2.2.1.2.2.2.1
    refine Rn.iload (pc1 := 60)  dL_feed_58 rfl rfl ?_
    refine Rn.aload_n (pc1 := 61)  dL_feed_60 rfl rfl rfl ?_
    refine Rn.iconst (pc1 := 62) (v := nI 0) dL_feed_61 rfl (by decide) ?_
    refine Rn.cV_i (pc1 := 65) (k_cnt C (w := 0) (by omega) A.c0) dL_feed_62 rfl qL_59 oX8_count (by first | assumption | exact mset_same | exact mget_ne (by omega) (by assumption) | exact mget_ne (by omega) mset_same) rfl rfl rfl rfl (Nat.le_of_ble_eq_true rfl) (by decide) (by decide) (fun v62 μ62 h62 => ?_)
    obtain ⟨rfl, rfl⟩ := h62
    refine Rn.icmp_ge (pc1 := 68) 197 dL_feed_65 rfl (by decide) (fun c65 => ?_) (fun c65 => ?_)
    · exact absurd c65 (nI_ge he2 (by omega))
    · refine Rn.iload (pc1 := 70)  dL_feed_68 rfl rfl ?_
      refine Rn.if_eq (pc1 := 73) 197 dL_feed_70 rfl (by decide) (fun c70 => ?_) (fun c70 => ?_)
      · exact absurd c70 (by decide)
      · refine Rn.aload_n (pc1 := 74)  dL_feed_73 rfl rfl rfl ?_
        refine Rn.iload (pc1 := 76)  dL_feed_74 rfl rfl ?_
        refine Rn.iconst (pc1 := 77) (v := nI 0) dL_feed_76 rfl (by decide) ?_
        refine Rn.cV_i (pc1 := 80) (k_ent C A.hh (A.he he2) (w := 0) (by omega) (A.n0 he2)) dL_feed_77 rfl qL_62 oX8_entry (by first | assumption | exact mset_same | exact mget_ne (by omega) (by assumption) | exact mget_ne (by omega) mset_same) rfl rfl rfl rfl (Nat.le_of_ble_eq_true rfl) (by decide) (by decide) (fun v77 μ77 h77 => ?_)
        obtain ⟨rfl, rfl⟩ := h77
        refine Rn.iload_n (pc1 := 81)  dL_feed_80 rfl rfl rfl ?_
        refine Rn.icmp_le (pc1 := 84) 129 dL_feed_81 rfl (by decide) (fun c81 => ?_) (fun c81 => ?_)
        · exact absurd c81 (i32_nle.mpr (hb he2))
        · refine Rn.aload_n (pc1 := 85)  dL_feed_84 rfl rfl rfl ?_
          refine Rn.iload (pc1 := 87)  dL_feed_85 rfl rfl ?_
          refine Rn.iconst (pc1 := 88) (v := nI 0) dL_feed_87 rfl (by decide) ?_
          refine Rn.cV_i (pc1 := 91) (k_ent C A.hh (A.he he2) (w := 0) (by omega) (A.n0 he2)) dL_feed_88 rfl qL_62 oX8_entry (by first | assumption | exact mset_same | exact mget_ne (by omega) (by assumption) | exact mget_ne (by omega) mset_same) rfl rfl rfl rfl (Nat.le_of_ble_eq_true rfl) (by decide) (by decide) (fun v88 μ88 h88 => ?_)
          obtain ⟨rfl, rfl⟩ := h88
          refine Rn.aload_n (pc1 := 92)  dL_feed_91 rfl rfl rfl ?_
          refine Rn.iconst (pc1 := 93) (v := nI 1) dL_feed_92 rfl (by decide) ?_
          refine Rn.cV_i (pc1 := 96) (k_cnt C (w := 1) (by omega) A.c1) dL_feed_93 rfl qL_59 oX8_count (by first | assumption | exact mset_same | exact mget_ne (by omega) (by assumption) | exact mget_ne (by omega) mset_same) rfl rfl rfl rfl (Nat.le_of_ble_eq_true rfl) (by decide) (by decide) (fun v93 μ93 h93 => ?_)
          obtain ⟨rfl, rfl⟩ := h93
          refine Rn.icmp_ge (pc1 := 99) 129 dL_feed_96 rfl (by decide) (fun c96 => ?_) (fun c96 => ?_)
          · exact absurd c96 (nI_ge hnt.1 (by omega))
          · refine Rn.aload_n (pc1 := 100)  dL_feed_99 rfl rfl rfl ?_
            refine Rn.iload (pc1 := 102)  dL_feed_100 rfl rfl ?_
            refine Rn.iconst (pc1 := 103) (v := nI 3) dL_feed_102 rfl (by decide) ?_
            refine Rn.cV_i (pc1 := 106) (k_ent C A.hh (A.he he2) (w := 3) (by omega) (A.n3 he2)) dL_feed_103 rfl qL_62 oX8_entry (by first | assumption | exact mset_same | exact mget_ne (by omega) (by assumption) | exact mget_ne (by omega) mset_same) rfl rfl rfl rfl (Nat.le_of_ble_eq_true rfl) (by decide) (by decide) (fun v103 μ103 h103 => ?_)
            obtain ⟨rfl, rfl⟩ := h103
            refine Rn.iload_n (pc1 := 107)  dL_feed_106 rfl rfl rfl ?_
            refine Rn.icmp_lt (pc1 := 110) 129 dL_feed_107 rfl (by decide) (fun c107 => ?_) (fun c107 => ?_)
            · exact absurd c107 (i32_nlt.mpr (ht he2))
            · refine Rn.aload_n (pc1 := 111)  dL_feed_110 rfl rfl rfl ?_
              refine Rn.iload (pc1 := 113)  dL_feed_111 rfl rfl ?_
              refine Rn.iconst (pc1 := 114) (v := nI 3) dL_feed_113 rfl (by decide) ?_
              refine Rn.cV_i (pc1 := 117) (k_ent C A.hh (A.he he2) (w := 3) (by omega) (A.n3 he2)) dL_feed_114 rfl qL_62 oX8_entry (by first | assumption | exact mset_same | exact mget_ne (by omega) (by assumption) | exact mget_ne (by omega) mset_same) rfl rfl rfl rfl (Nat.le_of_ble_eq_true rfl) (by decide) (by decide) (fun v114 μ114 h114 => ?_)
              obtain ⟨rfl, rfl⟩ := h114
              refine Rn.aload_n (pc1 := 118)  dL_feed_117 rfl rfl rfl ?_
              refine Rn.iconst (pc1 := 119) (v := nI 3) dL_feed_118 rfl (by decide) ?_
              refine Rn.cV_i (pc1 := 122) (k_cnt C (w := 3) (by omega) A.c3) dL_feed_119 rfl qL_59 oX8_count (by first | assumption | exact mset_same | exact mget_ne (by omega) (by assumption) | exact mget_ne (by omega) mset_same) rfl rfl rfl rfl (Nat.le_of_ble_eq_true rfl) (by decide) (by decide) (fun v119 μ119 h119 => ?_)
              obtain ⟨rfl, rfl⟩ := h119
              refine Rn.icmp_gt (pc1 := 125) 129 dL_feed_122 rfl (by decide) (fun c122 => ?_) (fun c122 => ?_)
              · exact absurd c122 (nI_nlt hnt.2 (by omega))
              · refine Rn.iconst (pc1 := 126) (v := nI 1) dL_feed_125 rfl (by decide) ?_
                refine Rn.goto 130 dL_feed_126 (by decide) ?_
                refine Rn.istore (pc1 := 132)  dL_feed_130 rfl (by decide) rfl rfl ?_
                refine Rn.iload (pc1 := 134)  dL_feed_132 rfl rfl ?_
                refine Rn.if_eq (pc1 := 137) 172 dL_feed_134 rfl (by decide) (fun c134 => ?_) (fun c134 => ?_)
                · exact absurd c134 (by decide)
                · refine Rn.aload_n (pc1 := 138)  dL_feed_137 rfl rfl rfl ?_
                  refine Rn.iload (pc1 := 140)  dL_feed_138 rfl rfl ?_
                  refine Rn.iconst (pc1 := 141) (v := nI 4) dL_feed_140 rfl (by decide) ?_
                  refine Rn.cV_i (pc1 := 144) (k_ent C A.hh (A.he he2) (w := 4) (by omega) A.n4) dL_feed_141 rfl qL_62 oX8_entry (by first | assumption | exact mset_same | exact mget_ne (by omega) (by assumption) | exact mget_ne (by omega) mset_same) rfl rfl rfl rfl (Nat.le_of_ble_eq_true rfl) (by decide) (by decide) (fun v141 μ141 h141 => ?_)
                  obtain ⟨rfl, rfl⟩ := h141
                  refine Rn.if_eq (pc1 := 147) 168 dL_feed_144 rfl (by decide) (fun c144 => ?_) (fun c144 => ?_)
                  · refine Rn.iconst (pc1 := 169) (v := nI 1) dL_feed_168 rfl (by decide) ?_
                    refine Rn.goto 173 dL_feed_169 (by decide) ?_
                    refine Rn.istore (pc1 := 175)  dL_feed_173 rfl (by decide) rfl rfl ?_
                    refine Rn.aload_n (pc1 := 176)  dL_feed_175 rfl rfl rfl ?_
                    refine Rn.iload (pc1 := 178)  dL_feed_176 rfl rfl ?_
                    refine Rn.iconst (pc1 := 179) (v := nI 0) dL_feed_178 rfl (by decide) ?_
                    refine Rn.cV_i (pc1 := 182) (k_ent C A.hh (A.he he2) (w := 0) (by omega) (A.n0 he2)) dL_feed_179 rfl qL_62 oX8_entry (by first | assumption | exact mset_same | exact mget_ne (by omega) (by assumption) | exact mget_ne (by omega) mset_same) rfl rfl rfl rfl (Nat.le_of_ble_eq_true rfl) (by decide) (by decide) (fun v179 μ179 h179 => ?_)
                    obtain ⟨rfl, rfl⟩ := h179
                    refine Rn.istore_n (pc1 := 183)  dL_feed_182 rfl rfl (by decide) rfl rfl ?_
                    refine Rn.aload_n (pc1 := 184)  dL_feed_183 rfl rfl rfl ?_
                    refine Rn.iload (pc1 := 186)  dL_feed_184 rfl rfl ?_
                    refine Rn.iconst (pc1 := 187) (v := nI 3) dL_feed_186 rfl (by decide) ?_
                    refine Rn.cV_i (pc1 := 190) (k_ent C A.hh (A.he he2) (w := 3) (by omega) (A.n3 he2)) dL_feed_187 rfl qL_62 oX8_entry (by first | assumption | exact mset_same | exact mget_ne (by omega) (by assumption) | exact mget_ne (by omega) mset_same) rfl rfl rfl rfl (Nat.le_of_ble_eq_true rfl) (by decide) (by decide) (fun v187 μ187 h187 => ?_)
                    obtain ⟨rfl, rfl⟩ := h187
                    refine Rn.istore_n (pc1 := 191)  dL_feed_190 rfl rfl (by decide) rfl rfl ?_
                    refine Rn.iinc (pc1 := 194)  dL_feed_191 rfl rfl (nI_1 e) (by decide) rfl rfl ?_
                    refine Rn.goto 58 dL_feed_194 (by decide) ?_
                    exact ih (e + 1) (by omega) _ _ (fun q => nI_lt (mono e (e + 1) (by omega) q).1 (by have := hl.2.2.2.2.2.2 (e + 1) q; omega)) (fun q => nI_le (mono e (e + 1) (by omega) q).2 (by have := hl.2.2.2.2.2.2 (e + 1) q; omega))
                  · refine Rn.aload_n (pc1 := 148)  dL_feed_147 rfl rfl rfl ?_
                    refine Rn.aload_n (pc1 := 149)  dL_feed_148 rfl rfl rfl ?_
                    refine Rn.iload (pc1 := 151)  dL_feed_149 rfl rfl ?_
                    refine Rn.iconst (pc1 := 152) (v := nI 1) dL_feed_151 rfl (by decide) ?_
                    refine Rn.cV_i (pc1 := 155) (k_ent C A.hh (A.he he2) (w := 1) (by omega) ek) dL_feed_152 rfl qL_62 oX8_entry (by first | assumption | exact mset_same | exact mget_ne (by omega) (by assumption) | exact mget_ne (by omega) mset_same) rfl rfl rfl rfl (Nat.le_of_ble_eq_true rfl) (by decide) (by decide) (fun v152 μ152 h152 => ?_)
                    obtain ⟨rfl, rfl⟩ := h152
                    refine Rn.cV_i (pc1 := 158) (k_tab C hk rfl) dL_feed_155 rfl qL_65 oX8_table (by first | assumption | exact mset_same | exact mget_ne (by omega) (by assumption) | exact mget_ne (by omega) mset_same) rfl rfl rfl rfl (Nat.le_of_ble_eq_true rfl) (by decide) (by decide) (fun v155 μ155 h155 => ?_)
                    obtain ⟨rfl, rfl⟩ := h155
                    refine Rn.aload_n (pc1 := 159)  dL_feed_158 rfl rfl rfl ?_
                    refine Rn.iload (pc1 := 161)  dL_feed_159 rfl rfl ?_
                    refine Rn.iconst (pc1 := 162) (v := nI 2) dL_feed_161 rfl (by decide) ?_
                    refine Rn.cV_i (pc1 := 165) (k_ent C A.hh (A.he he2) (w := 2) (y := e2 f e) (by omega) rfl) dL_feed_162 rfl qL_62 oX8_entry (by first | assumption | exact mset_same | exact mget_ne (by omega) (by assumption) | exact mget_ne (by omega) mset_same) rfl rfl rfl rfl (Nat.le_of_ble_eq_true rfl) (by decide) (by decide) (fun v162 μ162 h162 => ?_)
                    obtain ⟨rfl, rfl⟩ := h162
                    refine Rn.icmp_ne (pc1 := 168) 172 dL_feed_165 rfl (by decide) (fun c165 => ?_) (fun c165 => ?_)
                    · exact absurd (A.2.2.2.1.2.2.2.2.2.2.1 e k he2 hk ek (lastB_iff.mp (bI_n c144))) c165
                    · refine Rn.iconst (pc1 := 169) (v := nI 1) dL_feed_168 rfl (by decide) ?_
                      refine Rn.goto 173 dL_feed_169 (by decide) ?_
                      refine Rn.istore (pc1 := 175)  dL_feed_173 rfl (by decide) rfl rfl ?_
                      refine Rn.aload_n (pc1 := 176)  dL_feed_175 rfl rfl rfl ?_
                      refine Rn.iload (pc1 := 178)  dL_feed_176 rfl rfl ?_
                      refine Rn.iconst (pc1 := 179) (v := nI 0) dL_feed_178 rfl (by decide) ?_
                      refine Rn.cV_i (pc1 := 182) (k_ent C A.hh (A.he he2) (w := 0) (by omega) (A.n0 he2)) dL_feed_179 rfl qL_62 oX8_entry (by first | assumption | exact mset_same | exact mget_ne (by omega) (by assumption) | exact mget_ne (by omega) mset_same) rfl rfl rfl rfl (Nat.le_of_ble_eq_true rfl) (by decide) (by decide) (fun v179 μ179 h179 => ?_)
                      obtain ⟨rfl, rfl⟩ := h179
                      refine Rn.istore_n (pc1 := 183)  dL_feed_182 rfl rfl (by decide) rfl rfl ?_
                      refine Rn.aload_n (pc1 := 184)  dL_feed_183 rfl rfl rfl ?_
                      refine Rn.iload (pc1 := 186)  dL_feed_184 rfl rfl ?_
                      refine Rn.iconst (pc1 := 187) (v := nI 3) dL_feed_186 rfl (by decide) ?_
                      refine Rn.cV_i (pc1 := 190) (k_ent C A.hh (A.he he2) (w := 3) (by omega) (A.n3 he2)) dL_feed_187 rfl qL_62 oX8_entry (by first | assumption | exact mset_same | exact mget_ne (by omega) (by assumption) | exact mget_ne (by omega) mset_same) rfl rfl rfl rfl (Nat.le_of_ble_eq_true rfl) (by decide) (by decide) (fun v187 μ187 h187 => ?_)
                      obtain ⟨rfl, rfl⟩ := h187
                      refine Rn.istore_n (pc1 := 191)  dL_feed_190 rfl rfl (by decide) rfl rfl ?_
                      refine Rn.iinc (pc1 := 194)  dL_feed_191 rfl rfl (nI_1 e) (by decide) rfl rfl ?_
                      refine Rn.goto 58 dL_feed_194 (by decide) ?_
                      exact ih (e + 1) (by omega) _ _ (fun q => nI_lt (mono e (e + 1) (by omega) q).1 (by have := hl.2.2.2.2.2.2 (e + 1) q; omega)) (fun q => nI_le (mono e (e + 1) (by omega) q).2 (by have := hl.2.2.2.2.2.2 (e + 1) q; omega))
theorem eL_feed (C : CW μ x f held P Pp len u S B) (A : FA f h rc sc B N n t g fl m) : EvA G 7 kL_feed [.ref x] μ sz 0 0 (QT μ) := by
  have hO := C.1
  have hl := A.le
  refine EvA.of (L := [some (.ref x), none, none, none, none, none, none, none]) (by decide +kernel) (Nat.le_of_ble_eq_true rfl) rfl ?_
  refine Rn.iconst (pc1 := 1) (v := (-1)) dL_feed_0 rfl (by decide) ?_
  refine Rn.istore_n (pc1 := 2)  dL_feed_1 rfl rfl (by decide) rfl rfl ?_
  refine Rn.iconst (pc1 := 3) (v := nI 0) dL_feed_2 rfl (by decide) ?_
  refine Rn.istore_n (pc1 := 4)  dL_feed_3 rfl rfl (by decide) rfl rfl ?_
  refine Rn.iconst (pc1 := 5) (v := nI 0) dL_feed_4 rfl (by decide) ?_
  refine Rn.istore_n (pc1 := 6)  dL_feed_5 rfl rfl (by decide) rfl rfl ?_
  refine Rn.aload_n (pc1 := 7)  dL_feed_6 rfl rfl rfl ?_
  refine Rn.iconst (pc1 := 8) (v := nI 0) dL_feed_7 rfl (by decide) ?_
  refine Rn.cV_i (pc1 := 11) (k_cnt C (w := 0) (by omega) A.c0) dL_feed_8 rfl qL_59 oX8_count (by first | assumption | exact mset_same | exact mget_ne (by omega) (by assumption) | exact mget_ne (by omega) mset_same) rfl rfl rfl rfl (Nat.le_of_ble_eq_true rfl) (by decide) (by decide) (fun v8 μ8 h8 => ?_)
  obtain ⟨rfl, rfl⟩ := h8
  refine Rn.bipush (pc1 := 13) (v := nI 60) dL_feed_11 rfl (by decide) ?_
  refine Rn.icmp_gt (pc1 := 16) 52 dL_feed_13 rfl (by decide) (fun c13 => ?_) (fun c13 => ?_)
  · exact absurd c13 (nI_nlt hl.1.1 (by omega))
  · refine Rn.aload_n (pc1 := 17)  dL_feed_16 rfl rfl rfl ?_
    refine Rn.iconst (pc1 := 18) (v := nI 0) dL_feed_17 rfl (by decide) ?_
    refine Rn.cV_i (pc1 := 21) (k_cnt C (w := 0) (by omega) A.c0) dL_feed_18 rfl qL_59 oX8_count (by first | assumption | exact mset_same | exact mget_ne (by omega) (by assumption) | exact mget_ne (by omega) mset_same) rfl rfl rfl rfl (Nat.le_of_ble_eq_true rfl) (by decide) (by decide) (fun v18 μ18 h18 => ?_)
    obtain ⟨rfl, rfl⟩ := h18
    refine Rn.aload_n (pc1 := 22)  dL_feed_21 rfl rfl rfl ?_
    refine Rn.iconst (pc1 := 23) (v := nI 5) dL_feed_22 rfl (by decide) ?_
    refine Rn.cV_i (pc1 := 26) (k_cnt C (w := 5) (by omega) A.c5) dL_feed_23 rfl qL_59 oX8_count (by first | assumption | exact mset_same | exact mget_ne (by omega) (by assumption) | exact mget_ne (by omega) mset_same) rfl rfl rfl rfl (Nat.le_of_ble_eq_true rfl) (by decide) (by decide) (fun v23 μ23 h23 => ?_)
    obtain ⟨rfl, rfl⟩ := h23
    refine Rn.iadd (pc1 := 27)  dL_feed_26 rfl (nI_add _ _) ?_
    refine Rn.aload_n (pc1 := 28)  dL_feed_27 rfl rfl rfl ?_
    refine Rn.iconst (pc1 := 29) (v := nI 1) dL_feed_28 rfl (by decide) ?_
    refine Rn.cV_i (pc1 := 32) (k_cnt C (w := 1) (by omega) A.c1) dL_feed_29 rfl qL_59 oX8_count (by first | assumption | exact mset_same | exact mget_ne (by omega) (by assumption) | exact mget_ne (by omega) mset_same) rfl rfl rfl rfl (Nat.le_of_ble_eq_true rfl) (by decide) (by decide) (fun v29 μ29 h29 => ?_)
    obtain ⟨rfl, rfl⟩ := h29
    refine Rn.icmp_ne (pc1 := 35) 52 dL_feed_32 rfl (by decide) (fun c32 => ?_) (fun c32 => ?_)
    · exact absurd (by rw [hl.2.2.2.2.2.1]) c32
    · refine Rn.aload_n (pc1 := 36)  dL_feed_35 rfl rfl rfl ?_
      refine Rn.iconst (pc1 := 37) (v := nI 4) dL_feed_36 rfl (by decide) ?_
      refine Rn.cV_i (pc1 := 40) (k_cnt C (w := 4) (by omega) A.c4) dL_feed_37 rfl qL_59 oX8_count (by first | assumption | exact mset_same | exact mget_ne (by omega) (by assumption) | exact mget_ne (by omega) mset_same) rfl rfl rfl rfl (Nat.le_of_ble_eq_true rfl) (by decide) (by decide) (fun v37 μ37 h37 => ?_)
      obtain ⟨rfl, rfl⟩ := h37
      refine Rn.aload_n (pc1 := 41)  dL_feed_40 rfl rfl rfl ?_
      refine Rn.iconst (pc1 := 42) (v := nI 1) dL_feed_41 rfl (by decide) ?_
      refine Rn.cV_i (pc1 := 45) (k_cnt C (w := 1) (by omega) A.c1) dL_feed_42 rfl qL_59 oX8_count (by first | assumption | exact mset_same | exact mget_ne (by omega) (by assumption) | exact mget_ne (by omega) mset_same) rfl rfl rfl rfl (Nat.le_of_ble_eq_true rfl) (by decide) (by decide) (fun v42 μ42 h42 => ?_)
      obtain ⟨rfl, rfl⟩ := h42
      refine Rn.icmp_gt (pc1 := 48) 52 dL_feed_45 rfl (by decide) (fun c45 => ?_) (fun c45 => ?_)
      · exact absurd c45 (nI_nlt hl.2.2.2.1 (by omega))
      · refine Rn.iconst (pc1 := 49) (v := nI 1) dL_feed_48 rfl (by decide) ?_
        refine Rn.goto 53 dL_feed_49 (by decide) ?_
        refine Rn.istore (pc1 := 55)  dL_feed_53 rfl (by decide) rfl rfl ?_
        refine Rn.iconst (pc1 := 56) (v := nI 0) dL_feed_55 rfl (by decide) ?_
        refine Rn.istore (pc1 := 58)  dL_feed_56 rfl (by decide) rfl rfl ?_
        exact lF_58 C A h 0 (by omega) _ _ (fun q => m1_nI (by have := hl.2.2.2.2.2.2 0 q; omega)) (fun q => nI_le (Nat.zero_le _) (by have := hl.2.2.2.2.2.2 0 q; omega))
end LAWF
end
