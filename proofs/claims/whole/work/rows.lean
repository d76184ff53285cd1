section
-- ===== PART A: goes FIRST, ahead of the names: the tables' words, and 'selects' of the private methods out of them =====
/-- a private method of a class that the tables say can be made, by its rows of tables_1 -/
def lw_okq (q : MethodName × Nat) : Prop := (q.1.cls ≠ "java/lang/invoke/MethodHandle" ∧ q.1.cls ≠ "java/lang/invoke/VarHandle") ∧ Cond.instantiable q.1.cls q.2 ∈ tables_1 ∧ Cond.privateMethod q.1 ∈ tables_1 ∧ Cond.instanceMethod q.1 ∈ tables_1
theorem lw_p0 : lw_okq (⟨"ChangeFeed$History", "stateAt", "(I)LChangeFeed$State;"⟩, 2) := ⟨⟨by decide +kernel, by decide +kernel⟩, List.mem_of_getElem? (i := 173) (by decide +kernel), List.mem_of_getElem? (i := 258) (by decide +kernel), List.mem_of_getElem? (i := 259) (by decide +kernel)⟩
theorem lw_p1 : lw_okq (⟨"ChangeFeed$History", "dropOldest", "()V"⟩, 2) := ⟨⟨by decide +kernel, by decide +kernel⟩, List.mem_of_getElem? (i := 173) (by decide +kernel), List.mem_of_getElem? (i := 310) (by decide +kernel), List.mem_of_getElem? (i := 311) (by decide +kernel)⟩
theorem lw_p2 : lw_okq (⟨"ChangeFeed$Feed", "layEntry", "(IIIII)V"⟩, 8) := ⟨⟨by decide +kernel, by decide +kernel⟩, List.mem_of_getElem? (i := 45) (by decide +kernel), List.mem_of_getElem? (i := 337) (by decide +kernel), List.mem_of_getElem? (i := 338) (by decide +kernel)⟩
theorem lw_p3 : lw_okq (⟨"ChangeFeed$Feed", "wouldGo", "(IIII)Z"⟩, 8) := ⟨⟨by decide +kernel, by decide +kernel⟩, List.mem_of_getElem? (i := 45) (by decide +kernel), List.mem_of_getElem? (i := 383) (by decide +kernel), List.mem_of_getElem? (i := 384) (by decide +kernel)⟩
theorem lw_p4 : lw_okq (⟨"ChangeFeed$Feed", "isOldRemoval", "(III)Z"⟩, 8) := ⟨⟨by decide +kernel, by decide +kernel⟩, List.mem_of_getElem? (i := 45) (by decide +kernel), List.mem_of_getElem? (i := 394) (by decide +kernel), List.mem_of_getElem? (i := 395) (by decide +kernel)⟩
theorem lw_p5 : lw_okq (⟨"ChangeFeed$State", "aheadUnlessLate", "(I)I"⟩, 9) := ⟨⟨by decide +kernel, by decide +kernel⟩, List.mem_of_getElem? (i := 21) (by decide +kernel), List.mem_of_getElem? (i := 596) (by decide +kernel), List.mem_of_getElem? (i := 597) (by decide +kernel)⟩
theorem lw_p6 : lw_okq (⟨"ChangeFeed$Pad", "signHere", "()I"⟩, 6) := ⟨⟨by decide +kernel, by decide +kernel⟩, List.mem_of_getElem? (i := 190) (by decide +kernel), List.mem_of_getElem? (i := 642) (by decide +kernel), List.mem_of_getElem? (i := 643) (by decide +kernel)⟩
theorem lw_p7 : lw_okq (⟨"ChangeFeed$Pad", "takeNumber", "()I"⟩, 6) := ⟨⟨by decide +kernel, by decide +kernel⟩, List.mem_of_getElem? (i := 190) (by decide +kernel), List.mem_of_getElem? (i := 651) (by decide +kernel), List.mem_of_getElem? (i := 652) (by decide +kernel)⟩
theorem lw_p8 : lw_okq (⟨"ChangeFeed$Pad", "takeDigit", "(I)I"⟩, 6) := ⟨⟨by decide +kernel, by decide +kernel⟩, List.mem_of_getElem? (i := 190) (by decide +kernel), List.mem_of_getElem? (i := 655) (by decide +kernel), List.mem_of_getElem? (i := 656) (by decide +kernel)⟩
theorem lw_p9 : lw_okq (⟨"ChangeFeed$Pad", "takeFirst", "(I)Z"⟩, 6) := ⟨⟨by decide +kernel, by decide +kernel⟩, List.mem_of_getElem? (i := 190) (by decide +kernel), List.mem_of_getElem? (i := 659) (by decide +kernel), List.mem_of_getElem? (i := 660) (by decide +kernel)⟩
theorem lw_p10 : lw_okq (⟨"ChangeFeed$Pad", "takeReader", "()I"⟩, 6) := ⟨⟨by decide +kernel, by decide +kernel⟩, List.mem_of_getElem? (i := 190) (by decide +kernel), List.mem_of_getElem? (i := 663) (by decide +kernel), List.mem_of_getElem? (i := 664) (by decide +kernel)⟩
theorem lw_p11 : lw_okq (⟨"ChangeFeed$Pad", "takeSecond", "(I)Z"⟩, 6) := ⟨⟨by decide +kernel, by decide +kernel⟩, List.mem_of_getElem? (i := 190) (by decide +kernel), List.mem_of_getElem? (i := 667) (by decide +kernel), List.mem_of_getElem? (i := 668) (by decide +kernel)⟩
theorem lw_p12 : lw_okq (⟨"ChangeFeed", "carryOutOrder", "()I"⟩, 4) := ⟨⟨by decide +kernel, by decide +kernel⟩, List.mem_of_getElem? (i := 13) (by decide +kernel), List.mem_of_getElem? (i := 677) (by decide +kernel), List.mem_of_getElem? (i := 678) (by decide +kernel)⟩
theorem lw_p13 : lw_okq (⟨"ChangeFeed", "slotAt", "(I)LChangeFeed$Slot;"⟩, 4) := ⟨⟨by decide +kernel, by decide +kernel⟩, List.mem_of_getElem? (i := 13) (by decide +kernel), List.mem_of_getElem? (i := 694) (by decide +kernel), List.mem_of_getElem? (i := 695) (by decide +kernel)⟩
theorem lw_p14 : lw_okq (⟨"ChangeFeedModel", "records", "()V"⟩, 11) := ⟨⟨by decide +kernel, by decide +kernel⟩, List.mem_of_getElem? (i := 703) (by decide +kernel), List.mem_of_getElem? (i := 762) (by decide +kernel), List.mem_of_getElem? (i := 763) (by decide +kernel)⟩
theorem lw_p15 : lw_okq (⟨"ChangeFeedModel", "maySet", "(II)I"⟩, 11) := ⟨⟨by decide +kernel, by decide +kernel⟩, List.mem_of_getElem? (i := 703) (by decide +kernel), List.mem_of_getElem? (i := 774) (by decide +kernel), List.mem_of_getElem? (i := 775) (by decide +kernel)⟩
def lw_privs_1 : List (MethodName × Nat) := [(⟨"ChangeFeed$History", "stateAt", "(I)LChangeFeed$State;"⟩, 2), (⟨"ChangeFeed$History", "dropOldest", "()V"⟩, 2), (⟨"ChangeFeed$Feed", "layEntry", "(IIIII)V"⟩, 8), (⟨"ChangeFeed$Feed", "wouldGo", "(IIII)Z"⟩, 8), (⟨"ChangeFeed$Feed", "isOldRemoval", "(III)Z"⟩, 8), (⟨"ChangeFeed$State", "aheadUnlessLate", "(I)I"⟩, 9), (⟨"ChangeFeed$Pad", "signHere", "()I"⟩, 6), (⟨"ChangeFeed$Pad", "takeNumber", "()I"⟩, 6), (⟨"ChangeFeed$Pad", "takeDigit", "(I)I"⟩, 6), (⟨"ChangeFeed$Pad", "takeFirst", "(I)Z"⟩, 6), (⟨"ChangeFeed$Pad", "takeReader", "()I"⟩, 6), (⟨"ChangeFeed$Pad", "takeSecond", "(I)Z"⟩, 6), (⟨"ChangeFeed", "carryOutOrder", "()I"⟩, 4), (⟨"ChangeFeed", "slotAt", "(I)LChangeFeed$Slot;"⟩, 4), (⟨"ChangeFeedModel", "records", "()V"⟩, 11), (⟨"ChangeFeedModel", "maySet", "(II)I"⟩, 11)]
theorem lw_r1 : ∀ q ∈ lw_privs_1, lw_okq q := List.forall_mem_cons.mpr ⟨lw_p0, List.forall_mem_cons.mpr ⟨lw_p1, List.forall_mem_cons.mpr ⟨lw_p2, List.forall_mem_cons.mpr ⟨lw_p3, List.forall_mem_cons.mpr ⟨lw_p4, List.forall_mem_cons.mpr ⟨lw_p5, List.forall_mem_cons.mpr ⟨lw_p6, List.forall_mem_cons.mpr ⟨lw_p7, List.forall_mem_cons.mpr ⟨lw_p8, List.forall_mem_cons.mpr ⟨lw_p9, List.forall_mem_cons.mpr ⟨lw_p10, List.forall_mem_cons.mpr ⟨lw_p11, List.forall_mem_cons.mpr ⟨lw_p12, List.forall_mem_cons.mpr ⟨lw_p13, List.forall_mem_cons.mpr ⟨lw_p14, List.forall_mem_cons.mpr ⟨lw_p15, fun _ h => absurd h List.not_mem_nil⟩⟩⟩⟩⟩⟩⟩⟩⟩⟩⟩⟩⟩⟩⟩⟩
theorem lw_p16 : lw_okq (⟨"ChangeFeedModel", "sets", "(II)I"⟩, 11) := ⟨⟨by decide +kernel, by decide +kernel⟩, List.mem_of_getElem? (i := 703) (by decide +kernel), List.mem_of_getElem? (i := 781) (by decide +kernel), List.mem_of_getElem? (i := 782) (by decide +kernel)⟩
theorem lw_p17 : lw_okq (⟨"ChangeFeedModel", "mayRemove", "(I)I"⟩, 11) := ⟨⟨by decide +kernel, by decide +kernel⟩, List.mem_of_getElem? (i := 703) (by decide +kernel), List.mem_of_getElem? (i := 789) (by decide +kernel), List.mem_of_getElem? (i := 790) (by decide +kernel)⟩
theorem lw_p18 : lw_okq (⟨"ChangeFeedModel", "mayPass", "(I)I"⟩, 11) := ⟨⟨by decide +kernel, by decide +kernel⟩, List.mem_of_getElem? (i := 703) (by decide +kernel), List.mem_of_getElem? (i := 797) (by decide +kernel), List.mem_of_getElem? (i := 798) (by decide +kernel)⟩
theorem lw_p19 : lw_okq (⟨"ChangeFeedModel", "shoots", "()I"⟩, 11) := ⟨⟨by decide +kernel, by decide +kernel⟩, List.mem_of_getElem? (i := 703) (by decide +kernel), List.mem_of_getElem? (i := 825) (by decide +kernel), List.mem_of_getElem? (i := 826) (by decide +kernel)⟩
theorem lw_p20 : lw_okq (⟨"ChangeFeedModel", "comes", "()I"⟩, 11) := ⟨⟨by decide +kernel, by decide +kernel⟩, List.mem_of_getElem? (i := 703) (by decide +kernel), List.mem_of_getElem? (i := 833) (by decide +kernel), List.mem_of_getElem? (i := 834) (by decide +kernel)⟩
theorem lw_p21 : lw_okq (⟨"ChangeFeedModel", "begins", "(III)I"⟩, 11) := ⟨⟨by decide +kernel, by decide +kernel⟩, List.mem_of_getElem? (i := 703) (by decide +kernel), List.mem_of_getElem? (i := 840) (by decide +kernel), List.mem_of_getElem? (i := 841) (by decide +kernel)⟩
theorem lw_p22 : lw_okq (⟨"ChangeFeedModel", "mayRead", "(II)I"⟩, 11) := ⟨⟨by decide +kernel, by decide +kernel⟩, List.mem_of_getElem? (i := 703) (by decide +kernel), List.mem_of_getElem? (i := 848) (by decide +kernel), List.mem_of_getElem? (i := 849) (by decide +kernel)⟩
theorem lw_p23 : lw_okq (⟨"ChangeFeedModel", "isReader", "(I)Z"⟩, 11) := ⟨⟨by decide +kernel, by decide +kernel⟩, List.mem_of_getElem? (i := 703) (by decide +kernel), List.mem_of_getElem? (i := 852) (by decide +kernel), List.mem_of_getElem? (i := 853) (by decide +kernel)⟩
theorem lw_p24 : lw_okq (⟨"ChangeFeedModel", "reads", "(II)I"⟩, 11) := ⟨⟨by decide +kernel, by decide +kernel⟩, List.mem_of_getElem? (i := 703) (by decide +kernel), List.mem_of_getElem? (i := 862) (by decide +kernel), List.mem_of_getElem? (i := 863) (by decide +kernel)⟩
theorem lw_p25 : lw_okq (⟨"ChangeFeedModel", "takes", "(IZ)I"⟩, 11) := ⟨⟨by decide +kernel, by decide +kernel⟩, List.mem_of_getElem? (i := 703) (by decide +kernel), List.mem_of_getElem? (i := 870) (by decide +kernel), List.mem_of_getElem? (i := 871) (by decide +kernel)⟩
theorem lw_p26 : lw_okq (⟨"ChangeFeedModel", "mayLoad", "(II)I"⟩, 11) := ⟨⟨by decide +kernel, by decide +kernel⟩, List.mem_of_getElem? (i := 703) (by decide +kernel), List.mem_of_getElem? (i := 886) (by decide +kernel), List.mem_of_getElem? (i := 887) (by decide +kernel)⟩
theorem lw_p27 : lw_okq (⟨"ChangeFeedModel", "isShot", "(I)Z"⟩, 11) := ⟨⟨by decide +kernel, by decide +kernel⟩, List.mem_of_getElem? (i := 703) (by decide +kernel), List.mem_of_getElem? (i := 890) (by decide +kernel), List.mem_of_getElem? (i := 891) (by decide +kernel)⟩
theorem lw_p28 : lw_okq (⟨"ChangeFeedModel", "loads", "(II)I"⟩, 11) := ⟨⟨by decide +kernel, by decide +kernel⟩, List.mem_of_getElem? (i := 703) (by decide +kernel), List.mem_of_getElem? (i := 894) (by decide +kernel), List.mem_of_getElem? (i := 895) (by decide +kernel)⟩
theorem lw_p29 : lw_okq (⟨"ChangeFeedModel", "ahead", "(I)I"⟩, 11) := ⟨⟨by decide +kernel, by decide +kernel⟩, List.mem_of_getElem? (i := 703) (by decide +kernel), List.mem_of_getElem? (i := 914) (by decide +kernel), List.mem_of_getElem? (i := 915) (by decide +kernel)⟩
theorem lw_p30 : lw_okq (⟨"ChangeFeedModel", "unlike", "(I)I"⟩, 11) := ⟨⟨by decide +kernel, by decide +kernel⟩, List.mem_of_getElem? (i := 703) (by decide +kernel), List.mem_of_getElem? (i := 918) (by decide +kernel), List.mem_of_getElem? (i := 919) (by decide +kernel)⟩
theorem lw_p31 : lw_okq (⟨"ChangeFeedModel", "valued", "(I)I"⟩, 11) := ⟨⟨by decide +kernel, by decide +kernel⟩, List.mem_of_getElem? (i := 703) (by decide +kernel), List.mem_of_getElem? (i := 926) (by decide +kernel), List.mem_of_getElem? (i := 927) (by decide +kernel)⟩
def lw_privs_2 : List (MethodName × Nat) := [(⟨"ChangeFeedModel", "sets", "(II)I"⟩, 11), (⟨"ChangeFeedModel", "mayRemove", "(I)I"⟩, 11), (⟨"ChangeFeedModel", "mayPass", "(I)I"⟩, 11), (⟨"ChangeFeedModel", "shoots", "()I"⟩, 11), (⟨"ChangeFeedModel", "comes", "()I"⟩, 11), (⟨"ChangeFeedModel", "begins", "(III)I"⟩, 11), (⟨"ChangeFeedModel", "mayRead", "(II)I"⟩, 11), (⟨"ChangeFeedModel", "isReader", "(I)Z"⟩, 11), (⟨"ChangeFeedModel", "reads", "(II)I"⟩, 11), (⟨"ChangeFeedModel", "takes", "(IZ)I"⟩, 11), (⟨"ChangeFeedModel", "mayLoad", "(II)I"⟩, 11), (⟨"ChangeFeedModel", "isShot", "(I)Z"⟩, 11), (⟨"ChangeFeedModel", "loads", "(II)I"⟩, 11), (⟨"ChangeFeedModel", "ahead", "(I)I"⟩, 11), (⟨"ChangeFeedModel", "unlike", "(I)I"⟩, 11), (⟨"ChangeFeedModel", "valued", "(I)I"⟩, 11)]
theorem lw_r2 : ∀ q ∈ lw_privs_2, lw_okq q := List.forall_mem_cons.mpr ⟨lw_p16, List.forall_mem_cons.mpr ⟨lw_p17, List.forall_mem_cons.mpr ⟨lw_p18, List.forall_mem_cons.mpr ⟨lw_p19, List.forall_mem_cons.mpr ⟨lw_p20, List.forall_mem_cons.mpr ⟨lw_p21, List.forall_mem_cons.mpr ⟨lw_p22, List.forall_mem_cons.mpr ⟨lw_p23, List.forall_mem_cons.mpr ⟨lw_p24, List.forall_mem_cons.mpr ⟨lw_p25, List.forall_mem_cons.mpr ⟨lw_p26, List.forall_mem_cons.mpr ⟨lw_p27, List.forall_mem_cons.mpr ⟨lw_p28, List.forall_mem_cons.mpr ⟨lw_p29, List.forall_mem_cons.mpr ⟨lw_p30, List.forall_mem_cons.mpr ⟨lw_p31, fun _ h => absurd h List.not_mem_nil⟩⟩⟩⟩⟩⟩⟩⟩⟩⟩⟩⟩⟩⟩⟩⟩
theorem lw_p32 : lw_okq (⟨"ChangeFeedModel", "thinsThen", "(I)V"⟩, 11) := ⟨⟨by decide +kernel, by decide +kernel⟩, List.mem_of_getElem? (i := 703) (by decide +kernel), List.mem_of_getElem? (i := 941) (by decide +kernel), List.mem_of_getElem? (i := 942) (by decide +kernel)⟩
theorem lw_p33 : lw_okq (⟨"ChangeFeedModel", "isText", "()Z"⟩, 11) := ⟨⟨by decide +kernel, by decide +kernel⟩, List.mem_of_getElem? (i := 703) (by decide +kernel), List.mem_of_getElem? (i := 976) (by decide +kernel), List.mem_of_getElem? (i := 977) (by decide +kernel)⟩
theorem lw_p34 : lw_okq (⟨"ChangeFeedModel", "isOrder", "()Z"⟩, 11) := ⟨⟨by decide +kernel, by decide +kernel⟩, List.mem_of_getElem? (i := 703) (by decide +kernel), List.mem_of_getElem? (i := 980) (by decide +kernel), List.mem_of_getElem? (i := 981) (by decide +kernel)⟩
theorem lw_p35 : lw_okq (⟨"ChangeFeedModel", "isNumber", "(I)Z"⟩, 11) := ⟨⟨by decide +kernel, by decide +kernel⟩, List.mem_of_getElem? (i := 703) (by decide +kernel), List.mem_of_getElem? (i := 984) (by decide +kernel), List.mem_of_getElem? (i := 985) (by decide +kernel)⟩
theorem lw_p36 : lw_okq (⟨"ChangeFeedModel", "isAt", "(II)Z"⟩, 11) := ⟨⟨by decide +kernel, by decide +kernel⟩, List.mem_of_getElem? (i := 703) (by decide +kernel), List.mem_of_getElem? (i := 988) (by decide +kernel), List.mem_of_getElem? (i := 989) (by decide +kernel)⟩
theorem lw_p37 : lw_okq (⟨"ChangeFeedModel", "isSign", "(I)Z"⟩, 11) := ⟨⟨by decide +kernel, by decide +kernel⟩, List.mem_of_getElem? (i := 703) (by decide +kernel), List.mem_of_getElem? (i := 992) (by decide +kernel), List.mem_of_getElem? (i := 993) (by decide +kernel)⟩
theorem lw_p38 : lw_okq (⟨"ChangeFeedModel", "isDigit", "(II)Z"⟩, 11) := ⟨⟨by decide +kernel, by decide +kernel⟩, List.mem_of_getElem? (i := 703) (by decide +kernel), List.mem_of_getElem? (i := 996) (by decide +kernel), List.mem_of_getElem? (i := 997) (by decide +kernel)⟩
theorem lw_p39 : lw_okq (⟨"ChangeFeedModel", "does", "(I)Z"⟩, 11) := ⟨⟨by decide +kernel, by decide +kernel⟩, List.mem_of_getElem? (i := 703) (by decide +kernel), List.mem_of_getElem? (i := 1004) (by decide +kernel), List.mem_of_getElem? (i := 1005) (by decide +kernel)⟩
theorem lw_p40 : lw_okq (⟨"ChangeFeedModel", "mayDo", "(III)I"⟩, 11) := ⟨⟨by decide +kernel, by decide +kernel⟩, List.mem_of_getElem? (i := 703) (by decide +kernel), List.mem_of_getElem? (i := 1008) (by decide +kernel), List.mem_of_getElem? (i := 1009) (by decide +kernel)⟩
def lw_privs_3 : List (MethodName × Nat) := [(⟨"ChangeFeedModel", "thinsThen", "(I)V"⟩, 11), (⟨"ChangeFeedModel", "isText", "()Z"⟩, 11), (⟨"ChangeFeedModel", "isOrder", "()Z"⟩, 11), (⟨"ChangeFeedModel", "isNumber", "(I)Z"⟩, 11), (⟨"ChangeFeedModel", "isAt", "(II)Z"⟩, 11), (⟨"ChangeFeedModel", "isSign", "(I)Z"⟩, 11), (⟨"ChangeFeedModel", "isDigit", "(II)Z"⟩, 11), (⟨"ChangeFeedModel", "does", "(I)Z"⟩, 11), (⟨"ChangeFeedModel", "mayDo", "(III)I"⟩, 11)]
theorem lw_r3 : ∀ q ∈ lw_privs_3, lw_okq q := List.forall_mem_cons.mpr ⟨lw_p32, List.forall_mem_cons.mpr ⟨lw_p33, List.forall_mem_cons.mpr ⟨lw_p34, List.forall_mem_cons.mpr ⟨lw_p35, List.forall_mem_cons.mpr ⟨lw_p36, List.forall_mem_cons.mpr ⟨lw_p37, List.forall_mem_cons.mpr ⟨lw_p38, List.forall_mem_cons.mpr ⟨lw_p39, List.forall_mem_cons.mpr ⟨lw_p40, fun _ h => absurd h List.not_mem_nil⟩⟩⟩⟩⟩⟩⟩⟩⟩
def lw_privs : List (MethodName × Nat) := lw_privs_1 ++ (lw_privs_2 ++ (lw_privs_3))
def lw_tbl : List Cond := k2_sels lw_privs ++ tables_1
theorem lw_privs_ok : ∀ q ∈ lw_privs, lw_okq q := by
  show ∀ q ∈ lw_privs_1 ++ (lw_privs_2 ++ (lw_privs_3)), lw_okq q
  exact List.forall_mem_append.mpr ⟨lw_r1, List.forall_mem_append.mpr ⟨lw_r2, lw_r3⟩⟩

-- the words that a callee may take along: those of the tables that stay
def lwT : List Cond := lw_tbl.filter goodWord
theorem lwT_good : GoodIn lwT lwT := fun w hw => ⟨hw, good_of_word (List.mem_filter.mp hw).2⟩
theorem lwT_in : ∀ w ∈ lwT, w ∈ lw_tbl := fun w hw => (List.mem_filter.mp hw).1
end
section
def RX0 : String := "ChangeFeed$Feed"
def TX0 : u_T := fun k => match k with
  | 0 => ("ChangeFeed$Feed", "numbers", "[I", true)
  | 1 => ("ChangeFeed$Feed", "keys", "[I", true)
  | 2 => ("ChangeFeed$Feed", "values", "[I", true)
  | 3 => ("ChangeFeed$Feed", "minutes", "[I", true)
  | 4 => ("ChangeFeed$Feed", "held", "I", false)
  | 5 => ("ChangeFeed$Feed", "next", "I", false)
  | 6 => ("ChangeFeed$Feed", "floor", "I", false)
  | _ => ("ChangeFeed$Feed", "gone", "I", false)
def tyX0 : Nat → FieldType := fun k => match k with
  | 0 => .array .int
  | 1 => .array .int
  | 2 => .array .int
  | 3 => .array .int
  | 4 => .int
  | 5 => .int
  | 6 => .int
  | _ => .int
abbrev wsX00 : List Cond := u_ws RX0 TX0 8
theorem nmX0 : ∀ a, a < 8 → ∀ b, b < 8 → a ≠ b → (TX0 a).2.1 ≠ (TX0 b).2.1 := by decide +kernel
theorem tyX0_ok : ∀ k, k < 8 → parseFieldDescriptor (TX0 k).2.2.1 = some (tyX0 k) := by decide +kernel
abbrev cX0_init : ByteArray := prog_2_method_1_code
def yX0_init : MethodName := ⟨RX0, "<init>", "()V"⟩
abbrev cX0_copyFrom : ByteArray := prog_2_method_2_code
def yX0_copyFrom : MethodName := ⟨RX0, "copyFrom", "(LChangeFeed$Feed;)V"⟩
abbrev cX0_numberAt : ByteArray := prog_2_method_3_code
def yX0_numberAt : MethodName := ⟨RX0, "numberAt", "(I)I"⟩
abbrev cX0_keyAt : ByteArray := prog_2_method_4_code
def yX0_keyAt : MethodName := ⟨RX0, "keyAt", "(I)I"⟩
abbrev cX0_valueAt : ByteArray := prog_2_method_5_code
def yX0_valueAt : MethodName := ⟨RX0, "valueAt", "(I)I"⟩
abbrev cX0_minuteAt : ByteArray := prog_2_method_6_code
def yX0_minuteAt : MethodName := ⟨RX0, "minuteAt", "(I)I"⟩
abbrev cX0_isFull : ByteArray := prog_2_method_7_code
def yX0_isFull : MethodName := ⟨RX0, "isFull", "()Z"⟩
abbrev cX0_append : ByteArray := prog_2_method_8_code
def yX0_append : MethodName := ⟨RX0, "append", "(III)I"⟩
abbrev cX0_layEntry : ByteArray := prog_2_method_9_code
def yX0_layEntry : MethodName := ⟨RX0, "layEntry", "(IIIII)V"⟩
abbrev cX0_firstFrom : ByteArray := prog_2_method_10_code
def yX0_firstFrom : MethodName := ⟨RX0, "firstFrom", "(I)I"⟩
abbrev cX0_aheadOf : ByteArray := prog_2_method_11_code
def yX0_aheadOf : MethodName := ⟨RX0, "aheadOf", "(I)I"⟩
abbrev cX0_isLastOfItsKey : ByteArray := prog_2_method_12_code
def yX0_isLastOfItsKey : MethodName := ⟨RX0, "isLastOfItsKey", "(I)Z"⟩
abbrev cX0_isClosed : ByteArray := prog_2_method_13_code
def yX0_isClosed : MethodName := ⟨RX0, "isClosed", "(II)Z"⟩
abbrev cX0_segmentOf : ByteArray := prog_2_method_14_code
def yX0_segmentOf : MethodName := ⟨RX0, "segmentOf", "(II)I"⟩
abbrev cX0_isOldRemoval : ByteArray := prog_2_method_15_code
def yX0_isOldRemoval : MethodName := ⟨RX0, "isOldRemoval", "(III)Z"⟩
abbrev cX0_wouldGo : ByteArray := prog_2_method_16_code
def yX0_wouldGo : MethodName := ⟨RX0, "wouldGo", "(IIII)Z"⟩
abbrev cX0_leftAfterThinning : ByteArray := prog_2_method_17_code
def yX0_leftAfterThinning : MethodName := ⟨RX0, "leftAfterThinning", "(III)I"⟩
abbrev cX0_floorAfterThinning : ByteArray := prog_2_method_18_code
def yX0_floorAfterThinning : MethodName := ⟨RX0, "floorAfterThinning", "(III)I"⟩
abbrev cX0_thinOut : ByteArray := prog_2_method_19_code
def yX0_thinOut : MethodName := ⟨RX0, "thinOut", "(III)I"⟩
def RX1 : String := "ChangeFeed$History"
def TX1 : u_T := fun k => match k with
  | 0 => ("ChangeFeed$History", "states", "[LChangeFeed$State;", true)
  | _ => ("ChangeFeed$History", "held", "I", false)
def tyX1 : Nat → FieldType := fun k => match k with
  | 0 => .array (.object "ChangeFeed$State")
  | _ => .int
abbrev wsX10 : List Cond := u_ws RX1 TX1 2
theorem nmX1 : ∀ a, a < 2 → ∀ b, b < 2 → a ≠ b → (TX1 a).2.1 ≠ (TX1 b).2.1 := by decide +kernel
theorem tyX1_ok : ∀ k, k < 2 → parseFieldDescriptor (TX1 k).2.2.1 = some (tyX1 k) := by decide +kernel
abbrev cX1_init : ByteArray := prog_3_method_1_code
def yX1_init : MethodName := ⟨RX1, "<init>", "()V"⟩
abbrev cX1_stateAt : ByteArray := prog_3_method_2_code
def yX1_stateAt : MethodName := ⟨RX1, "stateAt", "(I)LChangeFeed$State;"⟩
abbrev cX1_prepare : ByteArray := prog_3_method_3_code
def yX1_prepare : MethodName := ⟨RX1, "prepare", "(LChangeFeed$State;)V"⟩
abbrev cX1_settle : ByteArray := prog_3_method_4_code
def yX1_settle : MethodName := ⟨RX1, "settle", "(I)I"⟩
abbrev cX1_dropOldest : ByteArray := prog_3_method_5_code
def yX1_dropOldest : MethodName := ⟨RX1, "dropOldest", "()V"⟩
abbrev cX1_bringBack : ByteArray := prog_3_method_6_code
def yX1_bringBack : MethodName := ⟨RX1, "bringBack", "(LChangeFeed$State;)I"⟩
def RX2 : String := "ChangeFeed$Pad"
def TX2 : u_T := fun k => match k with
  | 0 => ("ChangeFeed$Pad", "signs", "[I", true)
  | 1 => ("ChangeFeed$Pad", "length", "I", false)
  | 2 => ("ChangeFeed$Pad", "place", "I", false)
  | 3 => ("ChangeFeed$Pad", "letter", "I", false)
  | 4 => ("ChangeFeed$Pad", "first", "I", false)
  | _ => ("ChangeFeed$Pad", "second", "I", false)
def tyX2 : Nat → FieldType := fun k => match k with
  | 0 => .array .int
  | 1 => .int
  | 2 => .int
  | 3 => .int
  | 4 => .int
  | _ => .int
abbrev wsX20 : List Cond := u_ws RX2 TX2 6
theorem nmX2 : ∀ a, a < 6 → ∀ b, b < 6 → a ≠ b → (TX2 a).2.1 ≠ (TX2 b).2.1 := by decide +kernel
theorem tyX2_ok : ∀ k, k < 6 → parseFieldDescriptor (TX2 k).2.2.1 = some (tyX2 k) := by decide +kernel
abbrev cX2_init : ByteArray := prog_4_method_1_code
def yX2_init : MethodName := ⟨RX2, "<init>", "()V"⟩
abbrev cX2_append : ByteArray := prog_4_method_2_code
def yX2_append : MethodName := ⟨RX2, "append", "(J)I"⟩
abbrev cX2_signFromTheEnd : ByteArray := prog_4_method_3_code
def yX2_signFromTheEnd : MethodName := ⟨RX2, "signFromTheEnd", "(JI)I"⟩
abbrev cX2_empty : ByteArray := prog_4_method_4_code
def yX2_empty : MethodName := ⟨RX2, "empty", "()I"⟩
abbrev cX2_goToStart : ByteArray := prog_4_method_5_code
def yX2_goToStart : MethodName := ⟨RX2, "goToStart", "()V"⟩
abbrev cX2_firstFault : ByteArray := prog_4_method_6_code
def yX2_firstFault : MethodName := ⟨RX2, "firstFault", "()I"⟩
abbrev cX2_takeOrder : ByteArray := prog_4_method_7_code
def yX2_takeOrder : MethodName := ⟨RX2, "takeOrder", "()Z"⟩
abbrev cX2_takeFirst : ByteArray := prog_4_method_8_code
def yX2_takeFirst : MethodName := ⟨RX2, "takeFirst", "(I)Z"⟩
abbrev cX2_takeSecond : ByteArray := prog_4_method_9_code
def yX2_takeSecond : MethodName := ⟨RX2, "takeSecond", "(I)Z"⟩
abbrev cX2_signHere : ByteArray := prog_4_method_10_code
def yX2_signHere : MethodName := ⟨RX2, "signHere", "()I"⟩
abbrev cX2_takeSign : ByteArray := prog_4_method_11_code
def yX2_takeSign : MethodName := ⟨RX2, "takeSign", "(I)Z"⟩
abbrev cX2_takeReader : ByteArray := prog_4_method_12_code
def yX2_takeReader : MethodName := ⟨RX2, "takeReader", "()I"⟩
abbrev cX2_takeDigit : ByteArray := prog_4_method_13_code
def yX2_takeDigit : MethodName := ⟨RX2, "takeDigit", "(I)I"⟩
abbrev cX2_takeNumber : ByteArray := prog_4_method_14_code
def yX2_takeNumber : MethodName := ⟨RX2, "takeNumber", "()I"⟩
def RX3 : String := "ChangeFeed$Reader"
def TX3 : u_T := fun k => match k with
  | 0 => ("ChangeFeed$Reader", "place", "I", false)
  | 1 => ("ChangeFeed$Reader", "confirmedPlace", "I", false)
  | 2 => ("ChangeFeed$Reader", "readSoFar", "I", false)
  | 3 => ("ChangeFeed$Reader", "view", "LChangeFeed$Values;", true)
  | _ => ("ChangeFeed$Reader", "confirmedView", "LChangeFeed$Values;", true)
def tyX3 : Nat → FieldType := fun k => match k with
  | 0 => .int
  | 1 => .int
  | 2 => .int
  | 3 => .object "ChangeFeed$Values"
  | _ => .object "ChangeFeed$Values"
abbrev wsX30 : List Cond := u_ws RX3 TX3 5
theorem nmX3 : ∀ a, a < 5 → ∀ b, b < 5 → a ≠ b → (TX3 a).2.1 ≠ (TX3 b).2.1 := by decide +kernel
theorem tyX3_ok : ∀ k, k < 5 → parseFieldDescriptor (TX3 k).2.2.1 = some (tyX3 k) := by decide +kernel
abbrev cX3_init : ByteArray := prog_5_method_1_code
def yX3_init : MethodName := ⟨RX3, "<init>", "()V"⟩
abbrev cX3_copyFrom : ByteArray := prog_5_method_2_code
def yX3_copyFrom : MethodName := ⟨RX3, "copyFrom", "(LChangeFeed$Reader;)V"⟩
abbrev cX3_startOver : ByteArray := prog_5_method_3_code
def yX3_startOver : MethodName := ⟨RX3, "startOver", "()V"⟩
abbrev cX3_keepPlace : ByteArray := prog_5_method_4_code
def yX3_keepPlace : MethodName := ⟨RX3, "keepPlace", "()V"⟩
abbrev cX3_returnToConfirmed : ByteArray := prog_5_method_5_code
def yX3_returnToConfirmed : MethodName := ⟨RX3, "returnToConfirmed", "()V"⟩
abbrev cX3_takeOver : ByteArray := prog_5_method_6_code
def yX3_takeOver : MethodName := ⟨RX3, "takeOver", "(LChangeFeed$Snapshot;)V"⟩
abbrev cX3_readOn : ByteArray := prog_5_method_7_code
def yX3_readOn : MethodName := ⟨RX3, "readOn", "(LChangeFeed$Feed;I)I"⟩
def RX4 : String := "ChangeFeed$Slot"
def TX4 : u_T := fun k => match k with
  | 0 => ("ChangeFeed$Slot", "isUsed", "Z", false)
  | _ => ("ChangeFeed$Slot", "state", "LChangeFeed$State;", true)
def tyX4 : Nat → FieldType := fun k => match k with
  | 0 => .boolean
  | _ => .object "ChangeFeed$State"
abbrev wsX40 : List Cond := u_ws RX4 TX4 2
theorem nmX4 : ∀ a, a < 2 → ∀ b, b < 2 → a ≠ b → (TX4 a).2.1 ≠ (TX4 b).2.1 := by decide +kernel
theorem tyX4_ok : ∀ k, k < 2 → parseFieldDescriptor (TX4 k).2.2.1 = some (tyX4 k) := by decide +kernel
abbrev cX4_init : ByteArray := prog_6_method_1_code
def yX4_init : MethodName := ⟨RX4, "<init>", "()V"⟩
def RX5 : String := "ChangeFeed$Snapshot"
def TX5 : u_T := fun k => match k with
  | 0 => ("ChangeFeed$Snapshot", "number", "I", false)
  | _ => ("ChangeFeed$Snapshot", "table", "LChangeFeed$Values;", true)
def tyX5 : Nat → FieldType := fun k => match k with
  | 0 => .int
  | _ => .object "ChangeFeed$Values"
abbrev wsX50 : List Cond := u_ws RX5 TX5 2
theorem nmX5 : ∀ a, a < 2 → ∀ b, b < 2 → a ≠ b → (TX5 a).2.1 ≠ (TX5 b).2.1 := by decide +kernel
theorem tyX5_ok : ∀ k, k < 2 → parseFieldDescriptor (TX5 k).2.2.1 = some (tyX5 k) := by decide +kernel
abbrev cX5_init : ByteArray := prog_7_method_1_code
def yX5_init : MethodName := ⟨RX5, "<init>", "()V"⟩
abbrev cX5_copyFrom : ByteArray := prog_7_method_2_code
def yX5_copyFrom : MethodName := ⟨RX5, "copyFrom", "(LChangeFeed$Snapshot;)V"⟩
def RX6 : String := "ChangeFeed$State"
def TX6 : u_T := fun k => match k with
  | 0 => ("ChangeFeed$State", "size", "I", false)
  | 1 => ("ChangeFeed$State", "grace", "I", false)
  | 2 => ("ChangeFeed$State", "minute", "I", false)
  | 3 => ("ChangeFeed$State", "readerCount", "I", false)
  | 4 => ("ChangeFeed$State", "snapshotCount", "I", false)
  | 5 => ("ChangeFeed$State", "table", "LChangeFeed$Values;", true)
  | 6 => ("ChangeFeed$State", "feed", "LChangeFeed$Feed;", true)
  | 7 => ("ChangeFeed$State", "readers", "[LChangeFeed$Reader;", true)
  | _ => ("ChangeFeed$State", "snapshots", "[LChangeFeed$Snapshot;", true)
def tyX6 : Nat → FieldType := fun k => match k with
  | 0 => .int
  | 1 => .int
  | 2 => .int
  | 3 => .int
  | 4 => .int
  | 5 => .object "ChangeFeed$Values"
  | 6 => .object "ChangeFeed$Feed"
  | 7 => .array (.object "ChangeFeed$Reader")
  | _ => .array (.object "ChangeFeed$Snapshot")
abbrev wsX60 : List Cond := u_ws RX6 TX6 9
theorem nmX6 : ∀ a, a < 9 → ∀ b, b < 9 → a ≠ b → (TX6 a).2.1 ≠ (TX6 b).2.1 := by decide +kernel
theorem tyX6_ok : ∀ k, k < 9 → parseFieldDescriptor (TX6 k).2.2.1 = some (tyX6 k) := by decide +kernel
abbrev cX6_init : ByteArray := prog_8_method_1_code
def yX6_init : MethodName := ⟨RX6, "<init>", "()V"⟩
abbrev cX6_copyFrom : ByteArray := prog_8_method_2_code
def yX6_copyFrom : MethodName := ⟨RX6, "copyFrom", "(LChangeFeed$State;)V"⟩
abbrev cX6_copySnapshot : ByteArray := prog_8_method_3_code
def yX6_copySnapshot : MethodName := ⟨RX6, "copySnapshot", "(LChangeFeed$Snapshot;LChangeFeed$Snapshot;)V"⟩
abbrev cX6_readerAt : ByteArray := prog_8_method_4_code
def yX6_readerAt : MethodName := ⟨RX6, "readerAt", "(I)LChangeFeed$Reader;"⟩
abbrev cX6_snapshotAt : ByteArray := prog_8_method_5_code
def yX6_snapshotAt : MethodName := ⟨RX6, "snapshotAt", "(I)LChangeFeed$Snapshot;"⟩
abbrev cX6_turnSetting : ByteArray := prog_8_method_6_code
def yX6_turnSetting : MethodName := ⟨RX6, "turnSetting", "(II)I"⟩
abbrev cX6_setKey : ByteArray := prog_8_method_7_code
def yX6_setKey : MethodName := ⟨RX6, "setKey", "(II)I"⟩
abbrev cX6_removeKey : ByteArray := prog_8_method_8_code
def yX6_removeKey : MethodName := ⟨RX6, "removeKey", "(I)I"⟩
abbrev cX6_letPass : ByteArray := prog_8_method_9_code
def yX6_letPass : MethodName := ⟨RX6, "letPass", "(I)I"⟩
abbrev cX6_thinFeed : ByteArray := prog_8_method_10_code
def yX6_thinFeed : MethodName := ⟨RX6, "thinFeed", "()I"⟩
abbrev cX6_makeSnapshot : ByteArray := prog_8_method_11_code
def yX6_makeSnapshot : MethodName := ⟨RX6, "makeSnapshot", "()I"⟩
abbrev cX6_addReader : ByteArray := prog_8_method_12_code
def yX6_addReader : MethodName := ⟨RX6, "addReader", "()I"⟩
abbrev cX6_letRead : ByteArray := prog_8_method_13_code
def yX6_letRead : MethodName := ⟨RX6, "letRead", "(II)I"⟩
abbrev cX6_letConfirm : ByteArray := prog_8_method_14_code
def yX6_letConfirm : MethodName := ⟨RX6, "letConfirm", "(I)I"⟩
abbrev cX6_letGoBack : ByteArray := prog_8_method_15_code
def yX6_letGoBack : MethodName := ⟨RX6, "letGoBack", "(I)I"⟩
abbrev cX6_letBeginAnew : ByteArray := prog_8_method_16_code
def yX6_letBeginAnew : MethodName := ⟨RX6, "letBeginAnew", "(I)I"⟩
abbrev cX6_letLoad : ByteArray := prog_8_method_17_code
def yX6_letLoad : MethodName := ⟨RX6, "letLoad", "(II)I"⟩
abbrev cX6_lateBelow : ByteArray := prog_8_method_18_code
def yX6_lateBelow : MethodName := ⟨RX6, "lateBelow", "(I)I"⟩
abbrev cX6_entriesOnWay : ByteArray := prog_8_method_19_code
def yX6_entriesOnWay : MethodName := ⟨RX6, "entriesOnWay", "(LChangeFeed$Reader;I)I"⟩
abbrev cX6_aheadUnlessLate : ByteArray := prog_8_method_20_code
def yX6_aheadUnlessLate : MethodName := ⟨RX6, "aheadUnlessLate", "(I)I"⟩
abbrev cX6_shortestWay : ByteArray := prog_8_method_21_code
def yX6_shortestWay : MethodName := ⟨RX6, "shortestWay", "(LChangeFeed$Reader;)I"⟩
def RX7 : String := "ChangeFeed$Values"
def TX7 : u_T := fun k => match k with
  | _ => ("ChangeFeed$Values", "values", "[I", true)
def tyX7 : Nat → FieldType := fun k => match k with
  | _ => .array .int
abbrev wsX70 : List Cond := u_ws RX7 TX7 1
theorem nmX7 : ∀ a, a < 1 → ∀ b, b < 1 → a ≠ b → (TX7 a).2.1 ≠ (TX7 b).2.1 := by decide +kernel
theorem tyX7_ok : ∀ k, k < 1 → parseFieldDescriptor (TX7 k).2.2.1 = some (tyX7 k) := by decide +kernel
abbrev cX7_init : ByteArray := prog_9_method_1_code
def yX7_init : MethodName := ⟨RX7, "<init>", "()V"⟩
abbrev cX7_clear : ByteArray := prog_9_method_2_code
def yX7_clear : MethodName := ⟨RX7, "clear", "()V"⟩
abbrev cX7_copyFrom : ByteArray := prog_9_method_3_code
def yX7_copyFrom : MethodName := ⟨RX7, "copyFrom", "(LChangeFeed$Values;)V"⟩
abbrev cX7_of : ByteArray := prog_9_method_4_code
def yX7_of : MethodName := ⟨RX7, "of", "(I)I"⟩
abbrev cX7_change : ByteArray := prog_9_method_5_code
def yX7_change : MethodName := ⟨RX7, "change", "(II)V"⟩
abbrev cX7_howMany : ByteArray := prog_9_method_6_code
def yX7_howMany : MethodName := ⟨RX7, "howMany", "()I"⟩
abbrev cX7_differingFrom : ByteArray := prog_9_method_7_code
def yX7_differingFrom : MethodName := ⟨RX7, "differingFrom", "(LChangeFeed$Values;)I"⟩
def RX8 : String := "ChangeFeed"
def TX8 : u_T := fun k => match k with
  | 0 => ("ChangeFeed", "now", "LChangeFeed$State;", true)
  | 1 => ("ChangeFeed", "history", "LChangeFeed$History;", true)
  | 2 => ("ChangeFeed", "pad", "LChangeFeed$Pad;", true)
  | _ => ("ChangeFeed", "slots", "[LChangeFeed$Slot;", true)
def tyX8 : Nat → FieldType := fun k => match k with
  | 0 => .object "ChangeFeed$State"
  | 1 => .object "ChangeFeed$History"
  | 2 => .object "ChangeFeed$Pad"
  | _ => .array (.object "ChangeFeed$Slot")
abbrev wsX80 : List Cond := u_ws RX8 TX8 4
theorem nmX8 : ∀ a, a < 4 → ∀ b, b < 4 → a ≠ b → (TX8 a).2.1 ≠ (TX8 b).2.1 := by decide +kernel
theorem tyX8_ok : ∀ k, k < 4 → parseFieldDescriptor (TX8 k).2.2.1 = some (tyX8 k) := by decide +kernel
abbrev cX8_init : ByteArray := prog_1_method_1_code
def yX8_init : MethodName := ⟨RX8, "<init>", "()V"⟩
abbrev cX8_turn : ByteArray := prog_1_method_2_code
def yX8_turn : MethodName := ⟨RX8, "turn", "(II)I"⟩
abbrev cX8_set : ByteArray := prog_1_method_3_code
def yX8_set : MethodName := ⟨RX8, "set", "(II)I"⟩
abbrev cX8_remove : ByteArray := prog_1_method_4_code
def yX8_remove : MethodName := ⟨RX8, "remove", "(I)I"⟩
abbrev cX8_pass : ByteArray := prog_1_method_5_code
def yX8_pass : MethodName := ⟨RX8, "pass", "(I)I"⟩
abbrev cX8_thin : ByteArray := prog_1_method_6_code
def yX8_thin : MethodName := ⟨RX8, "thin", "()I"⟩
abbrev cX8_snapshot : ByteArray := prog_1_method_7_code
def yX8_snapshot : MethodName := ⟨RX8, "snapshot", "()I"⟩
abbrev cX8_reader : ByteArray := prog_1_method_8_code
def yX8_reader : MethodName := ⟨RX8, "reader", "()I"⟩
abbrev cX8_read : ByteArray := prog_1_method_9_code
def yX8_read : MethodName := ⟨RX8, "read", "(II)I"⟩
abbrev cX8_confirm : ByteArray := prog_1_method_10_code
def yX8_confirm : MethodName := ⟨RX8, "confirm", "(I)I"⟩
abbrev cX8_goBack : ByteArray := prog_1_method_11_code
def yX8_goBack : MethodName := ⟨RX8, "goBack", "(I)I"⟩
abbrev cX8_beginAnew : ByteArray := prog_1_method_12_code
def yX8_beginAnew : MethodName := ⟨RX8, "beginAnew", "(I)I"⟩
abbrev cX8_load : ByteArray := prog_1_method_13_code
def yX8_load : MethodName := ⟨RX8, "load", "(II)I"⟩
abbrev cX8_table : ByteArray := prog_1_method_14_code
def yX8_table : MethodName := ⟨RX8, "table", "(I)I"⟩
abbrev cX8_view : ByteArray := prog_1_method_15_code
def yX8_view : MethodName := ⟨RX8, "view", "(II)I"⟩
abbrev cX8_entry : ByteArray := prog_1_method_16_code
def yX8_entry : MethodName := ⟨RX8, "entry", "(II)I"⟩
abbrev cX8_ofReader : ByteArray := prog_1_method_17_code
def yX8_ofReader : MethodName := ⟨RX8, "ofReader", "(II)I"⟩
abbrev cX8_ofSnapshot : ByteArray := prog_1_method_18_code
def yX8_ofSnapshot : MethodName := ⟨RX8, "ofSnapshot", "(II)I"⟩
abbrev cX8_count : ByteArray := prog_1_method_19_code
def yX8_count : MethodName := ⟨RX8, "count", "(I)I"⟩
abbrev cX8_leftIn : ByteArray := prog_1_method_20_code
def yX8_leftIn : MethodName := ⟨RX8, "leftIn", "(I)I"⟩
abbrev cX8_lateIn : ByteArray := prog_1_method_21_code
def yX8_lateIn : MethodName := ⟨RX8, "lateIn", "(I)I"⟩
abbrev cX8_shortest : ByteArray := prog_1_method_22_code
def yX8_shortest : MethodName := ⟨RX8, "shortest", "(II)I"⟩
abbrev cX8_gentlest : ByteArray := prog_1_method_23_code
def yX8_gentlest : MethodName := ⟨RX8, "gentlest", "()I"⟩
abbrev cX8_put : ByteArray := prog_1_method_24_code
def yX8_put : MethodName := ⟨RX8, "put", "(J)I"⟩
abbrev cX8_wipe : ByteArray := prog_1_method_25_code
def yX8_wipe : MethodName := ⟨RX8, "wipe", "()I"⟩
abbrev cX8_fault : ByteArray := prog_1_method_26_code
def yX8_fault : MethodName := ⟨RX8, "fault", "()I"⟩
abbrev cX8_carryOut : ByteArray := prog_1_method_27_code
def yX8_carryOut : MethodName := ⟨RX8, "carryOut", "()I"⟩
abbrev cX8_carryOutOrder : ByteArray := prog_1_method_28_code
def yX8_carryOutOrder : MethodName := ⟨RX8, "carryOutOrder", "()I"⟩
abbrev cX8_undo : ByteArray := prog_1_method_29_code
def yX8_undo : MethodName := ⟨RX8, "undo", "()I"⟩
abbrev cX8_save : ByteArray := prog_1_method_30_code
def yX8_save : MethodName := ⟨RX8, "save", "(I)I"⟩
abbrev cX8_restore : ByteArray := prog_1_method_31_code
def yX8_restore : MethodName := ⟨RX8, "restore", "(I)I"⟩
abbrev cX8_slotAt : ByteArray := prog_1_method_32_code
def yX8_slotAt : MethodName := ⟨RX8, "slotAt", "(I)LChangeFeed$Slot;"⟩
abbrev cX8_isKey : ByteArray := prog_1_method_33_code
def yX8_isKey : MethodName := ⟨RX8, "isKey", "(I)Z"⟩
abbrev cX8_isNumber : ByteArray := prog_1_method_34_code
def yX8_isNumber : MethodName := ⟨RX8, "isNumber", "(I)Z"⟩
abbrev cX8_isLate : ByteArray := prog_1_method_35_code
def yX8_isLate : MethodName := ⟨RX8, "isLate", "(II)Z"⟩
abbrev cX8_oneIf : ByteArray := prog_1_method_36_code
def yX8_oneIf : MethodName := ⟨RX8, "oneIf", "(Z)I"⟩
abbrev cX8_at : ByteArray := prog_1_method_37_code
def yX8_at : MethodName := ⟨RX8, "at", "([II)I"⟩
abbrev cX8_layAt : ByteArray := prog_1_method_38_code
def yX8_layAt : MethodName := ⟨RX8, "layAt", "([III)V"⟩
abbrev cX8_copyRow : ByteArray := prog_1_method_39_code
def yX8_copyRow : MethodName := ⟨RX8, "copyRow", "([I[I)V"⟩
def RX9 : String := "ChangeFeedModel"
def TX9 : u_T := fun k => match k with
  | 0 => ("ChangeFeedModel", "now", "[I", true)
  | 1 => ("ChangeFeedModel", "then", "[I", true)
  | 2 => ("ChangeFeedModel", "past", "[I", true)
  | 3 => ("ChangeFeedModel", "kept", "I", false)
  | 4 => ("ChangeFeedModel", "slots", "[I", true)
  | 5 => ("ChangeFeedModel", "held", "[Z", true)
  | 6 => ("ChangeFeedModel", "pad", "[I", true)
  | 7 => ("ChangeFeedModel", "padded", "I", false)
  | 8 => ("ChangeFeedModel", "at", "I", false)
  | 9 => ("ChangeFeedModel", "orders", "[I", true)
  | _ => ("ChangeFeedModel", "ordered", "I", false)
def tyX9 : Nat → FieldType := fun k => match k with
  | 0 => .array .int
  | 1 => .array .int
  | 2 => .array .int
  | 3 => .int
  | 4 => .array .int
  | 5 => .array .boolean
  | 6 => .array .int
  | 7 => .int
  | 8 => .int
  | 9 => .array .int
  | _ => .int
abbrev wsX90 : List Cond := u_ws RX9 TX9 11
theorem nmX9 : ∀ a, a < 11 → ∀ b, b < 11 → a ≠ b → (TX9 a).2.1 ≠ (TX9 b).2.1 := by decide +kernel
theorem tyX9_ok : ∀ k, k < 11 → parseFieldDescriptor (TX9 k).2.2.1 = some (tyX9 k) := by decide +kernel
abbrev cX9_init : ByteArray := prog_11_method_1_code
def yX9_init : MethodName := ⟨RX9, "<init>", "()V"⟩
abbrev cX9_in : ByteArray := prog_11_method_3_code
def yX9_in : MethodName := ⟨RX9, "in", "(III)Z"⟩
abbrev cX9_isKey : ByteArray := prog_11_method_4_code
def yX9_isKey : MethodName := ⟨RX9, "isKey", "(I)Z"⟩
abbrev cX9_isReader : ByteArray := prog_11_method_5_code
def yX9_isReader : MethodName := ⟨RX9, "isReader", "(I)Z"⟩
abbrev cX9_isShot : ByteArray := prog_11_method_6_code
def yX9_isShot : MethodName := ⟨RX9, "isShot", "(I)Z"⟩
abbrev cX9_row : ByteArray := prog_11_method_7_code
def yX9_row : MethodName := ⟨RX9, "row", "(I)I"⟩
abbrev cX9_lays : ByteArray := prog_11_method_8_code
def yX9_lays : MethodName := ⟨RX9, "lays", "([II[II)V"⟩
abbrev cX9_records : ByteArray := prog_11_method_9_code
def yX9_records : MethodName := ⟨RX9, "records", "()V"⟩
abbrev cX9_undo : ByteArray := prog_11_method_10_code
def yX9_undo : MethodName := ⟨RX9, "undo", "()I"⟩
abbrev cX9_save : ByteArray := prog_11_method_11_code
def yX9_save : MethodName := ⟨RX9, "save", "(I)I"⟩
abbrev cX9_restore : ByteArray := prog_11_method_12_code
def yX9_restore : MethodName := ⟨RX9, "restore", "(I)I"⟩
abbrev cX9_of : ByteArray := prog_11_method_13_code
def yX9_of : MethodName := ⟨RX9, "of", "([III)I"⟩
abbrev cX9_isClosed : ByteArray := prog_11_method_14_code
def yX9_isClosed : MethodName := ⟨RX9, "isClosed", "([II)Z"⟩
abbrev cX9_isLast : ByteArray := prog_11_method_15_code
def yX9_isLast : MethodName := ⟨RX9, "isLast", "([II)Z"⟩
abbrev cX9_goes : ByteArray := prog_11_method_16_code
def yX9_goes : MethodName := ⟨RX9, "goes", "([II)V"⟩
abbrev cX9_thins : ByteArray := prog_11_method_17_code
def yX9_thins : MethodName := ⟨RX9, "thins", "([I)I"⟩
abbrev cX9_isLatePlace : ByteArray := prog_11_method_18_code
def yX9_isLatePlace : MethodName := ⟨RX9, "isLatePlace", "([II)Z"⟩
abbrev cX9_isLate : ByteArray := prog_11_method_19_code
def yX9_isLate : MethodName := ⟨RX9, "isLate", "([II)Z"⟩
abbrev cX9_lateOnes : ByteArray := prog_11_method_20_code
def yX9_lateOnes : MethodName := ⟨RX9, "lateOnes", "([I)I"⟩
abbrev cX9_ahead : ByteArray := prog_11_method_21_code
def yX9_ahead : MethodName := ⟨RX9, "ahead", "(I)I"⟩
abbrev cX9_turn : ByteArray := prog_11_method_22_code
def yX9_turn : MethodName := ⟨RX9, "turn", "(II)I"⟩
abbrev cX9_maySet : ByteArray := prog_11_method_23_code
def yX9_maySet : MethodName := ⟨RX9, "maySet", "(II)I"⟩
abbrev cX9_sets : ByteArray := prog_11_method_24_code
def yX9_sets : MethodName := ⟨RX9, "sets", "(II)I"⟩
abbrev cX9_set : ByteArray := prog_11_method_25_code
def yX9_set : MethodName := ⟨RX9, "set", "(II)I"⟩
abbrev cX9_mayRemove : ByteArray := prog_11_method_26_code
def yX9_mayRemove : MethodName := ⟨RX9, "mayRemove", "(I)I"⟩
abbrev cX9_remove : ByteArray := prog_11_method_27_code
def yX9_remove : MethodName := ⟨RX9, "remove", "(I)I"⟩
abbrev cX9_mayPass : ByteArray := prog_11_method_28_code
def yX9_mayPass : MethodName := ⟨RX9, "mayPass", "(I)I"⟩
abbrev cX9_pass : ByteArray := prog_11_method_29_code
def yX9_pass : MethodName := ⟨RX9, "pass", "(I)I"⟩
abbrev cX9_thin : ByteArray := prog_11_method_30_code
def yX9_thin : MethodName := ⟨RX9, "thin", "()I"⟩
abbrev cX9_shoots : ByteArray := prog_11_method_31_code
def yX9_shoots : MethodName := ⟨RX9, "shoots", "()I"⟩
abbrev cX9_snapshot : ByteArray := prog_11_method_32_code
def yX9_snapshot : MethodName := ⟨RX9, "snapshot", "()I"⟩
abbrev cX9_begins : ByteArray := prog_11_method_33_code
def yX9_begins : MethodName := ⟨RX9, "begins", "(III)I"⟩
abbrev cX9_comes : ByteArray := prog_11_method_34_code
def yX9_comes : MethodName := ⟨RX9, "comes", "()I"⟩
abbrev cX9_reader : ByteArray := prog_11_method_35_code
def yX9_reader : MethodName := ⟨RX9, "reader", "()I"⟩
abbrev cX9_mayRead : ByteArray := prog_11_method_36_code
def yX9_mayRead : MethodName := ⟨RX9, "mayRead", "(II)I"⟩
abbrev cX9_reads : ByteArray := prog_11_method_37_code
def yX9_reads : MethodName := ⟨RX9, "reads", "(II)I"⟩
abbrev cX9_read : ByteArray := prog_11_method_38_code
def yX9_read : MethodName := ⟨RX9, "read", "(II)I"⟩
abbrev cX9_takes : ByteArray := prog_11_method_39_code
def yX9_takes : MethodName := ⟨RX9, "takes", "(IZ)I"⟩
abbrev cX9_confirm : ByteArray := prog_11_method_40_code
def yX9_confirm : MethodName := ⟨RX9, "confirm", "(I)I"⟩
abbrev cX9_goBack : ByteArray := prog_11_method_41_code
def yX9_goBack : MethodName := ⟨RX9, "goBack", "(I)I"⟩
abbrev cX9_beginAnew : ByteArray := prog_11_method_42_code
def yX9_beginAnew : MethodName := ⟨RX9, "beginAnew", "(I)I"⟩
abbrev cX9_mayLoad : ByteArray := prog_11_method_43_code
def yX9_mayLoad : MethodName := ⟨RX9, "mayLoad", "(II)I"⟩
abbrev cX9_loads : ByteArray := prog_11_method_44_code
def yX9_loads : MethodName := ⟨RX9, "loads", "(II)I"⟩
abbrev cX9_load : ByteArray := prog_11_method_45_code
def yX9_load : MethodName := ⟨RX9, "load", "(II)I"⟩
abbrev cX9_table : ByteArray := prog_11_method_46_code
def yX9_table : MethodName := ⟨RX9, "table", "(I)I"⟩
abbrev cX9_view : ByteArray := prog_11_method_47_code
def yX9_view : MethodName := ⟨RX9, "view", "(II)I"⟩
abbrev cX9_entry : ByteArray := prog_11_method_48_code
def yX9_entry : MethodName := ⟨RX9, "entry", "(II)I"⟩
abbrev cX9_unlike : ByteArray := prog_11_method_49_code
def yX9_unlike : MethodName := ⟨RX9, "unlike", "(I)I"⟩
abbrev cX9_ofReader : ByteArray := prog_11_method_50_code
def yX9_ofReader : MethodName := ⟨RX9, "ofReader", "(II)I"⟩
abbrev cX9_valued : ByteArray := prog_11_method_51_code
def yX9_valued : MethodName := ⟨RX9, "valued", "(I)I"⟩
abbrev cX9_ofSnapshot : ByteArray := prog_11_method_52_code
def yX9_ofSnapshot : MethodName := ⟨RX9, "ofSnapshot", "(II)I"⟩
abbrev cX9_count : ByteArray := prog_11_method_53_code
def yX9_count : MethodName := ⟨RX9, "count", "(I)I"⟩
abbrev cX9_thinsThen : ByteArray := prog_11_method_54_code
def yX9_thinsThen : MethodName := ⟨RX9, "thinsThen", "(I)V"⟩
abbrev cX9_leftIn : ByteArray := prog_11_method_55_code
def yX9_leftIn : MethodName := ⟨RX9, "leftIn", "(I)I"⟩
abbrev cX9_lateIn : ByteArray := prog_11_method_56_code
def yX9_lateIn : MethodName := ⟨RX9, "lateIn", "(I)I"⟩
abbrev cX9_shortest : ByteArray := prog_11_method_57_code
def yX9_shortest : MethodName := ⟨RX9, "shortest", "(II)I"⟩
abbrev cX9_gentlest : ByteArray := prog_11_method_58_code
def yX9_gentlest : MethodName := ⟨RX9, "gentlest", "()I"⟩
abbrev cX9_byteOf : ByteArray := prog_11_method_59_code
def yX9_byteOf : MethodName := ⟨RX9, "byteOf", "(JI)I"⟩
abbrev cX9_toldBy : ByteArray := prog_11_method_60_code
def yX9_toldBy : MethodName := ⟨RX9, "toldBy", "(J)I"⟩
abbrev cX9_put : ByteArray := prog_11_method_61_code
def yX9_put : MethodName := ⟨RX9, "put", "(J)I"⟩
abbrev cX9_wipe : ByteArray := prog_11_method_62_code
def yX9_wipe : MethodName := ⟨RX9, "wipe", "()I"⟩
abbrev cX9_isAt : ByteArray := prog_11_method_63_code
def yX9_isAt : MethodName := ⟨RX9, "isAt", "(II)Z"⟩
abbrev cX9_isSign : ByteArray := prog_11_method_64_code
def yX9_isSign : MethodName := ⟨RX9, "isSign", "(I)Z"⟩
abbrev cX9_isDigit : ByteArray := prog_11_method_65_code
def yX9_isDigit : MethodName := ⟨RX9, "isDigit", "(II)Z"⟩
abbrev cX9_isNumber : ByteArray := prog_11_method_66_code
def yX9_isNumber : MethodName := ⟨RX9, "isNumber", "(I)Z"⟩
abbrev cX9_isOrder : ByteArray := prog_11_method_67_code
def yX9_isOrder : MethodName := ⟨RX9, "isOrder", "()Z"⟩
abbrev cX9_isText : ByteArray := prog_11_method_68_code
def yX9_isText : MethodName := ⟨RX9, "isText", "()Z"⟩
abbrev cX9_fault : ByteArray := prog_11_method_69_code
def yX9_fault : MethodName := ⟨RX9, "fault", "()I"⟩
abbrev cX9_mayDo : ByteArray := prog_11_method_70_code
def yX9_mayDo : MethodName := ⟨RX9, "mayDo", "(III)I"⟩
abbrev cX9_does : ByteArray := prog_11_method_71_code
def yX9_does : MethodName := ⟨RX9, "does", "(I)Z"⟩
abbrev cX9_carryOut : ByteArray := prog_11_method_72_code
def yX9_carryOut : MethodName := ⟨RX9, "carryOut", "()I"⟩
def RJ9 : String := "java/lang/Math"
def TJ9 : u_T := fun k => match k with
  | _ => ("", "", "", false)
def tyJ9 : Nat → FieldType := fun k => match k with
  | _ => .int
abbrev wsJ90 : List Cond := u_ws RJ9 TJ9 0
theorem nmJ9 : ∀ a, a < 0 → ∀ b, b < 0 → a ≠ b → (TJ9 a).2.1 ≠ (TJ9 b).2.1 := by decide +kernel
theorem tyJ9_ok : ∀ k, k < 0 → parseFieldDescriptor (TJ9 k).2.2.1 = some (tyJ9 k) := by decide +kernel
abbrev cJ9_max_7cf53 : ByteArray := prog_12_method_65_code
def yJ9_max_7cf53 : MethodName := ⟨RJ9, "max", "(II)I"⟩
abbrev cJ9_min_7cf53 : ByteArray := prog_12_method_69_code
def yJ9_min_7cf53 : MethodName := ⟨RJ9, "min", "(II)I"⟩
def RL : String := "ChangeFeedLaw"
abbrev cL_law : ByteArray := code
def yL_law : MethodName := ⟨RL, "law", "([I)Z"⟩
abbrev kX0_init : MethodName × ByteArray × Nat × Option FieldType := (yX0_init, cX0_init, 1, none)
abbrev kX0_copyFrom : MethodName × ByteArray × Nat × Option FieldType := (yX0_copyFrom, cX0_copyFrom, 2, none)
abbrev kX0_numberAt : MethodName × ByteArray × Nat × Option FieldType := (yX0_numberAt, cX0_numberAt, 2, (some .int))
abbrev kX0_keyAt : MethodName × ByteArray × Nat × Option FieldType := (yX0_keyAt, cX0_keyAt, 2, (some .int))
abbrev kX0_valueAt : MethodName × ByteArray × Nat × Option FieldType := (yX0_valueAt, cX0_valueAt, 2, (some .int))
abbrev kX0_minuteAt : MethodName × ByteArray × Nat × Option FieldType := (yX0_minuteAt, cX0_minuteAt, 2, (some .int))
abbrev kX0_isFull : MethodName × ByteArray × Nat × Option FieldType := (yX0_isFull, cX0_isFull, 1, (some .boolean))
abbrev kX0_append : MethodName × ByteArray × Nat × Option FieldType := (yX0_append, cX0_append, 5, (some .int))
abbrev kX0_layEntry : MethodName × ByteArray × Nat × Option FieldType := (yX0_layEntry, cX0_layEntry, 6, none)
abbrev kX0_firstFrom : MethodName × ByteArray × Nat × Option FieldType := (yX0_firstFrom, cX0_firstFrom, 3, (some .int))
abbrev kX0_aheadOf : MethodName × ByteArray × Nat × Option FieldType := (yX0_aheadOf, cX0_aheadOf, 2, (some .int))
abbrev kX0_isLastOfItsKey : MethodName × ByteArray × Nat × Option FieldType := (yX0_isLastOfItsKey, cX0_isLastOfItsKey, 3, (some .boolean))
abbrev kX0_isClosed : MethodName × ByteArray × Nat × Option FieldType := (yX0_isClosed, cX0_isClosed, 3, (some .boolean))
abbrev kX0_segmentOf : MethodName × ByteArray × Nat × Option FieldType := (yX0_segmentOf, cX0_segmentOf, 2, (some .int))
abbrev kX0_isOldRemoval : MethodName × ByteArray × Nat × Option FieldType := (yX0_isOldRemoval, cX0_isOldRemoval, 4, (some .boolean))
abbrev kX0_wouldGo : MethodName × ByteArray × Nat × Option FieldType := (yX0_wouldGo, cX0_wouldGo, 5, (some .boolean))
abbrev kX0_leftAfterThinning : MethodName × ByteArray × Nat × Option FieldType := (yX0_leftAfterThinning, cX0_leftAfterThinning, 6, (some .int))
abbrev kX0_floorAfterThinning : MethodName × ByteArray × Nat × Option FieldType := (yX0_floorAfterThinning, cX0_floorAfterThinning, 6, (some .int))
abbrev kX0_thinOut : MethodName × ByteArray × Nat × Option FieldType := (yX0_thinOut, cX0_thinOut, 6, (some .int))
abbrev kX1_init : MethodName × ByteArray × Nat × Option FieldType := (yX1_init, cX1_init, 2, none)
abbrev kX1_stateAt : MethodName × ByteArray × Nat × Option FieldType := (yX1_stateAt, cX1_stateAt, 2, (some (.object RX6)))
abbrev kX1_prepare : MethodName × ByteArray × Nat × Option FieldType := (yX1_prepare, cX1_prepare, 3, none)
abbrev kX1_settle : MethodName × ByteArray × Nat × Option FieldType := (yX1_settle, cX1_settle, 2, (some .int))
abbrev kX1_dropOldest : MethodName × ByteArray × Nat × Option FieldType := (yX1_dropOldest, cX1_dropOldest, 3, none)
abbrev kX1_bringBack : MethodName × ByteArray × Nat × Option FieldType := (yX1_bringBack, cX1_bringBack, 3, (some .int))
abbrev kX2_init : MethodName × ByteArray × Nat × Option FieldType := (yX2_init, cX2_init, 1, none)
abbrev kX2_append : MethodName × ByteArray × Nat × Option FieldType := (yX2_append, cX2_append, 7, (some .int))
abbrev kX2_signFromTheEnd : MethodName × ByteArray × Nat × Option FieldType := (yX2_signFromTheEnd, cX2_signFromTheEnd, 3, (some .int))
abbrev kX2_empty : MethodName × ByteArray × Nat × Option FieldType := (yX2_empty, cX2_empty, 2, (some .int))
abbrev kX2_goToStart : MethodName × ByteArray × Nat × Option FieldType := (yX2_goToStart, cX2_goToStart, 1, none)
abbrev kX2_firstFault : MethodName × ByteArray × Nat × Option FieldType := (yX2_firstFault, cX2_firstFault, 2, (some .int))
abbrev kX2_takeOrder : MethodName × ByteArray × Nat × Option FieldType := (yX2_takeOrder, cX2_takeOrder, 1, (some .boolean))
abbrev kX2_takeFirst : MethodName × ByteArray × Nat × Option FieldType := (yX2_takeFirst, cX2_takeFirst, 2, (some .boolean))
abbrev kX2_takeSecond : MethodName × ByteArray × Nat × Option FieldType := (yX2_takeSecond, cX2_takeSecond, 2, (some .boolean))
abbrev kX2_signHere : MethodName × ByteArray × Nat × Option FieldType := (yX2_signHere, cX2_signHere, 1, (some .int))
abbrev kX2_takeSign : MethodName × ByteArray × Nat × Option FieldType := (yX2_takeSign, cX2_takeSign, 2, (some .boolean))
abbrev kX2_takeReader : MethodName × ByteArray × Nat × Option FieldType := (yX2_takeReader, cX2_takeReader, 1, (some .int))
abbrev kX2_takeDigit : MethodName × ByteArray × Nat × Option FieldType := (yX2_takeDigit, cX2_takeDigit, 3, (some .int))
abbrev kX2_takeNumber : MethodName × ByteArray × Nat × Option FieldType := (yX2_takeNumber, cX2_takeNumber, 4, (some .int))
abbrev kX3_init : MethodName × ByteArray × Nat × Option FieldType := (yX3_init, cX3_init, 1, none)
abbrev kX3_copyFrom : MethodName × ByteArray × Nat × Option FieldType := (yX3_copyFrom, cX3_copyFrom, 2, none)
abbrev kX3_startOver : MethodName × ByteArray × Nat × Option FieldType := (yX3_startOver, cX3_startOver, 1, none)
abbrev kX3_keepPlace : MethodName × ByteArray × Nat × Option FieldType := (yX3_keepPlace, cX3_keepPlace, 1, none)
abbrev kX3_returnToConfirmed : MethodName × ByteArray × Nat × Option FieldType := (yX3_returnToConfirmed, cX3_returnToConfirmed, 1, none)
abbrev kX3_takeOver : MethodName × ByteArray × Nat × Option FieldType := (yX3_takeOver, cX3_takeOver, 2, none)
abbrev kX3_readOn : MethodName × ByteArray × Nat × Option FieldType := (yX3_readOn, cX3_readOn, 6, (some .int))
abbrev kX4_init : MethodName × ByteArray × Nat × Option FieldType := (yX4_init, cX4_init, 1, none)
abbrev kX5_init : MethodName × ByteArray × Nat × Option FieldType := (yX5_init, cX5_init, 1, none)
abbrev kX5_copyFrom : MethodName × ByteArray × Nat × Option FieldType := (yX5_copyFrom, cX5_copyFrom, 2, none)
abbrev kX6_init : MethodName × ByteArray × Nat × Option FieldType := (yX6_init, cX6_init, 2, none)
abbrev kX6_copyFrom : MethodName × ByteArray × Nat × Option FieldType := (yX6_copyFrom, cX6_copyFrom, 5, none)
abbrev kX6_copySnapshot : MethodName × ByteArray × Nat × Option FieldType := (yX6_copySnapshot, cX6_copySnapshot, 2, none)
abbrev kX6_readerAt : MethodName × ByteArray × Nat × Option FieldType := (yX6_readerAt, cX6_readerAt, 2, (some (.object RX3)))
abbrev kX6_snapshotAt : MethodName × ByteArray × Nat × Option FieldType := (yX6_snapshotAt, cX6_snapshotAt, 2, (some (.object RX5)))
abbrev kX6_turnSetting : MethodName × ByteArray × Nat × Option FieldType := (yX6_turnSetting, cX6_turnSetting, 4, (some .int))
abbrev kX6_setKey : MethodName × ByteArray × Nat × Option FieldType := (yX6_setKey, cX6_setKey, 3, (some .int))
abbrev kX6_removeKey : MethodName × ByteArray × Nat × Option FieldType := (yX6_removeKey, cX6_removeKey, 2, (some .int))
abbrev kX6_letPass : MethodName × ByteArray × Nat × Option FieldType := (yX6_letPass, cX6_letPass, 2, (some .int))
abbrev kX6_thinFeed : MethodName × ByteArray × Nat × Option FieldType := (yX6_thinFeed, cX6_thinFeed, 1, (some .int))
abbrev kX6_makeSnapshot : MethodName × ByteArray × Nat × Option FieldType := (yX6_makeSnapshot, cX6_makeSnapshot, 2, (some .int))
abbrev kX6_addReader : MethodName × ByteArray × Nat × Option FieldType := (yX6_addReader, cX6_addReader, 3, (some .int))
abbrev kX6_letRead : MethodName × ByteArray × Nat × Option FieldType := (yX6_letRead, cX6_letRead, 4, (some .int))
abbrev kX6_letConfirm : MethodName × ByteArray × Nat × Option FieldType := (yX6_letConfirm, cX6_letConfirm, 3, (some .int))
abbrev kX6_letGoBack : MethodName × ByteArray × Nat × Option FieldType := (yX6_letGoBack, cX6_letGoBack, 3, (some .int))
abbrev kX6_letBeginAnew : MethodName × ByteArray × Nat × Option FieldType := (yX6_letBeginAnew, cX6_letBeginAnew, 3, (some .int))
abbrev kX6_letLoad : MethodName × ByteArray × Nat × Option FieldType := (yX6_letLoad, cX6_letLoad, 5, (some .int))
abbrev kX6_lateBelow : MethodName × ByteArray × Nat × Option FieldType := (yX6_lateBelow, cX6_lateBelow, 5, (some .int))
abbrev kX6_entriesOnWay : MethodName × ByteArray × Nat × Option FieldType := (yX6_entriesOnWay, cX6_entriesOnWay, 4, (some .int))
abbrev kX6_aheadUnlessLate : MethodName × ByteArray × Nat × Option FieldType := (yX6_aheadUnlessLate, cX6_aheadUnlessLate, 2, (some .int))
abbrev kX6_shortestWay : MethodName × ByteArray × Nat × Option FieldType := (yX6_shortestWay, cX6_shortestWay, 6, (some .int))
abbrev kX7_init : MethodName × ByteArray × Nat × Option FieldType := (yX7_init, cX7_init, 1, none)
abbrev kX7_clear : MethodName × ByteArray × Nat × Option FieldType := (yX7_clear, cX7_clear, 2, none)
abbrev kX7_copyFrom : MethodName × ByteArray × Nat × Option FieldType := (yX7_copyFrom, cX7_copyFrom, 2, none)
abbrev kX7_of : MethodName × ByteArray × Nat × Option FieldType := (yX7_of, cX7_of, 2, (some .int))
abbrev kX7_change : MethodName × ByteArray × Nat × Option FieldType := (yX7_change, cX7_change, 3, none)
abbrev kX7_howMany : MethodName × ByteArray × Nat × Option FieldType := (yX7_howMany, cX7_howMany, 3, (some .int))
abbrev kX7_differingFrom : MethodName × ByteArray × Nat × Option FieldType := (yX7_differingFrom, cX7_differingFrom, 4, (some .int))
abbrev kX8_init : MethodName × ByteArray × Nat × Option FieldType := (yX8_init, cX8_init, 2, none)
abbrev kX8_turn : MethodName × ByteArray × Nat × Option FieldType := (yX8_turn, cX8_turn, 3, (some .int))
abbrev kX8_set : MethodName × ByteArray × Nat × Option FieldType := (yX8_set, cX8_set, 3, (some .int))
abbrev kX8_remove : MethodName × ByteArray × Nat × Option FieldType := (yX8_remove, cX8_remove, 2, (some .int))
abbrev kX8_pass : MethodName × ByteArray × Nat × Option FieldType := (yX8_pass, cX8_pass, 2, (some .int))
abbrev kX8_thin : MethodName × ByteArray × Nat × Option FieldType := (yX8_thin, cX8_thin, 1, (some .int))
abbrev kX8_snapshot : MethodName × ByteArray × Nat × Option FieldType := (yX8_snapshot, cX8_snapshot, 1, (some .int))
abbrev kX8_reader : MethodName × ByteArray × Nat × Option FieldType := (yX8_reader, cX8_reader, 1, (some .int))
abbrev kX8_read : MethodName × ByteArray × Nat × Option FieldType := (yX8_read, cX8_read, 3, (some .int))
abbrev kX8_confirm : MethodName × ByteArray × Nat × Option FieldType := (yX8_confirm, cX8_confirm, 2, (some .int))
abbrev kX8_goBack : MethodName × ByteArray × Nat × Option FieldType := (yX8_goBack, cX8_goBack, 2, (some .int))
abbrev kX8_beginAnew : MethodName × ByteArray × Nat × Option FieldType := (yX8_beginAnew, cX8_beginAnew, 2, (some .int))
abbrev kX8_load : MethodName × ByteArray × Nat × Option FieldType := (yX8_load, cX8_load, 3, (some .int))
abbrev kX8_table : MethodName × ByteArray × Nat × Option FieldType := (yX8_table, cX8_table, 2, (some .int))
abbrev kX8_view : MethodName × ByteArray × Nat × Option FieldType := (yX8_view, cX8_view, 4, (some .int))
abbrev kX8_entry : MethodName × ByteArray × Nat × Option FieldType := (yX8_entry, cX8_entry, 4, (some .int))
abbrev kX8_ofReader : MethodName × ByteArray × Nat × Option FieldType := (yX8_ofReader, cX8_ofReader, 4, (some .int))
abbrev kX8_ofSnapshot : MethodName × ByteArray × Nat × Option FieldType := (yX8_ofSnapshot, cX8_ofSnapshot, 4, (some .int))
abbrev kX8_count : MethodName × ByteArray × Nat × Option FieldType := (yX8_count, cX8_count, 2, (some .int))
abbrev kX8_leftIn : MethodName × ByteArray × Nat × Option FieldType := (yX8_leftIn, cX8_leftIn, 2, (some .int))
abbrev kX8_lateIn : MethodName × ByteArray × Nat × Option FieldType := (yX8_lateIn, cX8_lateIn, 2, (some .int))
abbrev kX8_shortest : MethodName × ByteArray × Nat × Option FieldType := (yX8_shortest, cX8_shortest, 5, (some .int))
abbrev kX8_gentlest : MethodName × ByteArray × Nat × Option FieldType := (yX8_gentlest, cX8_gentlest, 5, (some .int))
abbrev kX8_put : MethodName × ByteArray × Nat × Option FieldType := (yX8_put, cX8_put, 3, (some .int))
abbrev kX8_wipe : MethodName × ByteArray × Nat × Option FieldType := (yX8_wipe, cX8_wipe, 1, (some .int))
abbrev kX8_fault : MethodName × ByteArray × Nat × Option FieldType := (yX8_fault, cX8_fault, 1, (some .int))
abbrev kX8_carryOut : MethodName × ByteArray × Nat × Option FieldType := (yX8_carryOut, cX8_carryOut, 2, (some .int))
abbrev kX8_carryOutOrder : MethodName × ByteArray × Nat × Option FieldType := (yX8_carryOutOrder, cX8_carryOutOrder, 1, (some .int))
abbrev kX8_undo : MethodName × ByteArray × Nat × Option FieldType := (yX8_undo, cX8_undo, 1, (some .int))
abbrev kX8_save : MethodName × ByteArray × Nat × Option FieldType := (yX8_save, cX8_save, 3, (some .int))
abbrev kX8_restore : MethodName × ByteArray × Nat × Option FieldType := (yX8_restore, cX8_restore, 3, (some .int))
abbrev kX8_slotAt : MethodName × ByteArray × Nat × Option FieldType := (yX8_slotAt, cX8_slotAt, 2, (some (.object RX4)))
abbrev kX8_isKey : MethodName × ByteArray × Nat × Option FieldType := (yX8_isKey, cX8_isKey, 1, (some .boolean))
abbrev kX8_isNumber : MethodName × ByteArray × Nat × Option FieldType := (yX8_isNumber, cX8_isNumber, 1, (some .boolean))
abbrev kX8_isLate : MethodName × ByteArray × Nat × Option FieldType := (yX8_isLate, cX8_isLate, 2, (some .boolean))
abbrev kX8_oneIf : MethodName × ByteArray × Nat × Option FieldType := (yX8_oneIf, cX8_oneIf, 1, (some .int))
abbrev kX8_at : MethodName × ByteArray × Nat × Option FieldType := (yX8_at, cX8_at, 2, (some .int))
abbrev kX8_layAt : MethodName × ByteArray × Nat × Option FieldType := (yX8_layAt, cX8_layAt, 3, none)
abbrev kX8_copyRow : MethodName × ByteArray × Nat × Option FieldType := (yX8_copyRow, cX8_copyRow, 3, none)
abbrev kX9_init : MethodName × ByteArray × Nat × Option FieldType := (yX9_init, cX9_init, 2, none)
abbrev kX9_in : MethodName × ByteArray × Nat × Option FieldType := (yX9_in, cX9_in, 3, (some .boolean))
abbrev kX9_isKey : MethodName × ByteArray × Nat × Option FieldType := (yX9_isKey, cX9_isKey, 1, (some .boolean))
abbrev kX9_isReader : MethodName × ByteArray × Nat × Option FieldType := (yX9_isReader, cX9_isReader, 2, (some .boolean))
abbrev kX9_isShot : MethodName × ByteArray × Nat × Option FieldType := (yX9_isShot, cX9_isShot, 2, (some .boolean))
abbrev kX9_row : MethodName × ByteArray × Nat × Option FieldType := (yX9_row, cX9_row, 1, (some .int))
abbrev kX9_lays : MethodName × ByteArray × Nat × Option FieldType := (yX9_lays, cX9_lays, 5, none)
abbrev kX9_records : MethodName × ByteArray × Nat × Option FieldType := (yX9_records, cX9_records, 2, none)
abbrev kX9_undo : MethodName × ByteArray × Nat × Option FieldType := (yX9_undo, cX9_undo, 1, (some .int))
abbrev kX9_save : MethodName × ByteArray × Nat × Option FieldType := (yX9_save, cX9_save, 2, (some .int))
abbrev kX9_restore : MethodName × ByteArray × Nat × Option FieldType := (yX9_restore, cX9_restore, 2, (some .int))
abbrev kX9_of : MethodName × ByteArray × Nat × Option FieldType := (yX9_of, cX9_of, 3, (some .int))
abbrev kX9_isClosed : MethodName × ByteArray × Nat × Option FieldType := (yX9_isClosed, cX9_isClosed, 2, (some .boolean))
abbrev kX9_isLast : MethodName × ByteArray × Nat × Option FieldType := (yX9_isLast, cX9_isLast, 3, (some .boolean))
abbrev kX9_goes : MethodName × ByteArray × Nat × Option FieldType := (yX9_goes, cX9_goes, 3, none)
abbrev kX9_thins : MethodName × ByteArray × Nat × Option FieldType := (yX9_thins, cX9_thins, 3, (some .int))
abbrev kX9_isLatePlace : MethodName × ByteArray × Nat × Option FieldType := (yX9_isLatePlace, cX9_isLatePlace, 2, (some .boolean))
abbrev kX9_isLate : MethodName × ByteArray × Nat × Option FieldType := (yX9_isLate, cX9_isLate, 2, (some .boolean))
abbrev kX9_lateOnes : MethodName × ByteArray × Nat × Option FieldType := (yX9_lateOnes, cX9_lateOnes, 3, (some .int))
abbrev kX9_ahead : MethodName × ByteArray × Nat × Option FieldType := (yX9_ahead, cX9_ahead, 4, (some .int))
abbrev kX9_turn : MethodName × ByteArray × Nat × Option FieldType := (yX9_turn, cX9_turn, 4, (some .int))
abbrev kX9_maySet : MethodName × ByteArray × Nat × Option FieldType := (yX9_maySet, cX9_maySet, 3, (some .int))
abbrev kX9_sets : MethodName × ByteArray × Nat × Option FieldType := (yX9_sets, cX9_sets, 4, (some .int))
abbrev kX9_set : MethodName × ByteArray × Nat × Option FieldType := (yX9_set, cX9_set, 4, (some .int))
abbrev kX9_mayRemove : MethodName × ByteArray × Nat × Option FieldType := (yX9_mayRemove, cX9_mayRemove, 2, (some .int))
abbrev kX9_remove : MethodName × ByteArray × Nat × Option FieldType := (yX9_remove, cX9_remove, 3, (some .int))
abbrev kX9_mayPass : MethodName × ByteArray × Nat × Option FieldType := (yX9_mayPass, cX9_mayPass, 2, (some .int))
abbrev kX9_pass : MethodName × ByteArray × Nat × Option FieldType := (yX9_pass, cX9_pass, 3, (some .int))
abbrev kX9_thin : MethodName × ByteArray × Nat × Option FieldType := (yX9_thin, cX9_thin, 1, (some .int))
abbrev kX9_shoots : MethodName × ByteArray × Nat × Option FieldType := (yX9_shoots, cX9_shoots, 2, (some .int))
abbrev kX9_snapshot : MethodName × ByteArray × Nat × Option FieldType := (yX9_snapshot, cX9_snapshot, 1, (some .int))
abbrev kX9_begins : MethodName × ByteArray × Nat × Option FieldType := (yX9_begins, cX9_begins, 6, (some .int))
abbrev kX9_comes : MethodName × ByteArray × Nat × Option FieldType := (yX9_comes, cX9_comes, 1, (some .int))
abbrev kX9_reader : MethodName × ByteArray × Nat × Option FieldType := (yX9_reader, cX9_reader, 1, (some .int))
abbrev kX9_mayRead : MethodName × ByteArray × Nat × Option FieldType := (yX9_mayRead, cX9_mayRead, 3, (some .int))
abbrev kX9_reads : MethodName × ByteArray × Nat × Option FieldType := (yX9_reads, cX9_reads, 5, (some .int))
abbrev kX9_read : MethodName × ByteArray × Nat × Option FieldType := (yX9_read, cX9_read, 4, (some .int))
abbrev kX9_takes : MethodName × ByteArray × Nat × Option FieldType := (yX9_takes, cX9_takes, 6, (some .int))
abbrev kX9_confirm : MethodName × ByteArray × Nat × Option FieldType := (yX9_confirm, cX9_confirm, 2, (some .int))
abbrev kX9_goBack : MethodName × ByteArray × Nat × Option FieldType := (yX9_goBack, cX9_goBack, 2, (some .int))
abbrev kX9_beginAnew : MethodName × ByteArray × Nat × Option FieldType := (yX9_beginAnew, cX9_beginAnew, 2, (some .int))
abbrev kX9_mayLoad : MethodName × ByteArray × Nat × Option FieldType := (yX9_mayLoad, cX9_mayLoad, 3, (some .int))
abbrev kX9_loads : MethodName × ByteArray × Nat × Option FieldType := (yX9_loads, cX9_loads, 4, (some .int))
abbrev kX9_load : MethodName × ByteArray × Nat × Option FieldType := (yX9_load, cX9_load, 4, (some .int))
abbrev kX9_table : MethodName × ByteArray × Nat × Option FieldType := (yX9_table, cX9_table, 2, (some .int))
abbrev kX9_view : MethodName × ByteArray × Nat × Option FieldType := (yX9_view, cX9_view, 3, (some .int))
abbrev kX9_entry : MethodName × ByteArray × Nat × Option FieldType := (yX9_entry, cX9_entry, 3, (some .int))
abbrev kX9_unlike : MethodName × ByteArray × Nat × Option FieldType := (yX9_unlike, cX9_unlike, 4, (some .int))
abbrev kX9_ofReader : MethodName × ByteArray × Nat × Option FieldType := (yX9_ofReader, cX9_ofReader, 4, (some .int))
abbrev kX9_valued : MethodName × ByteArray × Nat × Option FieldType := (yX9_valued, cX9_valued, 4, (some .int))
abbrev kX9_ofSnapshot : MethodName × ByteArray × Nat × Option FieldType := (yX9_ofSnapshot, cX9_ofSnapshot, 4, (some .int))
abbrev kX9_count : MethodName × ByteArray × Nat × Option FieldType := (yX9_count, cX9_count, 2, (some .int))
abbrev kX9_thinsThen : MethodName × ByteArray × Nat × Option FieldType := (yX9_thinsThen, cX9_thinsThen, 2, none)
abbrev kX9_leftIn : MethodName × ByteArray × Nat × Option FieldType := (yX9_leftIn, cX9_leftIn, 2, (some .int))
abbrev kX9_lateIn : MethodName × ByteArray × Nat × Option FieldType := (yX9_lateIn, cX9_lateIn, 2, (some .int))
abbrev kX9_shortest : MethodName × ByteArray × Nat × Option FieldType := (yX9_shortest, cX9_shortest, 8, (some .int))
abbrev kX9_gentlest : MethodName × ByteArray × Nat × Option FieldType := (yX9_gentlest, cX9_gentlest, 4, (some .int))
abbrev kX9_byteOf : MethodName × ByteArray × Nat × Option FieldType := (yX9_byteOf, cX9_byteOf, 3, (some .int))
abbrev kX9_toldBy : MethodName × ByteArray × Nat × Option FieldType := (yX9_toldBy, cX9_toldBy, 4, (some .int))
abbrev kX9_put : MethodName × ByteArray × Nat × Option FieldType := (yX9_put, cX9_put, 5, (some .int))
abbrev kX9_wipe : MethodName × ByteArray × Nat × Option FieldType := (yX9_wipe, cX9_wipe, 2, (some .int))
abbrev kX9_isAt : MethodName × ByteArray × Nat × Option FieldType := (yX9_isAt, cX9_isAt, 3, (some .boolean))
abbrev kX9_isSign : MethodName × ByteArray × Nat × Option FieldType := (yX9_isSign, cX9_isSign, 3, (some .boolean))
abbrev kX9_isDigit : MethodName × ByteArray × Nat × Option FieldType := (yX9_isDigit, cX9_isDigit, 4, (some .boolean))
abbrev kX9_isNumber : MethodName × ByteArray × Nat × Option FieldType := (yX9_isNumber, cX9_isNumber, 3, (some .boolean))
abbrev kX9_isOrder : MethodName × ByteArray × Nat × Option FieldType := (yX9_isOrder, cX9_isOrder, 2, (some .boolean))
abbrev kX9_isText : MethodName × ByteArray × Nat × Option FieldType := (yX9_isText, cX9_isText, 2, (some .boolean))
abbrev kX9_fault : MethodName × ByteArray × Nat × Option FieldType := (yX9_fault, cX9_fault, 1, (some .int))
abbrev kX9_mayDo : MethodName × ByteArray × Nat × Option FieldType := (yX9_mayDo, cX9_mayDo, 4, (some .int))
abbrev kX9_does : MethodName × ByteArray × Nat × Option FieldType := (yX9_does, cX9_does, 5, (some .boolean))
abbrev kX9_carryOut : MethodName × ByteArray × Nat × Option FieldType := (yX9_carryOut, cX9_carryOut, 2, (some .int))
abbrev kL_law : MethodName × ByteArray × Nat × Option FieldType := (yL_law, code, 4, some .boolean)
abbrev classes : List vw_C := [(RX0, TX0, 8), (RX1, TX1, 2), (RX2, TX2, 6), (RX3, TX3, 5), (RX4, TX4, 2), (RX5, TX5, 2), (RX6, TX6, 9), (RX7, TX7, 1), (RX8, TX8, 4), (RX9, TX9, 11)]
end
section
theorem qini_L : Cond.initialized RL ∈ lwT := List.mem_filter.mpr ⟨List.mem_of_getElem? (i := 41) (by decide +kernel), by decide +kernel⟩
theorem qini_X8 : Cond.initialized RX8 ∈ lwT := List.mem_filter.mpr ⟨List.mem_of_getElem? (i := 42) (by decide +kernel), by decide +kernel⟩
theorem qini_X6 : Cond.initialized RX6 ∈ lwT := List.mem_filter.mpr ⟨List.mem_of_getElem? (i := 43) (by decide +kernel), by decide +kernel⟩
theorem qini_X7 : Cond.initialized RX7 ∈ lwT := List.mem_filter.mpr ⟨List.mem_of_getElem? (i := 44) (by decide +kernel), by decide +kernel⟩
theorem qini_X0 : Cond.initialized RX0 ∈ lwT := List.mem_filter.mpr ⟨List.mem_of_getElem? (i := 45) (by decide +kernel), by decide +kernel⟩
theorem qini_X3 : Cond.initialized RX3 ∈ lwT := List.mem_filter.mpr ⟨List.mem_of_getElem? (i := 46) (by decide +kernel), by decide +kernel⟩
theorem qini_X5 : Cond.initialized RX5 ∈ lwT := List.mem_filter.mpr ⟨List.mem_of_getElem? (i := 47) (by decide +kernel), by decide +kernel⟩
theorem qini_X1 : Cond.initialized RX1 ∈ lwT := List.mem_filter.mpr ⟨List.mem_of_getElem? (i := 48) (by decide +kernel), by decide +kernel⟩
theorem qini_X2 : Cond.initialized RX2 ∈ lwT := List.mem_filter.mpr ⟨List.mem_of_getElem? (i := 49) (by decide +kernel), by decide +kernel⟩
theorem qini_X4 : Cond.initialized RX4 ∈ lwT := List.mem_filter.mpr ⟨List.mem_of_getElem? (i := 50) (by decide +kernel), by decide +kernel⟩
theorem qini_X9 : Cond.initialized RX9 ∈ lwT := List.mem_filter.mpr ⟨List.mem_of_getElem? (i := 51) (by decide +kernel), by decide +kernel⟩
theorem qini_J9 : Cond.initialized RJ9 ∈ lwT := List.mem_filter.mpr ⟨List.mem_of_getElem? (i := 52) (by decide +kernel), by decide +kernel⟩
theorem qL_7 : Cond.classLink RL 7 RX8 ∈ lwT := List.mem_filter.mpr ⟨List.mem_of_getElem? (i := 53) (by decide +kernel), by decide +kernel⟩
theorem qins_X8 : Cond.instantiable RX8 4 ∈ lwT := List.mem_filter.mpr ⟨List.mem_of_getElem? (i := 54) (by decide +kernel), by decide +kernel⟩
theorem qL_9 : Cond.methodLink RL 9 yX8_init ∈ lwT := List.mem_filter.mpr ⟨List.mem_of_getElem? (i := 55) (by decide +kernel), by decide +kernel⟩
theorem qX8_1 : Cond.methodLink RX8 1 objectInit ∈ lwT := List.mem_filter.mpr ⟨List.mem_of_getElem? (i := 58) (by decide +kernel), by decide +kernel⟩
theorem qX8_7 : Cond.classLink RX8 7 RX6 ∈ lwT := List.mem_filter.mpr ⟨List.mem_of_getElem? (i := 61) (by decide +kernel), by decide +kernel⟩
theorem qins_X6 : Cond.instantiable RX6 9 ∈ lwT := List.mem_filter.mpr ⟨List.mem_of_getElem? (i := 62) (by decide +kernel), by decide +kernel⟩
theorem qX8_9 : Cond.methodLink RX8 9 yX6_init ∈ lwT := List.mem_filter.mpr ⟨List.mem_of_getElem? (i := 63) (by decide +kernel), by decide +kernel⟩
theorem qX6_3 : Cond.methodLink RX6 3 objectInit ∈ lwT := List.mem_filter.mpr ⟨List.mem_of_getElem? (i := 66) (by decide +kernel), by decide +kernel⟩
theorem qX6_27 : Cond.classLink RX6 27 RX7 ∈ lwT := List.mem_filter.mpr ⟨List.mem_of_getElem? (i := 67) (by decide +kernel), by decide +kernel⟩
theorem qins_X7 : Cond.instantiable RX7 1 ∈ lwT := List.mem_filter.mpr ⟨List.mem_of_getElem? (i := 68) (by decide +kernel), by decide +kernel⟩
theorem qX6_29 : Cond.methodLink RX6 29 yX7_init ∈ lwT := List.mem_filter.mpr ⟨List.mem_of_getElem? (i := 69) (by decide +kernel), by decide +kernel⟩
theorem qX7_3 : Cond.methodLink RX7 3 objectInit ∈ lwT := List.mem_filter.mpr ⟨List.mem_of_getElem? (i := 72) (by decide +kernel), by decide +kernel⟩
theorem qX7_15 : Cond.methodLink RX7 15 yX7_clear ∈ lwT := List.mem_filter.mpr ⟨List.mem_of_getElem? (i := 73) (by decide +kernel), by decide +kernel⟩
theorem qX7_9 : Cond.fieldLink RX7 9 "ChangeFeed$Values" "values" "[I" ∈ lwT := List.mem_filter.mpr ⟨List.mem_of_getElem? (i := 80) (by decide +kernel), by decide +kernel⟩
theorem qac_int : Cond.arrayClass .int ∈ lwT := List.mem_filter.mpr ⟨List.mem_of_getElem? (i := 84) (by decide +kernel), by decide +kernel⟩
theorem qX6_34 : Cond.classLink RX6 34 RX0 ∈ lwT := List.mem_filter.mpr ⟨List.mem_of_getElem? (i := 85) (by decide +kernel), by decide +kernel⟩
theorem qins_X0 : Cond.instantiable RX0 8 ∈ lwT := List.mem_filter.mpr ⟨List.mem_of_getElem? (i := 86) (by decide +kernel), by decide +kernel⟩
theorem qX0_3 : Cond.methodLink RX0 3 objectInit ∈ lwT := List.mem_filter.mpr ⟨List.mem_of_getElem? (i := 90) (by decide +kernel), by decide +kernel⟩
theorem qX0_9 : Cond.fieldLink RX0 9 "ChangeFeed$Feed" "numbers" "[I" ∈ lwT := List.mem_filter.mpr ⟨List.mem_of_getElem? (i := 91) (by decide +kernel), by decide +kernel⟩
theorem qX0_15 : Cond.fieldLink RX0 15 "ChangeFeed$Feed" "keys" "[I" ∈ lwT := List.mem_filter.mpr ⟨List.mem_of_getElem? (i := 92) (by decide +kernel), by decide +kernel⟩
theorem qX0_18 : Cond.fieldLink RX0 18 "ChangeFeed$Feed" "values" "[I" ∈ lwT := List.mem_filter.mpr ⟨List.mem_of_getElem? (i := 93) (by decide +kernel), by decide +kernel⟩
theorem qX0_21 : Cond.fieldLink RX0 21 "ChangeFeed$Feed" "minutes" "[I" ∈ lwT := List.mem_filter.mpr ⟨List.mem_of_getElem? (i := 94) (by decide +kernel), by decide +kernel⟩
theorem qX0_24 : Cond.fieldLink RX0 24 "ChangeFeed$Feed" "held" "I" ∈ lwT := List.mem_filter.mpr ⟨List.mem_of_getElem? (i := 95) (by decide +kernel), by decide +kernel⟩
theorem qX3_53 : Cond.fieldLink RX3 53 "ChangeFeed$Feed" "held" "I" ∈ lwT := List.mem_filter.mpr ⟨List.mem_of_getElem? (i := 96) (by decide +kernel), by decide +kernel⟩
theorem qX8_109 : Cond.fieldLink RX8 109 "ChangeFeed$Feed" "held" "I" ∈ lwT := List.mem_filter.mpr ⟨List.mem_of_getElem? (i := 97) (by decide +kernel), by decide +kernel⟩
theorem qX6_149 : Cond.fieldLink RX6 149 "ChangeFeed$Feed" "held" "I" ∈ lwT := List.mem_filter.mpr ⟨List.mem_of_getElem? (i := 98) (by decide +kernel), by decide +kernel⟩
theorem qX0_28 : Cond.fieldLink RX0 28 "ChangeFeed$Feed" "next" "I" ∈ lwT := List.mem_filter.mpr ⟨List.mem_of_getElem? (i := 99) (by decide +kernel), by decide +kernel⟩
theorem qX6_113 : Cond.fieldLink RX6 113 "ChangeFeed$Feed" "next" "I" ∈ lwT := List.mem_filter.mpr ⟨List.mem_of_getElem? (i := 100) (by decide +kernel), by decide +kernel⟩
theorem qX8_179 : Cond.fieldLink RX8 179 "ChangeFeed$Feed" "next" "I" ∈ lwT := List.mem_filter.mpr ⟨List.mem_of_getElem? (i := 101) (by decide +kernel), by decide +kernel⟩
theorem qX0_31 : Cond.fieldLink RX0 31 "ChangeFeed$Feed" "floor" "I" ∈ lwT := List.mem_filter.mpr ⟨List.mem_of_getElem? (i := 102) (by decide +kernel), by decide +kernel⟩
theorem qX6_107 : Cond.fieldLink RX6 107 "ChangeFeed$Feed" "floor" "I" ∈ lwT := List.mem_filter.mpr ⟨List.mem_of_getElem? (i := 103) (by decide +kernel), by decide +kernel⟩
theorem qX8_150 : Cond.fieldLink RX8 150 "ChangeFeed$Feed" "floor" "I" ∈ lwT := List.mem_filter.mpr ⟨List.mem_of_getElem? (i := 104) (by decide +kernel), by decide +kernel⟩
theorem qX0_34 : Cond.fieldLink RX0 34 "ChangeFeed$Feed" "gone" "I" ∈ lwT := List.mem_filter.mpr ⟨List.mem_of_getElem? (i := 105) (by decide +kernel), by decide +kernel⟩
theorem qX8_185 : Cond.fieldLink RX8 185 "ChangeFeed$Feed" "gone" "I" ∈ lwT := List.mem_filter.mpr ⟨List.mem_of_getElem? (i := 106) (by decide +kernel), by decide +kernel⟩
theorem qX6_41 : Cond.classLink RX6 41 RX3 ∈ lwT := List.mem_filter.mpr ⟨List.mem_of_getElem? (i := 124) (by decide +kernel), by decide +kernel⟩
theorem qX6_47 : Cond.classLink RX6 47 RX5 ∈ lwT := List.mem_filter.mpr ⟨List.mem_of_getElem? (i := 126) (by decide +kernel), by decide +kernel⟩
theorem qins_X3 : Cond.instantiable RX3 5 ∈ lwT := List.mem_filter.mpr ⟨List.mem_of_getElem? (i := 128) (by decide +kernel), by decide +kernel⟩
theorem qX3_1 : Cond.methodLink RX3 1 objectInit ∈ lwT := List.mem_filter.mpr ⟨List.mem_of_getElem? (i := 132) (by decide +kernel), by decide +kernel⟩
theorem qX3_19 : Cond.classLink RX3 19 RX7 ∈ lwT := List.mem_filter.mpr ⟨List.mem_of_getElem? (i := 133) (by decide +kernel), by decide +kernel⟩
theorem qX3_21 : Cond.methodLink RX3 21 yX7_init ∈ lwT := List.mem_filter.mpr ⟨List.mem_of_getElem? (i := 134) (by decide +kernel), by decide +kernel⟩
theorem qX3_7 : Cond.fieldLink RX3 7 "ChangeFeed$Reader" "place" "I" ∈ lwT := List.mem_filter.mpr ⟨List.mem_of_getElem? (i := 135) (by decide +kernel), by decide +kernel⟩
theorem qX6_126 : Cond.fieldLink RX6 126 "ChangeFeed$Reader" "place" "I" ∈ lwT := List.mem_filter.mpr ⟨List.mem_of_getElem? (i := 136) (by decide +kernel), by decide +kernel⟩
theorem qX8_141 : Cond.fieldLink RX8 141 "ChangeFeed$Reader" "place" "I" ∈ lwT := List.mem_filter.mpr ⟨List.mem_of_getElem? (i := 137) (by decide +kernel), by decide +kernel⟩
theorem qX3_13 : Cond.fieldLink RX3 13 "ChangeFeed$Reader" "confirmedPlace" "I" ∈ lwT := List.mem_filter.mpr ⟨List.mem_of_getElem? (i := 138) (by decide +kernel), by decide +kernel⟩
theorem qX8_144 : Cond.fieldLink RX8 144 "ChangeFeed$Reader" "confirmedPlace" "I" ∈ lwT := List.mem_filter.mpr ⟨List.mem_of_getElem? (i := 139) (by decide +kernel), by decide +kernel⟩
theorem qX3_16 : Cond.fieldLink RX3 16 "ChangeFeed$Reader" "readSoFar" "I" ∈ lwT := List.mem_filter.mpr ⟨List.mem_of_getElem? (i := 140) (by decide +kernel), by decide +kernel⟩
theorem qX6_123 : Cond.fieldLink RX6 123 "ChangeFeed$Reader" "readSoFar" "I" ∈ lwT := List.mem_filter.mpr ⟨List.mem_of_getElem? (i := 141) (by decide +kernel), by decide +kernel⟩
theorem qX8_156 : Cond.fieldLink RX8 156 "ChangeFeed$Reader" "readSoFar" "I" ∈ lwT := List.mem_filter.mpr ⟨List.mem_of_getElem? (i := 142) (by decide +kernel), by decide +kernel⟩
theorem qX3_22 : Cond.fieldLink RX3 22 "ChangeFeed$Reader" "view" "LChangeFeed$Values;" ∈ lwT := List.mem_filter.mpr ⟨List.mem_of_getElem? (i := 143) (by decide +kernel), by decide +kernel⟩
theorem qX8_100 : Cond.fieldLink RX8 100 "ChangeFeed$Reader" "view" "LChangeFeed$Values;" ∈ lwT := List.mem_filter.mpr ⟨List.mem_of_getElem? (i := 144) (by decide +kernel), by decide +kernel⟩
theorem qX3_26 : Cond.fieldLink RX3 26 "ChangeFeed$Reader" "confirmedView" "LChangeFeed$Values;" ∈ lwT := List.mem_filter.mpr ⟨List.mem_of_getElem? (i := 145) (by decide +kernel), by decide +kernel⟩
theorem qX8_163 : Cond.fieldLink RX8 163 "ChangeFeed$Reader" "confirmedView" "LChangeFeed$Values;" ∈ lwT := List.mem_filter.mpr ⟨List.mem_of_getElem? (i := 146) (by decide +kernel), by decide +kernel⟩
theorem qins_X5 : Cond.instantiable RX5 2 ∈ lwT := List.mem_filter.mpr ⟨List.mem_of_getElem? (i := 158) (by decide +kernel), by decide +kernel⟩
theorem qX5_1 : Cond.methodLink RX5 1 objectInit ∈ lwT := List.mem_filter.mpr ⟨List.mem_of_getElem? (i := 162) (by decide +kernel), by decide +kernel⟩
theorem qX5_13 : Cond.classLink RX5 13 RX7 ∈ lwT := List.mem_filter.mpr ⟨List.mem_of_getElem? (i := 163) (by decide +kernel), by decide +kernel⟩
theorem qX5_15 : Cond.methodLink RX5 15 yX7_init ∈ lwT := List.mem_filter.mpr ⟨List.mem_of_getElem? (i := 164) (by decide +kernel), by decide +kernel⟩
theorem qX5_7 : Cond.fieldLink RX5 7 "ChangeFeed$Snapshot" "number" "I" ∈ lwT := List.mem_filter.mpr ⟨List.mem_of_getElem? (i := 165) (by decide +kernel), by decide +kernel⟩
theorem qX3_39 : Cond.fieldLink RX3 39 "ChangeFeed$Snapshot" "number" "I" ∈ lwT := List.mem_filter.mpr ⟨List.mem_of_getElem? (i := 166) (by decide +kernel), by decide +kernel⟩
theorem qX6_116 : Cond.fieldLink RX6 116 "ChangeFeed$Snapshot" "number" "I" ∈ lwT := List.mem_filter.mpr ⟨List.mem_of_getElem? (i := 167) (by decide +kernel), by decide +kernel⟩
theorem qX8_170 : Cond.fieldLink RX8 170 "ChangeFeed$Snapshot" "number" "I" ∈ lwT := List.mem_filter.mpr ⟨List.mem_of_getElem? (i := 168) (by decide +kernel), by decide +kernel⟩
theorem qX5_16 : Cond.fieldLink RX5 16 "ChangeFeed$Snapshot" "table" "LChangeFeed$Values;" ∈ lwT := List.mem_filter.mpr ⟨List.mem_of_getElem? (i := 169) (by decide +kernel), by decide +kernel⟩
theorem qX3_44 : Cond.fieldLink RX3 44 "ChangeFeed$Snapshot" "table" "LChangeFeed$Values;" ∈ lwT := List.mem_filter.mpr ⟨List.mem_of_getElem? (i := 170) (by decide +kernel), by decide +kernel⟩
theorem qX6_119 : Cond.fieldLink RX6 119 "ChangeFeed$Snapshot" "table" "LChangeFeed$Values;" ∈ lwT := List.mem_filter.mpr ⟨List.mem_of_getElem? (i := 171) (by decide +kernel), by decide +kernel⟩
theorem qX8_175 : Cond.fieldLink RX8 175 "ChangeFeed$Snapshot" "table" "LChangeFeed$Values;" ∈ lwT := List.mem_filter.mpr ⟨List.mem_of_getElem? (i := 172) (by decide +kernel), by decide +kernel⟩
theorem qX6_9 : Cond.fieldLink RX6 9 "ChangeFeed$State" "size" "I" ∈ lwT := List.mem_filter.mpr ⟨List.mem_of_getElem? (i := 178) (by decide +kernel), by decide +kernel⟩
theorem qX8_134 : Cond.fieldLink RX8 134 "ChangeFeed$State" "size" "I" ∈ lwT := List.mem_filter.mpr ⟨List.mem_of_getElem? (i := 179) (by decide +kernel), by decide +kernel⟩
theorem qX6_15 : Cond.fieldLink RX6 15 "ChangeFeed$State" "grace" "I" ∈ lwT := List.mem_filter.mpr ⟨List.mem_of_getElem? (i := 180) (by decide +kernel), by decide +kernel⟩
theorem qX8_197 : Cond.fieldLink RX8 197 "ChangeFeed$State" "grace" "I" ∈ lwT := List.mem_filter.mpr ⟨List.mem_of_getElem? (i := 181) (by decide +kernel), by decide +kernel⟩
theorem qX6_18 : Cond.fieldLink RX6 18 "ChangeFeed$State" "minute" "I" ∈ lwT := List.mem_filter.mpr ⟨List.mem_of_getElem? (i := 182) (by decide +kernel), by decide +kernel⟩
theorem qX8_182 : Cond.fieldLink RX8 182 "ChangeFeed$State" "minute" "I" ∈ lwT := List.mem_filter.mpr ⟨List.mem_of_getElem? (i := 183) (by decide +kernel), by decide +kernel⟩
theorem qX6_21 : Cond.fieldLink RX6 21 "ChangeFeed$State" "readerCount" "I" ∈ lwT := List.mem_filter.mpr ⟨List.mem_of_getElem? (i := 184) (by decide +kernel), by decide +kernel⟩
theorem qX8_188 : Cond.fieldLink RX8 188 "ChangeFeed$State" "readerCount" "I" ∈ lwT := List.mem_filter.mpr ⟨List.mem_of_getElem? (i := 185) (by decide +kernel), by decide +kernel⟩
theorem qX6_24 : Cond.fieldLink RX6 24 "ChangeFeed$State" "snapshotCount" "I" ∈ lwT := List.mem_filter.mpr ⟨List.mem_of_getElem? (i := 186) (by decide +kernel), by decide +kernel⟩
theorem qX8_194 : Cond.fieldLink RX8 194 "ChangeFeed$State" "snapshotCount" "I" ∈ lwT := List.mem_filter.mpr ⟨List.mem_of_getElem? (i := 187) (by decide +kernel), by decide +kernel⟩
theorem qX6_30 : Cond.fieldLink RX6 30 "ChangeFeed$State" "table" "LChangeFeed$Values;" ∈ lwT := List.mem_filter.mpr ⟨List.mem_of_getElem? (i := 188) (by decide +kernel), by decide +kernel⟩
theorem qX8_87 : Cond.fieldLink RX8 87 "ChangeFeed$State" "table" "LChangeFeed$Values;" ∈ lwT := List.mem_filter.mpr ⟨List.mem_of_getElem? (i := 189) (by decide +kernel), by decide +kernel⟩
theorem qX6_37 : Cond.fieldLink RX6 37 "ChangeFeed$State" "feed" "LChangeFeed$Feed;" ∈ lwT := List.mem_filter.mpr ⟨List.mem_of_getElem? (i := 190) (by decide +kernel), by decide +kernel⟩
theorem qX8_105 : Cond.fieldLink RX8 105 "ChangeFeed$State" "feed" "LChangeFeed$Feed;" ∈ lwT := List.mem_filter.mpr ⟨List.mem_of_getElem? (i := 191) (by decide +kernel), by decide +kernel⟩
theorem qX6_43 : Cond.fieldLink RX6 43 "ChangeFeed$State" "readers" "[LChangeFeed$Reader;" ∈ lwT := List.mem_filter.mpr ⟨List.mem_of_getElem? (i := 192) (by decide +kernel), by decide +kernel⟩
theorem qX6_49 : Cond.fieldLink RX6 49 "ChangeFeed$State" "snapshots" "[LChangeFeed$Snapshot;" ∈ lwT := List.mem_filter.mpr ⟨List.mem_of_getElem? (i := 193) (by decide +kernel), by decide +kernel⟩
theorem qX8_16 : Cond.classLink RX8 16 RX1 ∈ lwT := List.mem_filter.mpr ⟨List.mem_of_getElem? (i := 213) (by decide +kernel), by decide +kernel⟩
theorem qins_X1 : Cond.instantiable RX1 2 ∈ lwT := List.mem_filter.mpr ⟨List.mem_of_getElem? (i := 214) (by decide +kernel), by decide +kernel⟩
theorem qX8_18 : Cond.methodLink RX8 18 yX1_init ∈ lwT := List.mem_filter.mpr ⟨List.mem_of_getElem? (i := 215) (by decide +kernel), by decide +kernel⟩
theorem qX1_3 : Cond.methodLink RX1 3 objectInit ∈ lwT := List.mem_filter.mpr ⟨List.mem_of_getElem? (i := 218) (by decide +kernel), by decide +kernel⟩
theorem qX1_9 : Cond.classLink RX1 9 RX6 ∈ lwT := List.mem_filter.mpr ⟨List.mem_of_getElem? (i := 219) (by decide +kernel), by decide +kernel⟩
theorem qX1_21 : Cond.methodLink RX1 21 yX6_init ∈ lwT := List.mem_filter.mpr ⟨List.mem_of_getElem? (i := 221) (by decide +kernel), by decide +kernel⟩
theorem qX1_11 : Cond.fieldLink RX1 11 "ChangeFeed$History" "states" "[LChangeFeed$State;" ∈ lwT := List.mem_filter.mpr ⟨List.mem_of_getElem? (i := 222) (by decide +kernel), by decide +kernel⟩
theorem qX1_17 : Cond.fieldLink RX1 17 "ChangeFeed$History" "held" "I" ∈ lwT := List.mem_filter.mpr ⟨List.mem_of_getElem? (i := 223) (by decide +kernel), by decide +kernel⟩
theorem qX8_203 : Cond.fieldLink RX8 203 "ChangeFeed$History" "held" "I" ∈ lwT := List.mem_filter.mpr ⟨List.mem_of_getElem? (i := 224) (by decide +kernel), by decide +kernel⟩
theorem qX8_23 : Cond.classLink RX8 23 RX2 ∈ lwT := List.mem_filter.mpr ⟨List.mem_of_getElem? (i := 230) (by decide +kernel), by decide +kernel⟩
theorem qins_X2 : Cond.instantiable RX2 6 ∈ lwT := List.mem_filter.mpr ⟨List.mem_of_getElem? (i := 231) (by decide +kernel), by decide +kernel⟩
theorem qX2_3 : Cond.methodLink RX2 3 objectInit ∈ lwT := List.mem_filter.mpr ⟨List.mem_of_getElem? (i := 235) (by decide +kernel), by decide +kernel⟩
theorem qX2_9 : Cond.fieldLink RX2 9 "ChangeFeed$Pad" "signs" "[I" ∈ lwT := List.mem_filter.mpr ⟨List.mem_of_getElem? (i := 236) (by decide +kernel), by decide +kernel⟩
theorem qX2_15 : Cond.fieldLink RX2 15 "ChangeFeed$Pad" "length" "I" ∈ lwT := List.mem_filter.mpr ⟨List.mem_of_getElem? (i := 237) (by decide +kernel), by decide +kernel⟩
theorem qX8_200 : Cond.fieldLink RX8 200 "ChangeFeed$Pad" "length" "I" ∈ lwT := List.mem_filter.mpr ⟨List.mem_of_getElem? (i := 238) (by decide +kernel), by decide +kernel⟩
theorem qX2_19 : Cond.fieldLink RX2 19 "ChangeFeed$Pad" "place" "I" ∈ lwT := List.mem_filter.mpr ⟨List.mem_of_getElem? (i := 239) (by decide +kernel), by decide +kernel⟩
theorem qX2_22 : Cond.fieldLink RX2 22 "ChangeFeed$Pad" "letter" "I" ∈ lwT := List.mem_filter.mpr ⟨List.mem_of_getElem? (i := 240) (by decide +kernel), by decide +kernel⟩
theorem qX8_245 : Cond.fieldLink RX8 245 "ChangeFeed$Pad" "letter" "I" ∈ lwT := List.mem_filter.mpr ⟨List.mem_of_getElem? (i := 241) (by decide +kernel), by decide +kernel⟩
theorem qX2_25 : Cond.fieldLink RX2 25 "ChangeFeed$Pad" "first" "I" ∈ lwT := List.mem_filter.mpr ⟨List.mem_of_getElem? (i := 242) (by decide +kernel), by decide +kernel⟩
theorem qX8_248 : Cond.fieldLink RX8 248 "ChangeFeed$Pad" "first" "I" ∈ lwT := List.mem_filter.mpr ⟨List.mem_of_getElem? (i := 243) (by decide +kernel), by decide +kernel⟩
theorem qX2_28 : Cond.fieldLink RX2 28 "ChangeFeed$Pad" "second" "I" ∈ lwT := List.mem_filter.mpr ⟨List.mem_of_getElem? (i := 244) (by decide +kernel), by decide +kernel⟩
theorem qX8_251 : Cond.fieldLink RX8 251 "ChangeFeed$Pad" "second" "I" ∈ lwT := List.mem_filter.mpr ⟨List.mem_of_getElem? (i := 245) (by decide +kernel), by decide +kernel⟩
theorem qX8_30 : Cond.classLink RX8 30 RX4 ∈ lwT := List.mem_filter.mpr ⟨List.mem_of_getElem? (i := 259) (by decide +kernel), by decide +kernel⟩
theorem qins_X4 : Cond.instantiable RX4 2 ∈ lwT := List.mem_filter.mpr ⟨List.mem_of_getElem? (i := 261) (by decide +kernel), by decide +kernel⟩
theorem qX4_1 : Cond.methodLink RX4 1 objectInit ∈ lwT := List.mem_filter.mpr ⟨List.mem_of_getElem? (i := 265) (by decide +kernel), by decide +kernel⟩
theorem qX4_13 : Cond.classLink RX4 13 RX6 ∈ lwT := List.mem_filter.mpr ⟨List.mem_of_getElem? (i := 266) (by decide +kernel), by decide +kernel⟩
theorem qX4_15 : Cond.methodLink RX4 15 yX6_init ∈ lwT := List.mem_filter.mpr ⟨List.mem_of_getElem? (i := 267) (by decide +kernel), by decide +kernel⟩
theorem qX4_7 : Cond.fieldLink RX4 7 "ChangeFeed$Slot" "isUsed" "Z" ∈ lwT := List.mem_filter.mpr ⟨List.mem_of_getElem? (i := 268) (by decide +kernel), by decide +kernel⟩
theorem qX8_268 : Cond.fieldLink RX8 268 "ChangeFeed$Slot" "isUsed" "Z" ∈ lwT := List.mem_filter.mpr ⟨List.mem_of_getElem? (i := 269) (by decide +kernel), by decide +kernel⟩
theorem qX4_16 : Cond.fieldLink RX4 16 "ChangeFeed$Slot" "state" "LChangeFeed$State;" ∈ lwT := List.mem_filter.mpr ⟨List.mem_of_getElem? (i := 270) (by decide +kernel), by decide +kernel⟩
theorem qX8_262 : Cond.fieldLink RX8 262 "ChangeFeed$Slot" "state" "LChangeFeed$State;" ∈ lwT := List.mem_filter.mpr ⟨List.mem_of_getElem? (i := 271) (by decide +kernel), by decide +kernel⟩
theorem qX8_10 : Cond.fieldLink RX8 10 "ChangeFeed" "now" "LChangeFeed$State;" ∈ lwT := List.mem_filter.mpr ⟨List.mem_of_getElem? (i := 277) (by decide +kernel), by decide +kernel⟩
theorem qX8_19 : Cond.fieldLink RX8 19 "ChangeFeed" "history" "LChangeFeed$History;" ∈ lwT := List.mem_filter.mpr ⟨List.mem_of_getElem? (i := 278) (by decide +kernel), by decide +kernel⟩
theorem qX8_26 : Cond.fieldLink RX8 26 "ChangeFeed" "pad" "LChangeFeed$Pad;" ∈ lwT := List.mem_filter.mpr ⟨List.mem_of_getElem? (i := 279) (by decide +kernel), by decide +kernel⟩
theorem qX8_32 : Cond.fieldLink RX8 32 "ChangeFeed" "slots" "[LChangeFeed$Slot;" ∈ lwT := List.mem_filter.mpr ⟨List.mem_of_getElem? (i := 280) (by decide +kernel), by decide +kernel⟩
theorem qL_13 : Cond.methodLink RL 13 yX8_turn ∈ lwT := List.mem_filter.mpr ⟨List.mem_of_getElem? (i := 290) (by decide +kernel), by decide +kernel⟩
theorem qX8_37 : Cond.methodLink RX8 37 yX1_prepare ∈ lwT := List.mem_filter.mpr ⟨List.mem_of_getElem? (i := 294) (by decide +kernel), by decide +kernel⟩
theorem qX1_22 : Cond.methodLink RX1 22 yX1_stateAt ∈ lwT := List.mem_filter.mpr ⟨List.mem_of_getElem? (i := 298) (by decide +kernel), by decide +kernel⟩
theorem qX1_26 : Cond.methodLink RX1 26 yX6_copyFrom ∈ lwT := List.mem_filter.mpr ⟨List.mem_of_getElem? (i := 302) (by decide +kernel), by decide +kernel⟩
theorem qX6_55 : Cond.methodLink RX6 55 yX7_copyFrom ∈ lwT := List.mem_filter.mpr ⟨List.mem_of_getElem? (i := 306) (by decide +kernel), by decide +kernel⟩
theorem qX6_59 : Cond.methodLink RX6 59 yX0_copyFrom ∈ lwT := List.mem_filter.mpr ⟨List.mem_of_getElem? (i := 313) (by decide +kernel), by decide +kernel⟩
theorem qX6_62 : Cond.methodLink RX6 62 yX6_readerAt ∈ lwT := List.mem_filter.mpr ⟨List.mem_of_getElem? (i := 318) (by decide +kernel), by decide +kernel⟩
theorem qX6_66 : Cond.methodLink RX6 66 yX3_copyFrom ∈ lwT := List.mem_filter.mpr ⟨List.mem_of_getElem? (i := 322) (by decide +kernel), by decide +kernel⟩
theorem qX3_29 : Cond.methodLink RX3 29 yX7_copyFrom ∈ lwT := List.mem_filter.mpr ⟨List.mem_of_getElem? (i := 326) (by decide +kernel), by decide +kernel⟩
theorem qX6_69 : Cond.methodLink RX6 69 yX6_snapshotAt ∈ lwT := List.mem_filter.mpr ⟨List.mem_of_getElem? (i := 327) (by decide +kernel), by decide +kernel⟩
theorem qX6_73 : Cond.methodLink RX6 73 yX6_copySnapshot ∈ lwT := List.mem_filter.mpr ⟨List.mem_of_getElem? (i := 331) (by decide +kernel), by decide +kernel⟩
theorem qX6_77 : Cond.methodLink RX6 77 yX5_copyFrom ∈ lwT := List.mem_filter.mpr ⟨List.mem_of_getElem? (i := 334) (by decide +kernel), by decide +kernel⟩
theorem qX5_20 : Cond.methodLink RX5 20 yX7_copyFrom ∈ lwT := List.mem_filter.mpr ⟨List.mem_of_getElem? (i := 338) (by decide +kernel), by decide +kernel⟩
theorem qX8_41 : Cond.methodLink RX8 41 yX6_turnSetting ∈ lwT := List.mem_filter.mpr ⟨List.mem_of_getElem? (i := 339) (by decide +kernel), by decide +kernel⟩
theorem qX8_45 : Cond.methodLink RX8 45 yX1_settle ∈ lwT := List.mem_filter.mpr ⟨List.mem_of_getElem? (i := 346) (by decide +kernel), by decide +kernel⟩
theorem qX1_30 : Cond.methodLink RX1 30 yX1_dropOldest ∈ lwT := List.mem_filter.mpr ⟨List.mem_of_getElem? (i := 350) (by decide +kernel), by decide +kernel⟩
theorem qL_18 : Cond.methodLink RL 18 yX8_set ∈ lwT := List.mem_filter.mpr ⟨List.mem_of_getElem? (i := 354) (by decide +kernel), by decide +kernel⟩
theorem qX8_49 : Cond.methodLink RX8 49 yX6_setKey ∈ lwT := List.mem_filter.mpr ⟨List.mem_of_getElem? (i := 358) (by decide +kernel), by decide +kernel⟩
theorem qX6_87 : Cond.methodLink RX6 87 yX0_isFull ∈ lwT := List.mem_filter.mpr ⟨List.mem_of_getElem? (i := 365) (by decide +kernel), by decide +kernel⟩
theorem qX6_91 : Cond.methodLink RX6 91 yX7_change ∈ lwT := List.mem_filter.mpr ⟨List.mem_of_getElem? (i := 369) (by decide +kernel), by decide +kernel⟩
theorem qX6_95 : Cond.methodLink RX6 95 yX0_append ∈ lwT := List.mem_filter.mpr ⟨List.mem_of_getElem? (i := 373) (by decide +kernel), by decide +kernel⟩
theorem qX0_45 : Cond.methodLink RX0 45 yX0_layEntry ∈ lwT := List.mem_filter.mpr ⟨List.mem_of_getElem? (i := 377) (by decide +kernel), by decide +kernel⟩
theorem qL_22 : Cond.methodLink RL 22 yX8_remove ∈ lwT := List.mem_filter.mpr ⟨List.mem_of_getElem? (i := 382) (by decide +kernel), by decide +kernel⟩
theorem qX8_52 : Cond.methodLink RX8 52 yX6_removeKey ∈ lwT := List.mem_filter.mpr ⟨List.mem_of_getElem? (i := 386) (by decide +kernel), by decide +kernel⟩
theorem qX6_99 : Cond.methodLink RX6 99 yX7_of ∈ lwT := List.mem_filter.mpr ⟨List.mem_of_getElem? (i := 390) (by decide +kernel), by decide +kernel⟩
theorem qL_27 : Cond.methodLink RL 27 yX8_pass ∈ lwT := List.mem_filter.mpr ⟨List.mem_of_getElem? (i := 397) (by decide +kernel), by decide +kernel⟩
theorem qX8_55 : Cond.methodLink RX8 55 yX6_letPass ∈ lwT := List.mem_filter.mpr ⟨List.mem_of_getElem? (i := 401) (by decide +kernel), by decide +kernel⟩
theorem qX6_103 : Cond.constant RX6 103 (99999) ∈ lwT := List.mem_filter.mpr ⟨List.mem_of_getElem? (i := 405) (by decide +kernel), by decide +kernel⟩
theorem qL_31 : Cond.methodLink RL 31 yX8_thin ∈ lwT := List.mem_filter.mpr ⟨List.mem_of_getElem? (i := 406) (by decide +kernel), by decide +kernel⟩
theorem qX8_58 : Cond.methodLink RX8 58 yX6_thinFeed ∈ lwT := List.mem_filter.mpr ⟨List.mem_of_getElem? (i := 410) (by decide +kernel), by decide +kernel⟩
theorem qX6_104 : Cond.methodLink RX6 104 yX0_floorAfterThinning ∈ lwT := List.mem_filter.mpr ⟨List.mem_of_getElem? (i := 414) (by decide +kernel), by decide +kernel⟩
theorem qX0_65 : Cond.methodLink RX0 65 yX0_isLastOfItsKey ∈ lwT := List.mem_filter.mpr ⟨List.mem_of_getElem? (i := 418) (by decide +kernel), by decide +kernel⟩
theorem qX0_73 : Cond.methodLink RX0 73 yX0_wouldGo ∈ lwT := List.mem_filter.mpr ⟨List.mem_of_getElem? (i := 423) (by decide +kernel), by decide +kernel⟩
theorem qX0_61 : Cond.methodLink RX0 61 yX0_isClosed ∈ lwT := List.mem_filter.mpr ⟨List.mem_of_getElem? (i := 427) (by decide +kernel), by decide +kernel⟩
theorem qX0_57 : Cond.methodLink RX0 57 yX0_segmentOf ∈ lwT := List.mem_filter.mpr ⟨List.mem_of_getElem? (i := 431) (by decide +kernel), by decide +kernel⟩
theorem qX0_69 : Cond.methodLink RX0 69 yX0_isOldRemoval ∈ lwT := List.mem_filter.mpr ⟨List.mem_of_getElem? (i := 434) (by decide +kernel), by decide +kernel⟩
theorem qX0_77 : Cond.methodLink RX0 77 yX0_numberAt ∈ lwT := List.mem_filter.mpr ⟨List.mem_of_getElem? (i := 438) (by decide +kernel), by decide +kernel⟩
theorem qX0_80 : Cond.methodLink RX0 80 Lib.Math.max.name ∈ lwT := List.mem_filter.mpr ⟨List.mem_of_getElem? (i := 442) (by decide +kernel), by decide +kernel⟩
theorem qX6_110 : Cond.methodLink RX6 110 yX0_thinOut ∈ lwT := List.mem_filter.mpr ⟨List.mem_of_getElem? (i := 445) (by decide +kernel), by decide +kernel⟩
theorem qX0_85 : Cond.methodLink RX0 85 yX0_keyAt ∈ lwT := List.mem_filter.mpr ⟨List.mem_of_getElem? (i := 449) (by decide +kernel), by decide +kernel⟩
theorem qX0_88 : Cond.methodLink RX0 88 yX0_valueAt ∈ lwT := List.mem_filter.mpr ⟨List.mem_of_getElem? (i := 453) (by decide +kernel), by decide +kernel⟩
theorem qX0_91 : Cond.methodLink RX0 91 yX0_minuteAt ∈ lwT := List.mem_filter.mpr ⟨List.mem_of_getElem? (i := 457) (by decide +kernel), by decide +kernel⟩
theorem qL_36 : Cond.methodLink RL 36 yX8_snapshot ∈ lwT := List.mem_filter.mpr ⟨List.mem_of_getElem? (i := 461) (by decide +kernel), by decide +kernel⟩
theorem qX8_62 : Cond.methodLink RX8 62 yX6_makeSnapshot ∈ lwT := List.mem_filter.mpr ⟨List.mem_of_getElem? (i := 465) (by decide +kernel), by decide +kernel⟩
theorem qL_40 : Cond.methodLink RL 40 yX8_reader ∈ lwT := List.mem_filter.mpr ⟨List.mem_of_getElem? (i := 469) (by decide +kernel), by decide +kernel⟩
theorem qX8_65 : Cond.methodLink RX8 65 yX6_addReader ∈ lwT := List.mem_filter.mpr ⟨List.mem_of_getElem? (i := 473) (by decide +kernel), by decide +kernel⟩
theorem qX6_120 : Cond.methodLink RX6 120 yX3_startOver ∈ lwT := List.mem_filter.mpr ⟨List.mem_of_getElem? (i := 477) (by decide +kernel), by decide +kernel⟩
theorem qX3_33 : Cond.methodLink RX3 33 yX7_clear ∈ lwT := List.mem_filter.mpr ⟨List.mem_of_getElem? (i := 481) (by decide +kernel), by decide +kernel⟩
theorem qX3_36 : Cond.methodLink RX3 36 yX3_keepPlace ∈ lwT := List.mem_filter.mpr ⟨List.mem_of_getElem? (i := 482) (by decide +kernel), by decide +kernel⟩
theorem qL_44 : Cond.methodLink RL 44 yX8_read ∈ lwT := List.mem_filter.mpr ⟨List.mem_of_getElem? (i := 486) (by decide +kernel), by decide +kernel⟩
theorem qX8_68 : Cond.methodLink RX8 68 yX6_letRead ∈ lwT := List.mem_filter.mpr ⟨List.mem_of_getElem? (i := 490) (by decide +kernel), by decide +kernel⟩
theorem qX6_133 : Cond.methodLink RX6 133 yX3_readOn ∈ lwT := List.mem_filter.mpr ⟨List.mem_of_getElem? (i := 497) (by decide +kernel), by decide +kernel⟩
theorem qX3_47 : Cond.methodLink RX3 47 yX0_firstFrom ∈ lwT := List.mem_filter.mpr ⟨List.mem_of_getElem? (i := 501) (by decide +kernel), by decide +kernel⟩
theorem qX3_56 : Cond.methodLink RX3 56 Lib.Math.min.name ∈ lwT := List.mem_filter.mpr ⟨List.mem_of_getElem? (i := 505) (by decide +kernel), by decide +kernel⟩
theorem qX3_62 : Cond.methodLink RX3 62 yX0_keyAt ∈ lwT := List.mem_filter.mpr ⟨List.mem_of_getElem? (i := 508) (by decide +kernel), by decide +kernel⟩
theorem qX3_65 : Cond.methodLink RX3 65 yX0_valueAt ∈ lwT := List.mem_filter.mpr ⟨List.mem_of_getElem? (i := 509) (by decide +kernel), by decide +kernel⟩
theorem qX3_68 : Cond.methodLink RX3 68 yX7_change ∈ lwT := List.mem_filter.mpr ⟨List.mem_of_getElem? (i := 510) (by decide +kernel), by decide +kernel⟩
theorem qX3_72 : Cond.methodLink RX3 72 yX0_numberAt ∈ lwT := List.mem_filter.mpr ⟨List.mem_of_getElem? (i := 511) (by decide +kernel), by decide +kernel⟩
theorem qL_48 : Cond.methodLink RL 48 yX8_confirm ∈ lwT := List.mem_filter.mpr ⟨List.mem_of_getElem? (i := 512) (by decide +kernel), by decide +kernel⟩
theorem qX8_71 : Cond.methodLink RX8 71 yX6_letConfirm ∈ lwT := List.mem_filter.mpr ⟨List.mem_of_getElem? (i := 516) (by decide +kernel), by decide +kernel⟩
theorem qX6_137 : Cond.methodLink RX6 137 yX3_keepPlace ∈ lwT := List.mem_filter.mpr ⟨List.mem_of_getElem? (i := 520) (by decide +kernel), by decide +kernel⟩
theorem qL_52 : Cond.methodLink RL 52 yX8_goBack ∈ lwT := List.mem_filter.mpr ⟨List.mem_of_getElem? (i := 521) (by decide +kernel), by decide +kernel⟩
theorem qX8_74 : Cond.methodLink RX8 74 yX6_letGoBack ∈ lwT := List.mem_filter.mpr ⟨List.mem_of_getElem? (i := 525) (by decide +kernel), by decide +kernel⟩
theorem qX6_140 : Cond.methodLink RX6 140 yX3_returnToConfirmed ∈ lwT := List.mem_filter.mpr ⟨List.mem_of_getElem? (i := 529) (by decide +kernel), by decide +kernel⟩
theorem qL_56 : Cond.methodLink RL 56 yX8_beginAnew ∈ lwT := List.mem_filter.mpr ⟨List.mem_of_getElem? (i := 533) (by decide +kernel), by decide +kernel⟩
theorem qX8_77 : Cond.methodLink RX8 77 yX6_letBeginAnew ∈ lwT := List.mem_filter.mpr ⟨List.mem_of_getElem? (i := 537) (by decide +kernel), by decide +kernel⟩
theorem qX6_143 : Cond.methodLink RX6 143 yX0_aheadOf ∈ lwT := List.mem_filter.mpr ⟨List.mem_of_getElem? (i := 541) (by decide +kernel), by decide +kernel⟩
theorem qX0_53 : Cond.methodLink RX0 53 yX0_firstFrom ∈ lwT := List.mem_filter.mpr ⟨List.mem_of_getElem? (i := 545) (by decide +kernel), by decide +kernel⟩
theorem qL_60 : Cond.methodLink RL 60 yX8_load ∈ lwT := List.mem_filter.mpr ⟨List.mem_of_getElem? (i := 546) (by decide +kernel), by decide +kernel⟩
theorem qX8_80 : Cond.methodLink RX8 80 yX6_letLoad ∈ lwT := List.mem_filter.mpr ⟨List.mem_of_getElem? (i := 550) (by decide +kernel), by decide +kernel⟩
theorem qX6_146 : Cond.methodLink RX6 146 yX3_takeOver ∈ lwT := List.mem_filter.mpr ⟨List.mem_of_getElem? (i := 554) (by decide +kernel), by decide +kernel⟩
theorem qL_64 : Cond.methodLink RL 64 yX8_table ∈ lwT := List.mem_filter.mpr ⟨List.mem_of_getElem? (i := 558) (by decide +kernel), by decide +kernel⟩
theorem qX8_83 : Cond.methodLink RX8 83 yX8_isKey ∈ lwT := List.mem_filter.mpr ⟨List.mem_of_getElem? (i := 562) (by decide +kernel), by decide +kernel⟩
theorem qX8_91 : Cond.methodLink RX8 91 yX7_of ∈ lwT := List.mem_filter.mpr ⟨List.mem_of_getElem? (i := 563) (by decide +kernel), by decide +kernel⟩
theorem qL_68 : Cond.methodLink RL 68 yX8_view ∈ lwT := List.mem_filter.mpr ⟨List.mem_of_getElem? (i := 564) (by decide +kernel), by decide +kernel⟩
theorem qX8_96 : Cond.methodLink RX8 96 yX6_readerAt ∈ lwT := List.mem_filter.mpr ⟨List.mem_of_getElem? (i := 568) (by decide +kernel), by decide +kernel⟩
theorem qL_72 : Cond.methodLink RL 72 yX8_entry ∈ lwT := List.mem_filter.mpr ⟨List.mem_of_getElem? (i := 569) (by decide +kernel), by decide +kernel⟩
theorem qX8_115 : Cond.methodLink RX8 115 yX0_numberAt ∈ lwT := List.mem_filter.mpr ⟨List.mem_of_getElem? (i := 573) (by decide +kernel), by decide +kernel⟩
theorem qX8_118 : Cond.methodLink RX8 118 yX0_keyAt ∈ lwT := List.mem_filter.mpr ⟨List.mem_of_getElem? (i := 574) (by decide +kernel), by decide +kernel⟩
theorem qX8_121 : Cond.methodLink RX8 121 yX0_valueAt ∈ lwT := List.mem_filter.mpr ⟨List.mem_of_getElem? (i := 575) (by decide +kernel), by decide +kernel⟩
theorem qX8_124 : Cond.methodLink RX8 124 yX0_minuteAt ∈ lwT := List.mem_filter.mpr ⟨List.mem_of_getElem? (i := 576) (by decide +kernel), by decide +kernel⟩
theorem qX8_127 : Cond.methodLink RX8 127 yX0_isLastOfItsKey ∈ lwT := List.mem_filter.mpr ⟨List.mem_of_getElem? (i := 577) (by decide +kernel), by decide +kernel⟩
theorem qX8_130 : Cond.methodLink RX8 130 yX8_oneIf ∈ lwT := List.mem_filter.mpr ⟨List.mem_of_getElem? (i := 578) (by decide +kernel), by decide +kernel⟩
theorem qX8_137 : Cond.methodLink RX8 137 yX0_isClosed ∈ lwT := List.mem_filter.mpr ⟨List.mem_of_getElem? (i := 581) (by decide +kernel), by decide +kernel⟩
theorem qL_76 : Cond.methodLink RL 76 yX8_ofReader ∈ lwT := List.mem_filter.mpr ⟨List.mem_of_getElem? (i := 582) (by decide +kernel), by decide +kernel⟩
theorem qX8_147 : Cond.methodLink RX8 147 yX0_aheadOf ∈ lwT := List.mem_filter.mpr ⟨List.mem_of_getElem? (i := 586) (by decide +kernel), by decide +kernel⟩
theorem qX8_153 : Cond.methodLink RX8 153 yX8_isLate ∈ lwT := List.mem_filter.mpr ⟨List.mem_of_getElem? (i := 587) (by decide +kernel), by decide +kernel⟩
theorem qX8_159 : Cond.methodLink RX8 159 yX7_differingFrom ∈ lwT := List.mem_filter.mpr ⟨List.mem_of_getElem? (i := 588) (by decide +kernel), by decide +kernel⟩
theorem qX7_30 : Cond.methodLink RX7 30 yX7_of ∈ lwT := List.mem_filter.mpr ⟨List.mem_of_getElem? (i := 592) (by decide +kernel), by decide +kernel⟩
theorem qL_80 : Cond.methodLink RL 80 yX8_ofSnapshot ∈ lwT := List.mem_filter.mpr ⟨List.mem_of_getElem? (i := 593) (by decide +kernel), by decide +kernel⟩
theorem qX8_166 : Cond.methodLink RX8 166 yX6_snapshotAt ∈ lwT := List.mem_filter.mpr ⟨List.mem_of_getElem? (i := 597) (by decide +kernel), by decide +kernel⟩
theorem qX8_176 : Cond.methodLink RX8 176 yX7_howMany ∈ lwT := List.mem_filter.mpr ⟨List.mem_of_getElem? (i := 598) (by decide +kernel), by decide +kernel⟩
theorem qL_84 : Cond.methodLink RL 84 yX8_count ∈ lwT := List.mem_filter.mpr ⟨List.mem_of_getElem? (i := 602) (by decide +kernel), by decide +kernel⟩
theorem qX8_191 : Cond.methodLink RX8 191 yX6_lateBelow ∈ lwT := List.mem_filter.mpr ⟨List.mem_of_getElem? (i := 606) (by decide +kernel), by decide +kernel⟩
theorem qL_88 : Cond.methodLink RL 88 yX8_leftIn ∈ lwT := List.mem_filter.mpr ⟨List.mem_of_getElem? (i := 610) (by decide +kernel), by decide +kernel⟩
theorem qX8_204 : Cond.methodLink RX8 204 yX8_isNumber ∈ lwT := List.mem_filter.mpr ⟨List.mem_of_getElem? (i := 614) (by decide +kernel), by decide +kernel⟩
theorem qX8_207 : Cond.methodLink RX8 207 yX0_leftAfterThinning ∈ lwT := List.mem_filter.mpr ⟨List.mem_of_getElem? (i := 615) (by decide +kernel), by decide +kernel⟩
theorem qL_92 : Cond.methodLink RL 92 yX8_lateIn ∈ lwT := List.mem_filter.mpr ⟨List.mem_of_getElem? (i := 619) (by decide +kernel), by decide +kernel⟩
theorem qX8_211 : Cond.methodLink RX8 211 yX0_floorAfterThinning ∈ lwT := List.mem_filter.mpr ⟨List.mem_of_getElem? (i := 623) (by decide +kernel), by decide +kernel⟩
theorem qL_96 : Cond.methodLink RL 96 yX8_shortest ∈ lwT := List.mem_filter.mpr ⟨List.mem_of_getElem? (i := 624) (by decide +kernel), by decide +kernel⟩
theorem qX8_214 : Cond.methodLink RX8 214 yX6_shortestWay ∈ lwT := List.mem_filter.mpr ⟨List.mem_of_getElem? (i := 628) (by decide +kernel), by decide +kernel⟩
theorem qX6_155 : Cond.methodLink RX6 155 yX6_entriesOnWay ∈ lwT := List.mem_filter.mpr ⟨List.mem_of_getElem? (i := 632) (by decide +kernel), by decide +kernel⟩
theorem qX6_152 : Cond.methodLink RX6 152 yX6_aheadUnlessLate ∈ lwT := List.mem_filter.mpr ⟨List.mem_of_getElem? (i := 636) (by decide +kernel), by decide +kernel⟩
theorem qX8_218 : Cond.methodLink RX8 218 yX6_entriesOnWay ∈ lwT := List.mem_filter.mpr ⟨List.mem_of_getElem? (i := 640) (by decide +kernel), by decide +kernel⟩
theorem qL_100 : Cond.methodLink RL 100 yX8_gentlest ∈ lwT := List.mem_filter.mpr ⟨List.mem_of_getElem? (i := 641) (by decide +kernel), by decide +kernel⟩
theorem qL_106 : Cond.methodLink RL 106 yX8_put ∈ lwT := List.mem_filter.mpr ⟨List.mem_of_getElem? (i := 645) (by decide +kernel), by decide +kernel⟩
theorem qX8_222 : Cond.methodLink RX8 222 yX2_append ∈ lwT := List.mem_filter.mpr ⟨List.mem_of_getElem? (i := 649) (by decide +kernel), by decide +kernel⟩
theorem qX2_31 : Cond.methodLink RX2 31 yX2_signFromTheEnd ∈ lwT := List.mem_filter.mpr ⟨List.mem_of_getElem? (i := 653) (by decide +kernel), by decide +kernel⟩
theorem qX2_39 : Cond.constantLong RX2 39 (255) ∈ lwT := List.mem_filter.mpr ⟨List.mem_of_getElem? (i := 656) (by decide +kernel), by decide +kernel⟩
theorem qL_111 : Cond.methodLink RL 111 yX8_wipe ∈ lwT := List.mem_filter.mpr ⟨List.mem_of_getElem? (i := 658) (by decide +kernel), by decide +kernel⟩
theorem qX8_226 : Cond.methodLink RX8 226 yX2_empty ∈ lwT := List.mem_filter.mpr ⟨List.mem_of_getElem? (i := 662) (by decide +kernel), by decide +kernel⟩
theorem qL_115 : Cond.methodLink RL 115 yX8_fault ∈ lwT := List.mem_filter.mpr ⟨List.mem_of_getElem? (i := 666) (by decide +kernel), by decide +kernel⟩
theorem qX8_229 : Cond.methodLink RX8 229 yX2_firstFault ∈ lwT := List.mem_filter.mpr ⟨List.mem_of_getElem? (i := 670) (by decide +kernel), by decide +kernel⟩
theorem qX2_41 : Cond.methodLink RX2 41 yX2_goToStart ∈ lwT := List.mem_filter.mpr ⟨List.mem_of_getElem? (i := 674) (by decide +kernel), by decide +kernel⟩
theorem qX2_44 : Cond.methodLink RX2 44 yX2_takeOrder ∈ lwT := List.mem_filter.mpr ⟨List.mem_of_getElem? (i := 678) (by decide +kernel), by decide +kernel⟩
theorem qX2_52 : Cond.methodLink RX2 52 yX2_signHere ∈ lwT := List.mem_filter.mpr ⟨List.mem_of_getElem? (i := 682) (by decide +kernel), by decide +kernel⟩
theorem qX2_48 : Cond.methodLink RX2 48 yX2_takeSign ∈ lwT := List.mem_filter.mpr ⟨List.mem_of_getElem? (i := 687) (by decide +kernel), by decide +kernel⟩
theorem qX2_56 : Cond.methodLink RX2 56 yX2_takeNumber ∈ lwT := List.mem_filter.mpr ⟨List.mem_of_getElem? (i := 691) (by decide +kernel), by decide +kernel⟩
theorem qX2_68 : Cond.methodLink RX2 68 yX2_takeDigit ∈ lwT := List.mem_filter.mpr ⟨List.mem_of_getElem? (i := 695) (by decide +kernel), by decide +kernel⟩
theorem qX2_59 : Cond.methodLink RX2 59 yX2_takeFirst ∈ lwT := List.mem_filter.mpr ⟨List.mem_of_getElem? (i := 699) (by decide +kernel), by decide +kernel⟩
theorem qX2_62 : Cond.methodLink RX2 62 yX2_takeReader ∈ lwT := List.mem_filter.mpr ⟨List.mem_of_getElem? (i := 703) (by decide +kernel), by decide +kernel⟩
theorem qX2_65 : Cond.methodLink RX2 65 yX2_takeSecond ∈ lwT := List.mem_filter.mpr ⟨List.mem_of_getElem? (i := 707) (by decide +kernel), by decide +kernel⟩
theorem qL_119 : Cond.methodLink RL 119 yX8_carryOut ∈ lwT := List.mem_filter.mpr ⟨List.mem_of_getElem? (i := 711) (by decide +kernel), by decide +kernel⟩
theorem qX8_232 : Cond.methodLink RX8 232 yX2_goToStart ∈ lwT := List.mem_filter.mpr ⟨List.mem_of_getElem? (i := 715) (by decide +kernel), by decide +kernel⟩
theorem qX8_235 : Cond.methodLink RX8 235 yX2_takeOrder ∈ lwT := List.mem_filter.mpr ⟨List.mem_of_getElem? (i := 716) (by decide +kernel), by decide +kernel⟩
theorem qX8_239 : Cond.methodLink RX8 239 yX8_carryOutOrder ∈ lwT := List.mem_filter.mpr ⟨List.mem_of_getElem? (i := 717) (by decide +kernel), by decide +kernel⟩
theorem qX8_242 : Cond.methodLink RX8 242 yX2_takeSign ∈ lwT := List.mem_filter.mpr ⟨List.mem_of_getElem? (i := 721) (by decide +kernel), by decide +kernel⟩
theorem qL_123 : Cond.methodLink RL 123 yX8_undo ∈ lwT := List.mem_filter.mpr ⟨List.mem_of_getElem? (i := 722) (by decide +kernel), by decide +kernel⟩
theorem qX8_254 : Cond.methodLink RX8 254 yX1_bringBack ∈ lwT := List.mem_filter.mpr ⟨List.mem_of_getElem? (i := 726) (by decide +kernel), by decide +kernel⟩
theorem qL_127 : Cond.methodLink RL 127 yX8_save ∈ lwT := List.mem_filter.mpr ⟨List.mem_of_getElem? (i := 730) (by decide +kernel), by decide +kernel⟩
theorem qX8_258 : Cond.methodLink RX8 258 yX8_slotAt ∈ lwT := List.mem_filter.mpr ⟨List.mem_of_getElem? (i := 734) (by decide +kernel), by decide +kernel⟩
theorem qX8_265 : Cond.methodLink RX8 265 yX6_copyFrom ∈ lwT := List.mem_filter.mpr ⟨List.mem_of_getElem? (i := 738) (by decide +kernel), by decide +kernel⟩
theorem qL_131 : Cond.methodLink RL 131 yX8_restore ∈ lwT := List.mem_filter.mpr ⟨List.mem_of_getElem? (i := 739) (by decide +kernel), by decide +kernel⟩
theorem qL_10 : Cond.classLink RL 10 RX9 ∈ lwT := List.mem_filter.mpr ⟨List.mem_of_getElem? (i := 743) (by decide +kernel), by decide +kernel⟩
theorem qins_X9 : Cond.instantiable RX9 11 ∈ lwT := List.mem_filter.mpr ⟨List.mem_of_getElem? (i := 744) (by decide +kernel), by decide +kernel⟩
theorem qL_12 : Cond.methodLink RL 12 yX9_init ∈ lwT := List.mem_filter.mpr ⟨List.mem_of_getElem? (i := 745) (by decide +kernel), by decide +kernel⟩
theorem qX9_1 : Cond.methodLink RX9 1 objectInit ∈ lwT := List.mem_filter.mpr ⟨List.mem_of_getElem? (i := 748) (by decide +kernel), by decide +kernel⟩
theorem qX9_7 : Cond.fieldLink RX9 7 "ChangeFeedModel" "now" "[I" ∈ lwT := List.mem_filter.mpr ⟨List.mem_of_getElem? (i := 749) (by decide +kernel), by decide +kernel⟩
theorem qX9_13 : Cond.fieldLink RX9 13 "ChangeFeedModel" "then" "[I" ∈ lwT := List.mem_filter.mpr ⟨List.mem_of_getElem? (i := 750) (by decide +kernel), by decide +kernel⟩
theorem qX9_16 : Cond.fieldLink RX9 16 "ChangeFeedModel" "past" "[I" ∈ lwT := List.mem_filter.mpr ⟨List.mem_of_getElem? (i := 751) (by decide +kernel), by decide +kernel⟩
theorem qX9_36 : Cond.fieldLink RX9 36 "ChangeFeedModel" "kept" "I" ∈ lwT := List.mem_filter.mpr ⟨List.mem_of_getElem? (i := 752) (by decide +kernel), by decide +kernel⟩
theorem qX9_19 : Cond.fieldLink RX9 19 "ChangeFeedModel" "slots" "[I" ∈ lwT := List.mem_filter.mpr ⟨List.mem_of_getElem? (i := 753) (by decide +kernel), by decide +kernel⟩
theorem qX9_22 : Cond.fieldLink RX9 22 "ChangeFeedModel" "held" "[Z" ∈ lwT := List.mem_filter.mpr ⟨List.mem_of_getElem? (i := 754) (by decide +kernel), by decide +kernel⟩
theorem qX9_26 : Cond.fieldLink RX9 26 "ChangeFeedModel" "pad" "[I" ∈ lwT := List.mem_filter.mpr ⟨List.mem_of_getElem? (i := 755) (by decide +kernel), by decide +kernel⟩
theorem qX9_139 : Cond.fieldLink RX9 139 "ChangeFeedModel" "padded" "I" ∈ lwT := List.mem_filter.mpr ⟨List.mem_of_getElem? (i := 756) (by decide +kernel), by decide +kernel⟩
theorem qX9_156 : Cond.fieldLink RX9 156 "ChangeFeedModel" "at" "I" ∈ lwT := List.mem_filter.mpr ⟨List.mem_of_getElem? (i := 757) (by decide +kernel), by decide +kernel⟩
theorem qX9_29 : Cond.fieldLink RX9 29 "ChangeFeedModel" "orders" "[I" ∈ lwT := List.mem_filter.mpr ⟨List.mem_of_getElem? (i := 758) (by decide +kernel), by decide +kernel⟩
theorem qX9_163 : Cond.fieldLink RX9 163 "ChangeFeedModel" "ordered" "I" ∈ lwT := List.mem_filter.mpr ⟨List.mem_of_getElem? (i := 759) (by decide +kernel), by decide +kernel⟩
theorem qac_boolean : Cond.arrayClass .boolean ∈ lwT := List.mem_filter.mpr ⟨List.mem_of_getElem? (i := 783) (by decide +kernel), by decide +kernel⟩
theorem qL_126 : Cond.methodLink RL 126 yX9_undo ∈ lwT := List.mem_filter.mpr ⟨List.mem_of_getElem? (i := 784) (by decide +kernel), by decide +kernel⟩
theorem qX9_40 : Cond.methodLink RX9 40 yX9_lays ∈ lwT := List.mem_filter.mpr ⟨List.mem_of_getElem? (i := 788) (by decide +kernel), by decide +kernel⟩
theorem qL_130 : Cond.methodLink RL 130 yX9_save ∈ lwT := List.mem_filter.mpr ⟨List.mem_of_getElem? (i := 791) (by decide +kernel), by decide +kernel⟩
theorem qX9_32 : Cond.methodLink RX9 32 yX9_in ∈ lwT := List.mem_filter.mpr ⟨List.mem_of_getElem? (i := 795) (by decide +kernel), by decide +kernel⟩
theorem qL_134 : Cond.methodLink RL 134 yX9_restore ∈ lwT := List.mem_filter.mpr ⟨List.mem_of_getElem? (i := 798) (by decide +kernel), by decide +kernel⟩
theorem qX9_44 : Cond.methodLink RX9 44 yX9_records ∈ lwT := List.mem_filter.mpr ⟨List.mem_of_getElem? (i := 802) (by decide +kernel), by decide +kernel⟩
theorem qL_17 : Cond.methodLink RL 17 yX9_turn ∈ lwT := List.mem_filter.mpr ⟨List.mem_of_getElem? (i := 806) (by decide +kernel), by decide +kernel⟩
theorem qL_21 : Cond.methodLink RL 21 yX9_set ∈ lwT := List.mem_filter.mpr ⟨List.mem_of_getElem? (i := 810) (by decide +kernel), by decide +kernel⟩
theorem qX9_76 : Cond.methodLink RX9 76 yX9_maySet ∈ lwT := List.mem_filter.mpr ⟨List.mem_of_getElem? (i := 814) (by decide +kernel), by decide +kernel⟩
theorem qX9_72 : Cond.methodLink RX9 72 yX9_isKey ∈ lwT := List.mem_filter.mpr ⟨List.mem_of_getElem? (i := 818) (by decide +kernel), by decide +kernel⟩
theorem qX9_80 : Cond.methodLink RX9 80 yX9_sets ∈ lwT := List.mem_filter.mpr ⟨List.mem_of_getElem? (i := 821) (by decide +kernel), by decide +kernel⟩
theorem qL_26 : Cond.methodLink RL 26 yX9_remove ∈ lwT := List.mem_filter.mpr ⟨List.mem_of_getElem? (i := 825) (by decide +kernel), by decide +kernel⟩
theorem qX9_83 : Cond.methodLink RX9 83 yX9_mayRemove ∈ lwT := List.mem_filter.mpr ⟨List.mem_of_getElem? (i := 829) (by decide +kernel), by decide +kernel⟩
theorem qL_30 : Cond.methodLink RL 30 yX9_pass ∈ lwT := List.mem_filter.mpr ⟨List.mem_of_getElem? (i := 833) (by decide +kernel), by decide +kernel⟩
theorem qX9_87 : Cond.methodLink RX9 87 yX9_mayPass ∈ lwT := List.mem_filter.mpr ⟨List.mem_of_getElem? (i := 837) (by decide +kernel), by decide +kernel⟩
theorem qX9_86 : Cond.constant RX9 86 (99999) ∈ lwT := List.mem_filter.mpr ⟨List.mem_of_getElem? (i := 841) (by decide +kernel), by decide +kernel⟩
theorem qL_35 : Cond.methodLink RL 35 yX9_thin ∈ lwT := List.mem_filter.mpr ⟨List.mem_of_getElem? (i := 842) (by decide +kernel), by decide +kernel⟩
theorem qX9_90 : Cond.methodLink RX9 90 yX9_thins ∈ lwT := List.mem_filter.mpr ⟨List.mem_of_getElem? (i := 846) (by decide +kernel), by decide +kernel⟩
theorem qX9_51 : Cond.methodLink RX9 51 yX9_isClosed ∈ lwT := List.mem_filter.mpr ⟨List.mem_of_getElem? (i := 849) (by decide +kernel), by decide +kernel⟩
theorem qX9_47 : Cond.methodLink RX9 47 yX9_of ∈ lwT := List.mem_filter.mpr ⟨List.mem_of_getElem? (i := 852) (by decide +kernel), by decide +kernel⟩
theorem qX9_55 : Cond.methodLink RX9 55 yX9_isLast ∈ lwT := List.mem_filter.mpr ⟨List.mem_of_getElem? (i := 855) (by decide +kernel), by decide +kernel⟩
theorem qX9_58 : Cond.methodLink RX9 58 yX9_goes ∈ lwT := List.mem_filter.mpr ⟨List.mem_of_getElem? (i := 858) (by decide +kernel), by decide +kernel⟩
theorem qL_39 : Cond.methodLink RL 39 yX9_snapshot ∈ lwT := List.mem_filter.mpr ⟨List.mem_of_getElem? (i := 861) (by decide +kernel), by decide +kernel⟩
theorem qX9_94 : Cond.methodLink RX9 94 yX9_shoots ∈ lwT := List.mem_filter.mpr ⟨List.mem_of_getElem? (i := 865) (by decide +kernel), by decide +kernel⟩
theorem qL_43 : Cond.methodLink RL 43 yX9_reader ∈ lwT := List.mem_filter.mpr ⟨List.mem_of_getElem? (i := 869) (by decide +kernel), by decide +kernel⟩
theorem qX9_102 : Cond.methodLink RX9 102 yX9_comes ∈ lwT := List.mem_filter.mpr ⟨List.mem_of_getElem? (i := 873) (by decide +kernel), by decide +kernel⟩
theorem qX9_62 : Cond.methodLink RX9 62 yX9_row ∈ lwT := List.mem_filter.mpr ⟨List.mem_of_getElem? (i := 877) (by decide +kernel), by decide +kernel⟩
theorem qX9_98 : Cond.methodLink RX9 98 yX9_begins ∈ lwT := List.mem_filter.mpr ⟨List.mem_of_getElem? (i := 880) (by decide +kernel), by decide +kernel⟩
theorem qL_47 : Cond.methodLink RL 47 yX9_read ∈ lwT := List.mem_filter.mpr ⟨List.mem_of_getElem? (i := 884) (by decide +kernel), by decide +kernel⟩
theorem qX9_108 : Cond.methodLink RX9 108 yX9_mayRead ∈ lwT := List.mem_filter.mpr ⟨List.mem_of_getElem? (i := 888) (by decide +kernel), by decide +kernel⟩
theorem qX9_105 : Cond.methodLink RX9 105 yX9_isReader ∈ lwT := List.mem_filter.mpr ⟨List.mem_of_getElem? (i := 892) (by decide +kernel), by decide +kernel⟩
theorem qX9_69 : Cond.methodLink RX9 69 yX9_isLate ∈ lwT := List.mem_filter.mpr ⟨List.mem_of_getElem? (i := 896) (by decide +kernel), by decide +kernel⟩
theorem qX9_66 : Cond.methodLink RX9 66 yX9_isLatePlace ∈ lwT := List.mem_filter.mpr ⟨List.mem_of_getElem? (i := 899) (by decide +kernel), by decide +kernel⟩
theorem qX9_111 : Cond.methodLink RX9 111 yX9_reads ∈ lwT := List.mem_filter.mpr ⟨List.mem_of_getElem? (i := 902) (by decide +kernel), by decide +kernel⟩
theorem qL_51 : Cond.methodLink RL 51 yX9_confirm ∈ lwT := List.mem_filter.mpr ⟨List.mem_of_getElem? (i := 906) (by decide +kernel), by decide +kernel⟩
theorem qX9_114 : Cond.methodLink RX9 114 yX9_takes ∈ lwT := List.mem_filter.mpr ⟨List.mem_of_getElem? (i := 910) (by decide +kernel), by decide +kernel⟩
theorem qL_55 : Cond.methodLink RL 55 yX9_goBack ∈ lwT := List.mem_filter.mpr ⟨List.mem_of_getElem? (i := 914) (by decide +kernel), by decide +kernel⟩
theorem qL_59 : Cond.methodLink RL 59 yX9_beginAnew ∈ lwT := List.mem_filter.mpr ⟨List.mem_of_getElem? (i := 918) (by decide +kernel), by decide +kernel⟩
theorem qL_63 : Cond.methodLink RL 63 yX9_load ∈ lwT := List.mem_filter.mpr ⟨List.mem_of_getElem? (i := 922) (by decide +kernel), by decide +kernel⟩
theorem qX9_121 : Cond.methodLink RX9 121 yX9_mayLoad ∈ lwT := List.mem_filter.mpr ⟨List.mem_of_getElem? (i := 926) (by decide +kernel), by decide +kernel⟩
theorem qX9_118 : Cond.methodLink RX9 118 yX9_isShot ∈ lwT := List.mem_filter.mpr ⟨List.mem_of_getElem? (i := 930) (by decide +kernel), by decide +kernel⟩
theorem qX9_124 : Cond.methodLink RX9 124 yX9_loads ∈ lwT := List.mem_filter.mpr ⟨List.mem_of_getElem? (i := 934) (by decide +kernel), by decide +kernel⟩
theorem qL_67 : Cond.methodLink RL 67 yX9_table ∈ lwT := List.mem_filter.mpr ⟨List.mem_of_getElem? (i := 938) (by decide +kernel), by decide +kernel⟩
theorem qL_71 : Cond.methodLink RL 71 yX9_view ∈ lwT := List.mem_filter.mpr ⟨List.mem_of_getElem? (i := 942) (by decide +kernel), by decide +kernel⟩
theorem qL_75 : Cond.methodLink RL 75 yX9_entry ∈ lwT := List.mem_filter.mpr ⟨List.mem_of_getElem? (i := 946) (by decide +kernel), by decide +kernel⟩
theorem qL_79 : Cond.methodLink RL 79 yX9_ofReader ∈ lwT := List.mem_filter.mpr ⟨List.mem_of_getElem? (i := 950) (by decide +kernel), by decide +kernel⟩
theorem qX9_127 : Cond.methodLink RX9 127 yX9_ahead ∈ lwT := List.mem_filter.mpr ⟨List.mem_of_getElem? (i := 954) (by decide +kernel), by decide +kernel⟩
theorem qX9_130 : Cond.methodLink RX9 130 yX9_unlike ∈ lwT := List.mem_filter.mpr ⟨List.mem_of_getElem? (i := 958) (by decide +kernel), by decide +kernel⟩
theorem qL_83 : Cond.methodLink RL 83 yX9_ofSnapshot ∈ lwT := List.mem_filter.mpr ⟨List.mem_of_getElem? (i := 962) (by decide +kernel), by decide +kernel⟩
theorem qX9_133 : Cond.methodLink RX9 133 yX9_valued ∈ lwT := List.mem_filter.mpr ⟨List.mem_of_getElem? (i := 966) (by decide +kernel), by decide +kernel⟩
theorem qL_87 : Cond.methodLink RL 87 yX9_count ∈ lwT := List.mem_filter.mpr ⟨List.mem_of_getElem? (i := 970) (by decide +kernel), by decide +kernel⟩
theorem qX9_136 : Cond.methodLink RX9 136 yX9_lateOnes ∈ lwT := List.mem_filter.mpr ⟨List.mem_of_getElem? (i := 974) (by decide +kernel), by decide +kernel⟩
theorem qL_91 : Cond.methodLink RL 91 yX9_leftIn ∈ lwT := List.mem_filter.mpr ⟨List.mem_of_getElem? (i := 977) (by decide +kernel), by decide +kernel⟩
theorem qX9_142 : Cond.methodLink RX9 142 yX9_thinsThen ∈ lwT := List.mem_filter.mpr ⟨List.mem_of_getElem? (i := 981) (by decide +kernel), by decide +kernel⟩
theorem qL_95 : Cond.methodLink RL 95 yX9_lateIn ∈ lwT := List.mem_filter.mpr ⟨List.mem_of_getElem? (i := 985) (by decide +kernel), by decide +kernel⟩
theorem qL_99 : Cond.methodLink RL 99 yX9_shortest ∈ lwT := List.mem_filter.mpr ⟨List.mem_of_getElem? (i := 989) (by decide +kernel), by decide +kernel⟩
theorem qL_103 : Cond.methodLink RL 103 yX9_gentlest ∈ lwT := List.mem_filter.mpr ⟨List.mem_of_getElem? (i := 993) (by decide +kernel), by decide +kernel⟩
theorem qL_110 : Cond.methodLink RL 110 yX9_put ∈ lwT := List.mem_filter.mpr ⟨List.mem_of_getElem? (i := 997) (by decide +kernel), by decide +kernel⟩
theorem qX9_152 : Cond.methodLink RX9 152 yX9_toldBy ∈ lwT := List.mem_filter.mpr ⟨List.mem_of_getElem? (i := 1001) (by decide +kernel), by decide +kernel⟩
theorem qX9_148 : Cond.methodLink RX9 148 yX9_byteOf ∈ lwT := List.mem_filter.mpr ⟨List.mem_of_getElem? (i := 1004) (by decide +kernel), by decide +kernel⟩
theorem qX9_146 : Cond.constantLong RX9 146 (255) ∈ lwT := List.mem_filter.mpr ⟨List.mem_of_getElem? (i := 1007) (by decide +kernel), by decide +kernel⟩
theorem qL_114 : Cond.methodLink RL 114 yX9_wipe ∈ lwT := List.mem_filter.mpr ⟨List.mem_of_getElem? (i := 1008) (by decide +kernel), by decide +kernel⟩
theorem qL_118 : Cond.methodLink RL 118 yX9_fault ∈ lwT := List.mem_filter.mpr ⟨List.mem_of_getElem? (i := 1012) (by decide +kernel), by decide +kernel⟩
theorem qX9_179 : Cond.methodLink RX9 179 yX9_isText ∈ lwT := List.mem_filter.mpr ⟨List.mem_of_getElem? (i := 1016) (by decide +kernel), by decide +kernel⟩
theorem qX9_175 : Cond.methodLink RX9 175 yX9_isOrder ∈ lwT := List.mem_filter.mpr ⟨List.mem_of_getElem? (i := 1020) (by decide +kernel), by decide +kernel⟩
theorem qX9_166 : Cond.methodLink RX9 166 yX9_isNumber ∈ lwT := List.mem_filter.mpr ⟨List.mem_of_getElem? (i := 1024) (by decide +kernel), by decide +kernel⟩
theorem qX9_159 : Cond.methodLink RX9 159 yX9_isAt ∈ lwT := List.mem_filter.mpr ⟨List.mem_of_getElem? (i := 1028) (by decide +kernel), by decide +kernel⟩
theorem qX9_169 : Cond.methodLink RX9 169 yX9_isSign ∈ lwT := List.mem_filter.mpr ⟨List.mem_of_getElem? (i := 1032) (by decide +kernel), by decide +kernel⟩
theorem qX9_172 : Cond.methodLink RX9 172 yX9_isDigit ∈ lwT := List.mem_filter.mpr ⟨List.mem_of_getElem? (i := 1036) (by decide +kernel), by decide +kernel⟩
theorem qL_122 : Cond.methodLink RL 122 yX9_carryOut ∈ lwT := List.mem_filter.mpr ⟨List.mem_of_getElem? (i := 1040) (by decide +kernel), by decide +kernel⟩
theorem qX9_185 : Cond.methodLink RX9 185 yX9_does ∈ lwT := List.mem_filter.mpr ⟨List.mem_of_getElem? (i := 1044) (by decide +kernel), by decide +kernel⟩
theorem qX9_182 : Cond.methodLink RX9 182 yX9_mayDo ∈ lwT := List.mem_filter.mpr ⟨List.mem_of_getElem? (i := 1048) (by decide +kernel), by decide +kernel⟩
theorem qL_104 : Cond.constantLong RL 104 (4294967295) ∈ lwT := List.mem_filter.mpr ⟨List.mem_of_getElem? (i := 1052) (by decide +kernel), by decide +kernel⟩
theorem inX0 : ∀ w ∈ u_ws RX0 TX0 8, w ∈ lwT := fun w hw => List.mem_filter.mpr ⟨(show ∀ w ∈ u_ws RX0 TX0 8, w ∈ lw_tbl by decide +kernel) w hw, (show ∀ w ∈ u_ws RX0 TX0 8, goodWord w = true by decide +kernel) w hw⟩
theorem inX1 : ∀ w ∈ u_ws RX1 TX1 2, w ∈ lwT := fun w hw => List.mem_filter.mpr ⟨(show ∀ w ∈ u_ws RX1 TX1 2, w ∈ lw_tbl by decide +kernel) w hw, (show ∀ w ∈ u_ws RX1 TX1 2, goodWord w = true by decide +kernel) w hw⟩
theorem inX2 : ∀ w ∈ u_ws RX2 TX2 6, w ∈ lwT := fun w hw => List.mem_filter.mpr ⟨(show ∀ w ∈ u_ws RX2 TX2 6, w ∈ lw_tbl by decide +kernel) w hw, (show ∀ w ∈ u_ws RX2 TX2 6, goodWord w = true by decide +kernel) w hw⟩
theorem inX3 : ∀ w ∈ u_ws RX3 TX3 5, w ∈ lwT := fun w hw => List.mem_filter.mpr ⟨(show ∀ w ∈ u_ws RX3 TX3 5, w ∈ lw_tbl by decide +kernel) w hw, (show ∀ w ∈ u_ws RX3 TX3 5, goodWord w = true by decide +kernel) w hw⟩
theorem inX4 : ∀ w ∈ u_ws RX4 TX4 2, w ∈ lwT := fun w hw => List.mem_filter.mpr ⟨(show ∀ w ∈ u_ws RX4 TX4 2, w ∈ lw_tbl by decide +kernel) w hw, (show ∀ w ∈ u_ws RX4 TX4 2, goodWord w = true by decide +kernel) w hw⟩
theorem inX5 : ∀ w ∈ u_ws RX5 TX5 2, w ∈ lwT := fun w hw => List.mem_filter.mpr ⟨(show ∀ w ∈ u_ws RX5 TX5 2, w ∈ lw_tbl by decide +kernel) w hw, (show ∀ w ∈ u_ws RX5 TX5 2, goodWord w = true by decide +kernel) w hw⟩
theorem inX6 : ∀ w ∈ u_ws RX6 TX6 9, w ∈ lwT := fun w hw => List.mem_filter.mpr ⟨(show ∀ w ∈ u_ws RX6 TX6 9, w ∈ lw_tbl by decide +kernel) w hw, (show ∀ w ∈ u_ws RX6 TX6 9, goodWord w = true by decide +kernel) w hw⟩
theorem inX7 : ∀ w ∈ u_ws RX7 TX7 1, w ∈ lwT := fun w hw => List.mem_filter.mpr ⟨(show ∀ w ∈ u_ws RX7 TX7 1, w ∈ lw_tbl by decide +kernel) w hw, (show ∀ w ∈ u_ws RX7 TX7 1, goodWord w = true by decide +kernel) w hw⟩
theorem inX8 : ∀ w ∈ u_ws RX8 TX8 4, w ∈ lwT := fun w hw => List.mem_filter.mpr ⟨(show ∀ w ∈ u_ws RX8 TX8 4, w ∈ lw_tbl by decide +kernel) w hw, (show ∀ w ∈ u_ws RX8 TX8 4, goodWord w = true by decide +kernel) w hw⟩
theorem inX9 : ∀ w ∈ u_ws RX9 TX9 11, w ∈ lwT := fun w hw => List.mem_filter.mpr ⟨(show ∀ w ∈ u_ws RX9 TX9 11, w ∈ lw_tbl by decide +kernel) w hw, (show ∀ w ∈ u_ws RX9 TX9 11, goodWord w = true by decide +kernel) w hw⟩
abbrev nestL : List (String × Nat × MethodName × String) := [(RX7, 18, yX8_layAt, RX8), (RX6, 36, yX0_init, RX8), (RX6, 53, yX3_init, RX8), (RX6, 54, yX5_init, RX8), (RX8, 25, yX2_init, RX8), (RX8, 36, yX4_init, RX8), (RX7, 22, yX8_copyRow, RX8), (RX0, 37, yX8_copyRow, RX8), (RX6, 80, yX8_isNumber, RX8), (RX6, 84, yX8_isKey, RX8), (RX0, 49, yX8_layAt, RX8), (RX7, 26, yX8_at, RX8), (RX0, 41, yX8_at, RX8), (RX6, 129, yX8_isLate, RX8), (RX2, 35, yX8_layAt, RX8), (RX2, 72, yX8_at, RX8)]
theorem nX7_18 : (RX7, 18, yX8_layAt, RX8) ∈ nestL := List.mem_of_getElem? (i := 0) rfl
theorem nX6_36 : (RX6, 36, yX0_init, RX8) ∈ nestL := List.mem_of_getElem? (i := 1) rfl
theorem nX6_53 : (RX6, 53, yX3_init, RX8) ∈ nestL := List.mem_of_getElem? (i := 2) rfl
theorem nX6_54 : (RX6, 54, yX5_init, RX8) ∈ nestL := List.mem_of_getElem? (i := 3) rfl
theorem nX8_25 : (RX8, 25, yX2_init, RX8) ∈ nestL := List.mem_of_getElem? (i := 4) rfl
theorem nX8_36 : (RX8, 36, yX4_init, RX8) ∈ nestL := List.mem_of_getElem? (i := 5) rfl
theorem nX7_22 : (RX7, 22, yX8_copyRow, RX8) ∈ nestL := List.mem_of_getElem? (i := 6) rfl
theorem nX0_37 : (RX0, 37, yX8_copyRow, RX8) ∈ nestL := List.mem_of_getElem? (i := 7) rfl
theorem nX6_80 : (RX6, 80, yX8_isNumber, RX8) ∈ nestL := List.mem_of_getElem? (i := 8) rfl
theorem nX6_84 : (RX6, 84, yX8_isKey, RX8) ∈ nestL := List.mem_of_getElem? (i := 9) rfl
theorem nX0_49 : (RX0, 49, yX8_layAt, RX8) ∈ nestL := List.mem_of_getElem? (i := 10) rfl
theorem nX7_26 : (RX7, 26, yX8_at, RX8) ∈ nestL := List.mem_of_getElem? (i := 11) rfl
theorem nX0_41 : (RX0, 41, yX8_at, RX8) ∈ nestL := List.mem_of_getElem? (i := 12) rfl
theorem nX6_129 : (RX6, 129, yX8_isLate, RX8) ∈ nestL := List.mem_of_getElem? (i := 13) rfl
theorem nX2_35 : (RX2, 35, yX8_layAt, RX8) ∈ nestL := List.mem_of_getElem? (i := 14) rfl
theorem nX2_72 : (RX2, 72, yX8_at, RX8) ∈ nestL := List.mem_of_getElem? (i := 15) rfl
theorem nest_in : ∀ q ∈ nestL, Cond.methodLinkNest q.1 q.2.1 q.2.2.1 q.2.2.2 ∈ lw_tbl := by
  refine List.forall_mem_cons.mpr ⟨?_, List.forall_mem_cons.mpr ⟨?_, List.forall_mem_cons.mpr ⟨?_, List.forall_mem_cons.mpr ⟨?_, List.forall_mem_cons.mpr ⟨?_, List.forall_mem_cons.mpr ⟨?_, List.forall_mem_cons.mpr ⟨?_, List.forall_mem_cons.mpr ⟨?_, List.forall_mem_cons.mpr ⟨?_, List.forall_mem_cons.mpr ⟨?_, List.forall_mem_cons.mpr ⟨?_, List.forall_mem_cons.mpr ⟨?_, List.forall_mem_cons.mpr ⟨?_, List.forall_mem_cons.mpr ⟨?_, List.forall_mem_cons.mpr ⟨?_, List.forall_mem_cons.mpr ⟨?_, fun _ h => absurd h List.not_mem_nil⟩⟩⟩⟩⟩⟩⟩⟩⟩⟩⟩⟩⟩⟩⟩⟩
  · exact List.mem_of_getElem? (i := 77) (by decide +kernel)
  · exact List.mem_of_getElem? (i := 87) (by decide +kernel)
  · exact List.mem_of_getElem? (i := 129) (by decide +kernel)
  · exact List.mem_of_getElem? (i := 159) (by decide +kernel)
  · exact List.mem_of_getElem? (i := 232) (by decide +kernel)
  · exact List.mem_of_getElem? (i := 262) (by decide +kernel)
  · exact List.mem_of_getElem? (i := 310) (by decide +kernel)
  · exact List.mem_of_getElem? (i := 317) (by decide +kernel)
  · exact List.mem_of_getElem? (i := 343) (by decide +kernel)
  · exact List.mem_of_getElem? (i := 362) (by decide +kernel)
  · exact List.mem_of_getElem? (i := 381) (by decide +kernel)
  · exact List.mem_of_getElem? (i := 394) (by decide +kernel)
  · exact List.mem_of_getElem? (i := 422) (by decide +kernel)
  · exact List.mem_of_getElem? (i := 494) (by decide +kernel)
  · exact List.mem_of_getElem? (i := 657) (by decide +kernel)
  · exact List.mem_of_getElem? (i := 686) (by decide +kernel)
/-- a field of class ci, place k, as own links it at idx -/
def FOk (ci k : Nat) (own : String) (idx : Nat) : Prop := ∃ (C : String) (T : u_T) (N : Nat), classes[ci]? = some (C, T, N) ∧ k < N ∧ (∀ w ∈ u_ws C T N, w ∈ lwT) ∧ Cond.fieldLink own idx (T k).1 (T k).2.1 (T k).2.2.1 ∈ lwT
def POk (ci k : Nat) (own : String) (idx : Nat) (fin : Bool) (ty : FieldType) : Prop := ∃ (C : String) (T : u_T) (N : Nat) (ty0 : Nat → FieldType), classes[ci]? = some (C, T, N) ∧ k < N ∧ (∀ w ∈ u_ws C T N, w ∈ lwT) ∧ Cond.fieldLink own idx (T k).1 (T k).2.1 (T k).2.2.1 ∈ lwT ∧ (∀ k, k < N → parseFieldDescriptor (T k).2.2.1 = some (ty0 k)) ∧ (∀ a, a < N → ∀ b, b < N → a ≠ b → (T a).2.1 ≠ (T b).2.1) ∧ (T k).2.2.2 = fin ∧ parseFieldDescriptor (T k).2.2.1 = some ty ∧ (fin = true → (T k).1 = own)
theorem fX7_9 : FOk 7 0 RX7 9 := ⟨_, _, _, rfl, by decide, inX7, qX7_9⟩
theorem pX7_9 : POk 7 0 RX7 9 true (.array .int) := ⟨_, _, _, tyX7, rfl, by decide, inX7, qX7_9, tyX7_ok, nmX7, rfl, by decide +kernel, by decide +kernel⟩
theorem fX0_9 : FOk 0 0 RX0 9 := ⟨_, _, _, rfl, by decide, inX0, qX0_9⟩
theorem pX0_9 : POk 0 0 RX0 9 true (.array .int) := ⟨_, _, _, tyX0, rfl, by decide, inX0, qX0_9, tyX0_ok, nmX0, rfl, by decide +kernel, by decide +kernel⟩
theorem fX0_15 : FOk 0 1 RX0 15 := ⟨_, _, _, rfl, by decide, inX0, qX0_15⟩
theorem pX0_15 : POk 0 1 RX0 15 true (.array .int) := ⟨_, _, _, tyX0, rfl, by decide, inX0, qX0_15, tyX0_ok, nmX0, rfl, by decide +kernel, by decide +kernel⟩
theorem fX0_18 : FOk 0 2 RX0 18 := ⟨_, _, _, rfl, by decide, inX0, qX0_18⟩
theorem pX0_18 : POk 0 2 RX0 18 true (.array .int) := ⟨_, _, _, tyX0, rfl, by decide, inX0, qX0_18, tyX0_ok, nmX0, rfl, by decide +kernel, by decide +kernel⟩
theorem fX0_21 : FOk 0 3 RX0 21 := ⟨_, _, _, rfl, by decide, inX0, qX0_21⟩
theorem pX0_21 : POk 0 3 RX0 21 true (.array .int) := ⟨_, _, _, tyX0, rfl, by decide, inX0, qX0_21, tyX0_ok, nmX0, rfl, by decide +kernel, by decide +kernel⟩
theorem fX0_24 : FOk 0 4 RX0 24 := ⟨_, _, _, rfl, by decide, inX0, qX0_24⟩
theorem pX0_24 : POk 0 4 RX0 24 false .int := ⟨_, _, _, tyX0, rfl, by decide, inX0, qX0_24, tyX0_ok, nmX0, rfl, by decide +kernel, by decide +kernel⟩
theorem fX3_53 : FOk 0 4 RX3 53 := ⟨_, _, _, rfl, by decide, inX0, qX3_53⟩
theorem pX3_53 : POk 0 4 RX3 53 false .int := ⟨_, _, _, tyX0, rfl, by decide, inX0, qX3_53, tyX0_ok, nmX0, rfl, by decide +kernel, by decide +kernel⟩
theorem fX8_109 : FOk 0 4 RX8 109 := ⟨_, _, _, rfl, by decide, inX0, qX8_109⟩
theorem pX8_109 : POk 0 4 RX8 109 false .int := ⟨_, _, _, tyX0, rfl, by decide, inX0, qX8_109, tyX0_ok, nmX0, rfl, by decide +kernel, by decide +kernel⟩
theorem fX6_149 : FOk 0 4 RX6 149 := ⟨_, _, _, rfl, by decide, inX0, qX6_149⟩
theorem pX6_149 : POk 0 4 RX6 149 false .int := ⟨_, _, _, tyX0, rfl, by decide, inX0, qX6_149, tyX0_ok, nmX0, rfl, by decide +kernel, by decide +kernel⟩
theorem fX0_28 : FOk 0 5 RX0 28 := ⟨_, _, _, rfl, by decide, inX0, qX0_28⟩
theorem pX0_28 : POk 0 5 RX0 28 false .int := ⟨_, _, _, tyX0, rfl, by decide, inX0, qX0_28, tyX0_ok, nmX0, rfl, by decide +kernel, by decide +kernel⟩
theorem fX6_113 : FOk 0 5 RX6 113 := ⟨_, _, _, rfl, by decide, inX0, qX6_113⟩
theorem pX6_113 : POk 0 5 RX6 113 false .int := ⟨_, _, _, tyX0, rfl, by decide, inX0, qX6_113, tyX0_ok, nmX0, rfl, by decide +kernel, by decide +kernel⟩
theorem fX8_179 : FOk 0 5 RX8 179 := ⟨_, _, _, rfl, by decide, inX0, qX8_179⟩
theorem pX8_179 : POk 0 5 RX8 179 false .int := ⟨_, _, _, tyX0, rfl, by decide, inX0, qX8_179, tyX0_ok, nmX0, rfl, by decide +kernel, by decide +kernel⟩
theorem fX0_31 : FOk 0 6 RX0 31 := ⟨_, _, _, rfl, by decide, inX0, qX0_31⟩
theorem pX0_31 : POk 0 6 RX0 31 false .int := ⟨_, _, _, tyX0, rfl, by decide, inX0, qX0_31, tyX0_ok, nmX0, rfl, by decide +kernel, by decide +kernel⟩
theorem fX6_107 : FOk 0 6 RX6 107 := ⟨_, _, _, rfl, by decide, inX0, qX6_107⟩
theorem pX6_107 : POk 0 6 RX6 107 false .int := ⟨_, _, _, tyX0, rfl, by decide, inX0, qX6_107, tyX0_ok, nmX0, rfl, by decide +kernel, by decide +kernel⟩
theorem fX8_150 : FOk 0 6 RX8 150 := ⟨_, _, _, rfl, by decide, inX0, qX8_150⟩
theorem pX8_150 : POk 0 6 RX8 150 false .int := ⟨_, _, _, tyX0, rfl, by decide, inX0, qX8_150, tyX0_ok, nmX0, rfl, by decide +kernel, by decide +kernel⟩
theorem fX0_34 : FOk 0 7 RX0 34 := ⟨_, _, _, rfl, by decide, inX0, qX0_34⟩
theorem pX0_34 : POk 0 7 RX0 34 false .int := ⟨_, _, _, tyX0, rfl, by decide, inX0, qX0_34, tyX0_ok, nmX0, rfl, by decide +kernel, by decide +kernel⟩
theorem fX8_185 : FOk 0 7 RX8 185 := ⟨_, _, _, rfl, by decide, inX0, qX8_185⟩
theorem pX8_185 : POk 0 7 RX8 185 false .int := ⟨_, _, _, tyX0, rfl, by decide, inX0, qX8_185, tyX0_ok, nmX0, rfl, by decide +kernel, by decide +kernel⟩
theorem fX3_7 : FOk 3 0 RX3 7 := ⟨_, _, _, rfl, by decide, inX3, qX3_7⟩
theorem pX3_7 : POk 3 0 RX3 7 false .int := ⟨_, _, _, tyX3, rfl, by decide, inX3, qX3_7, tyX3_ok, nmX3, rfl, by decide +kernel, by decide +kernel⟩
theorem fX6_126 : FOk 3 0 RX6 126 := ⟨_, _, _, rfl, by decide, inX3, qX6_126⟩
theorem pX6_126 : POk 3 0 RX6 126 false .int := ⟨_, _, _, tyX3, rfl, by decide, inX3, qX6_126, tyX3_ok, nmX3, rfl, by decide +kernel, by decide +kernel⟩
theorem fX8_141 : FOk 3 0 RX8 141 := ⟨_, _, _, rfl, by decide, inX3, qX8_141⟩
theorem pX8_141 : POk 3 0 RX8 141 false .int := ⟨_, _, _, tyX3, rfl, by decide, inX3, qX8_141, tyX3_ok, nmX3, rfl, by decide +kernel, by decide +kernel⟩
theorem fX3_13 : FOk 3 1 RX3 13 := ⟨_, _, _, rfl, by decide, inX3, qX3_13⟩
theorem pX3_13 : POk 3 1 RX3 13 false .int := ⟨_, _, _, tyX3, rfl, by decide, inX3, qX3_13, tyX3_ok, nmX3, rfl, by decide +kernel, by decide +kernel⟩
theorem fX8_144 : FOk 3 1 RX8 144 := ⟨_, _, _, rfl, by decide, inX3, qX8_144⟩
theorem pX8_144 : POk 3 1 RX8 144 false .int := ⟨_, _, _, tyX3, rfl, by decide, inX3, qX8_144, tyX3_ok, nmX3, rfl, by decide +kernel, by decide +kernel⟩
theorem fX3_16 : FOk 3 2 RX3 16 := ⟨_, _, _, rfl, by decide, inX3, qX3_16⟩
theorem pX3_16 : POk 3 2 RX3 16 false .int := ⟨_, _, _, tyX3, rfl, by decide, inX3, qX3_16, tyX3_ok, nmX3, rfl, by decide +kernel, by decide +kernel⟩
theorem fX6_123 : FOk 3 2 RX6 123 := ⟨_, _, _, rfl, by decide, inX3, qX6_123⟩
theorem pX6_123 : POk 3 2 RX6 123 false .int := ⟨_, _, _, tyX3, rfl, by decide, inX3, qX6_123, tyX3_ok, nmX3, rfl, by decide +kernel, by decide +kernel⟩
theorem fX8_156 : FOk 3 2 RX8 156 := ⟨_, _, _, rfl, by decide, inX3, qX8_156⟩
theorem pX8_156 : POk 3 2 RX8 156 false .int := ⟨_, _, _, tyX3, rfl, by decide, inX3, qX8_156, tyX3_ok, nmX3, rfl, by decide +kernel, by decide +kernel⟩
theorem fX3_22 : FOk 3 3 RX3 22 := ⟨_, _, _, rfl, by decide, inX3, qX3_22⟩
theorem pX3_22 : POk 3 3 RX3 22 true (.object RX7) := ⟨_, _, _, tyX3, rfl, by decide, inX3, qX3_22, tyX3_ok, nmX3, rfl, by decide +kernel, by decide +kernel⟩
theorem fX8_100 : FOk 3 3 RX8 100 := ⟨_, _, _, rfl, by decide, inX3, qX8_100⟩
theorem fX3_26 : FOk 3 4 RX3 26 := ⟨_, _, _, rfl, by decide, inX3, qX3_26⟩
theorem pX3_26 : POk 3 4 RX3 26 true (.object RX7) := ⟨_, _, _, tyX3, rfl, by decide, inX3, qX3_26, tyX3_ok, nmX3, rfl, by decide +kernel, by decide +kernel⟩
theorem fX8_163 : FOk 3 4 RX8 163 := ⟨_, _, _, rfl, by decide, inX3, qX8_163⟩
theorem fX5_7 : FOk 5 0 RX5 7 := ⟨_, _, _, rfl, by decide, inX5, qX5_7⟩
theorem pX5_7 : POk 5 0 RX5 7 false .int := ⟨_, _, _, tyX5, rfl, by decide, inX5, qX5_7, tyX5_ok, nmX5, rfl, by decide +kernel, by decide +kernel⟩
theorem fX3_39 : FOk 5 0 RX3 39 := ⟨_, _, _, rfl, by decide, inX5, qX3_39⟩
theorem pX3_39 : POk 5 0 RX3 39 false .int := ⟨_, _, _, tyX5, rfl, by decide, inX5, qX3_39, tyX5_ok, nmX5, rfl, by decide +kernel, by decide +kernel⟩
theorem fX6_116 : FOk 5 0 RX6 116 := ⟨_, _, _, rfl, by decide, inX5, qX6_116⟩
theorem pX6_116 : POk 5 0 RX6 116 false .int := ⟨_, _, _, tyX5, rfl, by decide, inX5, qX6_116, tyX5_ok, nmX5, rfl, by decide +kernel, by decide +kernel⟩
theorem fX8_170 : FOk 5 0 RX8 170 := ⟨_, _, _, rfl, by decide, inX5, qX8_170⟩
theorem pX8_170 : POk 5 0 RX8 170 false .int := ⟨_, _, _, tyX5, rfl, by decide, inX5, qX8_170, tyX5_ok, nmX5, rfl, by decide +kernel, by decide +kernel⟩
theorem fX5_16 : FOk 5 1 RX5 16 := ⟨_, _, _, rfl, by decide, inX5, qX5_16⟩
theorem pX5_16 : POk 5 1 RX5 16 true (.object RX7) := ⟨_, _, _, tyX5, rfl, by decide, inX5, qX5_16, tyX5_ok, nmX5, rfl, by decide +kernel, by decide +kernel⟩
theorem fX3_44 : FOk 5 1 RX3 44 := ⟨_, _, _, rfl, by decide, inX5, qX3_44⟩
theorem fX6_119 : FOk 5 1 RX6 119 := ⟨_, _, _, rfl, by decide, inX5, qX6_119⟩
theorem fX8_175 : FOk 5 1 RX8 175 := ⟨_, _, _, rfl, by decide, inX5, qX8_175⟩
theorem fX6_9 : FOk 6 0 RX6 9 := ⟨_, _, _, rfl, by decide, inX6, qX6_9⟩
theorem pX6_9 : POk 6 0 RX6 9 false .int := ⟨_, _, _, tyX6, rfl, by decide, inX6, qX6_9, tyX6_ok, nmX6, rfl, by decide +kernel, by decide +kernel⟩
theorem fX8_134 : FOk 6 0 RX8 134 := ⟨_, _, _, rfl, by decide, inX6, qX8_134⟩
theorem pX8_134 : POk 6 0 RX8 134 false .int := ⟨_, _, _, tyX6, rfl, by decide, inX6, qX8_134, tyX6_ok, nmX6, rfl, by decide +kernel, by decide +kernel⟩
theorem fX6_15 : FOk 6 1 RX6 15 := ⟨_, _, _, rfl, by decide, inX6, qX6_15⟩
theorem pX6_15 : POk 6 1 RX6 15 false .int := ⟨_, _, _, tyX6, rfl, by decide, inX6, qX6_15, tyX6_ok, nmX6, rfl, by decide +kernel, by decide +kernel⟩
theorem fX8_197 : FOk 6 1 RX8 197 := ⟨_, _, _, rfl, by decide, inX6, qX8_197⟩
theorem pX8_197 : POk 6 1 RX8 197 false .int := ⟨_, _, _, tyX6, rfl, by decide, inX6, qX8_197, tyX6_ok, nmX6, rfl, by decide +kernel, by decide +kernel⟩
theorem fX6_18 : FOk 6 2 RX6 18 := ⟨_, _, _, rfl, by decide, inX6, qX6_18⟩
theorem pX6_18 : POk 6 2 RX6 18 false .int := ⟨_, _, _, tyX6, rfl, by decide, inX6, qX6_18, tyX6_ok, nmX6, rfl, by decide +kernel, by decide +kernel⟩
theorem fX8_182 : FOk 6 2 RX8 182 := ⟨_, _, _, rfl, by decide, inX6, qX8_182⟩
theorem pX8_182 : POk 6 2 RX8 182 false .int := ⟨_, _, _, tyX6, rfl, by decide, inX6, qX8_182, tyX6_ok, nmX6, rfl, by decide +kernel, by decide +kernel⟩
theorem fX6_21 : FOk 6 3 RX6 21 := ⟨_, _, _, rfl, by decide, inX6, qX6_21⟩
theorem pX6_21 : POk 6 3 RX6 21 false .int := ⟨_, _, _, tyX6, rfl, by decide, inX6, qX6_21, tyX6_ok, nmX6, rfl, by decide +kernel, by decide +kernel⟩
theorem fX8_188 : FOk 6 3 RX8 188 := ⟨_, _, _, rfl, by decide, inX6, qX8_188⟩
theorem pX8_188 : POk 6 3 RX8 188 false .int := ⟨_, _, _, tyX6, rfl, by decide, inX6, qX8_188, tyX6_ok, nmX6, rfl, by decide +kernel, by decide +kernel⟩
theorem fX6_24 : FOk 6 4 RX6 24 := ⟨_, _, _, rfl, by decide, inX6, qX6_24⟩
theorem pX6_24 : POk 6 4 RX6 24 false .int := ⟨_, _, _, tyX6, rfl, by decide, inX6, qX6_24, tyX6_ok, nmX6, rfl, by decide +kernel, by decide +kernel⟩
theorem fX8_194 : FOk 6 4 RX8 194 := ⟨_, _, _, rfl, by decide, inX6, qX8_194⟩
theorem pX8_194 : POk 6 4 RX8 194 false .int := ⟨_, _, _, tyX6, rfl, by decide, inX6, qX8_194, tyX6_ok, nmX6, rfl, by decide +kernel, by decide +kernel⟩
theorem fX6_30 : FOk 6 5 RX6 30 := ⟨_, _, _, rfl, by decide, inX6, qX6_30⟩
theorem pX6_30 : POk 6 5 RX6 30 true (.object RX7) := ⟨_, _, _, tyX6, rfl, by decide, inX6, qX6_30, tyX6_ok, nmX6, rfl, by decide +kernel, by decide +kernel⟩
theorem fX8_87 : FOk 6 5 RX8 87 := ⟨_, _, _, rfl, by decide, inX6, qX8_87⟩
theorem fX6_37 : FOk 6 6 RX6 37 := ⟨_, _, _, rfl, by decide, inX6, qX6_37⟩
theorem pX6_37 : POk 6 6 RX6 37 true (.object RX0) := ⟨_, _, _, tyX6, rfl, by decide, inX6, qX6_37, tyX6_ok, nmX6, rfl, by decide +kernel, by decide +kernel⟩
theorem fX8_105 : FOk 6 6 RX8 105 := ⟨_, _, _, rfl, by decide, inX6, qX8_105⟩
theorem fX6_43 : FOk 6 7 RX6 43 := ⟨_, _, _, rfl, by decide, inX6, qX6_43⟩
theorem pX6_43 : POk 6 7 RX6 43 true (.array (.object RX3)) := ⟨_, _, _, tyX6, rfl, by decide, inX6, qX6_43, tyX6_ok, nmX6, rfl, by decide +kernel, by decide +kernel⟩
theorem fX6_49 : FOk 6 8 RX6 49 := ⟨_, _, _, rfl, by decide, inX6, qX6_49⟩
theorem pX6_49 : POk 6 8 RX6 49 true (.array (.object RX5)) := ⟨_, _, _, tyX6, rfl, by decide, inX6, qX6_49, tyX6_ok, nmX6, rfl, by decide +kernel, by decide +kernel⟩
theorem fX1_11 : FOk 1 0 RX1 11 := ⟨_, _, _, rfl, by decide, inX1, qX1_11⟩
theorem pX1_11 : POk 1 0 RX1 11 true (.array (.object RX6)) := ⟨_, _, _, tyX1, rfl, by decide, inX1, qX1_11, tyX1_ok, nmX1, rfl, by decide +kernel, by decide +kernel⟩
theorem fX1_17 : FOk 1 1 RX1 17 := ⟨_, _, _, rfl, by decide, inX1, qX1_17⟩
theorem pX1_17 : POk 1 1 RX1 17 false .int := ⟨_, _, _, tyX1, rfl, by decide, inX1, qX1_17, tyX1_ok, nmX1, rfl, by decide +kernel, by decide +kernel⟩
theorem fX8_203 : FOk 1 1 RX8 203 := ⟨_, _, _, rfl, by decide, inX1, qX8_203⟩
theorem pX8_203 : POk 1 1 RX8 203 false .int := ⟨_, _, _, tyX1, rfl, by decide, inX1, qX8_203, tyX1_ok, nmX1, rfl, by decide +kernel, by decide +kernel⟩
theorem fX2_9 : FOk 2 0 RX2 9 := ⟨_, _, _, rfl, by decide, inX2, qX2_9⟩
theorem pX2_9 : POk 2 0 RX2 9 true (.array .int) := ⟨_, _, _, tyX2, rfl, by decide, inX2, qX2_9, tyX2_ok, nmX2, rfl, by decide +kernel, by decide +kernel⟩
theorem fX2_15 : FOk 2 1 RX2 15 := ⟨_, _, _, rfl, by decide, inX2, qX2_15⟩
theorem pX2_15 : POk 2 1 RX2 15 false .int := ⟨_, _, _, tyX2, rfl, by decide, inX2, qX2_15, tyX2_ok, nmX2, rfl, by decide +kernel, by decide +kernel⟩
theorem fX8_200 : FOk 2 1 RX8 200 := ⟨_, _, _, rfl, by decide, inX2, qX8_200⟩
theorem pX8_200 : POk 2 1 RX8 200 false .int := ⟨_, _, _, tyX2, rfl, by decide, inX2, qX8_200, tyX2_ok, nmX2, rfl, by decide +kernel, by decide +kernel⟩
theorem fX2_19 : FOk 2 2 RX2 19 := ⟨_, _, _, rfl, by decide, inX2, qX2_19⟩
theorem pX2_19 : POk 2 2 RX2 19 false .int := ⟨_, _, _, tyX2, rfl, by decide, inX2, qX2_19, tyX2_ok, nmX2, rfl, by decide +kernel, by decide +kernel⟩
theorem fX2_22 : FOk 2 3 RX2 22 := ⟨_, _, _, rfl, by decide, inX2, qX2_22⟩
theorem pX2_22 : POk 2 3 RX2 22 false .int := ⟨_, _, _, tyX2, rfl, by decide, inX2, qX2_22, tyX2_ok, nmX2, rfl, by decide +kernel, by decide +kernel⟩
theorem fX8_245 : FOk 2 3 RX8 245 := ⟨_, _, _, rfl, by decide, inX2, qX8_245⟩
theorem pX8_245 : POk 2 3 RX8 245 false .int := ⟨_, _, _, tyX2, rfl, by decide, inX2, qX8_245, tyX2_ok, nmX2, rfl, by decide +kernel, by decide +kernel⟩
theorem fX2_25 : FOk 2 4 RX2 25 := ⟨_, _, _, rfl, by decide, inX2, qX2_25⟩
theorem pX2_25 : POk 2 4 RX2 25 false .int := ⟨_, _, _, tyX2, rfl, by decide, inX2, qX2_25, tyX2_ok, nmX2, rfl, by decide +kernel, by decide +kernel⟩
theorem fX8_248 : FOk 2 4 RX8 248 := ⟨_, _, _, rfl, by decide, inX2, qX8_248⟩
theorem pX8_248 : POk 2 4 RX8 248 false .int := ⟨_, _, _, tyX2, rfl, by decide, inX2, qX8_248, tyX2_ok, nmX2, rfl, by decide +kernel, by decide +kernel⟩
theorem fX2_28 : FOk 2 5 RX2 28 := ⟨_, _, _, rfl, by decide, inX2, qX2_28⟩
theorem pX2_28 : POk 2 5 RX2 28 false .int := ⟨_, _, _, tyX2, rfl, by decide, inX2, qX2_28, tyX2_ok, nmX2, rfl, by decide +kernel, by decide +kernel⟩
theorem fX8_251 : FOk 2 5 RX8 251 := ⟨_, _, _, rfl, by decide, inX2, qX8_251⟩
theorem pX8_251 : POk 2 5 RX8 251 false .int := ⟨_, _, _, tyX2, rfl, by decide, inX2, qX8_251, tyX2_ok, nmX2, rfl, by decide +kernel, by decide +kernel⟩
theorem fX4_7 : FOk 4 0 RX4 7 := ⟨_, _, _, rfl, by decide, inX4, qX4_7⟩
theorem pX4_7 : POk 4 0 RX4 7 false .boolean := ⟨_, _, _, tyX4, rfl, by decide, inX4, qX4_7, tyX4_ok, nmX4, rfl, by decide +kernel, by decide +kernel⟩
theorem fX8_268 : FOk 4 0 RX8 268 := ⟨_, _, _, rfl, by decide, inX4, qX8_268⟩
theorem pX8_268 : POk 4 0 RX8 268 false .boolean := ⟨_, _, _, tyX4, rfl, by decide, inX4, qX8_268, tyX4_ok, nmX4, rfl, by decide +kernel, by decide +kernel⟩
theorem fX4_16 : FOk 4 1 RX4 16 := ⟨_, _, _, rfl, by decide, inX4, qX4_16⟩
theorem pX4_16 : POk 4 1 RX4 16 true (.object RX6) := ⟨_, _, _, tyX4, rfl, by decide, inX4, qX4_16, tyX4_ok, nmX4, rfl, by decide +kernel, by decide +kernel⟩
theorem fX8_262 : FOk 4 1 RX8 262 := ⟨_, _, _, rfl, by decide, inX4, qX8_262⟩
theorem fX8_10 : FOk 8 0 RX8 10 := ⟨_, _, _, rfl, by decide, inX8, qX8_10⟩
theorem pX8_10 : POk 8 0 RX8 10 true (.object RX6) := ⟨_, _, _, tyX8, rfl, by decide, inX8, qX8_10, tyX8_ok, nmX8, rfl, by decide +kernel, by decide +kernel⟩
theorem fX8_19 : FOk 8 1 RX8 19 := ⟨_, _, _, rfl, by decide, inX8, qX8_19⟩
theorem pX8_19 : POk 8 1 RX8 19 true (.object RX1) := ⟨_, _, _, tyX8, rfl, by decide, inX8, qX8_19, tyX8_ok, nmX8, rfl, by decide +kernel, by decide +kernel⟩
theorem fX8_26 : FOk 8 2 RX8 26 := ⟨_, _, _, rfl, by decide, inX8, qX8_26⟩
theorem pX8_26 : POk 8 2 RX8 26 true (.object RX2) := ⟨_, _, _, tyX8, rfl, by decide, inX8, qX8_26, tyX8_ok, nmX8, rfl, by decide +kernel, by decide +kernel⟩
theorem fX8_32 : FOk 8 3 RX8 32 := ⟨_, _, _, rfl, by decide, inX8, qX8_32⟩
theorem pX8_32 : POk 8 3 RX8 32 true (.array (.object RX4)) := ⟨_, _, _, tyX8, rfl, by decide, inX8, qX8_32, tyX8_ok, nmX8, rfl, by decide +kernel, by decide +kernel⟩
theorem fX9_7 : FOk 9 0 RX9 7 := ⟨_, _, _, rfl, by decide, inX9, qX9_7⟩
theorem pX9_7 : POk 9 0 RX9 7 true (.array .int) := ⟨_, _, _, tyX9, rfl, by decide, inX9, qX9_7, tyX9_ok, nmX9, rfl, by decide +kernel, by decide +kernel⟩
theorem fX9_13 : FOk 9 1 RX9 13 := ⟨_, _, _, rfl, by decide, inX9, qX9_13⟩
theorem pX9_13 : POk 9 1 RX9 13 true (.array .int) := ⟨_, _, _, tyX9, rfl, by decide, inX9, qX9_13, tyX9_ok, nmX9, rfl, by decide +kernel, by decide +kernel⟩
theorem fX9_16 : FOk 9 2 RX9 16 := ⟨_, _, _, rfl, by decide, inX9, qX9_16⟩
theorem pX9_16 : POk 9 2 RX9 16 true (.array .int) := ⟨_, _, _, tyX9, rfl, by decide, inX9, qX9_16, tyX9_ok, nmX9, rfl, by decide +kernel, by decide +kernel⟩
theorem fX9_36 : FOk 9 3 RX9 36 := ⟨_, _, _, rfl, by decide, inX9, qX9_36⟩
theorem pX9_36 : POk 9 3 RX9 36 false .int := ⟨_, _, _, tyX9, rfl, by decide, inX9, qX9_36, tyX9_ok, nmX9, rfl, by decide +kernel, by decide +kernel⟩
theorem fX9_19 : FOk 9 4 RX9 19 := ⟨_, _, _, rfl, by decide, inX9, qX9_19⟩
theorem pX9_19 : POk 9 4 RX9 19 true (.array .int) := ⟨_, _, _, tyX9, rfl, by decide, inX9, qX9_19, tyX9_ok, nmX9, rfl, by decide +kernel, by decide +kernel⟩
theorem fX9_22 : FOk 9 5 RX9 22 := ⟨_, _, _, rfl, by decide, inX9, qX9_22⟩
theorem pX9_22 : POk 9 5 RX9 22 true (.array .boolean) := ⟨_, _, _, tyX9, rfl, by decide, inX9, qX9_22, tyX9_ok, nmX9, rfl, by decide +kernel, by decide +kernel⟩
theorem fX9_26 : FOk 9 6 RX9 26 := ⟨_, _, _, rfl, by decide, inX9, qX9_26⟩
theorem pX9_26 : POk 9 6 RX9 26 true (.array .int) := ⟨_, _, _, tyX9, rfl, by decide, inX9, qX9_26, tyX9_ok, nmX9, rfl, by decide +kernel, by decide +kernel⟩
theorem fX9_139 : FOk 9 7 RX9 139 := ⟨_, _, _, rfl, by decide, inX9, qX9_139⟩
theorem pX9_139 : POk 9 7 RX9 139 false .int := ⟨_, _, _, tyX9, rfl, by decide, inX9, qX9_139, tyX9_ok, nmX9, rfl, by decide +kernel, by decide +kernel⟩
theorem fX9_156 : FOk 9 8 RX9 156 := ⟨_, _, _, rfl, by decide, inX9, qX9_156⟩
theorem pX9_156 : POk 9 8 RX9 156 false .int := ⟨_, _, _, tyX9, rfl, by decide, inX9, qX9_156, tyX9_ok, nmX9, rfl, by decide +kernel, by decide +kernel⟩
theorem fX9_29 : FOk 9 9 RX9 29 := ⟨_, _, _, rfl, by decide, inX9, qX9_29⟩
theorem pX9_29 : POk 9 9 RX9 29 true (.array .int) := ⟨_, _, _, tyX9, rfl, by decide, inX9, qX9_29, tyX9_ok, nmX9, rfl, by decide +kernel, by decide +kernel⟩
theorem fX9_163 : FOk 9 10 RX9 163 := ⟨_, _, _, rfl, by decide, inX9, qX9_163⟩
theorem pX9_163 : POk 9 10 RX9 163 false .int := ⟨_, _, _, tyX9, rfl, by decide, inX9, qX9_163, tyX9_ok, nmX9, rfl, by decide +kernel, by decide +kernel⟩
/-- what is asked of a callee, by kind -/
abbrev BOk (k : MethodName × ByteArray × Nat × Option FieldType) (n : Nat) : Prop := Cond.code k.1 k.2.1 k.2.2.1 k.2.2.2 ∈ lwT ∧ Cond.initialized k.1.cls ∈ lwT ∧ (k.1.cls ≠ "java/lang/invoke/MethodHandle" ∧ k.1.cls ≠ "java/lang/invoke/VarHandle" ∧ (parseMethodDescriptor k.1.desc).map (fun d => d.parameters.length) = some n) ∧ plainName k.1.cls = true
def VOk (k : MethodName × ByteArray × Nat × Option FieldType) (n : Nat) : Prop := BOk k n ∧ Cond.instanceMethod k.1 ∈ lwT ∧ Cond.selects k.1.cls k.1 k.1 ∈ lwT
def SOk (k : MethodName × ByteArray × Nat × Option FieldType) (n : Nat) : Prop := BOk k n ∧ Cond.static k.1 ∈ lwT
def IOk (k : MethodName × ByteArray × Nat × Option FieldType) (n : Nat) : Prop := BOk k n ∧ k.1.name = "<init>" ∧ Cond.instanceMethod k.1 ∈ lwT
theorem oX0_init : IOk kX0_init 0 := ⟨⟨List.mem_filter.mpr ⟨List.mem_of_getElem? (i := 89) (by decide +kernel), by decide +kernel⟩, qini_X0, ⟨by decide +kernel, by decide +kernel, by decide +kernel⟩, by decide +kernel⟩, by decide +kernel, List.mem_filter.mpr ⟨List.mem_of_getElem? (i := 88) (by decide +kernel), by decide +kernel⟩⟩
theorem oX0_copyFrom : VOk kX0_copyFrom 1 := ⟨⟨List.mem_filter.mpr ⟨List.mem_of_getElem? (i := 316) (by decide +kernel), by decide +kernel⟩, qini_X0, ⟨by decide +kernel, by decide +kernel, by decide +kernel⟩, by decide +kernel⟩, List.mem_filter.mpr ⟨List.mem_of_getElem? (i := 314) (by decide +kernel), by decide +kernel⟩, List.mem_filter.mpr ⟨List.mem_of_getElem? (i := 315) (by decide +kernel), by decide +kernel⟩⟩
theorem oX0_numberAt : VOk kX0_numberAt 1 := ⟨⟨List.mem_filter.mpr ⟨List.mem_of_getElem? (i := 441) (by decide +kernel), by decide +kernel⟩, qini_X0, ⟨by decide +kernel, by decide +kernel, by decide +kernel⟩, by decide +kernel⟩, List.mem_filter.mpr ⟨List.mem_of_getElem? (i := 439) (by decide +kernel), by decide +kernel⟩, List.mem_filter.mpr ⟨List.mem_of_getElem? (i := 440) (by decide +kernel), by decide +kernel⟩⟩
theorem oX0_keyAt : VOk kX0_keyAt 1 := ⟨⟨List.mem_filter.mpr ⟨List.mem_of_getElem? (i := 452) (by decide +kernel), by decide +kernel⟩, qini_X0, ⟨by decide +kernel, by decide +kernel, by decide +kernel⟩, by decide +kernel⟩, List.mem_filter.mpr ⟨List.mem_of_getElem? (i := 450) (by decide +kernel), by decide +kernel⟩, List.mem_filter.mpr ⟨List.mem_of_getElem? (i := 451) (by decide +kernel), by decide +kernel⟩⟩
theorem oX0_valueAt : VOk kX0_valueAt 1 := ⟨⟨List.mem_filter.mpr ⟨List.mem_of_getElem? (i := 456) (by decide +kernel), by decide +kernel⟩, qini_X0, ⟨by decide +kernel, by decide +kernel, by decide +kernel⟩, by decide +kernel⟩, List.mem_filter.mpr ⟨List.mem_of_getElem? (i := 454) (by decide +kernel), by decide +kernel⟩, List.mem_filter.mpr ⟨List.mem_of_getElem? (i := 455) (by decide +kernel), by decide +kernel⟩⟩
theorem oX0_minuteAt : VOk kX0_minuteAt 1 := ⟨⟨List.mem_filter.mpr ⟨List.mem_of_getElem? (i := 460) (by decide +kernel), by decide +kernel⟩, qini_X0, ⟨by decide +kernel, by decide +kernel, by decide +kernel⟩, by decide +kernel⟩, List.mem_filter.mpr ⟨List.mem_of_getElem? (i := 458) (by decide +kernel), by decide +kernel⟩, List.mem_filter.mpr ⟨List.mem_of_getElem? (i := 459) (by decide +kernel), by decide +kernel⟩⟩
theorem oX0_isFull : VOk kX0_isFull 0 := ⟨⟨List.mem_filter.mpr ⟨List.mem_of_getElem? (i := 368) (by decide +kernel), by decide +kernel⟩, qini_X0, ⟨by decide +kernel, by decide +kernel, by decide +kernel⟩, by decide +kernel⟩, List.mem_filter.mpr ⟨List.mem_of_getElem? (i := 366) (by decide +kernel), by decide +kernel⟩, List.mem_filter.mpr ⟨List.mem_of_getElem? (i := 367) (by decide +kernel), by decide +kernel⟩⟩
theorem oX0_append : VOk kX0_append 3 := ⟨⟨List.mem_filter.mpr ⟨List.mem_of_getElem? (i := 376) (by decide +kernel), by decide +kernel⟩, qini_X0, ⟨by decide +kernel, by decide +kernel, by decide +kernel⟩, by decide +kernel⟩, List.mem_filter.mpr ⟨List.mem_of_getElem? (i := 374) (by decide +kernel), by decide +kernel⟩, List.mem_filter.mpr ⟨List.mem_of_getElem? (i := 375) (by decide +kernel), by decide +kernel⟩⟩
theorem oX0_layEntry : VOk kX0_layEntry 5 := ⟨⟨List.mem_filter.mpr ⟨List.mem_of_getElem? (i := 380) (by decide +kernel), by decide +kernel⟩, qini_X0, ⟨by decide +kernel, by decide +kernel, by decide +kernel⟩, by decide +kernel⟩, List.mem_filter.mpr ⟨List.mem_of_getElem? (i := 379) (by decide +kernel), by decide +kernel⟩, List.mem_filter.mpr ⟨List.mem_of_getElem? (i := 2) (by decide +kernel), by decide +kernel⟩⟩
theorem oX0_firstFrom : VOk kX0_firstFrom 1 := ⟨⟨List.mem_filter.mpr ⟨List.mem_of_getElem? (i := 504) (by decide +kernel), by decide +kernel⟩, qini_X0, ⟨by decide +kernel, by decide +kernel, by decide +kernel⟩, by decide +kernel⟩, List.mem_filter.mpr ⟨List.mem_of_getElem? (i := 502) (by decide +kernel), by decide +kernel⟩, List.mem_filter.mpr ⟨List.mem_of_getElem? (i := 503) (by decide +kernel), by decide +kernel⟩⟩
theorem oX0_aheadOf : VOk kX0_aheadOf 1 := ⟨⟨List.mem_filter.mpr ⟨List.mem_of_getElem? (i := 544) (by decide +kernel), by decide +kernel⟩, qini_X0, ⟨by decide +kernel, by decide +kernel, by decide +kernel⟩, by decide +kernel⟩, List.mem_filter.mpr ⟨List.mem_of_getElem? (i := 542) (by decide +kernel), by decide +kernel⟩, List.mem_filter.mpr ⟨List.mem_of_getElem? (i := 543) (by decide +kernel), by decide +kernel⟩⟩
theorem oX0_isLastOfItsKey : VOk kX0_isLastOfItsKey 1 := ⟨⟨List.mem_filter.mpr ⟨List.mem_of_getElem? (i := 421) (by decide +kernel), by decide +kernel⟩, qini_X0, ⟨by decide +kernel, by decide +kernel, by decide +kernel⟩, by decide +kernel⟩, List.mem_filter.mpr ⟨List.mem_of_getElem? (i := 419) (by decide +kernel), by decide +kernel⟩, List.mem_filter.mpr ⟨List.mem_of_getElem? (i := 420) (by decide +kernel), by decide +kernel⟩⟩
theorem oX0_isClosed : VOk kX0_isClosed 2 := ⟨⟨List.mem_filter.mpr ⟨List.mem_of_getElem? (i := 430) (by decide +kernel), by decide +kernel⟩, qini_X0, ⟨by decide +kernel, by decide +kernel, by decide +kernel⟩, by decide +kernel⟩, List.mem_filter.mpr ⟨List.mem_of_getElem? (i := 428) (by decide +kernel), by decide +kernel⟩, List.mem_filter.mpr ⟨List.mem_of_getElem? (i := 429) (by decide +kernel), by decide +kernel⟩⟩
theorem oX0_segmentOf : SOk kX0_segmentOf 2 := ⟨⟨List.mem_filter.mpr ⟨List.mem_of_getElem? (i := 433) (by decide +kernel), by decide +kernel⟩, qini_X0, ⟨by decide +kernel, by decide +kernel, by decide +kernel⟩, by decide +kernel⟩, List.mem_filter.mpr ⟨List.mem_of_getElem? (i := 432) (by decide +kernel), by decide +kernel⟩⟩
theorem oX0_isOldRemoval : VOk kX0_isOldRemoval 3 := ⟨⟨List.mem_filter.mpr ⟨List.mem_of_getElem? (i := 437) (by decide +kernel), by decide +kernel⟩, qini_X0, ⟨by decide +kernel, by decide +kernel, by decide +kernel⟩, by decide +kernel⟩, List.mem_filter.mpr ⟨List.mem_of_getElem? (i := 436) (by decide +kernel), by decide +kernel⟩, List.mem_filter.mpr ⟨List.mem_of_getElem? (i := 4) (by decide +kernel), by decide +kernel⟩⟩
theorem oX0_wouldGo : VOk kX0_wouldGo 4 := ⟨⟨List.mem_filter.mpr ⟨List.mem_of_getElem? (i := 426) (by decide +kernel), by decide +kernel⟩, qini_X0, ⟨by decide +kernel, by decide +kernel, by decide +kernel⟩, by decide +kernel⟩, List.mem_filter.mpr ⟨List.mem_of_getElem? (i := 425) (by decide +kernel), by decide +kernel⟩, List.mem_filter.mpr ⟨List.mem_of_getElem? (i := 3) (by decide +kernel), by decide +kernel⟩⟩
theorem oX0_leftAfterThinning : VOk kX0_leftAfterThinning 3 := ⟨⟨List.mem_filter.mpr ⟨List.mem_of_getElem? (i := 618) (by decide +kernel), by decide +kernel⟩, qini_X0, ⟨by decide +kernel, by decide +kernel, by decide +kernel⟩, by decide +kernel⟩, List.mem_filter.mpr ⟨List.mem_of_getElem? (i := 616) (by decide +kernel), by decide +kernel⟩, List.mem_filter.mpr ⟨List.mem_of_getElem? (i := 617) (by decide +kernel), by decide +kernel⟩⟩
theorem oX0_floorAfterThinning : VOk kX0_floorAfterThinning 3 := ⟨⟨List.mem_filter.mpr ⟨List.mem_of_getElem? (i := 417) (by decide +kernel), by decide +kernel⟩, qini_X0, ⟨by decide +kernel, by decide +kernel, by decide +kernel⟩, by decide +kernel⟩, List.mem_filter.mpr ⟨List.mem_of_getElem? (i := 415) (by decide +kernel), by decide +kernel⟩, List.mem_filter.mpr ⟨List.mem_of_getElem? (i := 416) (by decide +kernel), by decide +kernel⟩⟩
theorem oX0_thinOut : VOk kX0_thinOut 3 := ⟨⟨List.mem_filter.mpr ⟨List.mem_of_getElem? (i := 448) (by decide +kernel), by decide +kernel⟩, qini_X0, ⟨by decide +kernel, by decide +kernel, by decide +kernel⟩, by decide +kernel⟩, List.mem_filter.mpr ⟨List.mem_of_getElem? (i := 446) (by decide +kernel), by decide +kernel⟩, List.mem_filter.mpr ⟨List.mem_of_getElem? (i := 447) (by decide +kernel), by decide +kernel⟩⟩
theorem oX1_init : IOk kX1_init 0 := ⟨⟨List.mem_filter.mpr ⟨List.mem_of_getElem? (i := 217) (by decide +kernel), by decide +kernel⟩, qini_X1, ⟨by decide +kernel, by decide +kernel, by decide +kernel⟩, by decide +kernel⟩, by decide +kernel, List.mem_filter.mpr ⟨List.mem_of_getElem? (i := 216) (by decide +kernel), by decide +kernel⟩⟩
theorem oX1_stateAt : VOk kX1_stateAt 1 := ⟨⟨List.mem_filter.mpr ⟨List.mem_of_getElem? (i := 301) (by decide +kernel), by decide +kernel⟩, qini_X1, ⟨by decide +kernel, by decide +kernel, by decide +kernel⟩, by decide +kernel⟩, List.mem_filter.mpr ⟨List.mem_of_getElem? (i := 300) (by decide +kernel), by decide +kernel⟩, List.mem_filter.mpr ⟨List.mem_of_getElem? (i := 0) (by decide +kernel), by decide +kernel⟩⟩
theorem oX1_prepare : VOk kX1_prepare 1 := ⟨⟨List.mem_filter.mpr ⟨List.mem_of_getElem? (i := 297) (by decide +kernel), by decide +kernel⟩, qini_X1, ⟨by decide +kernel, by decide +kernel, by decide +kernel⟩, by decide +kernel⟩, List.mem_filter.mpr ⟨List.mem_of_getElem? (i := 295) (by decide +kernel), by decide +kernel⟩, List.mem_filter.mpr ⟨List.mem_of_getElem? (i := 296) (by decide +kernel), by decide +kernel⟩⟩
theorem oX1_settle : VOk kX1_settle 1 := ⟨⟨List.mem_filter.mpr ⟨List.mem_of_getElem? (i := 349) (by decide +kernel), by decide +kernel⟩, qini_X1, ⟨by decide +kernel, by decide +kernel, by decide +kernel⟩, by decide +kernel⟩, List.mem_filter.mpr ⟨List.mem_of_getElem? (i := 347) (by decide +kernel), by decide +kernel⟩, List.mem_filter.mpr ⟨List.mem_of_getElem? (i := 348) (by decide +kernel), by decide +kernel⟩⟩
theorem oX1_dropOldest : VOk kX1_dropOldest 0 := ⟨⟨List.mem_filter.mpr ⟨List.mem_of_getElem? (i := 353) (by decide +kernel), by decide +kernel⟩, qini_X1, ⟨by decide +kernel, by decide +kernel, by decide +kernel⟩, by decide +kernel⟩, List.mem_filter.mpr ⟨List.mem_of_getElem? (i := 352) (by decide +kernel), by decide +kernel⟩, List.mem_filter.mpr ⟨List.mem_of_getElem? (i := 1) (by decide +kernel), by decide +kernel⟩⟩
theorem oX1_bringBack : VOk kX1_bringBack 1 := ⟨⟨List.mem_filter.mpr ⟨List.mem_of_getElem? (i := 729) (by decide +kernel), by decide +kernel⟩, qini_X1, ⟨by decide +kernel, by decide +kernel, by decide +kernel⟩, by decide +kernel⟩, List.mem_filter.mpr ⟨List.mem_of_getElem? (i := 727) (by decide +kernel), by decide +kernel⟩, List.mem_filter.mpr ⟨List.mem_of_getElem? (i := 728) (by decide +kernel), by decide +kernel⟩⟩
theorem oX2_init : IOk kX2_init 0 := ⟨⟨List.mem_filter.mpr ⟨List.mem_of_getElem? (i := 234) (by decide +kernel), by decide +kernel⟩, qini_X2, ⟨by decide +kernel, by decide +kernel, by decide +kernel⟩, by decide +kernel⟩, by decide +kernel, List.mem_filter.mpr ⟨List.mem_of_getElem? (i := 233) (by decide +kernel), by decide +kernel⟩⟩
theorem oX2_append : VOk kX2_append 1 := ⟨⟨List.mem_filter.mpr ⟨List.mem_of_getElem? (i := 652) (by decide +kernel), by decide +kernel⟩, qini_X2, ⟨by decide +kernel, by decide +kernel, by decide +kernel⟩, by decide +kernel⟩, List.mem_filter.mpr ⟨List.mem_of_getElem? (i := 650) (by decide +kernel), by decide +kernel⟩, List.mem_filter.mpr ⟨List.mem_of_getElem? (i := 651) (by decide +kernel), by decide +kernel⟩⟩
theorem oX2_signFromTheEnd : SOk kX2_signFromTheEnd 2 := ⟨⟨List.mem_filter.mpr ⟨List.mem_of_getElem? (i := 655) (by decide +kernel), by decide +kernel⟩, qini_X2, ⟨by decide +kernel, by decide +kernel, by decide +kernel⟩, by decide +kernel⟩, List.mem_filter.mpr ⟨List.mem_of_getElem? (i := 654) (by decide +kernel), by decide +kernel⟩⟩
theorem oX2_empty : VOk kX2_empty 0 := ⟨⟨List.mem_filter.mpr ⟨List.mem_of_getElem? (i := 665) (by decide +kernel), by decide +kernel⟩, qini_X2, ⟨by decide +kernel, by decide +kernel, by decide +kernel⟩, by decide +kernel⟩, List.mem_filter.mpr ⟨List.mem_of_getElem? (i := 663) (by decide +kernel), by decide +kernel⟩, List.mem_filter.mpr ⟨List.mem_of_getElem? (i := 664) (by decide +kernel), by decide +kernel⟩⟩
theorem oX2_goToStart : VOk kX2_goToStart 0 := ⟨⟨List.mem_filter.mpr ⟨List.mem_of_getElem? (i := 677) (by decide +kernel), by decide +kernel⟩, qini_X2, ⟨by decide +kernel, by decide +kernel, by decide +kernel⟩, by decide +kernel⟩, List.mem_filter.mpr ⟨List.mem_of_getElem? (i := 675) (by decide +kernel), by decide +kernel⟩, List.mem_filter.mpr ⟨List.mem_of_getElem? (i := 676) (by decide +kernel), by decide +kernel⟩⟩
theorem oX2_firstFault : VOk kX2_firstFault 0 := ⟨⟨List.mem_filter.mpr ⟨List.mem_of_getElem? (i := 673) (by decide +kernel), by decide +kernel⟩, qini_X2, ⟨by decide +kernel, by decide +kernel, by decide +kernel⟩, by decide +kernel⟩, List.mem_filter.mpr ⟨List.mem_of_getElem? (i := 671) (by decide +kernel), by decide +kernel⟩, List.mem_filter.mpr ⟨List.mem_of_getElem? (i := 672) (by decide +kernel), by decide +kernel⟩⟩
theorem oX2_takeOrder : VOk kX2_takeOrder 0 := ⟨⟨List.mem_filter.mpr ⟨List.mem_of_getElem? (i := 681) (by decide +kernel), by decide +kernel⟩, qini_X2, ⟨by decide +kernel, by decide +kernel, by decide +kernel⟩, by decide +kernel⟩, List.mem_filter.mpr ⟨List.mem_of_getElem? (i := 679) (by decide +kernel), by decide +kernel⟩, List.mem_filter.mpr ⟨List.mem_of_getElem? (i := 680) (by decide +kernel), by decide +kernel⟩⟩
theorem oX2_takeFirst : VOk kX2_takeFirst 1 := ⟨⟨List.mem_filter.mpr ⟨List.mem_of_getElem? (i := 702) (by decide +kernel), by decide +kernel⟩, qini_X2, ⟨by decide +kernel, by decide +kernel, by decide +kernel⟩, by decide +kernel⟩, List.mem_filter.mpr ⟨List.mem_of_getElem? (i := 701) (by decide +kernel), by decide +kernel⟩, List.mem_filter.mpr ⟨List.mem_of_getElem? (i := 9) (by decide +kernel), by decide +kernel⟩⟩
theorem oX2_takeSecond : VOk kX2_takeSecond 1 := ⟨⟨List.mem_filter.mpr ⟨List.mem_of_getElem? (i := 710) (by decide +kernel), by decide +kernel⟩, qini_X2, ⟨by decide +kernel, by decide +kernel, by decide +kernel⟩, by decide +kernel⟩, List.mem_filter.mpr ⟨List.mem_of_getElem? (i := 709) (by decide +kernel), by decide +kernel⟩, List.mem_filter.mpr ⟨List.mem_of_getElem? (i := 11) (by decide +kernel), by decide +kernel⟩⟩
theorem oX2_signHere : VOk kX2_signHere 0 := ⟨⟨List.mem_filter.mpr ⟨List.mem_of_getElem? (i := 685) (by decide +kernel), by decide +kernel⟩, qini_X2, ⟨by decide +kernel, by decide +kernel, by decide +kernel⟩, by decide +kernel⟩, List.mem_filter.mpr ⟨List.mem_of_getElem? (i := 684) (by decide +kernel), by decide +kernel⟩, List.mem_filter.mpr ⟨List.mem_of_getElem? (i := 6) (by decide +kernel), by decide +kernel⟩⟩
theorem oX2_takeSign : VOk kX2_takeSign 1 := ⟨⟨List.mem_filter.mpr ⟨List.mem_of_getElem? (i := 690) (by decide +kernel), by decide +kernel⟩, qini_X2, ⟨by decide +kernel, by decide +kernel, by decide +kernel⟩, by decide +kernel⟩, List.mem_filter.mpr ⟨List.mem_of_getElem? (i := 688) (by decide +kernel), by decide +kernel⟩, List.mem_filter.mpr ⟨List.mem_of_getElem? (i := 689) (by decide +kernel), by decide +kernel⟩⟩
theorem oX2_takeReader : VOk kX2_takeReader 0 := ⟨⟨List.mem_filter.mpr ⟨List.mem_of_getElem? (i := 706) (by decide +kernel), by decide +kernel⟩, qini_X2, ⟨by decide +kernel, by decide +kernel, by decide +kernel⟩, by decide +kernel⟩, List.mem_filter.mpr ⟨List.mem_of_getElem? (i := 705) (by decide +kernel), by decide +kernel⟩, List.mem_filter.mpr ⟨List.mem_of_getElem? (i := 10) (by decide +kernel), by decide +kernel⟩⟩
theorem oX2_takeDigit : VOk kX2_takeDigit 1 := ⟨⟨List.mem_filter.mpr ⟨List.mem_of_getElem? (i := 698) (by decide +kernel), by decide +kernel⟩, qini_X2, ⟨by decide +kernel, by decide +kernel, by decide +kernel⟩, by decide +kernel⟩, List.mem_filter.mpr ⟨List.mem_of_getElem? (i := 697) (by decide +kernel), by decide +kernel⟩, List.mem_filter.mpr ⟨List.mem_of_getElem? (i := 8) (by decide +kernel), by decide +kernel⟩⟩
theorem oX2_takeNumber : VOk kX2_takeNumber 0 := ⟨⟨List.mem_filter.mpr ⟨List.mem_of_getElem? (i := 694) (by decide +kernel), by decide +kernel⟩, qini_X2, ⟨by decide +kernel, by decide +kernel, by decide +kernel⟩, by decide +kernel⟩, List.mem_filter.mpr ⟨List.mem_of_getElem? (i := 693) (by decide +kernel), by decide +kernel⟩, List.mem_filter.mpr ⟨List.mem_of_getElem? (i := 7) (by decide +kernel), by decide +kernel⟩⟩
theorem oX3_init : IOk kX3_init 0 := ⟨⟨List.mem_filter.mpr ⟨List.mem_of_getElem? (i := 131) (by decide +kernel), by decide +kernel⟩, qini_X3, ⟨by decide +kernel, by decide +kernel, by decide +kernel⟩, by decide +kernel⟩, by decide +kernel, List.mem_filter.mpr ⟨List.mem_of_getElem? (i := 130) (by decide +kernel), by decide +kernel⟩⟩
theorem oX3_copyFrom : VOk kX3_copyFrom 1 := ⟨⟨List.mem_filter.mpr ⟨List.mem_of_getElem? (i := 325) (by decide +kernel), by decide +kernel⟩, qini_X3, ⟨by decide +kernel, by decide +kernel, by decide +kernel⟩, by decide +kernel⟩, List.mem_filter.mpr ⟨List.mem_of_getElem? (i := 323) (by decide +kernel), by decide +kernel⟩, List.mem_filter.mpr ⟨List.mem_of_getElem? (i := 324) (by decide +kernel), by decide +kernel⟩⟩
theorem oX3_startOver : VOk kX3_startOver 0 := ⟨⟨List.mem_filter.mpr ⟨List.mem_of_getElem? (i := 480) (by decide +kernel), by decide +kernel⟩, qini_X3, ⟨by decide +kernel, by decide +kernel, by decide +kernel⟩, by decide +kernel⟩, List.mem_filter.mpr ⟨List.mem_of_getElem? (i := 478) (by decide +kernel), by decide +kernel⟩, List.mem_filter.mpr ⟨List.mem_of_getElem? (i := 479) (by decide +kernel), by decide +kernel⟩⟩
theorem oX3_keepPlace : VOk kX3_keepPlace 0 := ⟨⟨List.mem_filter.mpr ⟨List.mem_of_getElem? (i := 485) (by decide +kernel), by decide +kernel⟩, qini_X3, ⟨by decide +kernel, by decide +kernel, by decide +kernel⟩, by decide +kernel⟩, List.mem_filter.mpr ⟨List.mem_of_getElem? (i := 483) (by decide +kernel), by decide +kernel⟩, List.mem_filter.mpr ⟨List.mem_of_getElem? (i := 484) (by decide +kernel), by decide +kernel⟩⟩
theorem oX3_returnToConfirmed : VOk kX3_returnToConfirmed 0 := ⟨⟨List.mem_filter.mpr ⟨List.mem_of_getElem? (i := 532) (by decide +kernel), by decide +kernel⟩, qini_X3, ⟨by decide +kernel, by decide +kernel, by decide +kernel⟩, by decide +kernel⟩, List.mem_filter.mpr ⟨List.mem_of_getElem? (i := 530) (by decide +kernel), by decide +kernel⟩, List.mem_filter.mpr ⟨List.mem_of_getElem? (i := 531) (by decide +kernel), by decide +kernel⟩⟩
theorem oX3_takeOver : VOk kX3_takeOver 1 := ⟨⟨List.mem_filter.mpr ⟨List.mem_of_getElem? (i := 557) (by decide +kernel), by decide +kernel⟩, qini_X3, ⟨by decide +kernel, by decide +kernel, by decide +kernel⟩, by decide +kernel⟩, List.mem_filter.mpr ⟨List.mem_of_getElem? (i := 555) (by decide +kernel), by decide +kernel⟩, List.mem_filter.mpr ⟨List.mem_of_getElem? (i := 556) (by decide +kernel), by decide +kernel⟩⟩
theorem oX3_readOn : VOk kX3_readOn 2 := ⟨⟨List.mem_filter.mpr ⟨List.mem_of_getElem? (i := 500) (by decide +kernel), by decide +kernel⟩, qini_X3, ⟨by decide +kernel, by decide +kernel, by decide +kernel⟩, by decide +kernel⟩, List.mem_filter.mpr ⟨List.mem_of_getElem? (i := 498) (by decide +kernel), by decide +kernel⟩, List.mem_filter.mpr ⟨List.mem_of_getElem? (i := 499) (by decide +kernel), by decide +kernel⟩⟩
theorem oX4_init : IOk kX4_init 0 := ⟨⟨List.mem_filter.mpr ⟨List.mem_of_getElem? (i := 264) (by decide +kernel), by decide +kernel⟩, qini_X4, ⟨by decide +kernel, by decide +kernel, by decide +kernel⟩, by decide +kernel⟩, by decide +kernel, List.mem_filter.mpr ⟨List.mem_of_getElem? (i := 263) (by decide +kernel), by decide +kernel⟩⟩
theorem oX5_init : IOk kX5_init 0 := ⟨⟨List.mem_filter.mpr ⟨List.mem_of_getElem? (i := 161) (by decide +kernel), by decide +kernel⟩, qini_X5, ⟨by decide +kernel, by decide +kernel, by decide +kernel⟩, by decide +kernel⟩, by decide +kernel, List.mem_filter.mpr ⟨List.mem_of_getElem? (i := 160) (by decide +kernel), by decide +kernel⟩⟩
theorem oX5_copyFrom : VOk kX5_copyFrom 1 := ⟨⟨List.mem_filter.mpr ⟨List.mem_of_getElem? (i := 337) (by decide +kernel), by decide +kernel⟩, qini_X5, ⟨by decide +kernel, by decide +kernel, by decide +kernel⟩, by decide +kernel⟩, List.mem_filter.mpr ⟨List.mem_of_getElem? (i := 335) (by decide +kernel), by decide +kernel⟩, List.mem_filter.mpr ⟨List.mem_of_getElem? (i := 336) (by decide +kernel), by decide +kernel⟩⟩
theorem oX6_init : IOk kX6_init 0 := ⟨⟨List.mem_filter.mpr ⟨List.mem_of_getElem? (i := 65) (by decide +kernel), by decide +kernel⟩, qini_X6, ⟨by decide +kernel, by decide +kernel, by decide +kernel⟩, by decide +kernel⟩, by decide +kernel, List.mem_filter.mpr ⟨List.mem_of_getElem? (i := 64) (by decide +kernel), by decide +kernel⟩⟩
theorem oX6_copyFrom : VOk kX6_copyFrom 1 := ⟨⟨List.mem_filter.mpr ⟨List.mem_of_getElem? (i := 305) (by decide +kernel), by decide +kernel⟩, qini_X6, ⟨by decide +kernel, by decide +kernel, by decide +kernel⟩, by decide +kernel⟩, List.mem_filter.mpr ⟨List.mem_of_getElem? (i := 303) (by decide +kernel), by decide +kernel⟩, List.mem_filter.mpr ⟨List.mem_of_getElem? (i := 304) (by decide +kernel), by decide +kernel⟩⟩
theorem oX6_copySnapshot : SOk kX6_copySnapshot 2 := ⟨⟨List.mem_filter.mpr ⟨List.mem_of_getElem? (i := 333) (by decide +kernel), by decide +kernel⟩, qini_X6, ⟨by decide +kernel, by decide +kernel, by decide +kernel⟩, by decide +kernel⟩, List.mem_filter.mpr ⟨List.mem_of_getElem? (i := 332) (by decide +kernel), by decide +kernel⟩⟩
theorem oX6_readerAt : VOk kX6_readerAt 1 := ⟨⟨List.mem_filter.mpr ⟨List.mem_of_getElem? (i := 321) (by decide +kernel), by decide +kernel⟩, qini_X6, ⟨by decide +kernel, by decide +kernel, by decide +kernel⟩, by decide +kernel⟩, List.mem_filter.mpr ⟨List.mem_of_getElem? (i := 319) (by decide +kernel), by decide +kernel⟩, List.mem_filter.mpr ⟨List.mem_of_getElem? (i := 320) (by decide +kernel), by decide +kernel⟩⟩
theorem oX6_snapshotAt : VOk kX6_snapshotAt 1 := ⟨⟨List.mem_filter.mpr ⟨List.mem_of_getElem? (i := 330) (by decide +kernel), by decide +kernel⟩, qini_X6, ⟨by decide +kernel, by decide +kernel, by decide +kernel⟩, by decide +kernel⟩, List.mem_filter.mpr ⟨List.mem_of_getElem? (i := 328) (by decide +kernel), by decide +kernel⟩, List.mem_filter.mpr ⟨List.mem_of_getElem? (i := 329) (by decide +kernel), by decide +kernel⟩⟩
theorem oX6_turnSetting : VOk kX6_turnSetting 2 := ⟨⟨List.mem_filter.mpr ⟨List.mem_of_getElem? (i := 342) (by decide +kernel), by decide +kernel⟩, qini_X6, ⟨by decide +kernel, by decide +kernel, by decide +kernel⟩, by decide +kernel⟩, List.mem_filter.mpr ⟨List.mem_of_getElem? (i := 340) (by decide +kernel), by decide +kernel⟩, List.mem_filter.mpr ⟨List.mem_of_getElem? (i := 341) (by decide +kernel), by decide +kernel⟩⟩
theorem oX6_setKey : VOk kX6_setKey 2 := ⟨⟨List.mem_filter.mpr ⟨List.mem_of_getElem? (i := 361) (by decide +kernel), by decide +kernel⟩, qini_X6, ⟨by decide +kernel, by decide +kernel, by decide +kernel⟩, by decide +kernel⟩, List.mem_filter.mpr ⟨List.mem_of_getElem? (i := 359) (by decide +kernel), by decide +kernel⟩, List.mem_filter.mpr ⟨List.mem_of_getElem? (i := 360) (by decide +kernel), by decide +kernel⟩⟩
theorem oX6_removeKey : VOk kX6_removeKey 1 := ⟨⟨List.mem_filter.mpr ⟨List.mem_of_getElem? (i := 389) (by decide +kernel), by decide +kernel⟩, qini_X6, ⟨by decide +kernel, by decide +kernel, by decide +kernel⟩, by decide +kernel⟩, List.mem_filter.mpr ⟨List.mem_of_getElem? (i := 387) (by decide +kernel), by decide +kernel⟩, List.mem_filter.mpr ⟨List.mem_of_getElem? (i := 388) (by decide +kernel), by decide +kernel⟩⟩
theorem oX6_letPass : VOk kX6_letPass 1 := ⟨⟨List.mem_filter.mpr ⟨List.mem_of_getElem? (i := 404) (by decide +kernel), by decide +kernel⟩, qini_X6, ⟨by decide +kernel, by decide +kernel, by decide +kernel⟩, by decide +kernel⟩, List.mem_filter.mpr ⟨List.mem_of_getElem? (i := 402) (by decide +kernel), by decide +kernel⟩, List.mem_filter.mpr ⟨List.mem_of_getElem? (i := 403) (by decide +kernel), by decide +kernel⟩⟩
theorem oX6_thinFeed : VOk kX6_thinFeed 0 := ⟨⟨List.mem_filter.mpr ⟨List.mem_of_getElem? (i := 413) (by decide +kernel), by decide +kernel⟩, qini_X6, ⟨by decide +kernel, by decide +kernel, by decide +kernel⟩, by decide +kernel⟩, List.mem_filter.mpr ⟨List.mem_of_getElem? (i := 411) (by decide +kernel), by decide +kernel⟩, List.mem_filter.mpr ⟨List.mem_of_getElem? (i := 412) (by decide +kernel), by decide +kernel⟩⟩
theorem oX6_makeSnapshot : VOk kX6_makeSnapshot 0 := ⟨⟨List.mem_filter.mpr ⟨List.mem_of_getElem? (i := 468) (by decide +kernel), by decide +kernel⟩, qini_X6, ⟨by decide +kernel, by decide +kernel, by decide +kernel⟩, by decide +kernel⟩, List.mem_filter.mpr ⟨List.mem_of_getElem? (i := 466) (by decide +kernel), by decide +kernel⟩, List.mem_filter.mpr ⟨List.mem_of_getElem? (i := 467) (by decide +kernel), by decide +kernel⟩⟩
theorem oX6_addReader : VOk kX6_addReader 0 := ⟨⟨List.mem_filter.mpr ⟨List.mem_of_getElem? (i := 476) (by decide +kernel), by decide +kernel⟩, qini_X6, ⟨by decide +kernel, by decide +kernel, by decide +kernel⟩, by decide +kernel⟩, List.mem_filter.mpr ⟨List.mem_of_getElem? (i := 474) (by decide +kernel), by decide +kernel⟩, List.mem_filter.mpr ⟨List.mem_of_getElem? (i := 475) (by decide +kernel), by decide +kernel⟩⟩
theorem oX6_letRead : VOk kX6_letRead 2 := ⟨⟨List.mem_filter.mpr ⟨List.mem_of_getElem? (i := 493) (by decide +kernel), by decide +kernel⟩, qini_X6, ⟨by decide +kernel, by decide +kernel, by decide +kernel⟩, by decide +kernel⟩, List.mem_filter.mpr ⟨List.mem_of_getElem? (i := 491) (by decide +kernel), by decide +kernel⟩, List.mem_filter.mpr ⟨List.mem_of_getElem? (i := 492) (by decide +kernel), by decide +kernel⟩⟩
theorem oX6_letConfirm : VOk kX6_letConfirm 1 := ⟨⟨List.mem_filter.mpr ⟨List.mem_of_getElem? (i := 519) (by decide +kernel), by decide +kernel⟩, qini_X6, ⟨by decide +kernel, by decide +kernel, by decide +kernel⟩, by decide +kernel⟩, List.mem_filter.mpr ⟨List.mem_of_getElem? (i := 517) (by decide +kernel), by decide +kernel⟩, List.mem_filter.mpr ⟨List.mem_of_getElem? (i := 518) (by decide +kernel), by decide +kernel⟩⟩
theorem oX6_letGoBack : VOk kX6_letGoBack 1 := ⟨⟨List.mem_filter.mpr ⟨List.mem_of_getElem? (i := 528) (by decide +kernel), by decide +kernel⟩, qini_X6, ⟨by decide +kernel, by decide +kernel, by decide +kernel⟩, by decide +kernel⟩, List.mem_filter.mpr ⟨List.mem_of_getElem? (i := 526) (by decide +kernel), by decide +kernel⟩, List.mem_filter.mpr ⟨List.mem_of_getElem? (i := 527) (by decide +kernel), by decide +kernel⟩⟩
theorem oX6_letBeginAnew : VOk kX6_letBeginAnew 1 := ⟨⟨List.mem_filter.mpr ⟨List.mem_of_getElem? (i := 540) (by decide +kernel), by decide +kernel⟩, qini_X6, ⟨by decide +kernel, by decide +kernel, by decide +kernel⟩, by decide +kernel⟩, List.mem_filter.mpr ⟨List.mem_of_getElem? (i := 538) (by decide +kernel), by decide +kernel⟩, List.mem_filter.mpr ⟨List.mem_of_getElem? (i := 539) (by decide +kernel), by decide +kernel⟩⟩
theorem oX6_letLoad : VOk kX6_letLoad 2 := ⟨⟨List.mem_filter.mpr ⟨List.mem_of_getElem? (i := 553) (by decide +kernel), by decide +kernel⟩, qini_X6, ⟨by decide +kernel, by decide +kernel, by decide +kernel⟩, by decide +kernel⟩, List.mem_filter.mpr ⟨List.mem_of_getElem? (i := 551) (by decide +kernel), by decide +kernel⟩, List.mem_filter.mpr ⟨List.mem_of_getElem? (i := 552) (by decide +kernel), by decide +kernel⟩⟩
theorem oX6_lateBelow : VOk kX6_lateBelow 1 := ⟨⟨List.mem_filter.mpr ⟨List.mem_of_getElem? (i := 609) (by decide +kernel), by decide +kernel⟩, qini_X6, ⟨by decide +kernel, by decide +kernel, by decide +kernel⟩, by decide +kernel⟩, List.mem_filter.mpr ⟨List.mem_of_getElem? (i := 607) (by decide +kernel), by decide +kernel⟩, List.mem_filter.mpr ⟨List.mem_of_getElem? (i := 608) (by decide +kernel), by decide +kernel⟩⟩
theorem oX6_entriesOnWay : VOk kX6_entriesOnWay 2 := ⟨⟨List.mem_filter.mpr ⟨List.mem_of_getElem? (i := 635) (by decide +kernel), by decide +kernel⟩, qini_X6, ⟨by decide +kernel, by decide +kernel, by decide +kernel⟩, by decide +kernel⟩, List.mem_filter.mpr ⟨List.mem_of_getElem? (i := 633) (by decide +kernel), by decide +kernel⟩, List.mem_filter.mpr ⟨List.mem_of_getElem? (i := 634) (by decide +kernel), by decide +kernel⟩⟩
theorem oX6_aheadUnlessLate : VOk kX6_aheadUnlessLate 1 := ⟨⟨List.mem_filter.mpr ⟨List.mem_of_getElem? (i := 639) (by decide +kernel), by decide +kernel⟩, qini_X6, ⟨by decide +kernel, by decide +kernel, by decide +kernel⟩, by decide +kernel⟩, List.mem_filter.mpr ⟨List.mem_of_getElem? (i := 638) (by decide +kernel), by decide +kernel⟩, List.mem_filter.mpr ⟨List.mem_of_getElem? (i := 5) (by decide +kernel), by decide +kernel⟩⟩
theorem oX6_shortestWay : VOk kX6_shortestWay 1 := ⟨⟨List.mem_filter.mpr ⟨List.mem_of_getElem? (i := 631) (by decide +kernel), by decide +kernel⟩, qini_X6, ⟨by decide +kernel, by decide +kernel, by decide +kernel⟩, by decide +kernel⟩, List.mem_filter.mpr ⟨List.mem_of_getElem? (i := 629) (by decide +kernel), by decide +kernel⟩, List.mem_filter.mpr ⟨List.mem_of_getElem? (i := 630) (by decide +kernel), by decide +kernel⟩⟩
theorem oX7_init : IOk kX7_init 0 := ⟨⟨List.mem_filter.mpr ⟨List.mem_of_getElem? (i := 71) (by decide +kernel), by decide +kernel⟩, qini_X7, ⟨by decide +kernel, by decide +kernel, by decide +kernel⟩, by decide +kernel⟩, by decide +kernel, List.mem_filter.mpr ⟨List.mem_of_getElem? (i := 70) (by decide +kernel), by decide +kernel⟩⟩
theorem oX7_clear : VOk kX7_clear 0 := ⟨⟨List.mem_filter.mpr ⟨List.mem_of_getElem? (i := 76) (by decide +kernel), by decide +kernel⟩, qini_X7, ⟨by decide +kernel, by decide +kernel, by decide +kernel⟩, by decide +kernel⟩, List.mem_filter.mpr ⟨List.mem_of_getElem? (i := 74) (by decide +kernel), by decide +kernel⟩, List.mem_filter.mpr ⟨List.mem_of_getElem? (i := 75) (by decide +kernel), by decide +kernel⟩⟩
theorem oX7_copyFrom : VOk kX7_copyFrom 1 := ⟨⟨List.mem_filter.mpr ⟨List.mem_of_getElem? (i := 309) (by decide +kernel), by decide +kernel⟩, qini_X7, ⟨by decide +kernel, by decide +kernel, by decide +kernel⟩, by decide +kernel⟩, List.mem_filter.mpr ⟨List.mem_of_getElem? (i := 307) (by decide +kernel), by decide +kernel⟩, List.mem_filter.mpr ⟨List.mem_of_getElem? (i := 308) (by decide +kernel), by decide +kernel⟩⟩
theorem oX7_of : VOk kX7_of 1 := ⟨⟨List.mem_filter.mpr ⟨List.mem_of_getElem? (i := 393) (by decide +kernel), by decide +kernel⟩, qini_X7, ⟨by decide +kernel, by decide +kernel, by decide +kernel⟩, by decide +kernel⟩, List.mem_filter.mpr ⟨List.mem_of_getElem? (i := 391) (by decide +kernel), by decide +kernel⟩, List.mem_filter.mpr ⟨List.mem_of_getElem? (i := 392) (by decide +kernel), by decide +kernel⟩⟩
theorem oX7_change : VOk kX7_change 2 := ⟨⟨List.mem_filter.mpr ⟨List.mem_of_getElem? (i := 372) (by decide +kernel), by decide +kernel⟩, qini_X7, ⟨by decide +kernel, by decide +kernel, by decide +kernel⟩, by decide +kernel⟩, List.mem_filter.mpr ⟨List.mem_of_getElem? (i := 370) (by decide +kernel), by decide +kernel⟩, List.mem_filter.mpr ⟨List.mem_of_getElem? (i := 371) (by decide +kernel), by decide +kernel⟩⟩
theorem oX7_howMany : VOk kX7_howMany 0 := ⟨⟨List.mem_filter.mpr ⟨List.mem_of_getElem? (i := 601) (by decide +kernel), by decide +kernel⟩, qini_X7, ⟨by decide +kernel, by decide +kernel, by decide +kernel⟩, by decide +kernel⟩, List.mem_filter.mpr ⟨List.mem_of_getElem? (i := 599) (by decide +kernel), by decide +kernel⟩, List.mem_filter.mpr ⟨List.mem_of_getElem? (i := 600) (by decide +kernel), by decide +kernel⟩⟩
theorem oX7_differingFrom : VOk kX7_differingFrom 1 := ⟨⟨List.mem_filter.mpr ⟨List.mem_of_getElem? (i := 591) (by decide +kernel), by decide +kernel⟩, qini_X7, ⟨by decide +kernel, by decide +kernel, by decide +kernel⟩, by decide +kernel⟩, List.mem_filter.mpr ⟨List.mem_of_getElem? (i := 589) (by decide +kernel), by decide +kernel⟩, List.mem_filter.mpr ⟨List.mem_of_getElem? (i := 590) (by decide +kernel), by decide +kernel⟩⟩
theorem oX8_init : IOk kX8_init 0 := ⟨⟨List.mem_filter.mpr ⟨List.mem_of_getElem? (i := 57) (by decide +kernel), by decide +kernel⟩, qini_X8, ⟨by decide +kernel, by decide +kernel, by decide +kernel⟩, by decide +kernel⟩, by decide +kernel, List.mem_filter.mpr ⟨List.mem_of_getElem? (i := 56) (by decide +kernel), by decide +kernel⟩⟩
theorem oX8_turn : VOk kX8_turn 2 := ⟨⟨List.mem_filter.mpr ⟨List.mem_of_getElem? (i := 293) (by decide +kernel), by decide +kernel⟩, qini_X8, ⟨by decide +kernel, by decide +kernel, by decide +kernel⟩, by decide +kernel⟩, List.mem_filter.mpr ⟨List.mem_of_getElem? (i := 291) (by decide +kernel), by decide +kernel⟩, List.mem_filter.mpr ⟨List.mem_of_getElem? (i := 292) (by decide +kernel), by decide +kernel⟩⟩
theorem oX8_set : VOk kX8_set 2 := ⟨⟨List.mem_filter.mpr ⟨List.mem_of_getElem? (i := 357) (by decide +kernel), by decide +kernel⟩, qini_X8, ⟨by decide +kernel, by decide +kernel, by decide +kernel⟩, by decide +kernel⟩, List.mem_filter.mpr ⟨List.mem_of_getElem? (i := 355) (by decide +kernel), by decide +kernel⟩, List.mem_filter.mpr ⟨List.mem_of_getElem? (i := 356) (by decide +kernel), by decide +kernel⟩⟩
theorem oX8_remove : VOk kX8_remove 1 := ⟨⟨List.mem_filter.mpr ⟨List.mem_of_getElem? (i := 385) (by decide +kernel), by decide +kernel⟩, qini_X8, ⟨by decide +kernel, by decide +kernel, by decide +kernel⟩, by decide +kernel⟩, List.mem_filter.mpr ⟨List.mem_of_getElem? (i := 383) (by decide +kernel), by decide +kernel⟩, List.mem_filter.mpr ⟨List.mem_of_getElem? (i := 384) (by decide +kernel), by decide +kernel⟩⟩
theorem oX8_pass : VOk kX8_pass 1 := ⟨⟨List.mem_filter.mpr ⟨List.mem_of_getElem? (i := 400) (by decide +kernel), by decide +kernel⟩, qini_X8, ⟨by decide +kernel, by decide +kernel, by decide +kernel⟩, by decide +kernel⟩, List.mem_filter.mpr ⟨List.mem_of_getElem? (i := 398) (by decide +kernel), by decide +kernel⟩, List.mem_filter.mpr ⟨List.mem_of_getElem? (i := 399) (by decide +kernel), by decide +kernel⟩⟩
theorem oX8_thin : VOk kX8_thin 0 := ⟨⟨List.mem_filter.mpr ⟨List.mem_of_getElem? (i := 409) (by decide +kernel), by decide +kernel⟩, qini_X8, ⟨by decide +kernel, by decide +kernel, by decide +kernel⟩, by decide +kernel⟩, List.mem_filter.mpr ⟨List.mem_of_getElem? (i := 407) (by decide +kernel), by decide +kernel⟩, List.mem_filter.mpr ⟨List.mem_of_getElem? (i := 408) (by decide +kernel), by decide +kernel⟩⟩
theorem oX8_snapshot : VOk kX8_snapshot 0 := ⟨⟨List.mem_filter.mpr ⟨List.mem_of_getElem? (i := 464) (by decide +kernel), by decide +kernel⟩, qini_X8, ⟨by decide +kernel, by decide +kernel, by decide +kernel⟩, by decide +kernel⟩, List.mem_filter.mpr ⟨List.mem_of_getElem? (i := 462) (by decide +kernel), by decide +kernel⟩, List.mem_filter.mpr ⟨List.mem_of_getElem? (i := 463) (by decide +kernel), by decide +kernel⟩⟩
theorem oX8_reader : VOk kX8_reader 0 := ⟨⟨List.mem_filter.mpr ⟨List.mem_of_getElem? (i := 472) (by decide +kernel), by decide +kernel⟩, qini_X8, ⟨by decide +kernel, by decide +kernel, by decide +kernel⟩, by decide +kernel⟩, List.mem_filter.mpr ⟨List.mem_of_getElem? (i := 470) (by decide +kernel), by decide +kernel⟩, List.mem_filter.mpr ⟨List.mem_of_getElem? (i := 471) (by decide +kernel), by decide +kernel⟩⟩
theorem oX8_read : VOk kX8_read 2 := ⟨⟨List.mem_filter.mpr ⟨List.mem_of_getElem? (i := 489) (by decide +kernel), by decide +kernel⟩, qini_X8, ⟨by decide +kernel, by decide +kernel, by decide +kernel⟩, by decide +kernel⟩, List.mem_filter.mpr ⟨List.mem_of_getElem? (i := 487) (by decide +kernel), by decide +kernel⟩, List.mem_filter.mpr ⟨List.mem_of_getElem? (i := 488) (by decide +kernel), by decide +kernel⟩⟩
theorem oX8_confirm : VOk kX8_confirm 1 := ⟨⟨List.mem_filter.mpr ⟨List.mem_of_getElem? (i := 515) (by decide +kernel), by decide +kernel⟩, qini_X8, ⟨by decide +kernel, by decide +kernel, by decide +kernel⟩, by decide +kernel⟩, List.mem_filter.mpr ⟨List.mem_of_getElem? (i := 513) (by decide +kernel), by decide +kernel⟩, List.mem_filter.mpr ⟨List.mem_of_getElem? (i := 514) (by decide +kernel), by decide +kernel⟩⟩
theorem oX8_goBack : VOk kX8_goBack 1 := ⟨⟨List.mem_filter.mpr ⟨List.mem_of_getElem? (i := 524) (by decide +kernel), by decide +kernel⟩, qini_X8, ⟨by decide +kernel, by decide +kernel, by decide +kernel⟩, by decide +kernel⟩, List.mem_filter.mpr ⟨List.mem_of_getElem? (i := 522) (by decide +kernel), by decide +kernel⟩, List.mem_filter.mpr ⟨List.mem_of_getElem? (i := 523) (by decide +kernel), by decide +kernel⟩⟩
theorem oX8_beginAnew : VOk kX8_beginAnew 1 := ⟨⟨List.mem_filter.mpr ⟨List.mem_of_getElem? (i := 536) (by decide +kernel), by decide +kernel⟩, qini_X8, ⟨by decide +kernel, by decide +kernel, by decide +kernel⟩, by decide +kernel⟩, List.mem_filter.mpr ⟨List.mem_of_getElem? (i := 534) (by decide +kernel), by decide +kernel⟩, List.mem_filter.mpr ⟨List.mem_of_getElem? (i := 535) (by decide +kernel), by decide +kernel⟩⟩
theorem oX8_load : VOk kX8_load 2 := ⟨⟨List.mem_filter.mpr ⟨List.mem_of_getElem? (i := 549) (by decide +kernel), by decide +kernel⟩, qini_X8, ⟨by decide +kernel, by decide +kernel, by decide +kernel⟩, by decide +kernel⟩, List.mem_filter.mpr ⟨List.mem_of_getElem? (i := 547) (by decide +kernel), by decide +kernel⟩, List.mem_filter.mpr ⟨List.mem_of_getElem? (i := 548) (by decide +kernel), by decide +kernel⟩⟩
theorem oX8_table : VOk kX8_table 1 := ⟨⟨List.mem_filter.mpr ⟨List.mem_of_getElem? (i := 561) (by decide +kernel), by decide +kernel⟩, qini_X8, ⟨by decide +kernel, by decide +kernel, by decide +kernel⟩, by decide +kernel⟩, List.mem_filter.mpr ⟨List.mem_of_getElem? (i := 559) (by decide +kernel), by decide +kernel⟩, List.mem_filter.mpr ⟨List.mem_of_getElem? (i := 560) (by decide +kernel), by decide +kernel⟩⟩
theorem oX8_view : VOk kX8_view 2 := ⟨⟨List.mem_filter.mpr ⟨List.mem_of_getElem? (i := 567) (by decide +kernel), by decide +kernel⟩, qini_X8, ⟨by decide +kernel, by decide +kernel, by decide +kernel⟩, by decide +kernel⟩, List.mem_filter.mpr ⟨List.mem_of_getElem? (i := 565) (by decide +kernel), by decide +kernel⟩, List.mem_filter.mpr ⟨List.mem_of_getElem? (i := 566) (by decide +kernel), by decide +kernel⟩⟩
theorem oX8_entry : VOk kX8_entry 2 := ⟨⟨List.mem_filter.mpr ⟨List.mem_of_getElem? (i := 572) (by decide +kernel), by decide +kernel⟩, qini_X8, ⟨by decide +kernel, by decide +kernel, by decide +kernel⟩, by decide +kernel⟩, List.mem_filter.mpr ⟨List.mem_of_getElem? (i := 570) (by decide +kernel), by decide +kernel⟩, List.mem_filter.mpr ⟨List.mem_of_getElem? (i := 571) (by decide +kernel), by decide +kernel⟩⟩
theorem oX8_ofReader : VOk kX8_ofReader 2 := ⟨⟨List.mem_filter.mpr ⟨List.mem_of_getElem? (i := 585) (by decide +kernel), by decide +kernel⟩, qini_X8, ⟨by decide +kernel, by decide +kernel, by decide +kernel⟩, by decide +kernel⟩, List.mem_filter.mpr ⟨List.mem_of_getElem? (i := 583) (by decide +kernel), by decide +kernel⟩, List.mem_filter.mpr ⟨List.mem_of_getElem? (i := 584) (by decide +kernel), by decide +kernel⟩⟩
theorem oX8_ofSnapshot : VOk kX8_ofSnapshot 2 := ⟨⟨List.mem_filter.mpr ⟨List.mem_of_getElem? (i := 596) (by decide +kernel), by decide +kernel⟩, qini_X8, ⟨by decide +kernel, by decide +kernel, by decide +kernel⟩, by decide +kernel⟩, List.mem_filter.mpr ⟨List.mem_of_getElem? (i := 594) (by decide +kernel), by decide +kernel⟩, List.mem_filter.mpr ⟨List.mem_of_getElem? (i := 595) (by decide +kernel), by decide +kernel⟩⟩
theorem oX8_count : VOk kX8_count 1 := ⟨⟨List.mem_filter.mpr ⟨List.mem_of_getElem? (i := 605) (by decide +kernel), by decide +kernel⟩, qini_X8, ⟨by decide +kernel, by decide +kernel, by decide +kernel⟩, by decide +kernel⟩, List.mem_filter.mpr ⟨List.mem_of_getElem? (i := 603) (by decide +kernel), by decide +kernel⟩, List.mem_filter.mpr ⟨List.mem_of_getElem? (i := 604) (by decide +kernel), by decide +kernel⟩⟩
theorem oX8_leftIn : VOk kX8_leftIn 1 := ⟨⟨List.mem_filter.mpr ⟨List.mem_of_getElem? (i := 613) (by decide +kernel), by decide +kernel⟩, qini_X8, ⟨by decide +kernel, by decide +kernel, by decide +kernel⟩, by decide +kernel⟩, List.mem_filter.mpr ⟨List.mem_of_getElem? (i := 611) (by decide +kernel), by decide +kernel⟩, List.mem_filter.mpr ⟨List.mem_of_getElem? (i := 612) (by decide +kernel), by decide +kernel⟩⟩
theorem oX8_lateIn : VOk kX8_lateIn 1 := ⟨⟨List.mem_filter.mpr ⟨List.mem_of_getElem? (i := 622) (by decide +kernel), by decide +kernel⟩, qini_X8, ⟨by decide +kernel, by decide +kernel, by decide +kernel⟩, by decide +kernel⟩, List.mem_filter.mpr ⟨List.mem_of_getElem? (i := 620) (by decide +kernel), by decide +kernel⟩, List.mem_filter.mpr ⟨List.mem_of_getElem? (i := 621) (by decide +kernel), by decide +kernel⟩⟩
theorem oX8_shortest : VOk kX8_shortest 2 := ⟨⟨List.mem_filter.mpr ⟨List.mem_of_getElem? (i := 627) (by decide +kernel), by decide +kernel⟩, qini_X8, ⟨by decide +kernel, by decide +kernel, by decide +kernel⟩, by decide +kernel⟩, List.mem_filter.mpr ⟨List.mem_of_getElem? (i := 625) (by decide +kernel), by decide +kernel⟩, List.mem_filter.mpr ⟨List.mem_of_getElem? (i := 626) (by decide +kernel), by decide +kernel⟩⟩
theorem oX8_gentlest : VOk kX8_gentlest 0 := ⟨⟨List.mem_filter.mpr ⟨List.mem_of_getElem? (i := 644) (by decide +kernel), by decide +kernel⟩, qini_X8, ⟨by decide +kernel, by decide +kernel, by decide +kernel⟩, by decide +kernel⟩, List.mem_filter.mpr ⟨List.mem_of_getElem? (i := 642) (by decide +kernel), by decide +kernel⟩, List.mem_filter.mpr ⟨List.mem_of_getElem? (i := 643) (by decide +kernel), by decide +kernel⟩⟩
theorem oX8_put : VOk kX8_put 1 := ⟨⟨List.mem_filter.mpr ⟨List.mem_of_getElem? (i := 648) (by decide +kernel), by decide +kernel⟩, qini_X8, ⟨by decide +kernel, by decide +kernel, by decide +kernel⟩, by decide +kernel⟩, List.mem_filter.mpr ⟨List.mem_of_getElem? (i := 646) (by decide +kernel), by decide +kernel⟩, List.mem_filter.mpr ⟨List.mem_of_getElem? (i := 647) (by decide +kernel), by decide +kernel⟩⟩
theorem oX8_wipe : VOk kX8_wipe 0 := ⟨⟨List.mem_filter.mpr ⟨List.mem_of_getElem? (i := 661) (by decide +kernel), by decide +kernel⟩, qini_X8, ⟨by decide +kernel, by decide +kernel, by decide +kernel⟩, by decide +kernel⟩, List.mem_filter.mpr ⟨List.mem_of_getElem? (i := 659) (by decide +kernel), by decide +kernel⟩, List.mem_filter.mpr ⟨List.mem_of_getElem? (i := 660) (by decide +kernel), by decide +kernel⟩⟩
theorem oX8_fault : VOk kX8_fault 0 := ⟨⟨List.mem_filter.mpr ⟨List.mem_of_getElem? (i := 669) (by decide +kernel), by decide +kernel⟩, qini_X8, ⟨by decide +kernel, by decide +kernel, by decide +kernel⟩, by decide +kernel⟩, List.mem_filter.mpr ⟨List.mem_of_getElem? (i := 667) (by decide +kernel), by decide +kernel⟩, List.mem_filter.mpr ⟨List.mem_of_getElem? (i := 668) (by decide +kernel), by decide +kernel⟩⟩
theorem oX8_carryOut : VOk kX8_carryOut 0 := ⟨⟨List.mem_filter.mpr ⟨List.mem_of_getElem? (i := 714) (by decide +kernel), by decide +kernel⟩, qini_X8, ⟨by decide +kernel, by decide +kernel, by decide +kernel⟩, by decide +kernel⟩, List.mem_filter.mpr ⟨List.mem_of_getElem? (i := 712) (by decide +kernel), by decide +kernel⟩, List.mem_filter.mpr ⟨List.mem_of_getElem? (i := 713) (by decide +kernel), by decide +kernel⟩⟩
theorem oX8_carryOutOrder : VOk kX8_carryOutOrder 0 := ⟨⟨List.mem_filter.mpr ⟨List.mem_of_getElem? (i := 720) (by decide +kernel), by decide +kernel⟩, qini_X8, ⟨by decide +kernel, by decide +kernel, by decide +kernel⟩, by decide +kernel⟩, List.mem_filter.mpr ⟨List.mem_of_getElem? (i := 719) (by decide +kernel), by decide +kernel⟩, List.mem_filter.mpr ⟨List.mem_of_getElem? (i := 12) (by decide +kernel), by decide +kernel⟩⟩
theorem oX8_undo : VOk kX8_undo 0 := ⟨⟨List.mem_filter.mpr ⟨List.mem_of_getElem? (i := 725) (by decide +kernel), by decide +kernel⟩, qini_X8, ⟨by decide +kernel, by decide +kernel, by decide +kernel⟩, by decide +kernel⟩, List.mem_filter.mpr ⟨List.mem_of_getElem? (i := 723) (by decide +kernel), by decide +kernel⟩, List.mem_filter.mpr ⟨List.mem_of_getElem? (i := 724) (by decide +kernel), by decide +kernel⟩⟩
theorem oX8_save : VOk kX8_save 1 := ⟨⟨List.mem_filter.mpr ⟨List.mem_of_getElem? (i := 733) (by decide +kernel), by decide +kernel⟩, qini_X8, ⟨by decide +kernel, by decide +kernel, by decide +kernel⟩, by decide +kernel⟩, List.mem_filter.mpr ⟨List.mem_of_getElem? (i := 731) (by decide +kernel), by decide +kernel⟩, List.mem_filter.mpr ⟨List.mem_of_getElem? (i := 732) (by decide +kernel), by decide +kernel⟩⟩
theorem oX8_restore : VOk kX8_restore 1 := ⟨⟨List.mem_filter.mpr ⟨List.mem_of_getElem? (i := 742) (by decide +kernel), by decide +kernel⟩, qini_X8, ⟨by decide +kernel, by decide +kernel, by decide +kernel⟩, by decide +kernel⟩, List.mem_filter.mpr ⟨List.mem_of_getElem? (i := 740) (by decide +kernel), by decide +kernel⟩, List.mem_filter.mpr ⟨List.mem_of_getElem? (i := 741) (by decide +kernel), by decide +kernel⟩⟩
theorem oX8_slotAt : VOk kX8_slotAt 1 := ⟨⟨List.mem_filter.mpr ⟨List.mem_of_getElem? (i := 737) (by decide +kernel), by decide +kernel⟩, qini_X8, ⟨by decide +kernel, by decide +kernel, by decide +kernel⟩, by decide +kernel⟩, List.mem_filter.mpr ⟨List.mem_of_getElem? (i := 736) (by decide +kernel), by decide +kernel⟩, List.mem_filter.mpr ⟨List.mem_of_getElem? (i := 13) (by decide +kernel), by decide +kernel⟩⟩
theorem oX8_isKey : SOk kX8_isKey 1 := ⟨⟨List.mem_filter.mpr ⟨List.mem_of_getElem? (i := 364) (by decide +kernel), by decide +kernel⟩, qini_X8, ⟨by decide +kernel, by decide +kernel, by decide +kernel⟩, by decide +kernel⟩, List.mem_filter.mpr ⟨List.mem_of_getElem? (i := 363) (by decide +kernel), by decide +kernel⟩⟩
theorem oX8_isNumber : SOk kX8_isNumber 1 := ⟨⟨List.mem_filter.mpr ⟨List.mem_of_getElem? (i := 345) (by decide +kernel), by decide +kernel⟩, qini_X8, ⟨by decide +kernel, by decide +kernel, by decide +kernel⟩, by decide +kernel⟩, List.mem_filter.mpr ⟨List.mem_of_getElem? (i := 344) (by decide +kernel), by decide +kernel⟩⟩
theorem oX8_isLate : SOk kX8_isLate 2 := ⟨⟨List.mem_filter.mpr ⟨List.mem_of_getElem? (i := 496) (by decide +kernel), by decide +kernel⟩, qini_X8, ⟨by decide +kernel, by decide +kernel, by decide +kernel⟩, by decide +kernel⟩, List.mem_filter.mpr ⟨List.mem_of_getElem? (i := 495) (by decide +kernel), by decide +kernel⟩⟩
theorem oX8_oneIf : SOk kX8_oneIf 1 := ⟨⟨List.mem_filter.mpr ⟨List.mem_of_getElem? (i := 580) (by decide +kernel), by decide +kernel⟩, qini_X8, ⟨by decide +kernel, by decide +kernel, by decide +kernel⟩, by decide +kernel⟩, List.mem_filter.mpr ⟨List.mem_of_getElem? (i := 579) (by decide +kernel), by decide +kernel⟩⟩
theorem oX8_at : SOk kX8_at 2 := ⟨⟨List.mem_filter.mpr ⟨List.mem_of_getElem? (i := 396) (by decide +kernel), by decide +kernel⟩, qini_X8, ⟨by decide +kernel, by decide +kernel, by decide +kernel⟩, by decide +kernel⟩, List.mem_filter.mpr ⟨List.mem_of_getElem? (i := 395) (by decide +kernel), by decide +kernel⟩⟩
theorem oX8_layAt : SOk kX8_layAt 3 := ⟨⟨List.mem_filter.mpr ⟨List.mem_of_getElem? (i := 79) (by decide +kernel), by decide +kernel⟩, qini_X8, ⟨by decide +kernel, by decide +kernel, by decide +kernel⟩, by decide +kernel⟩, List.mem_filter.mpr ⟨List.mem_of_getElem? (i := 78) (by decide +kernel), by decide +kernel⟩⟩
theorem oX8_copyRow : SOk kX8_copyRow 2 := ⟨⟨List.mem_filter.mpr ⟨List.mem_of_getElem? (i := 312) (by decide +kernel), by decide +kernel⟩, qini_X8, ⟨by decide +kernel, by decide +kernel, by decide +kernel⟩, by decide +kernel⟩, List.mem_filter.mpr ⟨List.mem_of_getElem? (i := 311) (by decide +kernel), by decide +kernel⟩⟩
theorem oX9_init : IOk kX9_init 0 := ⟨⟨List.mem_filter.mpr ⟨List.mem_of_getElem? (i := 747) (by decide +kernel), by decide +kernel⟩, qini_X9, ⟨by decide +kernel, by decide +kernel, by decide +kernel⟩, by decide +kernel⟩, by decide +kernel, List.mem_filter.mpr ⟨List.mem_of_getElem? (i := 746) (by decide +kernel), by decide +kernel⟩⟩
theorem oX9_in : SOk kX9_in 3 := ⟨⟨List.mem_filter.mpr ⟨List.mem_of_getElem? (i := 797) (by decide +kernel), by decide +kernel⟩, qini_X9, ⟨by decide +kernel, by decide +kernel, by decide +kernel⟩, by decide +kernel⟩, List.mem_filter.mpr ⟨List.mem_of_getElem? (i := 796) (by decide +kernel), by decide +kernel⟩⟩
theorem oX9_isKey : SOk kX9_isKey 1 := ⟨⟨List.mem_filter.mpr ⟨List.mem_of_getElem? (i := 820) (by decide +kernel), by decide +kernel⟩, qini_X9, ⟨by decide +kernel, by decide +kernel, by decide +kernel⟩, by decide +kernel⟩, List.mem_filter.mpr ⟨List.mem_of_getElem? (i := 819) (by decide +kernel), by decide +kernel⟩⟩
theorem oX9_isReader : VOk kX9_isReader 1 := ⟨⟨List.mem_filter.mpr ⟨List.mem_of_getElem? (i := 895) (by decide +kernel), by decide +kernel⟩, qini_X9, ⟨by decide +kernel, by decide +kernel, by decide +kernel⟩, by decide +kernel⟩, List.mem_filter.mpr ⟨List.mem_of_getElem? (i := 894) (by decide +kernel), by decide +kernel⟩, List.mem_filter.mpr ⟨List.mem_of_getElem? (i := 23) (by decide +kernel), by decide +kernel⟩⟩
theorem oX9_isShot : VOk kX9_isShot 1 := ⟨⟨List.mem_filter.mpr ⟨List.mem_of_getElem? (i := 933) (by decide +kernel), by decide +kernel⟩, qini_X9, ⟨by decide +kernel, by decide +kernel, by decide +kernel⟩, by decide +kernel⟩, List.mem_filter.mpr ⟨List.mem_of_getElem? (i := 932) (by decide +kernel), by decide +kernel⟩, List.mem_filter.mpr ⟨List.mem_of_getElem? (i := 27) (by decide +kernel), by decide +kernel⟩⟩
theorem oX9_row : SOk kX9_row 1 := ⟨⟨List.mem_filter.mpr ⟨List.mem_of_getElem? (i := 879) (by decide +kernel), by decide +kernel⟩, qini_X9, ⟨by decide +kernel, by decide +kernel, by decide +kernel⟩, by decide +kernel⟩, List.mem_filter.mpr ⟨List.mem_of_getElem? (i := 878) (by decide +kernel), by decide +kernel⟩⟩
theorem oX9_lays : SOk kX9_lays 4 := ⟨⟨List.mem_filter.mpr ⟨List.mem_of_getElem? (i := 790) (by decide +kernel), by decide +kernel⟩, qini_X9, ⟨by decide +kernel, by decide +kernel, by decide +kernel⟩, by decide +kernel⟩, List.mem_filter.mpr ⟨List.mem_of_getElem? (i := 789) (by decide +kernel), by decide +kernel⟩⟩
theorem oX9_records : VOk kX9_records 0 := ⟨⟨List.mem_filter.mpr ⟨List.mem_of_getElem? (i := 805) (by decide +kernel), by decide +kernel⟩, qini_X9, ⟨by decide +kernel, by decide +kernel, by decide +kernel⟩, by decide +kernel⟩, List.mem_filter.mpr ⟨List.mem_of_getElem? (i := 804) (by decide +kernel), by decide +kernel⟩, List.mem_filter.mpr ⟨List.mem_of_getElem? (i := 14) (by decide +kernel), by decide +kernel⟩⟩
theorem oX9_undo : VOk kX9_undo 0 := ⟨⟨List.mem_filter.mpr ⟨List.mem_of_getElem? (i := 787) (by decide +kernel), by decide +kernel⟩, qini_X9, ⟨by decide +kernel, by decide +kernel, by decide +kernel⟩, by decide +kernel⟩, List.mem_filter.mpr ⟨List.mem_of_getElem? (i := 785) (by decide +kernel), by decide +kernel⟩, List.mem_filter.mpr ⟨List.mem_of_getElem? (i := 786) (by decide +kernel), by decide +kernel⟩⟩
theorem oX9_save : VOk kX9_save 1 := ⟨⟨List.mem_filter.mpr ⟨List.mem_of_getElem? (i := 794) (by decide +kernel), by decide +kernel⟩, qini_X9, ⟨by decide +kernel, by decide +kernel, by decide +kernel⟩, by decide +kernel⟩, List.mem_filter.mpr ⟨List.mem_of_getElem? (i := 792) (by decide +kernel), by decide +kernel⟩, List.mem_filter.mpr ⟨List.mem_of_getElem? (i := 793) (by decide +kernel), by decide +kernel⟩⟩
theorem oX9_restore : VOk kX9_restore 1 := ⟨⟨List.mem_filter.mpr ⟨List.mem_of_getElem? (i := 801) (by decide +kernel), by decide +kernel⟩, qini_X9, ⟨by decide +kernel, by decide +kernel, by decide +kernel⟩, by decide +kernel⟩, List.mem_filter.mpr ⟨List.mem_of_getElem? (i := 799) (by decide +kernel), by decide +kernel⟩, List.mem_filter.mpr ⟨List.mem_of_getElem? (i := 800) (by decide +kernel), by decide +kernel⟩⟩
theorem oX9_of : SOk kX9_of 3 := ⟨⟨List.mem_filter.mpr ⟨List.mem_of_getElem? (i := 854) (by decide +kernel), by decide +kernel⟩, qini_X9, ⟨by decide +kernel, by decide +kernel, by decide +kernel⟩, by decide +kernel⟩, List.mem_filter.mpr ⟨List.mem_of_getElem? (i := 853) (by decide +kernel), by decide +kernel⟩⟩
theorem oX9_isClosed : SOk kX9_isClosed 2 := ⟨⟨List.mem_filter.mpr ⟨List.mem_of_getElem? (i := 851) (by decide +kernel), by decide +kernel⟩, qini_X9, ⟨by decide +kernel, by decide +kernel, by decide +kernel⟩, by decide +kernel⟩, List.mem_filter.mpr ⟨List.mem_of_getElem? (i := 850) (by decide +kernel), by decide +kernel⟩⟩
theorem oX9_isLast : SOk kX9_isLast 2 := ⟨⟨List.mem_filter.mpr ⟨List.mem_of_getElem? (i := 857) (by decide +kernel), by decide +kernel⟩, qini_X9, ⟨by decide +kernel, by decide +kernel, by decide +kernel⟩, by decide +kernel⟩, List.mem_filter.mpr ⟨List.mem_of_getElem? (i := 856) (by decide +kernel), by decide +kernel⟩⟩
theorem oX9_goes : SOk kX9_goes 2 := ⟨⟨List.mem_filter.mpr ⟨List.mem_of_getElem? (i := 860) (by decide +kernel), by decide +kernel⟩, qini_X9, ⟨by decide +kernel, by decide +kernel, by decide +kernel⟩, by decide +kernel⟩, List.mem_filter.mpr ⟨List.mem_of_getElem? (i := 859) (by decide +kernel), by decide +kernel⟩⟩
theorem oX9_thins : SOk kX9_thins 1 := ⟨⟨List.mem_filter.mpr ⟨List.mem_of_getElem? (i := 848) (by decide +kernel), by decide +kernel⟩, qini_X9, ⟨by decide +kernel, by decide +kernel, by decide +kernel⟩, by decide +kernel⟩, List.mem_filter.mpr ⟨List.mem_of_getElem? (i := 847) (by decide +kernel), by decide +kernel⟩⟩
theorem oX9_isLatePlace : SOk kX9_isLatePlace 2 := ⟨⟨List.mem_filter.mpr ⟨List.mem_of_getElem? (i := 901) (by decide +kernel), by decide +kernel⟩, qini_X9, ⟨by decide +kernel, by decide +kernel, by decide +kernel⟩, by decide +kernel⟩, List.mem_filter.mpr ⟨List.mem_of_getElem? (i := 900) (by decide +kernel), by decide +kernel⟩⟩
theorem oX9_isLate : SOk kX9_isLate 2 := ⟨⟨List.mem_filter.mpr ⟨List.mem_of_getElem? (i := 898) (by decide +kernel), by decide +kernel⟩, qini_X9, ⟨by decide +kernel, by decide +kernel, by decide +kernel⟩, by decide +kernel⟩, List.mem_filter.mpr ⟨List.mem_of_getElem? (i := 897) (by decide +kernel), by decide +kernel⟩⟩
theorem oX9_lateOnes : SOk kX9_lateOnes 1 := ⟨⟨List.mem_filter.mpr ⟨List.mem_of_getElem? (i := 976) (by decide +kernel), by decide +kernel⟩, qini_X9, ⟨by decide +kernel, by decide +kernel, by decide +kernel⟩, by decide +kernel⟩, List.mem_filter.mpr ⟨List.mem_of_getElem? (i := 975) (by decide +kernel), by decide +kernel⟩⟩
theorem oX9_ahead : VOk kX9_ahead 1 := ⟨⟨List.mem_filter.mpr ⟨List.mem_of_getElem? (i := 957) (by decide +kernel), by decide +kernel⟩, qini_X9, ⟨by decide +kernel, by decide +kernel, by decide +kernel⟩, by decide +kernel⟩, List.mem_filter.mpr ⟨List.mem_of_getElem? (i := 956) (by decide +kernel), by decide +kernel⟩, List.mem_filter.mpr ⟨List.mem_of_getElem? (i := 29) (by decide +kernel), by decide +kernel⟩⟩
theorem oX9_turn : VOk kX9_turn 2 := ⟨⟨List.mem_filter.mpr ⟨List.mem_of_getElem? (i := 809) (by decide +kernel), by decide +kernel⟩, qini_X9, ⟨by decide +kernel, by decide +kernel, by decide +kernel⟩, by decide +kernel⟩, List.mem_filter.mpr ⟨List.mem_of_getElem? (i := 807) (by decide +kernel), by decide +kernel⟩, List.mem_filter.mpr ⟨List.mem_of_getElem? (i := 808) (by decide +kernel), by decide +kernel⟩⟩
theorem oX9_maySet : VOk kX9_maySet 2 := ⟨⟨List.mem_filter.mpr ⟨List.mem_of_getElem? (i := 817) (by decide +kernel), by decide +kernel⟩, qini_X9, ⟨by decide +kernel, by decide +kernel, by decide +kernel⟩, by decide +kernel⟩, List.mem_filter.mpr ⟨List.mem_of_getElem? (i := 816) (by decide +kernel), by decide +kernel⟩, List.mem_filter.mpr ⟨List.mem_of_getElem? (i := 15) (by decide +kernel), by decide +kernel⟩⟩
theorem oX9_sets : VOk kX9_sets 2 := ⟨⟨List.mem_filter.mpr ⟨List.mem_of_getElem? (i := 824) (by decide +kernel), by decide +kernel⟩, qini_X9, ⟨by decide +kernel, by decide +kernel, by decide +kernel⟩, by decide +kernel⟩, List.mem_filter.mpr ⟨List.mem_of_getElem? (i := 823) (by decide +kernel), by decide +kernel⟩, List.mem_filter.mpr ⟨List.mem_of_getElem? (i := 16) (by decide +kernel), by decide +kernel⟩⟩
theorem oX9_set : VOk kX9_set 2 := ⟨⟨List.mem_filter.mpr ⟨List.mem_of_getElem? (i := 813) (by decide +kernel), by decide +kernel⟩, qini_X9, ⟨by decide +kernel, by decide +kernel, by decide +kernel⟩, by decide +kernel⟩, List.mem_filter.mpr ⟨List.mem_of_getElem? (i := 811) (by decide +kernel), by decide +kernel⟩, List.mem_filter.mpr ⟨List.mem_of_getElem? (i := 812) (by decide +kernel), by decide +kernel⟩⟩
theorem oX9_mayRemove : VOk kX9_mayRemove 1 := ⟨⟨List.mem_filter.mpr ⟨List.mem_of_getElem? (i := 832) (by decide +kernel), by decide +kernel⟩, qini_X9, ⟨by decide +kernel, by decide +kernel, by decide +kernel⟩, by decide +kernel⟩, List.mem_filter.mpr ⟨List.mem_of_getElem? (i := 831) (by decide +kernel), by decide +kernel⟩, List.mem_filter.mpr ⟨List.mem_of_getElem? (i := 17) (by decide +kernel), by decide +kernel⟩⟩
theorem oX9_remove : VOk kX9_remove 1 := ⟨⟨List.mem_filter.mpr ⟨List.mem_of_getElem? (i := 828) (by decide +kernel), by decide +kernel⟩, qini_X9, ⟨by decide +kernel, by decide +kernel, by decide +kernel⟩, by decide +kernel⟩, List.mem_filter.mpr ⟨List.mem_of_getElem? (i := 826) (by decide +kernel), by decide +kernel⟩, List.mem_filter.mpr ⟨List.mem_of_getElem? (i := 827) (by decide +kernel), by decide +kernel⟩⟩
theorem oX9_mayPass : VOk kX9_mayPass 1 := ⟨⟨List.mem_filter.mpr ⟨List.mem_of_getElem? (i := 840) (by decide +kernel), by decide +kernel⟩, qini_X9, ⟨by decide +kernel, by decide +kernel, by decide +kernel⟩, by decide +kernel⟩, List.mem_filter.mpr ⟨List.mem_of_getElem? (i := 839) (by decide +kernel), by decide +kernel⟩, List.mem_filter.mpr ⟨List.mem_of_getElem? (i := 18) (by decide +kernel), by decide +kernel⟩⟩
theorem oX9_pass : VOk kX9_pass 1 := ⟨⟨List.mem_filter.mpr ⟨List.mem_of_getElem? (i := 836) (by decide +kernel), by decide +kernel⟩, qini_X9, ⟨by decide +kernel, by decide +kernel, by decide +kernel⟩, by decide +kernel⟩, List.mem_filter.mpr ⟨List.mem_of_getElem? (i := 834) (by decide +kernel), by decide +kernel⟩, List.mem_filter.mpr ⟨List.mem_of_getElem? (i := 835) (by decide +kernel), by decide +kernel⟩⟩
theorem oX9_thin : VOk kX9_thin 0 := ⟨⟨List.mem_filter.mpr ⟨List.mem_of_getElem? (i := 845) (by decide +kernel), by decide +kernel⟩, qini_X9, ⟨by decide +kernel, by decide +kernel, by decide +kernel⟩, by decide +kernel⟩, List.mem_filter.mpr ⟨List.mem_of_getElem? (i := 843) (by decide +kernel), by decide +kernel⟩, List.mem_filter.mpr ⟨List.mem_of_getElem? (i := 844) (by decide +kernel), by decide +kernel⟩⟩
theorem oX9_shoots : VOk kX9_shoots 0 := ⟨⟨List.mem_filter.mpr ⟨List.mem_of_getElem? (i := 868) (by decide +kernel), by decide +kernel⟩, qini_X9, ⟨by decide +kernel, by decide +kernel, by decide +kernel⟩, by decide +kernel⟩, List.mem_filter.mpr ⟨List.mem_of_getElem? (i := 867) (by decide +kernel), by decide +kernel⟩, List.mem_filter.mpr ⟨List.mem_of_getElem? (i := 19) (by decide +kernel), by decide +kernel⟩⟩
theorem oX9_snapshot : VOk kX9_snapshot 0 := ⟨⟨List.mem_filter.mpr ⟨List.mem_of_getElem? (i := 864) (by decide +kernel), by decide +kernel⟩, qini_X9, ⟨by decide +kernel, by decide +kernel, by decide +kernel⟩, by decide +kernel⟩, List.mem_filter.mpr ⟨List.mem_of_getElem? (i := 862) (by decide +kernel), by decide +kernel⟩, List.mem_filter.mpr ⟨List.mem_of_getElem? (i := 863) (by decide +kernel), by decide +kernel⟩⟩
theorem oX9_begins : VOk kX9_begins 3 := ⟨⟨List.mem_filter.mpr ⟨List.mem_of_getElem? (i := 883) (by decide +kernel), by decide +kernel⟩, qini_X9, ⟨by decide +kernel, by decide +kernel, by decide +kernel⟩, by decide +kernel⟩, List.mem_filter.mpr ⟨List.mem_of_getElem? (i := 882) (by decide +kernel), by decide +kernel⟩, List.mem_filter.mpr ⟨List.mem_of_getElem? (i := 21) (by decide +kernel), by decide +kernel⟩⟩
theorem oX9_comes : VOk kX9_comes 0 := ⟨⟨List.mem_filter.mpr ⟨List.mem_of_getElem? (i := 876) (by decide +kernel), by decide +kernel⟩, qini_X9, ⟨by decide +kernel, by decide +kernel, by decide +kernel⟩, by decide +kernel⟩, List.mem_filter.mpr ⟨List.mem_of_getElem? (i := 875) (by decide +kernel), by decide +kernel⟩, List.mem_filter.mpr ⟨List.mem_of_getElem? (i := 20) (by decide +kernel), by decide +kernel⟩⟩
theorem oX9_reader : VOk kX9_reader 0 := ⟨⟨List.mem_filter.mpr ⟨List.mem_of_getElem? (i := 872) (by decide +kernel), by decide +kernel⟩, qini_X9, ⟨by decide +kernel, by decide +kernel, by decide +kernel⟩, by decide +kernel⟩, List.mem_filter.mpr ⟨List.mem_of_getElem? (i := 870) (by decide +kernel), by decide +kernel⟩, List.mem_filter.mpr ⟨List.mem_of_getElem? (i := 871) (by decide +kernel), by decide +kernel⟩⟩
theorem oX9_mayRead : VOk kX9_mayRead 2 := ⟨⟨List.mem_filter.mpr ⟨List.mem_of_getElem? (i := 891) (by decide +kernel), by decide +kernel⟩, qini_X9, ⟨by decide +kernel, by decide +kernel, by decide +kernel⟩, by decide +kernel⟩, List.mem_filter.mpr ⟨List.mem_of_getElem? (i := 890) (by decide +kernel), by decide +kernel⟩, List.mem_filter.mpr ⟨List.mem_of_getElem? (i := 22) (by decide +kernel), by decide +kernel⟩⟩
theorem oX9_reads : VOk kX9_reads 2 := ⟨⟨List.mem_filter.mpr ⟨List.mem_of_getElem? (i := 905) (by decide +kernel), by decide +kernel⟩, qini_X9, ⟨by decide +kernel, by decide +kernel, by decide +kernel⟩, by decide +kernel⟩, List.mem_filter.mpr ⟨List.mem_of_getElem? (i := 904) (by decide +kernel), by decide +kernel⟩, List.mem_filter.mpr ⟨List.mem_of_getElem? (i := 24) (by decide +kernel), by decide +kernel⟩⟩
theorem oX9_read : VOk kX9_read 2 := ⟨⟨List.mem_filter.mpr ⟨List.mem_of_getElem? (i := 887) (by decide +kernel), by decide +kernel⟩, qini_X9, ⟨by decide +kernel, by decide +kernel, by decide +kernel⟩, by decide +kernel⟩, List.mem_filter.mpr ⟨List.mem_of_getElem? (i := 885) (by decide +kernel), by decide +kernel⟩, List.mem_filter.mpr ⟨List.mem_of_getElem? (i := 886) (by decide +kernel), by decide +kernel⟩⟩
theorem oX9_takes : VOk kX9_takes 2 := ⟨⟨List.mem_filter.mpr ⟨List.mem_of_getElem? (i := 913) (by decide +kernel), by decide +kernel⟩, qini_X9, ⟨by decide +kernel, by decide +kernel, by decide +kernel⟩, by decide +kernel⟩, List.mem_filter.mpr ⟨List.mem_of_getElem? (i := 912) (by decide +kernel), by decide +kernel⟩, List.mem_filter.mpr ⟨List.mem_of_getElem? (i := 25) (by decide +kernel), by decide +kernel⟩⟩
theorem oX9_confirm : VOk kX9_confirm 1 := ⟨⟨List.mem_filter.mpr ⟨List.mem_of_getElem? (i := 909) (by decide +kernel), by decide +kernel⟩, qini_X9, ⟨by decide +kernel, by decide +kernel, by decide +kernel⟩, by decide +kernel⟩, List.mem_filter.mpr ⟨List.mem_of_getElem? (i := 907) (by decide +kernel), by decide +kernel⟩, List.mem_filter.mpr ⟨List.mem_of_getElem? (i := 908) (by decide +kernel), by decide +kernel⟩⟩
theorem oX9_goBack : VOk kX9_goBack 1 := ⟨⟨List.mem_filter.mpr ⟨List.mem_of_getElem? (i := 917) (by decide +kernel), by decide +kernel⟩, qini_X9, ⟨by decide +kernel, by decide +kernel, by decide +kernel⟩, by decide +kernel⟩, List.mem_filter.mpr ⟨List.mem_of_getElem? (i := 915) (by decide +kernel), by decide +kernel⟩, List.mem_filter.mpr ⟨List.mem_of_getElem? (i := 916) (by decide +kernel), by decide +kernel⟩⟩
theorem oX9_beginAnew : VOk kX9_beginAnew 1 := ⟨⟨List.mem_filter.mpr ⟨List.mem_of_getElem? (i := 921) (by decide +kernel), by decide +kernel⟩, qini_X9, ⟨by decide +kernel, by decide +kernel, by decide +kernel⟩, by decide +kernel⟩, List.mem_filter.mpr ⟨List.mem_of_getElem? (i := 919) (by decide +kernel), by decide +kernel⟩, List.mem_filter.mpr ⟨List.mem_of_getElem? (i := 920) (by decide +kernel), by decide +kernel⟩⟩
theorem oX9_mayLoad : VOk kX9_mayLoad 2 := ⟨⟨List.mem_filter.mpr ⟨List.mem_of_getElem? (i := 929) (by decide +kernel), by decide +kernel⟩, qini_X9, ⟨by decide +kernel, by decide +kernel, by decide +kernel⟩, by decide +kernel⟩, List.mem_filter.mpr ⟨List.mem_of_getElem? (i := 928) (by decide +kernel), by decide +kernel⟩, List.mem_filter.mpr ⟨List.mem_of_getElem? (i := 26) (by decide +kernel), by decide +kernel⟩⟩
theorem oX9_loads : VOk kX9_loads 2 := ⟨⟨List.mem_filter.mpr ⟨List.mem_of_getElem? (i := 937) (by decide +kernel), by decide +kernel⟩, qini_X9, ⟨by decide +kernel, by decide +kernel, by decide +kernel⟩, by decide +kernel⟩, List.mem_filter.mpr ⟨List.mem_of_getElem? (i := 936) (by decide +kernel), by decide +kernel⟩, List.mem_filter.mpr ⟨List.mem_of_getElem? (i := 28) (by decide +kernel), by decide +kernel⟩⟩
theorem oX9_load : VOk kX9_load 2 := ⟨⟨List.mem_filter.mpr ⟨List.mem_of_getElem? (i := 925) (by decide +kernel), by decide +kernel⟩, qini_X9, ⟨by decide +kernel, by decide +kernel, by decide +kernel⟩, by decide +kernel⟩, List.mem_filter.mpr ⟨List.mem_of_getElem? (i := 923) (by decide +kernel), by decide +kernel⟩, List.mem_filter.mpr ⟨List.mem_of_getElem? (i := 924) (by decide +kernel), by decide +kernel⟩⟩
theorem oX9_table : VOk kX9_table 1 := ⟨⟨List.mem_filter.mpr ⟨List.mem_of_getElem? (i := 941) (by decide +kernel), by decide +kernel⟩, qini_X9, ⟨by decide +kernel, by decide +kernel, by decide +kernel⟩, by decide +kernel⟩, List.mem_filter.mpr ⟨List.mem_of_getElem? (i := 939) (by decide +kernel), by decide +kernel⟩, List.mem_filter.mpr ⟨List.mem_of_getElem? (i := 940) (by decide +kernel), by decide +kernel⟩⟩
theorem oX9_view : VOk kX9_view 2 := ⟨⟨List.mem_filter.mpr ⟨List.mem_of_getElem? (i := 945) (by decide +kernel), by decide +kernel⟩, qini_X9, ⟨by decide +kernel, by decide +kernel, by decide +kernel⟩, by decide +kernel⟩, List.mem_filter.mpr ⟨List.mem_of_getElem? (i := 943) (by decide +kernel), by decide +kernel⟩, List.mem_filter.mpr ⟨List.mem_of_getElem? (i := 944) (by decide +kernel), by decide +kernel⟩⟩
theorem oX9_entry : VOk kX9_entry 2 := ⟨⟨List.mem_filter.mpr ⟨List.mem_of_getElem? (i := 949) (by decide +kernel), by decide +kernel⟩, qini_X9, ⟨by decide +kernel, by decide +kernel, by decide +kernel⟩, by decide +kernel⟩, List.mem_filter.mpr ⟨List.mem_of_getElem? (i := 947) (by decide +kernel), by decide +kernel⟩, List.mem_filter.mpr ⟨List.mem_of_getElem? (i := 948) (by decide +kernel), by decide +kernel⟩⟩
theorem oX9_unlike : VOk kX9_unlike 1 := ⟨⟨List.mem_filter.mpr ⟨List.mem_of_getElem? (i := 961) (by decide +kernel), by decide +kernel⟩, qini_X9, ⟨by decide +kernel, by decide +kernel, by decide +kernel⟩, by decide +kernel⟩, List.mem_filter.mpr ⟨List.mem_of_getElem? (i := 960) (by decide +kernel), by decide +kernel⟩, List.mem_filter.mpr ⟨List.mem_of_getElem? (i := 30) (by decide +kernel), by decide +kernel⟩⟩
theorem oX9_ofReader : VOk kX9_ofReader 2 := ⟨⟨List.mem_filter.mpr ⟨List.mem_of_getElem? (i := 953) (by decide +kernel), by decide +kernel⟩, qini_X9, ⟨by decide +kernel, by decide +kernel, by decide +kernel⟩, by decide +kernel⟩, List.mem_filter.mpr ⟨List.mem_of_getElem? (i := 951) (by decide +kernel), by decide +kernel⟩, List.mem_filter.mpr ⟨List.mem_of_getElem? (i := 952) (by decide +kernel), by decide +kernel⟩⟩
theorem oX9_valued : VOk kX9_valued 1 := ⟨⟨List.mem_filter.mpr ⟨List.mem_of_getElem? (i := 969) (by decide +kernel), by decide +kernel⟩, qini_X9, ⟨by decide +kernel, by decide +kernel, by decide +kernel⟩, by decide +kernel⟩, List.mem_filter.mpr ⟨List.mem_of_getElem? (i := 968) (by decide +kernel), by decide +kernel⟩, List.mem_filter.mpr ⟨List.mem_of_getElem? (i := 31) (by decide +kernel), by decide +kernel⟩⟩
theorem oX9_ofSnapshot : VOk kX9_ofSnapshot 2 := ⟨⟨List.mem_filter.mpr ⟨List.mem_of_getElem? (i := 965) (by decide +kernel), by decide +kernel⟩, qini_X9, ⟨by decide +kernel, by decide +kernel, by decide +kernel⟩, by decide +kernel⟩, List.mem_filter.mpr ⟨List.mem_of_getElem? (i := 963) (by decide +kernel), by decide +kernel⟩, List.mem_filter.mpr ⟨List.mem_of_getElem? (i := 964) (by decide +kernel), by decide +kernel⟩⟩
theorem oX9_count : VOk kX9_count 1 := ⟨⟨List.mem_filter.mpr ⟨List.mem_of_getElem? (i := 973) (by decide +kernel), by decide +kernel⟩, qini_X9, ⟨by decide +kernel, by decide +kernel, by decide +kernel⟩, by decide +kernel⟩, List.mem_filter.mpr ⟨List.mem_of_getElem? (i := 971) (by decide +kernel), by decide +kernel⟩, List.mem_filter.mpr ⟨List.mem_of_getElem? (i := 972) (by decide +kernel), by decide +kernel⟩⟩
theorem oX9_thinsThen : VOk kX9_thinsThen 1 := ⟨⟨List.mem_filter.mpr ⟨List.mem_of_getElem? (i := 984) (by decide +kernel), by decide +kernel⟩, qini_X9, ⟨by decide +kernel, by decide +kernel, by decide +kernel⟩, by decide +kernel⟩, List.mem_filter.mpr ⟨List.mem_of_getElem? (i := 983) (by decide +kernel), by decide +kernel⟩, List.mem_filter.mpr ⟨List.mem_of_getElem? (i := 32) (by decide +kernel), by decide +kernel⟩⟩
theorem oX9_leftIn : VOk kX9_leftIn 1 := ⟨⟨List.mem_filter.mpr ⟨List.mem_of_getElem? (i := 980) (by decide +kernel), by decide +kernel⟩, qini_X9, ⟨by decide +kernel, by decide +kernel, by decide +kernel⟩, by decide +kernel⟩, List.mem_filter.mpr ⟨List.mem_of_getElem? (i := 978) (by decide +kernel), by decide +kernel⟩, List.mem_filter.mpr ⟨List.mem_of_getElem? (i := 979) (by decide +kernel), by decide +kernel⟩⟩
theorem oX9_lateIn : VOk kX9_lateIn 1 := ⟨⟨List.mem_filter.mpr ⟨List.mem_of_getElem? (i := 988) (by decide +kernel), by decide +kernel⟩, qini_X9, ⟨by decide +kernel, by decide +kernel, by decide +kernel⟩, by decide +kernel⟩, List.mem_filter.mpr ⟨List.mem_of_getElem? (i := 986) (by decide +kernel), by decide +kernel⟩, List.mem_filter.mpr ⟨List.mem_of_getElem? (i := 987) (by decide +kernel), by decide +kernel⟩⟩
theorem oX9_shortest : VOk kX9_shortest 2 := ⟨⟨List.mem_filter.mpr ⟨List.mem_of_getElem? (i := 992) (by decide +kernel), by decide +kernel⟩, qini_X9, ⟨by decide +kernel, by decide +kernel, by decide +kernel⟩, by decide +kernel⟩, List.mem_filter.mpr ⟨List.mem_of_getElem? (i := 990) (by decide +kernel), by decide +kernel⟩, List.mem_filter.mpr ⟨List.mem_of_getElem? (i := 991) (by decide +kernel), by decide +kernel⟩⟩
theorem oX9_gentlest : VOk kX9_gentlest 0 := ⟨⟨List.mem_filter.mpr ⟨List.mem_of_getElem? (i := 996) (by decide +kernel), by decide +kernel⟩, qini_X9, ⟨by decide +kernel, by decide +kernel, by decide +kernel⟩, by decide +kernel⟩, List.mem_filter.mpr ⟨List.mem_of_getElem? (i := 994) (by decide +kernel), by decide +kernel⟩, List.mem_filter.mpr ⟨List.mem_of_getElem? (i := 995) (by decide +kernel), by decide +kernel⟩⟩
theorem oX9_byteOf : SOk kX9_byteOf 2 := ⟨⟨List.mem_filter.mpr ⟨List.mem_of_getElem? (i := 1006) (by decide +kernel), by decide +kernel⟩, qini_X9, ⟨by decide +kernel, by decide +kernel, by decide +kernel⟩, by decide +kernel⟩, List.mem_filter.mpr ⟨List.mem_of_getElem? (i := 1005) (by decide +kernel), by decide +kernel⟩⟩
theorem oX9_toldBy : SOk kX9_toldBy 1 := ⟨⟨List.mem_filter.mpr ⟨List.mem_of_getElem? (i := 1003) (by decide +kernel), by decide +kernel⟩, qini_X9, ⟨by decide +kernel, by decide +kernel, by decide +kernel⟩, by decide +kernel⟩, List.mem_filter.mpr ⟨List.mem_of_getElem? (i := 1002) (by decide +kernel), by decide +kernel⟩⟩
theorem oX9_put : VOk kX9_put 1 := ⟨⟨List.mem_filter.mpr ⟨List.mem_of_getElem? (i := 1000) (by decide +kernel), by decide +kernel⟩, qini_X9, ⟨by decide +kernel, by decide +kernel, by decide +kernel⟩, by decide +kernel⟩, List.mem_filter.mpr ⟨List.mem_of_getElem? (i := 998) (by decide +kernel), by decide +kernel⟩, List.mem_filter.mpr ⟨List.mem_of_getElem? (i := 999) (by decide +kernel), by decide +kernel⟩⟩
theorem oX9_wipe : VOk kX9_wipe 0 := ⟨⟨List.mem_filter.mpr ⟨List.mem_of_getElem? (i := 1011) (by decide +kernel), by decide +kernel⟩, qini_X9, ⟨by decide +kernel, by decide +kernel, by decide +kernel⟩, by decide +kernel⟩, List.mem_filter.mpr ⟨List.mem_of_getElem? (i := 1009) (by decide +kernel), by decide +kernel⟩, List.mem_filter.mpr ⟨List.mem_of_getElem? (i := 1010) (by decide +kernel), by decide +kernel⟩⟩
theorem oX9_isAt : VOk kX9_isAt 2 := ⟨⟨List.mem_filter.mpr ⟨List.mem_of_getElem? (i := 1031) (by decide +kernel), by decide +kernel⟩, qini_X9, ⟨by decide +kernel, by decide +kernel, by decide +kernel⟩, by decide +kernel⟩, List.mem_filter.mpr ⟨List.mem_of_getElem? (i := 1030) (by decide +kernel), by decide +kernel⟩, List.mem_filter.mpr ⟨List.mem_of_getElem? (i := 36) (by decide +kernel), by decide +kernel⟩⟩
theorem oX9_isSign : VOk kX9_isSign 1 := ⟨⟨List.mem_filter.mpr ⟨List.mem_of_getElem? (i := 1035) (by decide +kernel), by decide +kernel⟩, qini_X9, ⟨by decide +kernel, by decide +kernel, by decide +kernel⟩, by decide +kernel⟩, List.mem_filter.mpr ⟨List.mem_of_getElem? (i := 1034) (by decide +kernel), by decide +kernel⟩, List.mem_filter.mpr ⟨List.mem_of_getElem? (i := 37) (by decide +kernel), by decide +kernel⟩⟩
theorem oX9_isDigit : VOk kX9_isDigit 2 := ⟨⟨List.mem_filter.mpr ⟨List.mem_of_getElem? (i := 1039) (by decide +kernel), by decide +kernel⟩, qini_X9, ⟨by decide +kernel, by decide +kernel, by decide +kernel⟩, by decide +kernel⟩, List.mem_filter.mpr ⟨List.mem_of_getElem? (i := 1038) (by decide +kernel), by decide +kernel⟩, List.mem_filter.mpr ⟨List.mem_of_getElem? (i := 38) (by decide +kernel), by decide +kernel⟩⟩
theorem oX9_isNumber : VOk kX9_isNumber 1 := ⟨⟨List.mem_filter.mpr ⟨List.mem_of_getElem? (i := 1027) (by decide +kernel), by decide +kernel⟩, qini_X9, ⟨by decide +kernel, by decide +kernel, by decide +kernel⟩, by decide +kernel⟩, List.mem_filter.mpr ⟨List.mem_of_getElem? (i := 1026) (by decide +kernel), by decide +kernel⟩, List.mem_filter.mpr ⟨List.mem_of_getElem? (i := 35) (by decide +kernel), by decide +kernel⟩⟩
theorem oX9_isOrder : VOk kX9_isOrder 0 := ⟨⟨List.mem_filter.mpr ⟨List.mem_of_getElem? (i := 1023) (by decide +kernel), by decide +kernel⟩, qini_X9, ⟨by decide +kernel, by decide +kernel, by decide +kernel⟩, by decide +kernel⟩, List.mem_filter.mpr ⟨List.mem_of_getElem? (i := 1022) (by decide +kernel), by decide +kernel⟩, List.mem_filter.mpr ⟨List.mem_of_getElem? (i := 34) (by decide +kernel), by decide +kernel⟩⟩
theorem oX9_isText : VOk kX9_isText 0 := ⟨⟨List.mem_filter.mpr ⟨List.mem_of_getElem? (i := 1019) (by decide +kernel), by decide +kernel⟩, qini_X9, ⟨by decide +kernel, by decide +kernel, by decide +kernel⟩, by decide +kernel⟩, List.mem_filter.mpr ⟨List.mem_of_getElem? (i := 1018) (by decide +kernel), by decide +kernel⟩, List.mem_filter.mpr ⟨List.mem_of_getElem? (i := 33) (by decide +kernel), by decide +kernel⟩⟩
theorem oX9_fault : VOk kX9_fault 0 := ⟨⟨List.mem_filter.mpr ⟨List.mem_of_getElem? (i := 1015) (by decide +kernel), by decide +kernel⟩, qini_X9, ⟨by decide +kernel, by decide +kernel, by decide +kernel⟩, by decide +kernel⟩, List.mem_filter.mpr ⟨List.mem_of_getElem? (i := 1013) (by decide +kernel), by decide +kernel⟩, List.mem_filter.mpr ⟨List.mem_of_getElem? (i := 1014) (by decide +kernel), by decide +kernel⟩⟩
theorem oX9_mayDo : VOk kX9_mayDo 3 := ⟨⟨List.mem_filter.mpr ⟨List.mem_of_getElem? (i := 1051) (by decide +kernel), by decide +kernel⟩, qini_X9, ⟨by decide +kernel, by decide +kernel, by decide +kernel⟩, by decide +kernel⟩, List.mem_filter.mpr ⟨List.mem_of_getElem? (i := 1050) (by decide +kernel), by decide +kernel⟩, List.mem_filter.mpr ⟨List.mem_of_getElem? (i := 40) (by decide +kernel), by decide +kernel⟩⟩
theorem oX9_does : VOk kX9_does 1 := ⟨⟨List.mem_filter.mpr ⟨List.mem_of_getElem? (i := 1047) (by decide +kernel), by decide +kernel⟩, qini_X9, ⟨by decide +kernel, by decide +kernel, by decide +kernel⟩, by decide +kernel⟩, List.mem_filter.mpr ⟨List.mem_of_getElem? (i := 1046) (by decide +kernel), by decide +kernel⟩, List.mem_filter.mpr ⟨List.mem_of_getElem? (i := 39) (by decide +kernel), by decide +kernel⟩⟩
theorem oX9_carryOut : VOk kX9_carryOut 0 := ⟨⟨List.mem_filter.mpr ⟨List.mem_of_getElem? (i := 1043) (by decide +kernel), by decide +kernel⟩, qini_X9, ⟨by decide +kernel, by decide +kernel, by decide +kernel⟩, by decide +kernel⟩, List.mem_filter.mpr ⟨List.mem_of_getElem? (i := 1041) (by decide +kernel), by decide +kernel⟩, List.mem_filter.mpr ⟨List.mem_of_getElem? (i := 1042) (by decide +kernel), by decide +kernel⟩⟩
theorem qoi_inst : Cond.instanceMethod objectInit ∈ lwT := List.mem_filter.mpr ⟨List.mem_of_getElem? (i := 59) (by decide +kernel), by decide +kernel⟩
theorem qoi_code : Cond.code objectInit ⟨#[0xb1]⟩ 1 none ∈ lwT := List.mem_filter.mpr ⟨List.mem_of_getElem? (i := 60) (by decide +kernel), by decide +kernel⟩
theorem qmax_st : Cond.static Lib.Math.max.name ∈ lwT := List.mem_filter.mpr ⟨List.mem_of_getElem? (i := 443) (by decide +kernel), by decide +kernel⟩
theorem qmax_code : Cond.code Lib.Math.max.name Lib.Math.max.code 2 (some .int) ∈ lwT := List.mem_filter.mpr ⟨List.mem_of_getElem? (i := 444) (by decide +kernel), by decide +kernel⟩
theorem qmin_st : Cond.static Lib.Math.min.name ∈ lwT := List.mem_filter.mpr ⟨List.mem_of_getElem? (i := 506) (by decide +kernel), by decide +kernel⟩
theorem qmin_code : Cond.code Lib.Math.min.name Lib.Math.min.code 2 (some .int) ∈ lwT := List.mem_filter.mpr ⟨List.mem_of_getElem? (i := 507) (by decide +kernel), by decide +kernel⟩
end
section
/-! ===== memory as a function of addresses; a method's run from a frame as a predicate (Rn), a method's contract (EvA) ===== -/
abbrev MK : Type := MethodName × ByteArray × Nat × Option FieldType
abbrev Cl : Type := (Nat × vp_A) ⊕ (Nat × List Value)
abbrev Mm : Type := Nat → Option Cl
/-- launch, the classes' numbers, the array classes' numbers, the first own address, the script's address and cell -/
abbrev GG : Type := Launch × va_G × (Nat → ClassId) × Nat × Nat × Cell
abbrev gD (G : GG) : va_G := G.2.1
abbrev gA (G : GG) : Nat → ClassId := G.2.2.1
abbrev gLo (G : GG) : Nat := G.2.2.2.1
abbrev gB (G : GG) : Nat := G.2.2.2.2.1
abbrev gS (G : GG) : Cell := G.2.2.2.2.2
def trc (dA : Nat → ClassId) (c : Cl) : va_E := match c with
  | .inl a => .inl (dA a.1, a.2)
  | .inr o => .inr o
abbrev vtys (dA : Nat → ClassId) : List (ClassId × FieldType) := [(dA 0, .int), (dA 1, .boolean), (dA 2, .object RX6), (dA 3, .object RX3), (dA 4, .object RX5), (dA 5, .object RX4)]
def MemA (G : GG) (μ : Mm) (H : Heap) : Prop := (H[gB G]? = some (gS G) ∧ gB G < gLo G) ∧ ∀ (a : Nat) (c : Cl), μ a = some c → va_at (gD G) classes (a, trc (gA G) c) H ∧ gLo G ≤ a
def KnA (G : GG) (U : State) : Prop := va_K (gD G) classes (vtys (gA G)) U ∧ (∀ q ∈ nestL, va_Nw (.methodLinkNest q.1 q.2.1 q.2.2.1 q.2.2.2) U) ∧ (va_AO RX6 U ∧ va_AO RX3 U ∧ va_AO RX5 U ∧ va_AO RX4 U) ∧ U.isArrayOf (gS G) .int ∧ (gS G).vm ≠ .unknown
def lvh (ls : Array Slot) (n : Nat) (L : List (Option Value)) : Prop := L.length = n ∧ ls.size = n ∧ lv_wf ls ∧ ∀ (i : Nat) (v : Value), L[i]? = some (some v) → ls[i]? = some (.val v)
def CtxA (G : GG) (d : Nat) (K : MK) (p : Program) (R : Room) (s : State) (m : MethodId) (args : Array Value) (meth : Method) (c : Code) : Prop :=
  (p.tables.exec = Jvm.exec ∧ c.code = K.2.1 ∧ c.maxLocals = K.2.2.1 ∧ s.vm.findClass K.1.cls = some m.cls ∧ ∀ w ∈ lwT, w.before args s = true) ∧ (meth.sig.returnType = K.2.2.2 ∧ meth.locks = false ∧ meth.name = K.1.name) ∧ KnA G s ∧ gLo G ≤ s.heap.size ∧ d ≤ R.frames ∧ 34 * d ≤ R.locals
def RetA (K : MK) (pc : Nat) (r : Option Value) : Prop := match r with
  | none => K.2.2.2 = none ∧ decode K.2.1 pc = .ok (.return_, 1)
  | some (.int v) => ∃ ty, K.2.2.2 = some ty ∧ narrow ty (.int v) = .int v ∧ decode K.2.1 pc = .ok (.ireturn, 1)
  | some .null => ∃ C, K.2.2.2 = some (.object C) ∧ decode K.2.1 pc = .ok (.areturn, 1)
  | some (.ref _) => ∃ C, K.2.2.2 = some (.object C) ∧ decode K.2.1 pc = .ok (.areturn, 1)
  | _ => False
abbrev own (G : GG) : Nat → Prop := fun q => gLo G ≤ q
def EndA (G : GG) (K : MK) (p : Program) (e : Env) (R : Room) (s : State) (m : MethodId) (args : Array Value) (below : List Frame) (meth : Method) (c : Code) (szF : Nat) (Q : Option Value → Mm → Prop) (Z : State → Prop) : Prop :=
  ∀ (r : Option Value) (μ' : Mm) (H' : Heap) (locs' : List Loc) (pc' : Nat) (ls' : Array Slot), Q r μ' → MemA G μ' H' → H'.size = szF → va_S (own G) s.heap H' locs' → RetA K pc' r → W p G.1 e R s m args below meth c H' locs' R.cells R.slots Z (F0 m pc' ls' r.toList)
def Rn (G : GG) (d : Nat) (K : MK) (pc : Nat) (L : List (Option Value)) (st : List Value) (μ : Mm) (sz mc ms : Nat) (Q : Option Value → Mm → Prop) : Prop :=
  ∀ (p : Program) (e : Env) (R : Room) (s : State) (m : MethodId) (args : Array Value) (below : List Frame) (meth : Method) (c : Code) (H : Heap) (locs : List Loc) (cells slots : Nat) (ls : Array Slot) (Z : State → Prop),
    CtxA G d K p R s m args meth c → lvh ls K.2.2.1 L → MemA G μ H → H.size = sz → va_S (own G) s.heap H locs → cells + mc ≤ R.cells → slots + ms ≤ R.slots → EndA G K p e R s m args below meth c (sz + mc) Q Z → W p G.1 e R s m args below meth c H locs cells slots Z (F0 m pc ls st)
def QcA (G : GG) (szF : Nat) (Q : Option Value → Mm → Prop) : Array Value → State → Outcome → State → Prop := fun _ st oc t => ∃ (r : Option Value) (μ' : Mm), oc = .returned r ∧ Q r μ' ∧ MemA G μ' t.heap ∧ t.heap.size = szF ∧ va_F (own G) st t
def PcA (G : GG) (av : List Value) (μ : Mm) (sz : Nat) : Array Value → State → Prop := va_Pc av (fun U => U.heap.size = sz ∧ MemA G μ U.heap ∧ KnA G U)
def EvA (G : GG) (d : Nat) (K : MK) (av : List Value) (μ : Mm) (sz mc ms : Nat) (Q : Option Value → Mm → Prop) : Prop :=
  gLo G ≤ sz → Met G.1 K.1 (.code K.1 K.2.1 K.2.2.1 K.2.2.2 :: lwT) ({ frames := d, cells := mc, slots := ms, locals := 34 * d }) (PcA G av μ sz) (QcA G (sz + mc) Q) mc ms (own G)
-- answers by their kinds
abbrev rI (Q : Int32 → Mm → Prop) : Option Value → Mm → Prop := fun r μ => ∃ v : Int32, r = some (.int v) ∧ Q v μ
abbrev rV (Q : Mm → Prop) : Option Value → Mm → Prop := fun r μ => r = none ∧ Q μ
abbrev rR (Q : Option Nat → Mm → Prop) : Option Value → Mm → Prop := fun r μ => ∃ o : Option Nat, r = some (va_rf o) ∧ Q o μ
-- memory
def mset (μ : Mm) (a : Nat) (c : Cl) : Mm := fun q => if q = a then some c else μ q
theorem mset_same {μ : Mm} {a : Nat} {c : Cl} : mset μ a c a = some c := if_pos rfl
theorem mset_ne {μ : Mm} {a b : Nat} {c : Cl} (h : b ≠ a) : mset μ a c b = μ b := if_neg h
theorem mset_mset {μ : Mm} {a : Nat} {c c' : Cl} : mset (mset μ a c) a c' = mset μ a c' := by
  funext q
  unfold mset
  by_cases h : q = a
  · rw [if_pos h, if_pos h]
  · rw [if_neg h, if_neg h, if_neg h]
theorem mset_id {μ : Mm} {a : Nat} {c : Cl} (h : μ a = some c) : mset μ a c = μ := by
  funext q
  unfold mset
  by_cases hq : q = a
  · rw [if_pos hq, hq, h]
  · rw [if_neg hq]
theorem MemA.set {G : GG} {μ : Mm} {H H1 : Heap} {a : Nat} {c0 c : Cl} (h : MemA G μ H) (h0 : μ a = some c0) (hc : va_at (gD G) classes (a, trc (gA G) c) H1) (oq : ∀ q : Nat, q ≠ a → H1[q]? = H[q]?) : MemA G (mset μ a c) H1 := by
  have hlo := (h.2 a c0 h0).2
  have hb := h.1.2
  refine ⟨⟨(oq _ (by omega)).trans h.1.1, hb⟩, fun q e hq => ?_⟩
  by_cases e1 : q = a
  · subst e1
    rw [mset_same] at hq
    cases hq
    exact ⟨hc, hlo⟩
  · rw [mset_ne e1] at hq
    obtain ⟨h1, h2⟩ := h.2 q e hq
    exact ⟨h1.kept (oq q e1), h2⟩
theorem MemA.push {G : GG} {μ : Mm} {H H1 : Heap} {c : Cl} (h : MemA G μ H) (hlo : gLo G ≤ H.size) (hc : va_at (gD G) classes (H.size, trc (gA G) c) H1) (oq : ∀ q : Nat, q < H.size → H1[q]? = H[q]?) : MemA G (mset μ H.size c) H1 := by
  have hb := h.1.2
  refine ⟨⟨(oq _ (by omega)).trans h.1.1, hb⟩, fun q e hq => ?_⟩
  by_cases e1 : q = H.size
  · subst e1
    rw [mset_same] at hq
    cases hq
    exact ⟨hc, hlo⟩
  · rw [mset_ne e1] at hq
    obtain ⟨h1, h2⟩ := h.2 q e hq
    exact ⟨h1.kept (oq q h1.lt), h2⟩
theorem MemA.lt {G : GG} {μ : Mm} {H : Heap} {a : Nat} {c : Cl} (h : MemA G μ H) (ha : μ a = some c) : a < H.size := (h.2 a c ha).1.lt
theorem KnA.alike {G : GG} {s U : State} (h : KnA G s) (hW : s.WarmedH U.vm) : KnA G U := by
  obtain ⟨h1, h2, ⟨h3, h4, h5, h6⟩, h7, h8⟩ := h
  exact ⟨va_K.moved hW.alike h1, fun q hq => va_Nw.warmM hW (h2 q hq), ⟨h3.moved hW.alike, h4.moved hW.alike, h5.moved hW.alike, h6.moved hW.alike⟩, State.isArrayOf_alike hW.alike h7, h8⟩
theorem KnA.same {G : GG} {s U : State} (h : KnA G s) (hv : s.vm = U.vm) : KnA G U := by
  obtain ⟨h1, h2, ⟨h3, h4, h5, h6⟩, h7, h8⟩ := h
  have hA : s.vm.Alike U.vm := by rw [hv]; exact Vm.Alike.refl U.vm
  exact ⟨va_K.moved hA h1, fun q hq => va_Nw.same rfl hv (h2 q hq), ⟨h3.moved hA, h4.moved hA, h5.moved hA, h6.moved hA⟩, State.isArrayOf_alike hA h7, h8⟩
theorem PcA.blind {G : GG} {av : List Value} {μ : Mm} {sz : Nat} : FrameBlind (PcA G av μ sz) := fun a U g mk ⟨h1, h2, h3, h4⟩ => ⟨h1, h2, h3, h4.same rfl⟩
theorem PcA.at {G : GG} {av : List Value} {μ : Mm} {sz : Nat} {s U : State} {H : Heap} (hK : KnA G s) (hM : MemA G μ H) (hz : H.size = sz) (hU : U.heap = H) (hW : s.WarmedH U.vm) : PcA G av μ sz av.toArray U := ⟨rfl, by rw [hU]; exact hz, by rw [hU]; exact hM, hK.alike hW⟩
-- locals
def entL : List Value → List (Option Value)
  | [] => []
  | v :: vs => if v.category = 2 then some v :: none :: entL vs else some v :: entL vs
def ent (av : List Value) (n : Nat) : List (Option Value) := entL av ++ List.replicate (n - (entL av).length) none
theorem entL_len (vs : List Value) : (entL vs).length = (lg_sl vs).length := by
  induction vs with
  | nil => rfl
  | cons v t ih =>
    by_cases h : v.category = 2 <;> simp [entL, lg_sl, h] at ih ⊢ <;> omega
theorem entL_args (vs : List Value) : ∀ (k i : Nat) (v : Value), (entL vs)[i]? = some (some v) → (k + i, v) ∈ lv_args k vs := by
  induction vs with
  | nil => intro k i v h; simp [entL] at h
  | cons w t ih =>
    intro k i v h
    by_cases hc : w.category = 2
    · simp only [entL, hc, if_true] at h
      simp only [lv_args, hc, if_true]
      match i, h with
      | 0, h => simp at h; subst h; exact List.mem_cons_self
      | 1, h => simp at h
      | i + 2, h =>
        have := ih (k + 2) i v (by simpa using h)
        exact List.mem_cons_of_mem _ (by rw [show k + (i + 2) = k + 2 + i by omega]; exact this)
    · simp only [entL, hc, if_false] at h
      simp only [lv_args, hc, if_false]
      match i, h with
      | 0, h => simp at h; subst h; exact List.mem_cons_self
      | i + 1, h =>
        have := ih (k + 1) i v (by simpa using h)
        exact List.mem_cons_of_mem _ (by rw [show k + (i + 1) = k + 1 + i by omega]; exact this)
theorem lvh.entry (vs : List Value) {n : Nat} (h : (lg_sl vs).length ≤ n) : lvh ((lg_sl vs ++ List.replicate (n - (lg_sl vs).length) Slot.unset).toArray) n (ent vs n) := by
  obtain ⟨h1, h2, h3⟩ := lv_entry vs h
  refine ⟨by unfold ent; rw [List.length_append, List.length_replicate, entL_len]; omega, h1, h2, fun i v hi => ?_⟩
  have hi2 : (entL vs)[i]? = some (some v) := by
    unfold ent at hi
    by_cases hl : i < (entL vs).length
    · rw [List.getElem?_append_left hl] at hi
      exact hi
    · rw [List.getElem?_append_right (by omega)] at hi
      have := List.mem_of_getElem? hi
      rw [List.mem_replicate] at this
      cases this.2
  have := entL_args vs 0 i v hi2
  rw [Nat.zero_add] at this
  exact h3 (i, v) this
def okst (L : List (Option Value)) (i : Nat) : Bool := match L[i - 1]? with
  | some (some w) => w.category == 1
  | _ => true
theorem lvh.store {ls : Array Slot} {n : Nat} {L : List (Option Value)} {i : Nat} {v : Value} (h : lvh ls n L) (hi : i < n) (hc : v.category = 1) (ho : okst L i = true) : ∃ ls', storeLocals ls i v = some ls' ∧ lvh ls' n (L.set i (some v)) := by
  obtain ⟨h1, h2, h3, h4⟩ := h
  have key : ∀ l : List (Nat × Value), lv_has ls n l → ∃ ls', storeLocals ls i v = some ls' ∧ lv_has ls' n ((i, v) :: l.filter (fun q => !(q.1 == i) && !(q.1 + 1 == i && q.2.category == 2))) := fun l hl => lv_store1 hl hi hc
  obtain ⟨ls', e1, h5, h6, h7⟩ := key [] ⟨h2, h3, fun q hq => absurd hq List.not_mem_nil⟩
  refine ⟨ls', e1, by rw [List.length_set]; exact h1, h5, h6, fun j w hj => ?_⟩
  by_cases hji : j = i
  · subst hji
    rw [List.getElem?_set_self (by omega)] at hj
    cases hj
    exact h7 (j, v) List.mem_cons_self
  · rw [List.getElem?_set_ne (Ne.symm hji)] at hj
    have hw := h4 j w hj
    obtain ⟨ls2, e2, -, -, h8⟩ := key [(j, w)] ⟨h2, h3, fun q hq => by rw [List.mem_singleton.mp hq]; exact hw⟩
    have e3 : ls' = ls2 := Option.some.inj (e1.symm.trans e2)
    subst e3
    refine h8 (j, w) (List.mem_cons_of_mem _ (List.mem_filter.mpr ⟨List.mem_singleton.mpr rfl, ?_⟩))
    simp only [Bool.and_eq_true, Bool.not_eq_true', beq_eq_false_iff_ne, ne_eq, Bool.and_eq_false_iff]
    refine ⟨hji, ?_⟩
    by_cases hj1 : j + 1 = i
    · right
      have e4 : i - 1 = j := by omega
      unfold okst at ho
      rw [e4, hj] at ho
      have : w.category = 1 := by simpa using ho
      omega
    · exact Or.inl hj1
def lmask : List Bool → List (Option Value) → List (Option Value)
  | b :: bs, o :: L => (if b then o else none) :: lmask bs L
  | _, L => L
theorem lmask_len : ∀ (bs : List Bool) (L : List (Option Value)), (lmask bs L).length = L.length
  | [], L => by simp [lmask]
  | _ :: _, [] => by simp [lmask]
  | b :: bs, o :: L => by simp [lmask, lmask_len bs L]
theorem lmask_get : ∀ (bs : List Bool) (L : List (Option Value)) (i : Nat) (v : Value), (lmask bs L)[i]? = some (some v) → L[i]? = some (some v)
  | [], L, i, v, h => by simpa [lmask] using h
  | _ :: _, [], i, v, h => by simp [lmask] at h
  | b :: bs, o :: L, i, v, h => by
    cases i with
    | zero =>
      cases b
      · simp [lmask] at h
      · simpa [lmask] using h
    | succ i =>
      have := lmask_get bs L i v (by simpa [lmask] using h)
      simpa using this
theorem lvh.mask {ls : Array Slot} {n : Nat} {L : List (Option Value)} (bs : List Bool) (h : lvh ls n L) : lvh ls n (lmask bs L) := ⟨by rw [lmask_len]; exact h.1, h.2.1, h.2.2.1, fun i v hi => h.2.2.2 i v (lmask_get bs L i v hi)⟩
/-! ===== from a run to a contract ===== -/
theorem EvA.of {G : GG} {d : Nat} {K : MK} {av : List Value} {μ : Mm} {sz mc ms : Nat} {Q : Option Value → Mm → Prop} (hp : plainName K.1.cls = true) (hn : (lg_sl av).length ≤ K.2.2.1) {L : List (Option Value)} (hL : ent av K.2.2.1 = L) (h : Rn G d K 0 L [] μ sz mc ms Q) : EvA G d K av μ sz mc ms Q := by
  intro hlo
  refine Met.ofW (cc := K.2.1) (maxL := K.2.2.1) (ret := K.2.2.2) hp rfl ?_
  intro p e s m args below meth c s₁ B hml hv
  obtain ⟨rfl, hsz, hM, hK⟩ := hv
  have hts0 := atoms_spec (ws := Cond.code K.1 K.2.1 K.2.2.1 K.2.2.2 :: lwT) B.pre
  have hl := lvh.entry av hn
  rw [hL] at hl
  rw [lg_entry_eq]
  refine h p e _ s m _ below meth c s.heap [] 0 0 _ _ ⟨⟨B.exec, B.bytes, hml, findClass_of_methodNamed B.named, fun w hw => hts0 w (List.mem_cons_of_mem _ hw)⟩, ⟨B.returns, B.notSynchronized, (name_of_methodNamed B.named B.method).1⟩, hK, by omega, Nat.le_refl _, Nat.le_refl _⟩ hl hM hsz va_S.rf (Nat.le_of_eq (Nat.zero_add _)) (Nat.le_of_eq (Nat.zero_add _)) ?_
  intro r μ' H' locs' pc' ls' hQ hM' hz' hS' hR
  have hlocks := B.notSynchronized
  have hq : ∀ t : State, t.heap = H' → s.WarmedH t.vm → QcA G (sz + mc) Q av.toArray s (.returned r) t := fun t ht _ => ⟨r, μ', rfl, hQ, by rw [ht]; exact hM', by rw [ht]; exact hz', hS'.F ht⟩
  match r, hQ, hR, hq with
  | none, hQ, hR, hq => exact W.vret B.exec B.bytes (B.returns.trans hR.1) hq hS'.2.2 hR.2 hlocks
  | some (.int v), hQ, hR, hq =>
    obtain ⟨ty, r1, r2, r3⟩ := hR
    exact W.zret B.exec B.bytes (B.returns.trans r1) r2 hq hS'.2.2 r3 hlocks
  | some .null, hQ, hR, hq =>
    obtain ⟨C, r1, r3⟩ := hR
    exact W.aret B.exec B.bytes (B.returns.trans r1) (Or.inl ⟨_, rfl⟩) (Or.inl rfl) hq hS'.2.2 r3 hlocks
  | some (.ref a), hQ, hR, hq =>
    obtain ⟨C, r1, r3⟩ := hR
    exact W.aret B.exec B.bytes (B.returns.trans r1) (Or.inl ⟨_, rfl⟩) (Or.inr ⟨a, rfl⟩) hq hS'.2.2 r3 hlocks
theorem EvA.imp {G : GG} {d : Nat} {K : MK} {av : List Value} {μ : Mm} {sz mc ms : Nat} {Q Q' : Option Value → Mm → Prop} (h : EvA G d K av μ sz mc ms Q) (hQ : ∀ r μ', Q r μ' → Q' r μ') : EvA G d K av μ sz mc ms Q' := by
  intro hlo p e ha hc hk s m args below hf hpre hP hk2
  obtain ⟨k, o, h1, h2, h3, ⟨r, μ', q1, q2, q3⟩, q4⟩ := h hlo p e ha hc hk s m args below hf hpre hP hk2
  exact ⟨k, o, h1, h2, h3, ⟨r, μ', q1, hQ _ _ q2, q3⟩, q4⟩
end
section
theorem lwG {w : Cond} (hw : w ∈ lwT) : GoodIn lwT (w :: lwT) := fun z hz => (List.mem_cons.mp hz).elim (fun e => e ▸ lwT_good w hw) (lwT_good z)
section RULES
variable {G : GG} {d : Nat} {K : MK} {pc : Nat} {L : List (Option Value)} {st : List Value} {μ : Mm} {sz mc ms : Nat} {Q : Option Value → Mm → Prop}
theorem Rn.iconst {n : Int} {v : Int32} (hd : decode K.2.1 pc = .ok (.iconst n, 1)) (hv : Int32.ofInt n = v) (h : Rn G d K (pc + 1) L (.int v :: st) μ sz mc ms Q) : Rn G d K (pc) L (st) μ sz mc ms Q := by
  intro p e R s m args below meth c H locs cells slots ls Z C hl hM hz hS hc hs hE
  exact lv_iconst C.1.1 C.1.2.1 hd hv (h p e R s m args below meth c H locs cells slots ls Z C hl hM hz hS hc hs hE)
theorem Rn.bipush {n : Int} {v : Int32} (hd : decode K.2.1 pc = .ok (.bipush n, 2)) (hv : (Int8.ofInt n).toInt32 = v) (h : Rn G d K (pc + 2) L (.int v :: st) μ sz mc ms Q) : Rn G d K (pc) L (st) μ sz mc ms Q := by
  intro p e R s m args below meth c H locs cells slots ls Z C hl hM hz hS hc hs hE
  exact lv_bipush C.1.1 C.1.2.1 hd hv (h p e R s m args below meth c H locs cells slots ls Z C hl hM hz hS hc hs hE)
theorem Rn.sipush {n : Int} {v : Int32} (hd : decode K.2.1 pc = .ok (.sipush n, 3)) (hv : (Int16.ofInt n).toInt32 = v) (h : Rn G d K (pc + 3) L (.int v :: st) μ sz mc ms Q) : Rn G d K (pc) L (st) μ sz mc ms Q := by
  intro p e R s m args below meth c H locs cells slots ls Z C hl hM hz hS hc hs hE
  exact lv_sipush C.1.1 C.1.2.1 hd hv (h p e R s m args below meth c H locs cells slots ls Z C hl hM hz hS hc hs hE)
theorem Rn.null  (hd : decode K.2.1 pc = .ok (.aconst_null, 1))  (h : Rn G d K (pc + 1) L (.null :: st) μ sz mc ms Q) : Rn G d K (pc) L (st) μ sz mc ms Q := by
  intro p e R s m args below meth c H locs cells slots ls Z C hl hM hz hS hc hs hE
  exact lv_null C.1.1 C.1.2.1 hd  (h p e R s m args below meth c H locs cells slots ls Z C hl hM hz hS hc hs hE)
theorem Rn.iload_n {k : Fin 4} {i : Nat} {x : Int32} (hd : decode K.2.1 pc = .ok (.iload_n k, 1)) (hi : (k : Nat) = i) (hL : L[i]? = some (some (.int x))) (h : Rn G d K (pc + 1) L (.int x :: st) μ sz mc ms Q) : Rn G d K (pc) L (st) μ sz mc ms Q := by
  intro p e R s m args below meth c H locs cells slots ls Z C hl hM hz hS hc hs hE
  exact lv_iload_n C.1.1 C.1.2.1 hd hi (hl.2.2.2 _ _ hL) (h p e R s m args below meth c H locs cells slots ls Z C hl hM hz hS hc hs hE)
theorem Rn.iload {i : Nat} {x : Int32} (hd : decode K.2.1 pc = .ok (.iload i, 2)) (hL : L[i]? = some (some (.int x))) (h : Rn G d K (pc + 2) L (.int x :: st) μ sz mc ms Q) : Rn G d K (pc) L (st) μ sz mc ms Q := by
  intro p e R s m args below meth c H locs cells slots ls Z C hl hM hz hS hc hs hE
  exact lv_iload C.1.1 C.1.2.1 hd (hl.2.2.2 _ _ hL) (h p e R s m args below meth c H locs cells slots ls Z C hl hM hz hS hc hs hE)
theorem Rn.aload_n {k : Fin 4} {i : Nat} {x : Nat} (hd : decode K.2.1 pc = .ok (.aload_n k, 1)) (hi : (k : Nat) = i) (hL : L[i]? = some (some (.ref x))) (h : Rn G d K (pc + 1) L (.ref x :: st) μ sz mc ms Q) : Rn G d K (pc) L (st) μ sz mc ms Q := by
  intro p e R s m args below meth c H locs cells slots ls Z C hl hM hz hS hc hs hE
  exact lv_aload_n C.1.1 C.1.2.1 hd hi (hl.2.2.2 _ _ hL) (h p e R s m args below meth c H locs cells slots ls Z C hl hM hz hS hc hs hE)
theorem Rn.aload {i : Nat} {x : Nat} (hd : decode K.2.1 pc = .ok (.aload i, 2)) (hL : L[i]? = some (some (.ref x))) (h : Rn G d K (pc + 2) L (.ref x :: st) μ sz mc ms Q) : Rn G d K (pc) L (st) μ sz mc ms Q := by
  intro p e R s m args below meth c H locs cells slots ls Z C hl hM hz hS hc hs hE
  exact lv_aload C.1.1 C.1.2.1 hd (hl.2.2.2 _ _ hL) (h p e R s m args below meth c H locs cells slots ls Z C hl hM hz hS hc hs hE)
theorem Rn.lload_n {k : Fin 4} {i : Nat} {x : Int64} (hd : decode K.2.1 pc = .ok (.lload_n k, 1)) (hi : (k : Nat) = i) (hL : L[i]? = some (some (.long x))) (h : Rn G d K (pc + 1) L (.long x :: st) μ sz mc ms Q) : Rn G d K (pc) L (st) μ sz mc ms Q := by
  intro p e R s m args below meth c H locs cells slots ls Z C hl hM hz hS hc hs hE
  exact lv_lload_n C.1.1 C.1.2.1 hd hi (hl.2.2.2 _ _ hL) (h p e R s m args below meth c H locs cells slots ls Z C hl hM hz hS hc hs hE)
theorem Rn.lload {i : Nat} {x : Int64} (hd : decode K.2.1 pc = .ok (.lload i, 2)) (hL : L[i]? = some (some (.long x))) (h : Rn G d K (pc + 2) L (.long x :: st) μ sz mc ms Q) : Rn G d K (pc) L (st) μ sz mc ms Q := by
  intro p e R s m args below meth c H locs cells slots ls Z C hl hM hz hS hc hs hE
  exact lv_lload C.1.1 C.1.2.1 hd (hl.2.2.2 _ _ hL) (h p e R s m args below meth c H locs cells slots ls Z C hl hM hz hS hc hs hE)
theorem Rn.aload_nN {k : Fin 4} {i : Nat} (hd : decode K.2.1 pc = .ok (.aload_n k, 1)) (hi : (k : Nat) = i) (hL : L[i]? = some (some .null)) (h : Rn G d K (pc + 1) L (.null :: st) μ sz mc ms Q) : Rn G d K (pc) L (st) μ sz mc ms Q := by
  intro p e R s m args below meth c H locs cells slots ls Z C hl hM hz hS hc hs hE
  exact lv_aload_nN C.1.1 C.1.2.1 hd hi (hl.2.2.2 _ _ hL) (h p e R s m args below meth c H locs cells slots ls Z C hl hM hz hS hc hs hE)
theorem Rn.aloadN {i : Nat} (hd : decode K.2.1 pc = .ok (.aload i, 2)) (hL : L[i]? = some (some .null)) (h : Rn G d K (pc + 2) L (.null :: st) μ sz mc ms Q) : Rn G d K (pc) L (st) μ sz mc ms Q := by
  intro p e R s m args below meth c H locs cells slots ls Z C hl hM hz hS hc hs hE
  exact lv_aloadN C.1.1 C.1.2.1 hd (hl.2.2.2 _ _ hL) (h p e R s m args below meth c H locs cells slots ls Z C hl hM hz hS hc hs hE)
theorem Rn.aload_nq {k : Fin 4} {i : Nat} {x : Option Nat} (hd : decode K.2.1 pc = .ok (.aload_n k, 1)) (hi : (k : Nat) = i) (hL : L[i]? = some (some (va_rf x))) (h : Rn G d K (pc + 1) L (va_rf x :: st) μ sz mc ms Q) : Rn G d K (pc) L (st) μ sz mc ms Q := by
  cases x with
  | none => exact Rn.aload_nN hd hi hL h
  | some a => exact Rn.aload_n hd hi hL h
theorem Rn.istore_n {k : Fin 4} {i : Nat} {x : Int32} {L' : List (Option Value)} (hd : decode K.2.1 pc = .ok (.istore_n k, 1)) (hi : (k : Nat) = i) (hn : i < K.2.2.1) (ho : okst L i = true) (hL : L.set i (some (.int x)) = L') (h : Rn G d K (pc + 1) L' (st) μ sz mc ms Q) : Rn G d K (pc) L (.int x :: st) μ sz mc ms Q := by
  subst hi
  intro p e R s m args below meth c H locs cells slots ls Z C hl hM hz hS hc hs hE
  obtain ⟨ls', e', h'⟩ := hl.store (v := (.int x)) hn rfl ho
  intro T hT X
  rw [hL] at h'
  obtain ⟨t, a, b⟩ := h p e R s m args below meth c H locs cells slots ls' Z C h' hM hz hS hc hs hE T hT X
  have hexec := C.1.1
  have hb := C.1.2.1
  refine ⟨t, ?_, b⟩
  jvm_step X.here [X.here.top, ↓top_set X.here.top, hexec, hb, hd, e']
  exact a
theorem Rn.istore {i : Nat} {x : Int32} {L' : List (Option Value)} (hd : decode K.2.1 pc = .ok (.istore i, 2)) (hn : i < K.2.2.1) (ho : okst L i = true) (hL : L.set i (some (.int x)) = L') (h : Rn G d K (pc + 2) L' (st) μ sz mc ms Q) : Rn G d K (pc) L (.int x :: st) μ sz mc ms Q := by
  intro p e R s m args below meth c H locs cells slots ls Z C hl hM hz hS hc hs hE
  obtain ⟨ls', e', h'⟩ := hl.store (v := (.int x)) hn rfl ho
  intro T hT X
  rw [hL] at h'
  obtain ⟨t, a, b⟩ := h p e R s m args below meth c H locs cells slots ls' Z C h' hM hz hS hc hs hE T hT X
  have hexec := C.1.1
  have hb := C.1.2.1
  refine ⟨t, ?_, b⟩
  jvm_step X.here [X.here.top, ↓top_set X.here.top, hexec, hb, hd, e']
  exact a
theorem Rn.astore_n {k : Fin 4} {i : Nat} {x : Nat} {L' : List (Option Value)} (hd : decode K.2.1 pc = .ok (.astore_n k, 1)) (hi : (k : Nat) = i) (hn : i < K.2.2.1) (ho : okst L i = true) (hL : L.set i (some (.ref x)) = L') (h : Rn G d K (pc + 1) L' (st) μ sz mc ms Q) : Rn G d K (pc) L (.ref x :: st) μ sz mc ms Q := by
  subst hi
  intro p e R s m args below meth c H locs cells slots ls Z C hl hM hz hS hc hs hE
  obtain ⟨ls', e', h'⟩ := hl.store (v := (.ref x)) hn rfl ho
  intro T hT X
  rw [hL] at h'
  obtain ⟨t, a, b⟩ := h p e R s m args below meth c H locs cells slots ls' Z C h' hM hz hS hc hs hE T hT X
  have hexec := C.1.1
  have hb := C.1.2.1
  refine ⟨t, ?_, b⟩
  jvm_step X.here [X.here.top, ↓top_set X.here.top, hexec, hb, hd, e', Value.isRef]
  exact a
theorem Rn.astore {i : Nat} {x : Nat} {L' : List (Option Value)} (hd : decode K.2.1 pc = .ok (.astore i, 2)) (hn : i < K.2.2.1) (ho : okst L i = true) (hL : L.set i (some (.ref x)) = L') (h : Rn G d K (pc + 2) L' (st) μ sz mc ms Q) : Rn G d K (pc) L (.ref x :: st) μ sz mc ms Q := by
  intro p e R s m args below meth c H locs cells slots ls Z C hl hM hz hS hc hs hE
  obtain ⟨ls', e', h'⟩ := hl.store (v := (.ref x)) hn rfl ho
  intro T hT X
  rw [hL] at h'
  obtain ⟨t, a, b⟩ := h p e R s m args below meth c H locs cells slots ls' Z C h' hM hz hS hc hs hE T hT X
  have hexec := C.1.1
  have hb := C.1.2.1
  refine ⟨t, ?_, b⟩
  jvm_step X.here [X.here.top, ↓top_set X.here.top, hexec, hb, hd, e', Value.isRef]
  exact a
theorem Rn.astore_nN {k : Fin 4} {i : Nat} {L' : List (Option Value)} (hd : decode K.2.1 pc = .ok (.astore_n k, 1)) (hi : (k : Nat) = i) (hn : i < K.2.2.1) (ho : okst L i = true) (hL : L.set i (some (.null)) = L') (h : Rn G d K (pc + 1) L' (st) μ sz mc ms Q) : Rn G d K (pc) L (.null :: st) μ sz mc ms Q := by
  subst hi
  intro p e R s m args below meth c H locs cells slots ls Z C hl hM hz hS hc hs hE
  obtain ⟨ls', e', h'⟩ := hl.store (v := (.null)) hn rfl ho
  intro T hT X
  rw [hL] at h'
  obtain ⟨t, a, b⟩ := h p e R s m args below meth c H locs cells slots ls' Z C h' hM hz hS hc hs hE T hT X
  have hexec := C.1.1
  have hb := C.1.2.1
  refine ⟨t, ?_, b⟩
  jvm_step X.here [X.here.top, ↓top_set X.here.top, hexec, hb, hd, e', Value.isRef]
  exact a
theorem Rn.astoreN {i : Nat} {L' : List (Option Value)} (hd : decode K.2.1 pc = .ok (.astore i, 2)) (hn : i < K.2.2.1) (ho : okst L i = true) (hL : L.set i (some (.null)) = L') (h : Rn G d K (pc + 2) L' (st) μ sz mc ms Q) : Rn G d K (pc) L (.null :: st) μ sz mc ms Q := by
  intro p e R s m args below meth c H locs cells slots ls Z C hl hM hz hS hc hs hE
  obtain ⟨ls', e', h'⟩ := hl.store (v := (.null)) hn rfl ho
  intro T hT X
  rw [hL] at h'
  obtain ⟨t, a, b⟩ := h p e R s m args below meth c H locs cells slots ls' Z C h' hM hz hS hc hs hE T hT X
  have hexec := C.1.1
  have hb := C.1.2.1
  refine ⟨t, ?_, b⟩
  jvm_step X.here [X.here.top, ↓top_set X.here.top, hexec, hb, hd, e', Value.isRef]
  exact a
theorem Rn.astore_nq {k : Fin 4} {i : Nat} {x : Option Nat} {L' : List (Option Value)} (hd : decode K.2.1 pc = .ok (.astore_n k, 1)) (hi : (k : Nat) = i) (hn : i < K.2.2.1) (ho : okst L i = true) (hL : L.set i (some (va_rf x)) = L') (h : Rn G d K (pc + 1) L' (st) μ sz mc ms Q) : Rn G d K (pc) L (va_rf x :: st) μ sz mc ms Q := by
  cases x with
  | none => exact Rn.astore_nN hd hi hn ho hL h
  | some a => exact Rn.astore_n hd hi hn ho hL h
theorem Rn.iinc {i : Nat} {n : Int} {x v : Int32} {L' : List (Option Value)} (hd : decode K.2.1 pc = .ok (.iinc i n, 3)) (hx : L[i]? = some (some (.int x))) (hv : x + Int32.ofInt n = v) (hn : i < K.2.2.1) (ho : okst L i = true) (hL : L.set i (some (.int v)) = L') (h : Rn G d K (pc + 3) L' (st) μ sz mc ms Q) : Rn G d K (pc) L (st) μ sz mc ms Q := by
  subst hv
  intro p e R s m args below meth c H locs cells slots ls Z C hl hM hz hS hc hs hE
  have hg := hl.2.2.2 _ _ hx
  obtain ⟨ls', e', h'⟩ := hl.store (v := (.int (x + Int32.ofInt n))) hn rfl ho
  intro T hT X
  rw [hL] at h'
  obtain ⟨t, a, b⟩ := h p e R s m args below meth c H locs cells slots ls' Z C h' hM hz hS hc hs hE T hT X
  have hexec := C.1.1
  have hb := C.1.2.1
  refine ⟨t, ?_, b⟩
  jvm_step X.here [X.here.top, ↓top_set X.here.top, hexec, hb, hd, hg, e']
  exact a
theorem Rn.iadd {x y v : Int32} (hd : decode K.2.1 pc = .ok (.iadd, 1)) (hv : x + y = v) (h : Rn G d K (pc + 1) L (.int v :: st) μ sz mc ms Q) : Rn G d K (pc) L (.int y :: .int x :: st) μ sz mc ms Q := by
  subst hv
  intro p e R s m args below meth c H locs cells slots ls Z C hl hM hz hS hc hs hE
  exact lv_iadd C.1.1 C.1.2.1 hd (h p e R s m args below meth c H locs cells slots ls Z C hl hM hz hS hc hs hE)
theorem Rn.isub {x y v : Int32} (hd : decode K.2.1 pc = .ok (.isub, 1)) (hv : x - y = v) (h : Rn G d K (pc + 1) L (.int v :: st) μ sz mc ms Q) : Rn G d K (pc) L (.int y :: .int x :: st) μ sz mc ms Q := by
  subst hv
  intro p e R s m args below meth c H locs cells slots ls Z C hl hM hz hS hc hs hE
  exact lv_isub C.1.1 C.1.2.1 hd (h p e R s m args below meth c H locs cells slots ls Z C hl hM hz hS hc hs hE)
theorem Rn.imul {x y v : Int32} (hd : decode K.2.1 pc = .ok (.imul, 1)) (hv : x * y = v) (h : Rn G d K (pc + 1) L (.int v :: st) μ sz mc ms Q) : Rn G d K (pc) L (.int y :: .int x :: st) μ sz mc ms Q := by
  subst hv
  intro p e R s m args below meth c H locs cells slots ls Z C hl hM hz hS hc hs hE
  exact lv_imul C.1.1 C.1.2.1 hd (h p e R s m args below meth c H locs cells slots ls Z C hl hM hz hS hc hs hE)
theorem Rn.ior {x y v : Int32} (hd : decode K.2.1 pc = .ok (.ior, 1)) (hv : (x ||| y) = v) (h : Rn G d K (pc + 1) L (.int v :: st) μ sz mc ms Q) : Rn G d K (pc) L (.int y :: .int x :: st) μ sz mc ms Q := by
  subst hv
  intro p e R s m args below meth c H locs cells slots ls Z C hl hM hz hS hc hs hE
  exact lv_ior C.1.1 C.1.2.1 hd (h p e R s m args below meth c H locs cells slots ls Z C hl hM hz hS hc hs hE)
theorem Rn.iand {x y v : Int32} (hd : decode K.2.1 pc = .ok (.iand, 1)) (hv : (x &&& y) = v) (h : Rn G d K (pc + 1) L (.int v :: st) μ sz mc ms Q) : Rn G d K (pc) L (.int y :: .int x :: st) μ sz mc ms Q := by
  subst hv
  intro p e R s m args below meth c H locs cells slots ls Z C hl hM hz hS hc hs hE
  exact lv_iand C.1.1 C.1.2.1 hd (h p e R s m args below meth c H locs cells slots ls Z C hl hM hz hS hc hs hE)
theorem Rn.ishl {x y v : Int32} (hd : decode K.2.1 pc = .ok (.ishl, 1)) (hv : x <<< (y &&& 31) = v) (h : Rn G d K (pc + 1) L (.int v :: st) μ sz mc ms Q) : Rn G d K (pc) L (.int y :: .int x :: st) μ sz mc ms Q := by
  subst hv
  intro p e R s m args below meth c H locs cells slots ls Z C hl hM hz hS hc hs hE
  exact lv_ishl C.1.1 C.1.2.1 hd (h p e R s m args below meth c H locs cells slots ls Z C hl hM hz hS hc hs hE)
theorem Rn.idiv {x y v : Int32} (hd : decode K.2.1 pc = .ok (.idiv, 1)) (hne : ¬ y = 0) (hv : x / y = v) (h : Rn G d K (pc + 1) L (.int v :: st) μ sz mc ms Q) : Rn G d K (pc) L (.int y :: .int x :: st) μ sz mc ms Q := by
  subst hv
  intro p e R s m args below meth c H locs cells slots ls Z C hl hM hz hS hc hs hE
  exact lv_idiv C.1.1 C.1.2.1 hd hne (h p e R s m args below meth c H locs cells slots ls Z C hl hM hz hS hc hs hE)
theorem Rn.i2l {x : Int32} {v : Int64} (hd : decode K.2.1 pc = .ok (.i2l, 1)) (hv : x.toInt64 = v) (h : Rn G d K (pc + 1) L (.long v :: st) μ sz mc ms Q) : Rn G d K (pc) L (.int x :: st) μ sz mc ms Q := by
  intro p e R s m args below meth c H locs cells slots ls Z C hl hM hz hS hc hs hE
  exact lv_i2l C.1.1 C.1.2.1 hd hv (h p e R s m args below meth c H locs cells slots ls Z C hl hM hz hS hc hs hE)
theorem Rn.l2i {x : Int64} {v : Int32} (hd : decode K.2.1 pc = .ok (.l2i, 1)) (hv : x.toInt32 = v) (h : Rn G d K (pc + 1) L (.int v :: st) μ sz mc ms Q) : Rn G d K (pc) L (.long x :: st) μ sz mc ms Q := by
  intro p e R s m args below meth c H locs cells slots ls Z C hl hM hz hS hc hs hE
  exact lv_l2i C.1.1 C.1.2.1 hd hv (h p e R s m args below meth c H locs cells slots ls Z C hl hM hz hS hc hs hE)
theorem Rn.lushr {x : Int64} {y : Int32} {v : Int64} (hd : decode K.2.1 pc = .ok (.lushr, 1)) (hv : (x.toUInt64 >>> (y.toInt64.toUInt64 &&& Int64.toUInt64 63)).toInt64 = v) (h : Rn G d K (pc + 1) L (.long v :: st) μ sz mc ms Q) : Rn G d K (pc) L (.int y :: .long x :: st) μ sz mc ms Q := by
  intro p e R s m args below meth c H locs cells slots ls Z C hl hM hz hS hc hs hE
  exact lv_lushr C.1.1 C.1.2.1 hd hv (h p e R s m args below meth c H locs cells slots ls Z C hl hM hz hS hc hs hE)
theorem Rn.lshl {x : Int64} {y : Int32} {v : Int64} (hd : decode K.2.1 pc = .ok (.lshl, 1)) (hv : x <<< (y.toInt64 &&& 63) = v) (h : Rn G d K (pc + 1) L (.long v :: st) μ sz mc ms Q) : Rn G d K (pc) L (.int y :: .long x :: st) μ sz mc ms Q := by
  intro p e R s m args below meth c H locs cells slots ls Z C hl hM hz hS hc hs hE
  exact lv_lshl C.1.1 C.1.2.1 hd hv (h p e R s m args below meth c H locs cells slots ls Z C hl hM hz hS hc hs hE)
theorem Rn.lshr {x : Int64} {y : Int32} {v : Int64} (hd : decode K.2.1 pc = .ok (.lshr, 1)) (hv : x >>> (y.toInt64 &&& 63) = v) (h : Rn G d K (pc + 1) L (.long v :: st) μ sz mc ms Q) : Rn G d K (pc) L (.int y :: .long x :: st) μ sz mc ms Q := by
  intro p e R s m args below meth c H locs cells slots ls Z C hl hM hz hS hc hs hE
  exact lv_lshr C.1.1 C.1.2.1 hd hv (h p e R s m args below meth c H locs cells slots ls Z C hl hM hz hS hc hs hE)
theorem Rn.land {x y v : Int64} (hd : decode K.2.1 pc = .ok (.land, 1)) (hv : (x &&& y) = v) (h : Rn G d K (pc + 1) L (.long v :: st) μ sz mc ms Q) : Rn G d K (pc) L (.long y :: .long x :: st) μ sz mc ms Q := by
  subst hv
  intro p e R s m args below meth c H locs cells slots ls Z C hl hM hz hS hc hs hE
  exact lv_land C.1.1 C.1.2.1 hd (h p e R s m args below meth c H locs cells slots ls Z C hl hM hz hS hc hs hE)
theorem Rn.lor {x y v : Int64} (hd : decode K.2.1 pc = .ok (.lor, 1)) (hv : (x ||| y) = v) (h : Rn G d K (pc + 1) L (.long v :: st) μ sz mc ms Q) : Rn G d K (pc) L (.long y :: .long x :: st) μ sz mc ms Q := by
  subst hv
  intro p e R s m args below meth c H locs cells slots ls Z C hl hM hz hS hc hs hE
  exact lv_lor C.1.1 C.1.2.1 hd (h p e R s m args below meth c H locs cells slots ls Z C hl hM hz hS hc hs hE)
theorem Rn.dup {va : Value} (hd : decode K.2.1 pc = .ok (.dup, 1)) (hva : va.category = 1) (h : Rn G d K (pc + 1) L (va :: va :: st) μ sz mc ms Q) : Rn G d K (pc) L (va :: st) μ sz mc ms Q := by
  intro p e R s m args below meth c H locs cells slots ls Z C hl hM hz hS hc hs hE
  exact lv_dup C.1.1 C.1.2.1 hd hva (h p e R s m args below meth c H locs cells slots ls Z C hl hM hz hS hc hs hE)
theorem Rn.pop {va : Value} (hd : decode K.2.1 pc = .ok (.pop, 1)) (hva : va.category = 1) (h : Rn G d K (pc + 1) L (st) μ sz mc ms Q) : Rn G d K (pc) L (va :: st) μ sz mc ms Q := by
  intro p e R s m args below meth c H locs cells slots ls Z C hl hM hz hS hc hs hE
  exact lv_pop C.1.1 C.1.2.1 hd hva (h p e R s m args below meth c H locs cells slots ls Z C hl hM hz hS hc hs hE)
theorem Rn.dup2 {va vb : Value} (hd : decode K.2.1 pc = .ok (.dup2, 1)) (hva : va.category = 1) (hvb : vb.category = 1) (h : Rn G d K (pc + 1) L (va :: vb :: va :: vb :: st) μ sz mc ms Q) : Rn G d K (pc) L (va :: vb :: st) μ sz mc ms Q := by
  intro p e R s m args below meth c H locs cells slots ls Z C hl hM hz hS hc hs hE
  exact lv_dup2_11 C.1.1 C.1.2.1 hd hva hvb (h p e R s m args below meth c H locs cells slots ls Z C hl hM hz hS hc hs hE)
theorem Rn.if_eq {x : Int32} {off : Int} (tgt : Nat) (hd : decode K.2.1 pc = .ok (.ifCond .eq off, 3)) (ht : (pc : Int) + off = (tgt : Int)) (kt : x = 0 → Rn G d K (tgt) L (st) μ sz mc ms Q) (kf : ¬ x = 0 → Rn G d K (pc + 3) L (st) μ sz mc ms Q) : Rn G d K (pc) L (.int x :: st) μ sz mc ms Q := by
  intro p e R s m args below meth c H locs cells slots ls Z C hl hM hz hS hc hs hE
  exact lv_if_eq C.1.1 C.1.2.1 hd ht (fun q => kt q p e R s m args below meth c H locs cells slots ls Z C hl hM hz hS hc hs hE) (fun q => kf q p e R s m args below meth c H locs cells slots ls Z C hl hM hz hS hc hs hE)
theorem Rn.if_ne {x : Int32} {off : Int} (tgt : Nat) (hd : decode K.2.1 pc = .ok (.ifCond .ne off, 3)) (ht : (pc : Int) + off = (tgt : Int)) (kt : ¬ x = 0 → Rn G d K (tgt) L (st) μ sz mc ms Q) (kf : x = 0 → Rn G d K (pc + 3) L (st) μ sz mc ms Q) : Rn G d K (pc) L (.int x :: st) μ sz mc ms Q := by
  intro p e R s m args below meth c H locs cells slots ls Z C hl hM hz hS hc hs hE
  exact lv_if_ne C.1.1 C.1.2.1 hd ht (fun q => kt q p e R s m args below meth c H locs cells slots ls Z C hl hM hz hS hc hs hE) (fun q => kf q p e R s m args below meth c H locs cells slots ls Z C hl hM hz hS hc hs hE)
theorem Rn.if_lt {x : Int32} {off : Int} (tgt : Nat) (hd : decode K.2.1 pc = .ok (.ifCond .lt off, 3)) (ht : (pc : Int) + off = (tgt : Int)) (kt : x < 0 → Rn G d K (tgt) L (st) μ sz mc ms Q) (kf : ¬ x < 0 → Rn G d K (pc + 3) L (st) μ sz mc ms Q) : Rn G d K (pc) L (.int x :: st) μ sz mc ms Q := by
  intro p e R s m args below meth c H locs cells slots ls Z C hl hM hz hS hc hs hE
  exact lv_if_lt C.1.1 C.1.2.1 hd ht (fun q => kt q p e R s m args below meth c H locs cells slots ls Z C hl hM hz hS hc hs hE) (fun q => kf q p e R s m args below meth c H locs cells slots ls Z C hl hM hz hS hc hs hE)
theorem Rn.if_ge {x : Int32} {off : Int} (tgt : Nat) (hd : decode K.2.1 pc = .ok (.ifCond .ge off, 3)) (ht : (pc : Int) + off = (tgt : Int)) (kt : 0 ≤ x → Rn G d K (tgt) L (st) μ sz mc ms Q) (kf : ¬ 0 ≤ x → Rn G d K (pc + 3) L (st) μ sz mc ms Q) : Rn G d K (pc) L (.int x :: st) μ sz mc ms Q := by
  intro p e R s m args below meth c H locs cells slots ls Z C hl hM hz hS hc hs hE
  exact lv_if_ge C.1.1 C.1.2.1 hd ht (fun q => kt q p e R s m args below meth c H locs cells slots ls Z C hl hM hz hS hc hs hE) (fun q => kf q p e R s m args below meth c H locs cells slots ls Z C hl hM hz hS hc hs hE)
theorem Rn.if_gt {x : Int32} {off : Int} (tgt : Nat) (hd : decode K.2.1 pc = .ok (.ifCond .gt off, 3)) (ht : (pc : Int) + off = (tgt : Int)) (kt : 0 < x → Rn G d K (tgt) L (st) μ sz mc ms Q) (kf : ¬ 0 < x → Rn G d K (pc + 3) L (st) μ sz mc ms Q) : Rn G d K (pc) L (.int x :: st) μ sz mc ms Q := by
  intro p e R s m args below meth c H locs cells slots ls Z C hl hM hz hS hc hs hE
  exact lv_if_gt C.1.1 C.1.2.1 hd ht (fun q => kt q p e R s m args below meth c H locs cells slots ls Z C hl hM hz hS hc hs hE) (fun q => kf q p e R s m args below meth c H locs cells slots ls Z C hl hM hz hS hc hs hE)
theorem Rn.if_le {x : Int32} {off : Int} (tgt : Nat) (hd : decode K.2.1 pc = .ok (.ifCond .le off, 3)) (ht : (pc : Int) + off = (tgt : Int)) (kt : x ≤ 0 → Rn G d K (tgt) L (st) μ sz mc ms Q) (kf : ¬ x ≤ 0 → Rn G d K (pc + 3) L (st) μ sz mc ms Q) : Rn G d K (pc) L (.int x :: st) μ sz mc ms Q := by
  intro p e R s m args below meth c H locs cells slots ls Z C hl hM hz hS hc hs hE
  exact lv_if_le C.1.1 C.1.2.1 hd ht (fun q => kt q p e R s m args below meth c H locs cells slots ls Z C hl hM hz hS hc hs hE) (fun q => kf q p e R s m args below meth c H locs cells slots ls Z C hl hM hz hS hc hs hE)
theorem Rn.icmp_eq {x y : Int32} {off : Int} (tgt : Nat) (hd : decode K.2.1 pc = .ok (.if_icmp .eq off, 3)) (ht : (pc : Int) + off = (tgt : Int)) (kt : x = y → Rn G d K (tgt) L (st) μ sz mc ms Q) (kf : ¬ x = y → Rn G d K (pc + 3) L (st) μ sz mc ms Q) : Rn G d K (pc) L (.int y :: .int x :: st) μ sz mc ms Q := by
  intro p e R s m args below meth c H locs cells slots ls Z C hl hM hz hS hc hs hE
  exact lv_icmp_eq C.1.1 C.1.2.1 hd ht (fun q => kt q p e R s m args below meth c H locs cells slots ls Z C hl hM hz hS hc hs hE) (fun q => kf q p e R s m args below meth c H locs cells slots ls Z C hl hM hz hS hc hs hE)
theorem Rn.icmp_ne {x y : Int32} {off : Int} (tgt : Nat) (hd : decode K.2.1 pc = .ok (.if_icmp .ne off, 3)) (ht : (pc : Int) + off = (tgt : Int)) (kt : ¬ x = y → Rn G d K (tgt) L (st) μ sz mc ms Q) (kf : x = y → Rn G d K (pc + 3) L (st) μ sz mc ms Q) : Rn G d K (pc) L (.int y :: .int x :: st) μ sz mc ms Q := by
  intro p e R s m args below meth c H locs cells slots ls Z C hl hM hz hS hc hs hE
  exact lv_icmp_ne C.1.1 C.1.2.1 hd ht (fun q => kt q p e R s m args below meth c H locs cells slots ls Z C hl hM hz hS hc hs hE) (fun q => kf q p e R s m args below meth c H locs cells slots ls Z C hl hM hz hS hc hs hE)
theorem Rn.icmp_lt {x y : Int32} {off : Int} (tgt : Nat) (hd : decode K.2.1 pc = .ok (.if_icmp .lt off, 3)) (ht : (pc : Int) + off = (tgt : Int)) (kt : x < y → Rn G d K (tgt) L (st) μ sz mc ms Q) (kf : ¬ x < y → Rn G d K (pc + 3) L (st) μ sz mc ms Q) : Rn G d K (pc) L (.int y :: .int x :: st) μ sz mc ms Q := by
  intro p e R s m args below meth c H locs cells slots ls Z C hl hM hz hS hc hs hE
  exact lv_icmp_lt C.1.1 C.1.2.1 hd ht (fun q => kt q p e R s m args below meth c H locs cells slots ls Z C hl hM hz hS hc hs hE) (fun q => kf q p e R s m args below meth c H locs cells slots ls Z C hl hM hz hS hc hs hE)
theorem Rn.icmp_ge {x y : Int32} {off : Int} (tgt : Nat) (hd : decode K.2.1 pc = .ok (.if_icmp .ge off, 3)) (ht : (pc : Int) + off = (tgt : Int)) (kt : y ≤ x → Rn G d K (tgt) L (st) μ sz mc ms Q) (kf : ¬ y ≤ x → Rn G d K (pc + 3) L (st) μ sz mc ms Q) : Rn G d K (pc) L (.int y :: .int x :: st) μ sz mc ms Q := by
  intro p e R s m args below meth c H locs cells slots ls Z C hl hM hz hS hc hs hE
  exact lv_icmp_ge C.1.1 C.1.2.1 hd ht (fun q => kt q p e R s m args below meth c H locs cells slots ls Z C hl hM hz hS hc hs hE) (fun q => kf q p e R s m args below meth c H locs cells slots ls Z C hl hM hz hS hc hs hE)
theorem Rn.icmp_gt {x y : Int32} {off : Int} (tgt : Nat) (hd : decode K.2.1 pc = .ok (.if_icmp .gt off, 3)) (ht : (pc : Int) + off = (tgt : Int)) (kt : y < x → Rn G d K (tgt) L (st) μ sz mc ms Q) (kf : ¬ y < x → Rn G d K (pc + 3) L (st) μ sz mc ms Q) : Rn G d K (pc) L (.int y :: .int x :: st) μ sz mc ms Q := by
  intro p e R s m args below meth c H locs cells slots ls Z C hl hM hz hS hc hs hE
  exact lv_icmp_gt C.1.1 C.1.2.1 hd ht (fun q => kt q p e R s m args below meth c H locs cells slots ls Z C hl hM hz hS hc hs hE) (fun q => kf q p e R s m args below meth c H locs cells slots ls Z C hl hM hz hS hc hs hE)
theorem Rn.icmp_le {x y : Int32} {off : Int} (tgt : Nat) (hd : decode K.2.1 pc = .ok (.if_icmp .le off, 3)) (ht : (pc : Int) + off = (tgt : Int)) (kt : x ≤ y → Rn G d K (tgt) L (st) μ sz mc ms Q) (kf : ¬ x ≤ y → Rn G d K (pc + 3) L (st) μ sz mc ms Q) : Rn G d K (pc) L (.int y :: .int x :: st) μ sz mc ms Q := by
  intro p e R s m args below meth c H locs cells slots ls Z C hl hM hz hS hc hs hE
  exact lv_icmp_le C.1.1 C.1.2.1 hd ht (fun q => kt q p e R s m args below meth c H locs cells slots ls Z C hl hM hz hS hc hs hE) (fun q => kf q p e R s m args below meth c H locs cells slots ls Z C hl hM hz hS hc hs hE)
theorem Rn.goto {off : Int} (tgt : Nat) (hd : decode K.2.1 pc = .ok (.goto off, 3)) (ht : (pc : Int) + off = (tgt : Int)) (h : Rn G d K (tgt) L (st) μ sz mc ms Q) : Rn G d K (pc) L (st) μ sz mc ms Q := by
  intro p e R s m args below meth c H locs cells slots ls Z C hl hM hz hS hc hs hE
  exact lv_goto C.1.1 C.1.2.1 hd ht (h p e R s m args below meth c H locs cells slots ls Z C hl hM hz hS hc hs hE)
theorem Rn.ifnonnull {x : Nat} {off : Int} (tgt : Nat) (hd : decode K.2.1 pc = .ok (.ifnonnull off, 3)) (ht : (pc : Int) + off = (tgt : Int)) (h : Rn G d K (tgt) L (st) μ sz mc ms Q) : Rn G d K (pc) L (.ref x :: st) μ sz mc ms Q := by
  intro p e R s m args below meth c H locs cells slots ls Z C hl hM hz hS hc hs hE
  exact lv_ifnonnull C.1.1 C.1.2.1 hd ht (h p e R s m args below meth c H locs cells slots ls Z C hl hM hz hS hc hs hE)
theorem Rn.ifnull {x : Nat} {off : Int} (hd : decode K.2.1 pc = .ok (.ifnull off, 3)) (h : Rn G d K (pc + 3) L (st) μ sz mc ms Q) : Rn G d K (pc) L (.ref x :: st) μ sz mc ms Q := by
  intro p e R s m args below meth c H locs cells slots ls Z C hl hM hz hS hc hs hE
  exact lv_ifnull C.1.1 C.1.2.1 hd (h p e R s m args below meth c H locs cells slots ls Z C hl hM hz hS hc hs hE)
theorem Rn.ifnonnullN {off : Int} (hd : decode K.2.1 pc = .ok (.ifnonnull off, 3)) (h : Rn G d K (pc + 3) L (st) μ sz mc ms Q) : Rn G d K (pc) L (.null :: st) μ sz mc ms Q := by
  intro p e R s m args below meth c H locs cells slots ls Z C hl hM hz hS hc hs hE
  exact lv_ifnonnullN C.1.1 C.1.2.1 hd (h p e R s m args below meth c H locs cells slots ls Z C hl hM hz hS hc hs hE)
theorem Rn.ifnullN {off : Int} (tgt : Nat) (hd : decode K.2.1 pc = .ok (.ifnull off, 3)) (ht : (pc : Int) + off = (tgt : Int)) (h : Rn G d K (tgt) L (st) μ sz mc ms Q) : Rn G d K (pc) L (.null :: st) μ sz mc ms Q := by
  intro p e R s m args below meth c H locs cells slots ls Z C hl hM hz hS hc hs hE
  exact lv_ifnullN C.1.1 C.1.2.1 hd ht (h p e R s m args below meth c H locs cells slots ls Z C hl hM hz hS hc hs hE)
theorem Rn.lookup {dflt : Int} {ps : Array (Int × Int)} {len : Nat} {x : Int32} {off : Int} (tgt : Nat) (hd : decode K.2.1 pc = .ok (.lookupswitch dflt ps, len)) (hp : (ps.toList.zip (ps.toList.drop 1)).all (fun (a, next) => a.1 < next.1) = true) (ho : Op.lookupswitch.offset ps.toList dflt x.toInt = off) (ht : (pc : Int) + off = (tgt : Int)) (h : Rn G d K (tgt) L (st) μ sz mc ms Q) : Rn G d K (pc) L (.int x :: st) μ sz mc ms Q := by
  intro p e R s m args below meth c H locs cells slots ls Z C hl hM hz hS hc hs hE
  exact lv_lookup C.1.1 C.1.2.1 hd hp ho ht (h p e R s m args below meth c H locs cells slots ls Z C hl hM hz hS hc hs hE)
theorem Rn.tableOut {dflt lo hi : Int} {offs : Array Int} {len : Nat} {x : Int32} (tgt : Nat) (hd : decode K.2.1 pc = .ok (.tableswitch dflt lo hi offs, len)) (hx : x.toInt < lo ∨ hi < x.toInt) (ht : (pc : Int) + dflt = (tgt : Int)) (h : Rn G d K (tgt) L (st) μ sz mc ms Q) : Rn G d K (pc) L (.int x :: st) μ sz mc ms Q := by
  intro p e R s m args below meth c H locs cells slots ls Z C hl hM hz hS hc hs hE
  exact lv_tableOut C.1.1 C.1.2.1 hd hx ht (h p e R s m args below meth c H locs cells slots ls Z C hl hM hz hS hc hs hE)
theorem Rn.tableIn {dflt lo hi : Int} {offs : Array Int} {len : Nat} {x : Int32} {off : Int} (tgt : Nat) (hd : decode K.2.1 pc = .ok (.tableswitch dflt lo hi offs, len)) (h1 : ¬ x.toInt < lo) (h2 : ¬ hi < x.toInt) (ho : offs[(x.toInt - lo).toNat]? = some off) (ht : (pc : Int) + off = (tgt : Int)) (h : Rn G d K (tgt) L (st) μ sz mc ms Q) : Rn G d K (pc) L (.int x :: st) μ sz mc ms Q := by
  intro p e R s m args below meth c H locs cells slots ls Z C hl hM hz hS hc hs hE
  exact lv_tableIn C.1.1 C.1.2.1 hd h1 h2 ho ht (h p e R s m args below meth c H locs cells slots ls Z C hl hM hz hS hc hs hE)
theorem Rn.ldc {idx : Nat} {v : Int32} (hd : decode K.2.1 pc = .ok (.ldc idx, 2)) (hq : Cond.constant K.1.cls idx v ∈ lwT) (h : Rn G d K (pc + 2) L (.int v :: st) μ sz mc ms Q) : Rn G d K (pc) L (st) μ sz mc ms Q := by
  intro p e R s m args below meth c H locs cells slots ls Z C hl hM hz hS hc hs hE
  exact lv_ldc C.1.1 C.1.2.1 C.1.2.2.2.1 (C.1.2.2.2.2 _ hq) hd (h p e R s m args below meth c H locs cells slots ls Z C hl hM hz hS hc hs hE)
theorem Rn.ldc2 {idx : Nat} {v : Int64} (hd : decode K.2.1 pc = .ok (.ldc2_w idx, 3)) (hq : Cond.constantLong K.1.cls idx v ∈ lwT) (h : Rn G d K (pc + 3) L (.long v :: st) μ sz mc ms Q) : Rn G d K (pc) L (st) μ sz mc ms Q := by
  intro p e R s m args below meth c H locs cells slots ls Z C hl hM hz hS hc hs hE
  exact lv_ldc2 C.1.1 C.1.2.1 C.1.2.2.2.1 (C.1.2.2.2.2 _ hq) hd (h p e R s m args below meth c H locs cells slots ls Z C hl hM hz hS hc hs hE)
theorem Rn.mask (bs : List Bool) {L' : List (Option Value)} (hL : lmask bs L = L') (h : Rn G d K pc L' st μ sz mc ms Q) : Rn G d K (pc) L (st) μ sz mc ms Q := by
  intro p e R s m args below meth c H locs cells slots ls Z C hl hM hz hS hc hs hE
  exact h p e R s m args below meth c H locs cells slots ls Z C (hL ▸ hl.mask bs) hM hz hS hc hs hE
theorem Rn.imp {Q' : Option Value → Mm → Prop} (h : Rn G d K pc L st μ sz mc ms Q') (hQ : ∀ r μ', Q' r μ' → Q r μ') : Rn G d K (pc) L (st) μ sz mc ms Q := by
  intro p e R s m args below meth c H locs cells slots ls Z C hl hM hz hS hc hs hE
  exact h p e R s m args below meth c H locs cells slots ls Z C hl hM hz hS hc hs (fun r μ' H' locs' pc' ls' hq => hE r μ' H' locs' pc' ls' (hQ _ _ hq))
-- the end
theorem Rn.ireturn {v : Int32} {ty : FieldType} (hd : decode K.2.1 pc = .ok (.ireturn, 1)) (hr : K.2.2.2 = some ty) (hn : narrow ty (.int v) = .int v) (hQ : Q (some (.int v)) μ) : Rn G d K pc L [.int v] μ sz 0 ms Q := by
  intro p e R s m args below meth c H locs cells slots ls Z C hl hM hz hS hc hs hE
  exact W.widen (by omega) (by omega) (hE _ _ _ _ _ _ hQ hM (by omega) hS ⟨ty, hr, hn, hd⟩)
theorem Rn.vreturn (hd : decode K.2.1 pc = .ok (.return_, 1)) (hr : K.2.2.2 = none) (hQ : Q none μ) : Rn G d K pc L [] μ sz 0 ms Q := by
  intro p e R s m args below meth c H locs cells slots ls Z C hl hM hz hS hc hs hE
  exact W.widen (by omega) (by omega) (hE _ _ _ _ _ _ hQ hM (by omega) hS ⟨hr, hd⟩)
theorem Rn.areturn {o : Option Nat} {C : String} (hd : decode K.2.1 pc = .ok (.areturn, 1)) (hr : K.2.2.2 = some (.object C)) (hQ : Q (some (va_rf o)) μ) : Rn G d K pc L [va_rf o] μ sz 0 ms Q := by
  intro p e R s m args below meth c H locs cells slots ls Z C2 hl hM hz hS hc hs hE
  cases o with
  | none => exact W.widen (by omega) (by omega) (hE _ _ _ _ _ _ hQ hM (by omega) hS ⟨C, hr, hd⟩)
  | some a => exact W.widen (by omega) (by omega) (hE _ _ _ _ _ _ hQ hM (by omega) hS ⟨C, hr, hd⟩)
-- fields
theorem Rn.getfield {idx ci k a : Nat} {fs : List Value} {v : Value} (hd : decode K.2.1 pc = .ok (.getfield idx, 3)) (hf : FOk ci k K.1.cls idx) (hμ : μ a = some (.inr (ci, fs))) (hv : fs[k]? = some v) (h : Rn G d K (pc + 3) L (v :: st) μ sz mc ms Q) : Rn G d K pc L (.ref a :: st) μ sz mc ms Q := by
  intro p e R s m args below meth c H locs cells slots ls Z C hl hM hz hS hc hs hE
  obtain ⟨C0, T0, N0, f1, f2, f3, f4⟩ := hf
  have hP : va_P (gD G) classes [(a, .inr (ci, fs))] H := fun k q hq => by
    have hk : k < 1 := (List.getElem?_eq_some_iff.mp hq).1
    rw [show k = 0 by omega] at hq
    cases hq
    exact (hM.2 a _ hμ).1
  exact va_get C.1.1 C.1.2.1 C.1.2.2.2.2 f3 C.1.2.2.2.1 C.2.2.1.1 hP 0 rfl f1 k f2 (C.1.2.2.2.2 _ f4) (fun _ h9 => h9) hv hd (h p e R s m args below meth c H locs cells slots ls Z C hl hM hz hS hc hs hE)
theorem Rn.putfield {idx ci k a : Nat} {fin : Bool} {ty : FieldType} {fs fs' : List Value} {v : Value} (hd : decode K.2.1 pc = .ok (.putfield idx, 3)) (hf : POk ci k K.1.cls idx fin ty) (hfi : fin = true → K.1.name = "<init>") (hμ : μ a = some (.inr (ci, fs))) (hl0 : k < fs.length) (hn : narrow ty v = v) (hfit : fits ty v = true) (hfs : fs.set k v = fs') (h : Rn G d K (pc + 3) L st (mset μ a (.inr (ci, fs'))) sz mc ms Q) : Rn G d K pc L (v :: .ref a :: st) μ sz mc ms Q := by
  subst hfs
  intro p e R s m args below meth c H locs cells slots ls Z C hl hM hz hS hc hs hE
  obtain ⟨C0, T0, N0, ty0, f1, f2, f3, f4, f5, f6, f7, f8, f9⟩ := hf
  have hK := C.2.2.1.1
  have hts := C.1.2.2.2.2
  have hown := C.1.2.2.2.1
  obtain ⟨⟨r, h1, cell, q1, q2, q3, q4⟩, hlo⟩ := hM.2 a _ hμ
  have hr : r = (C0, T0, N0) := Option.some.inj (h1.symm.trans f1)
  subst hr
  have hap := va_apart (own := K.1.cls) hts f3 ty0 f5 f6 hK f1
  obtain ⟨hSl, hfc, kC, hkC, hkind⟩ := hK.1 ci _ f1
  obtain ⟨cf, kf, fi, f, hi, hsl⟩ := hSl k f2
  have hlay := hts _ (f3 _ (u_in_lay f2))
  unfold u_lay at hlay
  have hst := (u_facts hfc hkC (u_lays hts f3 f2) hi).1
  have fin1 : ∀ H1 : Heap, H1[a]? = some (cell.setSlot f.slot v) → H1.size = H.size → (∀ q, q ≠ a → H1[q]? = H[q]?) → W p G.1 e R s m args below meth c H1 (locs ++ [⟨a, f.slot⟩]) cells slots Z (F0 m (pc + 3) ls st) := by
    intro H1 e1 e2 e3
    rw [hsl] at e1
    have hat : va_at (gD G) classes (a, trc (gA G) (.inr (ci, fs.set k v))) H1 := ⟨_, f1, t_OB.to (V := updV (vp_V fs) k v) ⟨_, e1, q2, q3, t_set q4 hap f2 v⟩ (fun j _ => vp_updV_set hl0 v j)⟩
    exact h p e R s m args below meth c H1 _ cells slots ls Z C hl (hM.set hμ hat e3) (e2.trans hz) (hS.put e2 e3 hlo) hc hs hE
  cases hfin : fin with
  | false =>
    rw [if_neg (by rw [f7, hfin]; decide)] at hlay
    have h6 := u_store hfc hkC hkind hlay hi f8 hn hfit
    exact W.putK C.1.1 C.1.2.1 (f := f) ⟨hown, hts _ f4, ⟨_, _, _, hi⟩, hst⟩ (by rw [q2]; exact h6) q1 q3 (by rw [hsl]; exact k2_hasslot (q4 k f2)) rfl rfl hd fin1
  | true =>
    rw [if_pos (by rw [f7, hfin])] at hlay
    have hcf : m.cls = cf := by
      obtain ⟨_, _, c', _, _, _, -, -, hf', -, -, -, hown2, -⟩ := Cond.laysFinal_spec hlay
      have e1 : c' = cf := by have := hi.symm.trans hf'; simp at this; exact this.1.symm
      rw [f9 hfin] at hown2
      rw [← e1]; exact Option.some.inj (hown.symm.trans hown2)
    have h6 := u_fits hfc hkC hkind (Or.inr hlay) hi f8 hn hfit
    exact W.putFinK C.1.1 C.1.2.1 hown (hts _ f4) hi hst hcf (C.2.1.2.2.trans (hfi hfin)) (by rw [q2]; exact h6) q1 q3 (by rw [hsl]; exact k2_hasslot (q4 k f2)) rfl rfl hd fin1
-- arrays
theorem Rn.iaload {a n : Nat} {f : Nat → Int32} {i : Int32} (hd : decode K.2.1 pc = .ok (.iaload, 1)) (hμ : μ a = some (.inl (0, n, .inl f))) (hin : vp_in i n) {v : Int32} (hv : f i.toNatClampNeg = v) (h : Rn G d K (pc + 1) L (.int v :: st) μ sz mc ms Q) : Rn G d K pc L (.int i :: .ref a :: st) μ sz mc ms Q := by
  subst hv
  intro p e R s m args below meth c H locs cells slots ls Z C hl hM hz hS hc hs hE
  have hP := (hM.2 a _ hμ).1
  have hlt : i.toNatClampNeg < n := Nat.not_le.mp fun q => hin (Or.inr q)
  exact W.iald (v := .int (f i.toNatClampNeg)) C.1.1 C.1.2.1 hP ((C.2.2.1.1.2 0 _ rfl).1 n (fun j => .int (f j))) (fun q => by cases q) (by show ¬ (i < 0 ∨ (arrV _ _ _).slots.size ≤ _); rw [arrV_size]; exact hin) (by show (arrV _ _ _).slots[_]? = _; rw [arrV_read _ _ hlt]) rfl rfl hd (h p e R s m args below meth c H locs cells slots ls Z C hl hM hz hS hc hs hE)
theorem Rn.zaload {a n : Nat} {f : Nat → Int32} {i : Int32} (hd : decode K.2.1 pc = .ok (.baload, 1)) (hμ : μ a = some (.inl (1, n, .inl f))) (hin : vp_in i n) {v : Int32} (hv : f i.toNatClampNeg = v) (h : Rn G d K (pc + 1) L (.int v :: st) μ sz mc ms Q) : Rn G d K pc L (.int i :: .ref a :: st) μ sz mc ms Q := by
  subst hv
  intro p e R s m args below meth c H locs cells slots ls Z C hl hM hz hS hc hs hE
  have hP := (hM.2 a _ hμ).1
  have hlt : i.toNatClampNeg < n := Nat.not_le.mp fun q => hin (Or.inr q)
  exact W.zald (v := .int (f i.toNatClampNeg)) C.1.1 C.1.2.1 hP ((C.2.2.1.1.2 1 _ rfl).1 n (fun j => .int (f j))) (fun q => by cases q) (by show ¬ (i < 0 ∨ (arrV _ _ _).slots.size ≤ _); rw [arrV_size]; exact hin) (by show (arrV _ _ _).slots[_]? = _; rw [arrV_read _ _ hlt]) rfl rfl hd (h p e R s m args below meth c H locs cells slots ls Z C hl hM hz hS hc hs hE)
theorem Rn.aaload {a n t : Nat} {f : Nat → Option Nat} {i : Int32} {ty : String} (hd : decode K.2.1 pc = .ok (.aaload, 1)) (hμ : μ a = some (.inl (t, n, .inr (.inr (.inr (.inr f)))))) (ht : ∀ dA : Nat → ClassId, (vtys dA)[t]? = some (dA t, .object ty)) (hin : vp_in i n) {v : Option Nat} (hv : f i.toNatClampNeg = v) (h : Rn G d K (pc + 1) L (va_rf v :: st) μ sz mc ms Q) : Rn G d K pc L (.int i :: .ref a :: st) μ sz mc ms Q := by
  subst hv
  intro p e R s m args below meth c H locs cells slots ls Z C hl hM hz hS hc hs hE
  have hP := (hM.2 a _ hμ).1
  have hlt : i.toNatClampNeg < n := Nat.not_le.mp fun q => hin (Or.inr q)
  exact W.aald (v := va_rf (f i.toNatClampNeg)) (ty := .object ty) C.1.1 C.1.2.1 hP ((C.2.2.1.1.2 t _ (ht _)).1 n (fun j => va_rf (f j))) rfl (fun q => by cases q) (by show ¬ (i < 0 ∨ (arrV _ _ _).slots.size ≤ _); rw [arrV_size]; exact hin) (by show (arrV _ _ _).slots[_]? = _; rw [arrV_read _ _ hlt]) rfl rfl hd (h p e R s m args below meth c H locs cells slots ls Z C hl hM hz hS hc hs hE)
theorem Rn.alen {a t : Nat} {x : vp_A} {v : Int32} {ty : FieldType} (hd : decode K.2.1 pc = .ok (.arraylength, 1)) (hμ : μ a = some (.inl (t, x))) (ht : ∀ dA : Nat → ClassId, (vtys dA)[t]? = some (dA t, ty)) (hv : Int32.ofNat x.1 = v) (h : Rn G d K (pc + 1) L (.int v :: st) μ sz mc ms Q) : Rn G d K pc L (.ref a :: st) μ sz mc ms Q := by
  intro p e R s m args below meth c H locs cells slots ls Z C hl hM hz hS hc hs hE
  have hP : va_P (gD G) classes [(a, .inl (gA G t, x))] H := fun k q hq => by
    have hk : k < 1 := (List.getElem?_eq_some_iff.mp hq).1
    rw [show k = 0 by omega] at hq
    cases hq
    exact (hM.2 a _ hμ).1
  exact va_alen C.1.1 C.1.2.1 C.2.2.1.1 hP 0 t rfl (ht _) hv hd (h p e R s m args below meth c H locs cells slots ls Z C hl hM hz hS hc hs hE)
theorem updV_int {f : Nat → Int32} {k : Nat} {x : Int32} : updV (fun j => Value.int (f j)) k (.int x) = fun j => Value.int (upd f k x j) := by
  funext q
  by_cases hq : q = k
  · subst hq
    simp [updV, upd]
  · simp [updV, upd, hq]
theorem Rn.iastore {a n : Nat} {f f' : Nat → Int32} {i x : Int32} (hd : decode K.2.1 pc = .ok (.iastore, 1)) (hμ : μ a = some (.inl (0, n, .inl f))) (hin : vp_in i n) (hf : upd f i.toNatClampNeg x = f') (h : Rn G d K (pc + 1) L st (mset μ a (.inl (0, n, .inl f'))) sz mc ms Q) : Rn G d K pc L (.int x :: .int i :: .ref a :: st) μ sz mc ms Q := by
  subst hf
  intro p e R s m args below meth c H locs cells slots ls Z C hl hM hz hS hc hs hE
  obtain ⟨hP, hlo⟩ := hM.2 a _ hμ
  refine W.iast C.1.1 C.1.2.1 hP ((C.2.2.1.1.2 0 _ rfl).1 n (fun j => .int (f j))) (fun q => by cases q) (by show ¬ (i < 0 ∨ (arrV _ _ _).slots.size ≤ _); rw [arrV_size]; exact hin) rfl rfl hd fun H1 e1 z oq => ?_
  have hat : va_at (gD G) classes (a, trc (gA G) (.inl (0, n, .inl (upd f i.toNatClampNeg x)))) H1 := by
    show H1[a]? = some (vp_cell _ _)
    rw [e1, vp_cell_i, vp_cell_i, arrV_store, updV_int]
  exact h p e R s m args below meth c H1 _ cells slots ls Z C hl (hM.set hμ hat oq) (z.trans hz) (hS.put z oq hlo) hc hs hE
theorem Rn.zastore {a n : Nat} {f f' : Nat → Int32} {i x : Int32} (hd : decode K.2.1 pc = .ok (.bastore, 1)) (hμ : μ a = some (.inl (1, n, .inl f))) (hin : vp_in i n) (hx : narrow .boolean (.int x) = .int x) (hf : upd f i.toNatClampNeg x = f') (h : Rn G d K (pc + 1) L st (mset μ a (.inl (1, n, .inl f'))) sz mc ms Q) : Rn G d K pc L (.int x :: .int i :: .ref a :: st) μ sz mc ms Q := by
  subst hf
  intro p e R s m args below meth c H locs cells slots ls Z C hl hM hz hS hc hs hE
  obtain ⟨hP, hlo⟩ := hM.2 a _ hμ
  refine W.zast C.1.1 C.1.2.1 hP ((C.2.2.1.1.2 1 _ rfl).1 n (fun j => .int (f j))) (fun q => by cases q) (by show ¬ (i < 0 ∨ (arrV _ _ _).slots.size ≤ _); rw [arrV_size]; exact hin) rfl rfl hd fun H1 e1 z oq => ?_
  have hat : va_at (gD G) classes (a, trc (gA G) (.inl (1, n, .inl (upd f i.toNatClampNeg x)))) H1 := by
    show H1[a]? = some (vp_cell _ _)
    rw [e1, hx, vp_cell_i, vp_cell_i, arrV_store, updV_int]
  exact h p e R s m args below meth c H1 _ cells slots ls Z C hl (hM.set hμ hat oq) (z.trans hz) (hS.put z oq hlo) hc hs hE
theorem Rn.aastore {a n t v ci : Nat} {f f' : Nat → Option Nat} {i : Int32} {r : vw_C} {vs : List Value} (hd : decode K.2.1 pc = .ok (.aastore, 1)) (hμ : μ a = some (.inl (t, n, .inr (.inr (.inr (.inr f)))))) (ht : ∀ dA : Nat → ClassId, (vtys dA)[t]? = some (dA t, .object r.1)) (hv : μ v = some (.inr (ci, vs))) (hci : classes[ci]? = some r) (hin : vp_in i n) (hf : va_up f i.toNatClampNeg (some v) = f') (h : Rn G d K (pc + 1) L st (mset μ a (.inl (t, n, .inr (.inr (.inr (.inr f')))))) sz mc ms Q) : Rn G d K pc L (.ref v :: .int i :: .ref a :: st) μ sz mc ms Q := by
  subst hf
  intro p e R s m args below meth c H locs cells slots ls Z C hl hM hz hS hc hs hE
  have hlt : i.toNatClampNeg < n := Nat.not_le.mp fun q => hin (Or.inr q)
  have h0 : ¬ i < 0 := fun q => hin (Or.inl q)
  have hK := C.2.2.1.1
  obtain ⟨hP, hlo⟩ := hM.2 a _ hμ
  obtain ⟨⟨r', hr', cellV, g1, g2, g3, -⟩, -⟩ := hM.2 v _ hv
  have hcls := (hK.1 ci r hci).2
  obtain ⟨kA, comp, k1, k2, k3, -⟩ := (hK.2 t _ (ht _)).2
  have hcomp : comp = (gD G).1 ci := Option.some.inj (k3.symm.trans hcls.1)
  subst hcomp
  obtain ⟨kC, hkC, -⟩ := hcls.2
  refine W.aast C.1.1 C.1.2.1 hP (fun q h => by cases h) (fun h => by cases h) k1 k2 rfl hkC ⟨h0, by show _ < (arrV _ _ _).slots.size; rw [arrV_size]; exact hlt⟩ g1 (fun q h => by rw [g3] at h; cases h) (by rw [g2]; exact hkC) (by rw [g2]; exact va_assign hcls) rfl rfl hd fun H1 e1 z oq => ?_
  have hat : va_at (gD G) classes (a, trc (gA G) (.inl (t, n, .inr (.inr (.inr (.inr (va_up f i.toNatClampNeg (some v)))))))) H1 := by
    show H1[a]? = some (vp_cell _ _)
    rw [e1, vp_cell_q, vp_cell_q, arrV_store]
    congr 2
    funext q
    by_cases hq : q = i.toNatClampNeg
    · subst hq
      simp [updV, va_up, va_rf]
    · simp [updV, va_up, hq]
  exact h p e R s m args below meth c H1 _ cells slots ls Z C hl (hM.set hμ hat oq) (z.trans hz) (hS.put z oq hlo) hc hs hE
-- making
theorem va_S.grow {A : Nat → Prop} {H0 H H1 : Heap} {locs : List Loc} (h : va_S A H0 H locs) (z : H1.size = H.size + 1) (oq : ∀ q : Nat, q < H.size → H1[q]? = H[q]?) : va_S A H0 H1 locs := ⟨by have := h.1; omega, fun x h1 h2 => (oq x (Nat.lt_of_lt_of_le h1 h.1)).trans (h.2.1 x h1 h2), h.2.2⟩
theorem Rn.newobj {idx ci N0 : Nat} {C0 : String} {T0 : u_T} {fs : List Value} (ty0 : Nat → FieldType) (hd : decode K.2.1 pc = .ok (.new idx, 3)) (hq : Cond.classLink K.1.cls idx C0 ∈ lwT) (hi : Cond.instantiable C0 N0 ∈ lwT) (hini : Cond.initialized C0 ∈ lwT) (hcl : classes[ci]? = some (C0, T0, N0)) (hin : ∀ w ∈ u_ws C0 T0 N0, w ∈ lwT) (hty : ∀ k, k < N0 → parseFieldDescriptor (T0 k).2.2.1 = some (ty0 k)) (hfs : ∀ j, j < N0 → defaultValue (ty0 j) = vp_V fs j) (h : Rn G d K (pc + 3) L (.ref sz :: st) (mset μ sz (.inr (ci, fs))) (sz + 1) mc ms Q) : Rn G d K pc L st μ sz (mc + 1) (ms + N0) Q := by
  intro p e R s m args below meth c H locs cells slots ls Z C hl hM hz hS hc hs hE
  have hts := C.1.2.2.2.2
  have hKn := C.2.2.1.1.1 ci _ hcl
  subst hz
  have hlo := C.2.2.2.1
  refine W.newcK C.1.1 C.1.2.1 C.1.2.2.2.1 (hts _ hq) (hts _ hi) (hts _ hini) rfl hd (by omega) (by omega) hKn.2.1 rfl fun H1 kC hkC e1 z1 o1 => ?_
  have hat : va_at (gD G) classes (H.size, trc (gA G) (.inr (ci, fs))) H1 := ⟨_, hcl, (u_born ty0 hts hin hKn hkC e1 hty).to hfs⟩
  exact h p e R s m args below meth c H1 locs (cells + 1) (slots + N0) ls Z C hl (hM.push (Nat.le_trans hlo hS.1) hat o1) z1 (hS.grow z1 o1) (by omega) (by omega) (by rw [show H.size + 1 + mc = H.size + (mc + 1) by omega]; exact hE)
theorem Rn.newints {i : Int32} {n : Nat} (hd : decode K.2.1 pc = .ok (.newarray .int, 2)) (hq : Cond.arrayClass .int ∈ lwT) (hi : ¬ i < 0) (hn : i.toNatClampNeg = n) (hb : n * 4 ≤ 536870912) (h : Rn G d K (pc + 2) L (.ref sz :: st) (mset μ sz (.inl (0, n, .inl (fun _ => 0)))) (sz + 1) mc ms Q) : Rn G d K pc L (.int i :: st) μ sz (mc + 1) (ms + n) Q := by
  intro p e R s m args below meth c H locs cells slots ls Z C hl hM hz hS hc hs hE
  subst hz
  have hlo := C.2.2.2.1
  refine va_newaK (atype := .int) C.1.1 C.1.2.1 (C.1.2.2.2.2 _ hq) rfl hd rfl hi hn hb (by omega) (by omega) rfl fun H1 cA e1 z1 o1 hAr hNm => ?_
  have hcA : cA = gA G 0 := Option.some.inj (hNm.symm.trans (C.2.2.1.1.2 0 _ rfl).2)
  subst hcA
  exact h p e R s m args below meth c H1 locs (cells + 1) (slots + n) ls Z C hl (hM.push (Nat.le_trans hlo hS.1) (show H1[H.size]? = some (vp_cell _ _) from e1) o1) z1 (hS.grow z1 o1) (by omega) (by omega) (by rw [show H.size + 1 + mc = H.size + (mc + 1) by omega]; exact hE)
theorem Rn.newbools {i : Int32} {n : Nat} (hd : decode K.2.1 pc = .ok (.newarray .boolean, 2)) (hq : Cond.arrayClass .boolean ∈ lwT) (hi : ¬ i < 0) (hn : i.toNatClampNeg = n) (hb : n * 1 ≤ 536870912) (h : Rn G d K (pc + 2) L (.ref sz :: st) (mset μ sz (.inl (1, n, .inl (fun _ => 0)))) (sz + 1) mc ms Q) : Rn G d K pc L (.int i :: st) μ sz (mc + 1) (ms + n) Q := by
  intro p e R s m args below meth c H locs cells slots ls Z C hl hM hz hS hc hs hE
  subst hz
  have hlo := C.2.2.2.1
  refine va_newaK (atype := .boolean) C.1.1 C.1.2.1 (C.1.2.2.2.2 _ hq) rfl hd rfl hi hn hb (by omega) (by omega) rfl fun H1 cA e1 z1 o1 hAr hNm => ?_
  have hcA : cA = gA G 1 := Option.some.inj (hNm.symm.trans (C.2.2.1.1.2 1 _ rfl).2)
  subst hcA
  exact h p e R s m args below meth c H1 locs (cells + 1) (slots + n) ls Z C hl (hM.push (Nat.le_trans hlo hS.1) (show H1[H.size]? = some (vp_cell _ _) from e1) o1) z1 (hS.grow z1 o1) (by omega) (by omega) (by rw [show H.size + 1 + mc = H.size + (mc + 1) by omega]; exact hE)
theorem Rn.newrefs {idx t n : Nat} {C0 : String} {i : Int32} (hd : decode K.2.1 pc = .ok (.anewarray idx, 3)) (hq : Cond.classLink K.1.cls idx C0 ∈ lwT) (hAO : ∀ U : State, (va_AO RX6 U ∧ va_AO RX3 U ∧ va_AO RX5 U ∧ va_AO RX4 U) → va_AO C0 U) (ht : ∀ dA : Nat → ClassId, (vtys dA)[t]? = some (dA t, .object C0)) (hi : ¬ i < 0) (hn : i.toNatClampNeg = n) (hb : n * 4 ≤ 536870912) (h : Rn G d K (pc + 3) L (.ref sz :: st) (mset μ sz (.inl (t, n, .inr (.inr (.inr (.inr (fun _ => none))))))) (sz + 1) mc ms Q) : Rn G d K pc L (.int i :: st) μ sz (mc + 1) (ms + n) Q := by
  intro p e R s m args below meth c H locs cells slots ls Z C hl hM hz hS hc hs hE
  subst hz
  subst hn
  have hlo := C.2.2.2.1
  refine W.anew C.1.1 C.1.2.1 C.1.2.2.2.1 (C.1.2.2.2.2 _ hq) (va_AO.use (hAO s C.2.2.1.2.2.1)) rfl hd rfl hi hb (by omega) (by omega) fun cA kA comp f1 f2 f3 f4 => ?_
  generalize hH1 : H.push ({ cls := cA, slots := Array.replicate i.toNatClampNeg .null, vm := .none } : Cell) = H1
  have z1 : H1.size = H.size + 1 := by rw [← hH1, Array.size_push]
  have e1 : H1[H.size]? = some (arrV cA i.toNatClampNeg (fun _ => .null)) := by rw [← hH1, Array.getElem?_push_size, ← arrV_new]
  have o1 : ∀ q : Nat, q < H.size → H1[q]? = H[q]? := fun q hq => by rw [← hH1, Array.getElem?_push, if_neg (Nat.ne_of_lt hq)]
  obtain ⟨kA2, comp2, g1, g2, g3, g4⟩ := (C.2.2.1.1.2 t _ (ht _)).2
  have hcA : cA = gA G t := Option.some.inj (f1.symm.trans g4)
  subst hcA
  exact h p e R s m args below meth c H1 locs (cells + 1) (slots + i.toNatClampNeg) ls Z C hl (hM.push (Nat.le_trans hlo hS.1) (show H1[H.size]? = some (vp_cell _ _) from e1) o1) z1 (hS.grow z1 o1) (by omega) (by omega) (by rw [show H.size + 1 + mc = H.size + (mc + 1) by omega]; exact hE)
-- the script
theorem Rn.sld {i : Int32} {v : Int32} (hd : decode K.2.1 pc = .ok (.iaload, 1)) (hin : vp_in i (gS G).slots.size) (hv : (gS G).slots[i.toNatClampNeg]? = some (.int v)) (h : Rn G d K (pc + 1) L (.int v :: st) μ sz mc ms Q) : Rn G d K pc L (.int i :: .ref (gB G) :: st) μ sz mc ms Q := by
  intro p e R s m args below meth c H locs cells slots ls Z C hl hM hz hS hc hs hE
  exact W.iald (v := .int v) C.1.1 C.1.2.1 hM.1.1 C.2.2.1.2.2.2.1 C.2.2.1.2.2.2.2 hin hv rfl rfl hd (h p e R s m args below meth c H locs cells slots ls Z C hl hM hz hS hc hs hE)
theorem Rn.slen {v : Int32} (hd : decode K.2.1 pc = .ok (.arraylength, 1)) (hv : (gS G).slots.size.toInt32 = v) (h : Rn G d K (pc + 1) L (.int v :: st) μ sz mc ms Q) : Rn G d K pc L (.ref (gB G) :: st) μ sz mc ms Q := by
  intro p e R s m args below meth c H locs cells slots ls Z C hl hM hz hS hc hs hE
  exact W.alen (n := v) C.1.1 C.1.2.1 hM.1.1 C.2.2.1.2.2.2.1 hv rfl rfl hd (h p e R s m args below meth c H locs cells slots ls Z C hl hM hz hS hc hs hE)
-- Object's constructor, Math
theorem Rn.objInit {idx a : Nat} (hd : decode K.2.1 pc = .ok (.invokespecial idx, 3)) (hq : Cond.methodLink K.1.cls idx objectInit ∈ lwT) (hcat : (st.map fun v => v.category).sum ≤ 8) (hdd : 1 ≤ d) (h : Rn G d K (pc + 3) L st μ sz mc ms Q) : Rn G d K pc L (.ref a :: st) μ sz mc ms Q := by
  intro p e R s m args below meth c H locs cells slots ls Z C hl hM hz hS hc hs hE
  have hts := C.1.2.2.2.2
  have h1 := C.2.2.2.2
  exact W.objInit C.1.1 C.1.2.1 C.1.2.2.2.1 (hts _ hq) (hts _ qoi_inst) (hts _ qoi_code) rfl (by rw [C.1.2.2.1]; exact hl.2.1) rfl hd (by omega) (by show 2 * 0 + _ + 12 ≤ _; omega) (h p e R s m args below meth c H locs cells slots ls Z C hl hM hz hS hc hs hE)
theorem Rn.mmax {idx : Nat} {x y v : Int32} (hd : decode K.2.1 pc = .ok (.invokestatic idx, 3)) (hq : Cond.methodLink K.1.cls idx Lib.Math.max.name ∈ lwT) (hcat : (st.map fun v => v.category).sum ≤ 8) (hdd : 1 ≤ d) (hv : (if x < y then y else x) = v) (h : Rn G d K (pc + 3) L (.int v :: st) μ sz mc ms Q) : Rn G d K pc L (.int y :: .int x :: st) μ sz mc ms Q := by
  subst hv
  intro p e R s m args below meth c H locs cells slots ls Z C hl hM hz hS hc hs hE
  have hts := C.1.2.2.2.2
  have h1 := C.2.2.2.2
  exact va_mmax C.1.1 C.1.2.1 (C.1.2.2.1.trans hl.2.1.symm) C.1.2.2.2.1 (hts _ hq) (hts _ qmax_st) (hts _ qini_J9) (hts _ qmax_code) (by omega) (by omega) (by omega) (by omega) hd (h p e R s m args below meth c H locs cells slots ls Z C hl hM hz hS hc hs hE)
theorem Rn.mmin {idx : Nat} {x y v : Int32} (hd : decode K.2.1 pc = .ok (.invokestatic idx, 3)) (hq : Cond.methodLink K.1.cls idx Lib.Math.min.name ∈ lwT) (hcat : (st.map fun v => v.category).sum ≤ 8) (hdd : 1 ≤ d) (hv : (if y < x then y else x) = v) (h : Rn G d K (pc + 3) L (.int v :: st) μ sz mc ms Q) : Rn G d K pc L (.int y :: .int x :: st) μ sz mc ms Q := by
  subst hv
  intro p e R s m args below meth c H locs cells slots ls Z C hl hM hz hS hc hs hE
  have hts := C.1.2.2.2.2
  have h1 := C.2.2.2.2
  exact va_mmin C.1.1 C.1.2.1 (C.1.2.2.1.trans hl.2.1.symm) C.1.2.2.2.1 (hts _ hq) (hts _ qmin_st) (hts _ qini_J9) (hts _ qmin_code) (by omega) (by omega) (by omega) (by omega) hd (h p e R s m args below meth c H locs cells slots ls Z C hl hM hz hS hc hs hE)

-- calls
theorem Rn.runs {mc1 ms1 : Nat} {stk : List Value} {a : Array Value} {Q' : Option Value → Mm → Prop}
    (hrun : ∀ (p : Program) (e : Env) (R : Room) (s : State) (m : MethodId) (args : Array Value) (below : List Frame) (meth : Method) (c : Code) (H : Heap) (locs : List Loc) (cells slots : Nat) (ls : Array Slot), CtxA G d K p R s m args meth c → lvh ls K.2.2.1 L → MemA G μ H → H.size = sz → gLo G ≤ sz → cells + mc1 ≤ R.cells → slots + ms1 ≤ R.slots → va_Run p G.1 e R s m args below meth c H locs cells slots mc1 ms1 (F0 m pc ls stk) st (QcA G (sz + mc1) Q' a) (own G))
    (hk : ∀ (r : Option Value) (μ' : Mm), Q' r μ' → Rn G d K (pc + 3) L (r.toList ++ st) μ' (sz + mc1) mc ms Q) : Rn G d K pc L stk μ sz (mc1 + mc) (ms1 + ms) Q := by
  intro p e R s m args below meth c H locs cells slots ls Z C hl hM hz hS hc hs hE
  intro T hT X
  have hlo := Nat.le_trans C.2.2.2.1 (Nat.le_trans hS.1 (Nat.le_of_eq hz))
  obtain ⟨v, st₀, t, T', L', h0, X', hL', e1, e2, ⟨r, μ', hv, hQ, hM', hz', hz2, hF⟩, stp⟩ := hrun p e R s m args below meth c H locs cells slots ls C hl hM hz hlo (by omega) (by omega) T hT X
  cases hv
  rw [h0] at hF hz2
  have hS' : va_S (own G) s.heap T'.heap (locs ++ L') := by
    refine ⟨Nat.le_trans hS.1 (by rw [e1]; exact hz2), fun q h1 h2 => by rw [e1, hF q (Nat.lt_of_lt_of_le h1 hS.1) h2]; exact hS.2.1 q h1 h2, fun q hq => ?_⟩
    rcases List.mem_append.mp hq with h | h
    · exact hS.2.2 q h
    · exact hL' q h
  obtain ⟨t2, a1, b1⟩ := hk _ μ' hQ p e R s m args below meth c T'.heap (locs ++ L') (cells + mc1) (slots + ms1) ls Z C hl (by rw [e1]; exact hM') (by rw [e1]; exact hz') hS' (by omega) (by omega) (by rw [Nat.add_assoc]; exact hE) T' rfl X'
  exact ⟨t2, stp t2 a1, b1⟩
theorem calls_room {d d' n : Nat} {R : Room} (h1 : d ≤ R.frames) (h2 : 34 * d ≤ R.locals) (hd : d' < d) (hn : n ≤ 15) : d' + 1 ≤ R.frames ∧ 8 + (n + 11) + 34 * d' ≤ R.locals := by omega
theorem Rn.callV {K' : MK} {d' n idx a ci mc1 ms1 : Nat} {As : List Value} {stk : List Value} {r : vw_C} {fs : List Value} {Q' : Option Value → Mm → Prop} (hd : decode K.2.1 pc = .ok (.invokevirtual idx, 3)) (hq : Cond.methodLink K.1.cls idx K'.1 ∈ lwT) (ho : VOk K' n) (hμ : μ a = some (.inr (ci, fs))) (hci : classes[ci]? = some r) (hcn : r.1 = K'.1.cls) (hn : As.length = n) (hst : As.reverse ++ .ref a :: st = stk) (hcat : (st.map fun v => v.category).sum ≤ 8) (hdd : d' < d) (hml : K'.2.2.1 ≤ 15) (hE' : EvA G d' K' (.ref a :: As) μ sz mc1 ms1 Q') (hk : ∀ (r : Option Value) (μ' : Mm), Q' r μ' → Rn G d K (pc + 3) L (r.toList ++ st) μ' (sz + mc1) mc ms Q) : Rn G d K pc L stk μ sz (mc1 + mc) (ms1 + ms) Q := by
  subst hst
  refine Rn.runs (a := (Value.ref a :: As).toArray) (fun p e R s m args below meth c H locs cells slots ls C hl hM hz hlo hc hs => ?_) hk
  have hts := C.1.2.2.2.2
  obtain ⟨⟨b1, b2, b3, b4⟩, b5, b6⟩ := ho
  have hK := C.2.2.1
  obtain ⟨⟨r', hr', cellV, g1, g2, g3, -⟩, -⟩ := hM.2 a _ hμ
  have hcls := (hK.1.1 ci r hci).2
  exact va_runV (C := K'.1.cls) C.1 (hE' hlo) ⟨callB_of n hts (lwG b1) rfl rfl rfl (hts _ b2) (hts _ hq) ⟨b3.1, b3.2.1, b3.2.2⟩ (calls_room C.2.2.2.2.1 C.2.2.2.2.2 hdd hml), hts _ b5, hts _ b6⟩ ⟨PcA.blind, ⟨cellV, g1, by rw [g3]; rfl, by rw [g2, ← hcn]; exact hcls.1⟩, fun U hU hW => PcA.at hK hM hz hU hW⟩ rfl hn hl.2.1 rfl (lv_room hcat) hd ⟨hc, hs⟩
theorem Rn.callS {K' : MK} {d' n idx mc1 ms1 : Nat} {As : List Value} {stk : List Value} {Q' : Option Value → Mm → Prop} (hd : decode K.2.1 pc = .ok (.invokestatic idx, 3)) (hq : Cond.methodLink K.1.cls idx K'.1 ∈ lwT) (ho : SOk K' n) (hn : As.length = n) (hst : As.reverse ++ st = stk) (hcat : (st.map fun v => v.category).sum ≤ 8) (hdd : d' < d) (hml : K'.2.2.1 ≤ 15) (hE' : EvA G d' K' As μ sz mc1 ms1 Q') (hk : ∀ (r : Option Value) (μ' : Mm), Q' r μ' → Rn G d K (pc + 3) L (r.toList ++ st) μ' (sz + mc1) mc ms Q) : Rn G d K pc L stk μ sz (mc1 + mc) (ms1 + ms) Q := by
  subst hst
  refine Rn.runs (a := As.toArray) (fun p e R s m args below meth c H locs cells slots ls C hl hM hz hlo hc hs => ?_) hk
  have hts := C.1.2.2.2.2
  obtain ⟨⟨b1, b2, b3, b4⟩, b5⟩ := ho
  exact va_runS C.1 (hE' hlo) ⟨callB_of n hts (lwG b1) rfl rfl rfl (hts _ b2) (hts _ hq) ⟨b3.1, b3.2.1, b3.2.2⟩ (calls_room C.2.2.2.2.1 C.2.2.2.2.2 hdd hml), hts _ b5⟩ ⟨PcA.blind, fun U hU hW => PcA.at C.2.2.1 hM hz hU hW⟩ rfl hn hl.2.1 rfl (lv_room hcat) hd ⟨hc, hs⟩
theorem Rn.callSN {K' : MK} {d' n idx mc1 ms1 : Nat} {host : String} {As : List Value} {stk : List Value} {Q' : Option Value → Mm → Prop} (hd : decode K.2.1 pc = .ok (.invokestatic idx, 3)) (hq : (K.1.cls, idx, K'.1, host) ∈ nestL) (ho : SOk K' n) (hn : As.length = n) (hst : As.reverse ++ st = stk) (hcat : (st.map fun v => v.category).sum ≤ 8) (hdd : d' < d) (hml : K'.2.2.1 ≤ 15) (hE' : EvA G d' K' As μ sz mc1 ms1 Q') (hk : ∀ (r : Option Value) (μ' : Mm), Q' r μ' → Rn G d K (pc + 3) L (r.toList ++ st) μ' (sz + mc1) mc ms Q) : Rn G d K pc L stk μ sz (mc1 + mc) (ms1 + ms) Q := by
  subst hst
  refine Rn.runs (a := As.toArray) (fun p e R s m args below meth c H locs cells slots ls C hl hM hz hlo hc hs => ?_) hk
  have hts := C.1.2.2.2.2
  obtain ⟨⟨b1, b2, b3, b4⟩, b5⟩ := ho
  exact va_runSN C.1 (hE' hlo) ⟨va_cnB n hts (lwG b1) rfl rfl rfl (C.2.2.1.2.1 _ hq) (hts _ b2) ⟨b3.1, b3.2.1, b3.2.2⟩ (calls_room C.2.2.2.2.1 C.2.2.2.2.2 hdd hml), hts _ b5, trivial⟩ ⟨PcA.blind, fun U hU hW => PcA.at C.2.2.1 hM hz hU hW⟩ rfl hn hl.2.1 rfl (lv_room hcat) hd ⟨hc, hs⟩
theorem Rn.callI {K' : MK} {d' n idx a mc1 ms1 : Nat} {As : List Value} {stk : List Value} {Q' : Option Value → Mm → Prop} (hd : decode K.2.1 pc = .ok (.invokespecial idx, 3)) (hq : Cond.methodLink K.1.cls idx K'.1 ∈ lwT) (hret : K'.2.2.2 = none) (ho : IOk K' n) (hn : As.length = n) (hst : As.reverse ++ .ref a :: st = stk) (hcat : (st.map fun v => v.category).sum ≤ 8) (hdd : d' < d) (hml : K'.2.2.1 ≤ 15) (hE' : EvA G d' K' (.ref a :: As) μ sz mc1 ms1 Q') (hk : ∀ (r : Option Value) (μ' : Mm), Q' r μ' → Rn G d K (pc + 3) L (r.toList ++ st) μ' (sz + mc1) mc ms Q) : Rn G d K pc L stk μ sz (mc1 + mc) (ms1 + ms) Q := by
  subst hst
  refine Rn.runs (a := (Value.ref a :: As).toArray) (fun p e R s m args below meth c H locs cells slots ls C hl hM hz hlo hc hs => ?_) hk
  have hts := C.1.2.2.2.2
  obtain ⟨⟨b1, b2, b3, b4⟩, b5, b6⟩ := ho
  exact va_runI C.1 (hE' hlo) ⟨callB_of n hts (lwG b1) (by rw [hret]) rfl rfl (hts _ b2) (hts _ hq) ⟨b3.1, b3.2.1, b3.2.2⟩ (calls_room C.2.2.2.2.1 C.2.2.2.2.2 hdd hml), b5, hts _ b6⟩ ⟨PcA.blind, fun U hU hW => PcA.at C.2.2.1 hM hz hU hW⟩ rfl hn hl.2.1 rfl (lv_room hcat) hd ⟨hc, hs⟩
theorem Rn.callIN {K' : MK} {d' n idx a mc1 ms1 : Nat} {host : String} {As : List Value} {stk : List Value} {Q' : Option Value → Mm → Prop} (hd : decode K.2.1 pc = .ok (.invokespecial idx, 3)) (hq : (K.1.cls, idx, K'.1, host) ∈ nestL) (hret : K'.2.2.2 = none) (ho : IOk K' n) (hn : As.length = n) (hst : As.reverse ++ .ref a :: st = stk) (hcat : (st.map fun v => v.category).sum ≤ 8) (hdd : d' < d) (hml : K'.2.2.1 ≤ 15) (hE' : EvA G d' K' (.ref a :: As) μ sz mc1 ms1 Q') (hk : ∀ (r : Option Value) (μ' : Mm), Q' r μ' → Rn G d K (pc + 3) L (r.toList ++ st) μ' (sz + mc1) mc ms Q) : Rn G d K pc L stk μ sz (mc1 + mc) (ms1 + ms) Q := by
  subst hst
  refine Rn.runs (a := (Value.ref a :: As).toArray) (fun p e R s m args below meth c H locs cells slots ls C hl hM hz hlo hc hs => ?_) hk
  have hts := C.1.2.2.2.2
  obtain ⟨⟨b1, b2, b3, b4⟩, b5, b6⟩ := ho
  exact va_runIN C.1 (hE' hlo) ⟨va_cnB n hts (lwG b1) (by rw [hret]) rfl rfl (C.2.2.1.2.1 _ hq) (hts _ b2) ⟨b3.1, b3.2.1, b3.2.2⟩ (calls_room C.2.2.2.2.1 C.2.2.2.2.2 hdd hml), b5, hts _ b6⟩ ⟨PcA.blind, fun U hU hW => PcA.at C.2.2.1 hM hz hU hW⟩ rfl hn hl.2.1 rfl (lv_room hcat) hd ⟨hc, hs⟩
end RULES
end
