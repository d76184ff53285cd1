section
-- ===== PART A: goes FIRST, ahead of the names: the tables' words, and 'selects' of the private methods out of them =====
/-- a private method of a class that the tables say can be made, by its rows of tables_1 -/
def lw_okq (q : MethodName × Nat) : Prop := (q.1.cls ≠ "java/lang/invoke/MethodHandle" ∧ q.1.cls ≠ "java/lang/invoke/VarHandle") ∧ Cond.instantiable q.1.cls q.2 ∈ tables_1 ∧ Cond.privateMethod q.1 ∈ tables_1 ∧ Cond.instanceMethod q.1 ∈ tables_1
theorem lw_p0 : lw_okq (⟨"ChangeFeed$History", "stateAt", "(I)LChangeFeed$State;"⟩, 2) := ⟨⟨by decide +kernel, by decide +kernel⟩, List.mem_of_getElem? (i := 173) (by decide +kernel), List.mem_of_getElem? (i := 258) (by decide +kernel), List.mem_of_getElem? (i := 259) (by decide +kernel)⟩
theorem lw_p1 : lw_okq (⟨"ChangeFeed$History", "dropOldest", "()V"⟩, 2) := ⟨⟨by decide +kernel, by decide +kernel⟩, List.mem_of_getElem? (i := 173) (by decide +kernel), List.mem_of_getElem? (i := 310) (by decide +kernel), List.mem_of_getElem? (i := 311) (by decide +kernel)⟩
theorem lw_p2 : lw_okq (⟨"ChangeFeed$Feed", "layEntry", "(IIIII)V"⟩, 8) := ⟨⟨by decide +kernel, by decide +kernel⟩, List.mem_of_getElem? (i := 45) (by decide +kernel), List.mem_of_getElem? (i := 337) (by decide +kernel), List.mem_of_getElem? (i := 338) (by decide +kernel)⟩
theorem lw_p3 : lw_okq (⟨"ChangeFeed$Feed", "wouldGo", "(IIII)Z"⟩, 8) := ⟨⟨by decide +kernel, by decide +kernel⟩, List.mem_of_getElem? (i := 45) (by decide +kernel), List.mem_of_getElem? (i := 383) (by decide +kernel), List.mem_of_getElem? (i := 384) (by decide +kernel)⟩
theorem lw_p4 : lw_okq (⟨"ChangeFeed$Feed", "isOldRemoval", "(III)Z"⟩, 8) := ⟨⟨by decide +kernel, by decide +kernel⟩, List.mem_of_getElem? (i := 45) (by decide +kernel), List.mem_of_getElem? (i := 394) (by decide +kernel), List.mem_of_getElem? (i := 395) (by decide +kernel)⟩
theorem lw_p5 : lw_okq (⟨"ChangeFeed$State", "aheadUnlessLate", "(I)I"⟩, 9) := ⟨⟨by decide +kernel, by decide +kernel⟩, List.mem_of_getElem? (i := 21) (by decide +kernel), List.mem_of_getElem? (i := 596) (by decide +kernel), List.mem_of_getElem? (i := 597) (by decide +kernel)⟩
theorem lw_p6 : lw_okq (⟨"ChangeFeed$Pad", "signHere", "()I"⟩, 6) := ⟨⟨by decide +kernel, by decide +kernel⟩, List.mem_of_getElem? (i := 190) (by decide +kernel), List.mem_of_getElem? (i := 642) (by decide +kernel), List.mem_of_getElem? (i := 643) (by decide +kernel)⟩
theorem lw_p7 : lw_okq (⟨"ChangeFeed$Pad", "takeNumber", "()I"⟩, 6) := ⟨⟨by decide +kernel, by decide +kernel⟩, List.mem_of_getElem? (i := 190) (by decide +kernel), List.mem_of_getElem? (i := 651) (by decide +kernel), List.mem_of_getElem? (i := 652) (by decide +kernel)⟩
theorem lw_p8 : lw_okq (⟨"ChangeFeed$Pad", "takeDigit", "(I)I"⟩, 6) := ⟨⟨by decide +kernel, by decide +kernel⟩, List.mem_of_getElem? (i := 190) (by decide +kernel), List.mem_of_getElem? (i := 655) (by decide +kernel), List.mem_of_getElem? (i := 656) (by decide +kernel)⟩
theorem lw_p9 : lw_okq (⟨"ChangeFeed$Pad", "takeFirst", "(I)Z"⟩, 6) := ⟨⟨by decide +kernel, by decide +kernel⟩, List.mem_of_getElem? (i := 190) (by decide +kernel), List.mem_of_getElem? (i := 659) (by decide +kernel), List.mem_of_getElem? (i := 660) (by decide +kernel)⟩
theorem lw_p10 : lw_okq (⟨"ChangeFeed$Pad", "takeReader", "()I"⟩, 6) := ⟨⟨by decide +kernel, by decide +kernel⟩, List.mem_of_getElem? (i := 190) (by decide +kernel), List.mem_of_getElem? (i := 663) (by decide +kernel), List.mem_of_getElem? (i := 664) (by decide +kernel)⟩
theorem lw_p11 : lw_okq (⟨"ChangeFeed$Pad", "takeSecond", "(I)Z"⟩, 6) := ⟨⟨by decide +kernel, by decide +kernel⟩, List.mem_of_getElem? (i := 190) (by decide +kernel), List.mem_of_getElem? (i := 667) (by decide +kernel), List.mem_of_getElem? (i := 668) (by decide +kernel)⟩
theorem lw_p12 : lw_okq (⟨"ChangeFeed", "carryOutOrder", "()I"⟩, 4) := ⟨⟨by decide +kernel, by decide +kernel⟩, List.mem_of_getElem? (i := 13) (by decide +kernel), List.mem_of_getElem? (i := 677) (by decide +kernel), List.mem_of_getElem? (i := 678) (by decide +kernel)⟩
theorem lw_p13 : lw_okq (⟨"ChangeFeed", "slotAt", "(I)LChangeFeed$Slot;"⟩, 4) := ⟨⟨by decide +kernel, by decide +kernel⟩, List.mem_of_getElem? (i := 13) (by decide +kernel), List.mem_of_getElem? (i := 694) (by decide +kernel), List.mem_of_getElem? (i := 695) (by decide +kernel)⟩
theorem lw_p14 : lw_okq (⟨"ChangeFeedModel", "records", "()V"⟩, 11) := ⟨⟨by decide +kernel, by decide +kernel⟩, List.mem_of_getElem? (i := 703) (by decide +kernel), List.mem_of_getElem? (i := 762) (by decide +kernel), List.mem_of_getElem? (i := 763) (by decide +kernel)⟩
theorem lw_p15 : lw_okq (⟨"ChangeFeedModel", "maySet", "(II)I"⟩, 11) := ⟨⟨by decide +kernel, by decide +kernel⟩, List.mem_of_getElem? (i := 703) (by decide +kernel), List.mem_of_getElem? (i := 774) (by decide +kernel), List.mem_of_getElem? (i := 775) (by decide +kernel)⟩
def lw_privs_1 : List (MethodName × Nat) := [(⟨"ChangeFeed$History", "stateAt", "(I)LChangeFeed$State;"⟩, 2), (⟨"ChangeFeed$History", "dropOldest", "()V"⟩, 2), (⟨"ChangeFeed$Feed", "layEntry", "(IIIII)V"⟩, 8), (⟨"ChangeFeed$Feed", "wouldGo", "(IIII)Z"⟩, 8), (⟨"ChangeFeed$Feed", "isOldRemoval", "(III)Z"⟩, 8), (⟨"ChangeFeed$State", "aheadUnlessLate", "(I)I"⟩, 9), (⟨"ChangeFeed$Pad", "signHere", "()I"⟩, 6), (⟨"ChangeFeed$Pad", "takeNumber", "()I"⟩, 6), (⟨"ChangeFeed$Pad", "takeDigit", "(I)I"⟩, 6), (⟨"ChangeFeed$Pad", "takeFirst", "(I)Z"⟩, 6), (⟨"ChangeFeed$Pad", "takeReader", "()I"⟩, 6), (⟨"ChangeFeed$Pad", "takeSecond", "(I)Z"⟩, 6), (⟨"ChangeFeed", "carryOutOrder", "()I"⟩, 4), (⟨"ChangeFeed", "slotAt", "(I)LChangeFeed$Slot;"⟩, 4), (⟨"ChangeFeedModel", "records", "()V"⟩, 11), (⟨"ChangeFeedModel", "maySet", "(II)I"⟩, 11)]
theorem lw_r1 : ∀ q ∈ lw_privs_1, lw_okq q := List.forall_mem_cons.mpr ⟨lw_p0, List.forall_mem_cons.mpr ⟨lw_p1, List.forall_mem_cons.mpr ⟨lw_p2, List.forall_mem_cons.mpr ⟨lw_p3, List.forall_mem_cons.mpr ⟨lw_p4, List.forall_mem_cons.mpr ⟨lw_p5, List.forall_mem_cons.mpr ⟨lw_p6, List.forall_mem_cons.mpr ⟨lw_p7, List.forall_mem_cons.mpr ⟨lw_p8, List.forall_mem_cons.mpr ⟨lw_p9, List.forall_mem_cons.mpr ⟨lw_p10, List.forall_mem_cons.mpr ⟨lw_p11, List.forall_mem_cons.mpr ⟨lw_p12, List.forall_mem_cons.mpr ⟨lw_p13, List.forall_mem_cons.mpr ⟨lw_p14, List.forall_mem_cons.mpr ⟨lw_p15, fun _ h => absurd h List.not_mem_nil⟩⟩⟩⟩⟩⟩⟩⟩⟩⟩⟩⟩⟩⟩⟩⟩
theorem lw_p16 : lw_okq (⟨"ChangeFeedModel", "sets", "(II)I"⟩, 11) := ⟨⟨by decide +kernel, by decide +kernel⟩, List.mem_of_getElem? (i := 703) (by decide +kernel), List.mem_of_getElem? (i := 781) (by decide +kernel), List.mem_of_getElem? (i := 782) (by decide +kernel)⟩
theorem lw_p17 : lw_okq (⟨"ChangeFeedModel", "mayRemove", "(I)I"⟩, 11) := ⟨⟨by decide +kernel, by decide +kernel⟩, List.mem_of_getElem? (i := 703) (by decide +kernel), List.mem_of_getElem? (i := 789) (by decide +kernel), List.mem_of_getElem? (i := 790) (by decide +kernel)⟩
theorem lw_p18 : lw_okq (⟨"ChangeFeedModel", "mayPass", "(I)I"⟩, 11) := ⟨⟨by decide +kernel, by decide +kernel⟩, List.mem_of_getElem? (i := 703) (by decide +kernel), List.mem_of_getElem? (i := 797) (by decide +kernel), List.mem_of_getElem? (i := 798) (by decide +kernel)⟩
theorem lw_p19 : lw_okq (⟨"ChangeFeedModel", "shoots", "()I"⟩, 11) := ⟨⟨by decide +kernel, by decide +kernel⟩, List.mem_of_getElem? (i := 703) (by decide +kernel), List.mem_of_getElem? (i := 825) (by decide +kernel), List.mem_of_getElem? (i := 826) (by decide +kernel)⟩
theorem lw_p20 : lw_okq (⟨"ChangeFeedModel", "comes", "()I"⟩, 11) := ⟨⟨by decide +kernel, by decide +kernel⟩, List.mem_of_getElem? (i := 703) (by decide +kernel), List.mem_of_getElem? (i := 833) (by decide +kernel), List.mem_of_getElem? (i := 834) (by decide +kernel)⟩
theorem lw_p21 : lw_okq (⟨"ChangeFeedModel", "begins", "(III)I"⟩, 11) := ⟨⟨by decide +kernel, by decide +kernel⟩, List.mem_of_getElem? (i := 703) (by decide +kernel), List.mem_of_getElem? (i := 840) (by decide +kernel), List.mem_of_getElem? (i := 841) (by decide +kernel)⟩
theorem lw_p22 : lw_okq (⟨"ChangeFeedModel", "mayRead", "(II)I"⟩, 11) := ⟨⟨by decide +kernel, by decide +kernel⟩, List.mem_of_getElem? (i := 703) (by decide +kernel), List.mem_of_getElem? (i := 848) (by decide +kernel), List.mem_of_getElem? (i := 849) (by decide +kernel)⟩
theorem lw_p23 : lw_okq (⟨"ChangeFeedModel", "isReader", "(I)Z"⟩, 11) := ⟨⟨by decide +kernel, by decide +kernel⟩, List.mem_of_getElem? (i := 703) (by decide +kernel), List.mem_of_getElem? (i := 852) (by decide +kernel), List.mem_of_getElem? (i := 853) (by decide +kernel)⟩
theorem lw_p24 : lw_okq (⟨"ChangeFeedModel", "reads", "(II)I"⟩, 11) := ⟨⟨by decide +kernel, by decide +kernel⟩, List.mem_of_getElem? (i := 703) (by decide +kernel), List.mem_of_getElem? (i := 862) (by decide +kernel), List.mem_of_getElem? (i := 863) (by decide +kernel)⟩
theorem lw_p25 : lw_okq (⟨"ChangeFeedModel", "takes", "(IZ)I"⟩, 11) := ⟨⟨by decide +kernel, by decide +kernel⟩, List.mem_of_getElem? (i := 703) (by decide +kernel), List.mem_of_getElem? (i := 870) (by decide +kernel), List.mem_of_getElem? (i := 871) (by decide +kernel)⟩
theorem lw_p26 : lw_okq (⟨"ChangeFeedModel", "mayLoad", "(II)I"⟩, 11) := ⟨⟨by decide +kernel, by decide +kernel⟩, List.mem_of_getElem? (i := 703) (by decide +kernel), List.mem_of_getElem? (i := 886) (by decide +kernel), List.mem_of_getElem? (i := 887) (by decide +kernel)⟩
theorem lw_p27 : lw_okq (⟨"ChangeFeedModel", "isShot", "(I)Z"⟩, 11) := ⟨⟨by decide +kernel, by decide +kernel⟩, List.mem_of_getElem? (i := 703) (by decide +kernel), List.mem_of_getElem? (i := 890) (by decide +kernel), List.mem_of_getElem? (i := 891) (by decide +kernel)⟩
theorem lw_p28 : lw_okq (⟨"ChangeFeedModel", "loads", "(II)I"⟩, 11) := ⟨⟨by decide +kernel, by decide +kernel⟩, List.mem_of_getElem? (i := 703) (by decide +kernel), List.mem_of_getElem? (i := 894) (by decide +kernel), List.mem_of_getElem? (i := 895) (by decide +kernel)⟩
theorem lw_p29 : lw_okq (⟨"ChangeFeedModel", "ahead", "(I)I"⟩, 11) := ⟨⟨by decide +kernel, by decide +kernel⟩, List.mem_of_getElem? (i := 703) (by decide +kernel), List.mem_of_getElem? (i := 914) (by decide +kernel), List.mem_of_getElem? (i := 915) (by decide +kernel)⟩
theorem lw_p30 : lw_okq (⟨"ChangeFeedModel", "unlike", "(I)I"⟩, 11) := ⟨⟨by decide +kernel, by decide +kernel⟩, List.mem_of_getElem? (i := 703) (by decide +kernel), List.mem_of_getElem? (i := 918) (by decide +kernel), List.mem_of_getElem? (i := 919) (by decide +kernel)⟩
theorem lw_p31 : lw_okq (⟨"ChangeFeedModel", "valued", "(I)I"⟩, 11) := ⟨⟨by decide +kernel, by decide +kernel⟩, List.mem_of_getElem? (i := 703) (by decide +kernel), List.mem_of_getElem? (i := 926) (by decide +kernel), List.mem_of_getElem? (i := 927) (by decide +kernel)⟩
def lw_privs_2 : List (MethodName × Nat) := [(⟨"ChangeFeedModel", "sets", "(II)I"⟩, 11), (⟨"ChangeFeedModel", "mayRemove", "(I)I"⟩, 11), (⟨"ChangeFeedModel", "mayPass", "(I)I"⟩, 11), (⟨"ChangeFeedModel", "shoots", "()I"⟩, 11), (⟨"ChangeFeedModel", "comes", "()I"⟩, 11), (⟨"ChangeFeedModel", "begins", "(III)I"⟩, 11), (⟨"ChangeFeedModel", "mayRead", "(II)I"⟩, 11), (⟨"ChangeFeedModel", "isReader", "(I)Z"⟩, 11), (⟨"ChangeFeedModel", "reads", "(II)I"⟩, 11), (⟨"ChangeFeedModel", "takes", "(IZ)I"⟩, 11), (⟨"ChangeFeedModel", "mayLoad", "(II)I"⟩, 11), (⟨"ChangeFeedModel", "isShot", "(I)Z"⟩, 11), (⟨"ChangeFeedModel", "loads", "(II)I"⟩, 11), (⟨"ChangeFeedModel", "ahead", "(I)I"⟩, 11), (⟨"ChangeFeedModel", "unlike", "(I)I"⟩, 11), (⟨"ChangeFeedModel", "valued", "(I)I"⟩, 11)]
theorem lw_r2 : ∀ q ∈ lw_privs_2, lw_okq q := List.forall_mem_cons.mpr ⟨lw_p16, List.forall_mem_cons.mpr ⟨lw_p17, List.forall_mem_cons.mpr ⟨lw_p18, List.forall_mem_cons.mpr ⟨lw_p19, List.forall_mem_cons.mpr ⟨lw_p20, List.forall_mem_cons.mpr ⟨lw_p21, List.forall_mem_cons.mpr ⟨lw_p22, List.forall_mem_cons.mpr ⟨lw_p23, List.forall_mem_cons.mpr ⟨lw_p24, List.forall_mem_cons.mpr ⟨lw_p25, List.forall_mem_cons.mpr ⟨lw_p26, List.forall_mem_cons.mpr ⟨lw_p27, List.forall_mem_cons.mpr ⟨lw_p28, List.forall_mem_cons.mpr ⟨lw_p29, List.forall_mem_cons.mpr ⟨lw_p30, List.forall_mem_cons.mpr ⟨lw_p31, fun _ h => absurd h List.not_mem_nil⟩⟩⟩⟩⟩⟩⟩⟩⟩⟩⟩⟩⟩⟩⟩⟩
theorem lw_p32 : lw_okq (⟨"ChangeFeedModel", "thinsThen", "(I)V"⟩, 11) := ⟨⟨by decide +kernel, by decide +kernel⟩, List.mem_of_getElem? (i := 703) (by decide +kernel), List.mem_of_getElem? (i := 941) (by decide +kernel), List.mem_of_getElem? (i := 942) (by decide +kernel)⟩
theorem lw_p33 : lw_okq (⟨"ChangeFeedModel", "isText", "()Z"⟩, 11) := ⟨⟨by decide +kernel, by decide +kernel⟩, List.mem_of_getElem? (i := 703) (by decide +kernel), List.mem_of_getElem? (i := 976) (by decide +kernel), List.mem_of_getElem? (i := 977) (by decide +kernel)⟩
theorem lw_p34 : lw_okq (⟨"ChangeFeedModel", "isOrder", "()Z"⟩, 11) := ⟨⟨by decide +kernel, by decide +kernel⟩, List.mem_of_getElem? (i := 703) (by decide +kernel), List.mem_of_getElem? (i := 980) (by decide +kernel), List.mem_of_getElem? (i := 981) (by decide +kernel)⟩
theorem lw_p35 : lw_okq (⟨"ChangeFeedModel", "isNumber", "(I)Z"⟩, 11) := ⟨⟨by decide +kernel, by decide +kernel⟩, List.mem_of_getElem? (i := 703) (by decide +kernel), List.mem_of_getElem? (i := 984) (by decide +kernel), List.mem_of_getElem? (i := 985) (by decide +kernel)⟩
theorem lw_p36 : lw_okq (⟨"ChangeFeedModel", "isAt", "(II)Z"⟩, 11) := ⟨⟨by decide +kernel, by decide +kernel⟩, List.mem_of_getElem? (i := 703) (by decide +kernel), List.mem_of_getElem? (i := 988) (by decide +kernel), List.mem_of_getElem? (i := 989) (by decide +kernel)⟩
theorem lw_p37 : lw_okq (⟨"ChangeFeedModel", "isSign", "(I)Z"⟩, 11) := ⟨⟨by decide +kernel, by decide +kernel⟩, List.mem_of_getElem? (i := 703) (by decide +kernel), List.mem_of_getElem? (i := 992) (by decide +kernel), List.mem_of_getElem? (i := 993) (by decide +kernel)⟩
theorem lw_p38 : lw_okq (⟨"ChangeFeedModel", "isDigit", "(II)Z"⟩, 11) := ⟨⟨by decide +kernel, by decide +kernel⟩, List.mem_of_getElem? (i := 703) (by decide +kernel), List.mem_of_getElem? (i := 996) (by decide +kernel), List.mem_of_getElem? (i := 997) (by decide +kernel)⟩
theorem lw_p39 : lw_okq (⟨"ChangeFeedModel", "does", "(I)Z"⟩, 11) := ⟨⟨by decide +kernel, by decide +kernel⟩, List.mem_of_getElem? (i := 703) (by decide +kernel), List.mem_of_getElem? (i := 1004) (by decide +kernel), List.mem_of_getElem? (i := 1005) (by decide +kernel)⟩
theorem lw_p40 : lw_okq (⟨"ChangeFeedModel", "mayDo", "(III)I"⟩, 11) := ⟨⟨by decide +kernel, by decide +kernel⟩, List.mem_of_getElem? (i := 703) (by decide +kernel), List.mem_of_getElem? (i := 1008) (by decide +kernel), List.mem_of_getElem? (i := 1009) (by decide +kernel)⟩
def lw_privs_3 : List (MethodName × Nat) := [(⟨"ChangeFeedModel", "thinsThen", "(I)V"⟩, 11), (⟨"ChangeFeedModel", "isText", "()Z"⟩, 11), (⟨"ChangeFeedModel", "isOrder", "()Z"⟩, 11), (⟨"ChangeFeedModel", "isNumber", "(I)Z"⟩, 11), (⟨"ChangeFeedModel", "isAt", "(II)Z"⟩, 11), (⟨"ChangeFeedModel", "isSign", "(I)Z"⟩, 11), (⟨"ChangeFeedModel", "isDigit", "(II)Z"⟩, 11), (⟨"ChangeFeedModel", "does", "(I)Z"⟩, 11), (⟨"ChangeFeedModel", "mayDo", "(III)I"⟩, 11)]
theorem lw_r3 : ∀ q ∈ lw_privs_3, lw_okq q := List.forall_mem_cons.mpr ⟨lw_p32, List.forall_mem_cons.mpr ⟨lw_p33, List.forall_mem_cons.mpr ⟨lw_p34, List.forall_mem_cons.mpr ⟨lw_p35, List.forall_mem_cons.mpr ⟨lw_p36, List.forall_mem_cons.mpr ⟨lw_p37, List.forall_mem_cons.mpr ⟨lw_p38, List.forall_mem_cons.mpr ⟨lw_p39, List.forall_mem_cons.mpr ⟨lw_p40, fun _ h => absurd h List.not_mem_nil⟩⟩⟩⟩⟩⟩⟩⟩⟩
def lw_privs : List (MethodName × Nat) := lw_privs_1 ++ (lw_privs_2 ++ (lw_privs_3))
def lw_tbl : List Cond := k2_sels lw_privs ++ tables_1
theorem lw_privs_ok : ∀ q ∈ lw_privs, lw_okq q := by
  show ∀ q ∈ lw_privs_1 ++ (lw_privs_2 ++ (lw_privs_3)), lw_okq q
  exact List.forall_mem_append.mpr ⟨lw_r1, List.forall_mem_append.mpr ⟨lw_r2, lw_r3⟩⟩

-- the words that a callee may take along: those of the tables that stay
def lwT : List Cond := lw_tbl.filter goodWord
theorem lwT_good : GoodIn lwT lwT := fun w hw => ⟨hw, good_of_word (List.mem_filter.mp hw).2⟩
theorem lwT_in : ∀ w ∈ lwT, w ∈ lw_tbl := fun w hw => (List.mem_filter.mp hw).1
end
section
def RX0 : String := "ChangeFeed$Feed"
def TX0 : u_T := fun k => match k with
  | 0 => ("ChangeFeed$Feed", "numbers", "[I", true)
  | 1 => ("ChangeFeed$Feed", "keys", "[I", true)
  | 2 => ("ChangeFeed$Feed", "values", "[I", true)
  | 3 => ("ChangeFeed$Feed", "minutes", "[I", true)
  | 4 => ("ChangeFeed$Feed", "held", "I", false)
  | 5 => ("ChangeFeed$Feed", "next", "I", false)
  | 6 => ("ChangeFeed$Feed", "floor", "I", false)
  | _ => ("ChangeFeed$Feed", "gone", "I", false)
def tyX0 : Nat → FieldType := fun k => match k with
  | 0 => .array .int
  | 1 => .array .int
  | 2 => .array .int
  | 3 => .array .int
  | 4 => .int
  | 5 => .int
  | 6 => .int
  | _ => .int
abbrev wsX00 : List Cond := u_ws RX0 TX0 8
theorem nmX0 : ∀ a, a < 8 → ∀ b, b < 8 → a ≠ b → (TX0 a).2.1 ≠ (TX0 b).2.1 := by decide +kernel
theorem tyX0_ok : ∀ k, k < 8 → parseFieldDescriptor (TX0 k).2.2.1 = some (tyX0 k) := by decide +kernel
abbrev cX0_init : ByteArray := prog_2_method_1_code
def yX0_init : MethodName := ⟨RX0, "<init>", "()V"⟩
abbrev cX0_copyFrom : ByteArray := prog_2_method_2_code
def yX0_copyFrom : MethodName := ⟨RX0, "copyFrom", "(LChangeFeed$Feed;)V"⟩
abbrev cX0_numberAt : ByteArray := prog_2_method_3_code
def yX0_numberAt : MethodName := ⟨RX0, "numberAt", "(I)I"⟩
abbrev cX0_keyAt : ByteArray := prog_2_method_4_code
def yX0_keyAt : MethodName := ⟨RX0, "keyAt", "(I)I"⟩
abbrev cX0_valueAt : ByteArray := prog_2_method_5_code
def yX0_valueAt : MethodName := ⟨RX0, "valueAt", "(I)I"⟩
abbrev cX0_minuteAt : ByteArray := prog_2_method_6_code
def yX0_minuteAt : MethodName := ⟨RX0, "minuteAt", "(I)I"⟩
abbrev cX0_isFull : ByteArray := prog_2_method_7_code
def yX0_isFull : MethodName := ⟨RX0, "isFull", "()Z"⟩
abbrev cX0_append : ByteArray := prog_2_method_8_code
def yX0_append : MethodName := ⟨RX0, "append", "(III)I"⟩
abbrev cX0_layEntry : ByteArray := prog_2_method_9_code
def yX0_layEntry : MethodName := ⟨RX0, "layEntry", "(IIIII)V"⟩
abbrev cX0_firstFrom : ByteArray := prog_2_method_10_code
def yX0_firstFrom : MethodName := ⟨RX0, "firstFrom", "(I)I"⟩
abbrev cX0_aheadOf : ByteArray := prog_2_method_11_code
def yX0_aheadOf : MethodName := ⟨RX0, "aheadOf", "(I)I"⟩
abbrev cX0_isLastOfItsKey : ByteArray := prog_2_method_12_code
def yX0_isLastOfItsKey : MethodName := ⟨RX0, "isLastOfItsKey", "(I)Z"⟩
abbrev cX0_isClosed : ByteArray := prog_2_method_13_code
def yX0_isClosed : MethodName := ⟨RX0, "isClosed", "(II)Z"⟩
abbrev cX0_segmentOf : ByteArray := prog_2_method_14_code
def yX0_segmentOf : MethodName := ⟨RX0, "segmentOf", "(II)I"⟩
abbrev cX0_isOldRemoval : ByteArray := prog_2_method_15_code
def yX0_isOldRemoval : MethodName := ⟨RX0, "isOldRemoval", "(III)Z"⟩
abbrev cX0_wouldGo : ByteArray := prog_2_method_16_code
def yX0_wouldGo : MethodName := ⟨RX0, "wouldGo", "(IIII)Z"⟩
abbrev cX0_leftAfterThinning : ByteArray := prog_2_method_17_code
def yX0_leftAfterThinning : MethodName := ⟨RX0, "leftAfterThinning", "(III)I"⟩
abbrev cX0_floorAfterThinning : ByteArray := prog_2_method_18_code
def yX0_floorAfterThinning : MethodName := ⟨RX0, "floorAfterThinning", "(III)I"⟩
abbrev cX0_thinOut : ByteArray := prog_2_method_19_code
def yX0_thinOut : MethodName := ⟨RX0, "thinOut", "(III)I"⟩
def RX1 : String := "ChangeFeed$History"
def TX1 : u_T := fun k => match k with
  | 0 => ("ChangeFeed$History", "states", "[LChangeFeed$State;", true)
  | _ => ("ChangeFeed$History", "held", "I", false)
def tyX1 : Nat → FieldType := fun k => match k with
  | 0 => .array (.object "ChangeFeed$State")
  | _ => .int
abbrev wsX10 : List Cond := u_ws RX1 TX1 2
theorem nmX1 : ∀ a, a < 2 → ∀ b, b < 2 → a ≠ b → (TX1 a).2.1 ≠ (TX1 b).2.1 := by decide +kernel
theorem tyX1_ok : ∀ k, k < 2 → parseFieldDescriptor (TX1 k).2.2.1 = some (tyX1 k) := by decide +kernel
abbrev cX1_init : ByteArray := prog_3_method_1_code
def yX1_init : MethodName := ⟨RX1, "<init>", "()V"⟩
abbrev cX1_stateAt : ByteArray := prog_3_method_2_code
def yX1_stateAt : MethodName := ⟨RX1, "stateAt", "(I)LChangeFeed$State;"⟩
abbrev cX1_prepare : ByteArray := prog_3_method_3_code
def yX1_prepare : MethodName := ⟨RX1, "prepare", "(LChangeFeed$State;)V"⟩
abbrev cX1_settle : ByteArray := prog_3_method_4_code
def yX1_settle : MethodName := ⟨RX1, "settle", "(I)I"⟩
abbrev cX1_dropOldest : ByteArray := prog_3_method_5_code
def yX1_dropOldest : MethodName := ⟨RX1, "dropOldest", "()V"⟩
abbrev cX1_bringBack : ByteArray := prog_3_method_6_code
def yX1_bringBack : MethodName := ⟨RX1, "bringBack", "(LChangeFeed$State;)I"⟩
def RX2 : String := "ChangeFeed$Pad"
def TX2 : u_T := fun k => match k with
  | 0 => ("ChangeFeed$Pad", "signs", "[I", true)
  | 1 => ("ChangeFeed$Pad", "length", "I", false)
  | 2 => ("ChangeFeed$Pad", "place", "I", false)
  | 3 => ("ChangeFeed$Pad", "letter", "I", false)
  | 4 => ("ChangeFeed$Pad", "first", "I", false)
  | _ => ("ChangeFeed$Pad", "second", "I", false)
def tyX2 : Nat → FieldType := fun k => match k with
  | 0 => .array .int
  | 1 => .int
  | 2 => .int
  | 3 => .int
  | 4 => .int
  | _ => .int
abbrev wsX20 : List Cond := u_ws RX2 TX2 6
theorem nmX2 : ∀ a, a < 6 → ∀ b, b < 6 → a ≠ b → (TX2 a).2.1 ≠ (TX2 b).2.1 := by decide +kernel
theorem tyX2_ok : ∀ k, k < 6 → parseFieldDescriptor (TX2 k).2.2.1 = some (tyX2 k) := by decide +kernel
abbrev cX2_init : ByteArray := prog_4_method_1_code
def yX2_init : MethodName := ⟨RX2, "<init>", "()V"⟩
abbrev cX2_append : ByteArray := prog_4_method_2_code
def yX2_append : MethodName := ⟨RX2, "append", "(J)I"⟩
abbrev cX2_signFromTheEnd : ByteArray := prog_4_method_3_code
def yX2_signFromTheEnd : MethodName := ⟨RX2, "signFromTheEnd", "(JI)I"⟩
abbrev cX2_empty : ByteArray := prog_4_method_4_code
def yX2_empty : MethodName := ⟨RX2, "empty", "()I"⟩
abbrev cX2_goToStart : ByteArray := prog_4_method_5_code
def yX2_goToStart : MethodName := ⟨RX2, "goToStart", "()V"⟩
abbrev cX2_firstFault : ByteArray := prog_4_method_6_code
def yX2_firstFault : MethodName := ⟨RX2, "firstFault", "()I"⟩
abbrev cX2_takeOrder : ByteArray := prog_4_method_7_code
def yX2_takeOrder : MethodName := ⟨RX2, "takeOrder", "()Z"⟩
abbrev cX2_takeFirst : ByteArray := prog_4_method_8_code
def yX2_takeFirst : MethodName := ⟨RX2, "takeFirst", "(I)Z"⟩
abbrev cX2_takeSecond : ByteArray := prog_4_method_9_code
def yX2_takeSecond : MethodName := ⟨RX2, "takeSecond", "(I)Z"⟩
abbrev cX2_signHere : ByteArray := prog_4_method_10_code
def yX2_signHere : MethodName := ⟨RX2, "signHere", "()I"⟩
abbrev cX2_takeSign : ByteArray := prog_4_method_11_code
def yX2_takeSign : MethodName := ⟨RX2, "takeSign", "(I)Z"⟩
abbrev cX2_takeReader : ByteArray := prog_4_method_12_code
def yX2_takeReader : MethodName := ⟨RX2, "takeReader", "()I"⟩
abbrev cX2_takeDigit : ByteArray := prog_4_method_13_code
def yX2_takeDigit : MethodName := ⟨RX2, "takeDigit", "(I)I"⟩
abbrev cX2_takeNumber : ByteArray := prog_4_method_14_code
def yX2_takeNumber : MethodName := ⟨RX2, "takeNumber", "()I"⟩
def RX3 : String := "ChangeFeed$Reader"
def TX3 : u_T := fun k => match k with
  | 0 => ("ChangeFeed$Reader", "place", "I", false)
  | 1 => ("ChangeFeed$Reader", "confirmedPlace", "I", false)
  | 2 => ("ChangeFeed$Reader", "readSoFar", "I", false)
  | 3 => ("ChangeFeed$Reader", "view", "LChangeFeed$Values;", true)
  | _ => ("ChangeFeed$Reader", "confirmedView", "LChangeFeed$Values;", true)
def tyX3 : Nat → FieldType := fun k => match k with
  | 0 => .int
  | 1 => .int
  | 2 => .int
  | 3 => .object "ChangeFeed$Values"
  | _ => .object "ChangeFeed$Values"
abbrev wsX30 : List Cond := u_ws RX3 TX3 5
theorem nmX3 : ∀ a, a < 5 → ∀ b, b < 5 → a ≠ b → (TX3 a).2.1 ≠ (TX3 b).2.1 := by decide +kernel
theorem tyX3_ok : ∀ k, k < 5 → parseFieldDescriptor (TX3 k).2.2.1 = some (tyX3 k) := by decide +kernel
abbrev cX3_init : ByteArray := prog_5_method_1_code
def yX3_init : MethodName := ⟨RX3, "<init>", "()V"⟩
abbrev cX3_copyFrom : ByteArray := prog_5_method_2_code
def yX3_copyFrom : MethodName := ⟨RX3, "copyFrom", "(LChangeFeed$Reader;)V"⟩
abbrev cX3_startOver : ByteArray := prog_5_method_3_code
def yX3_startOver : MethodName := ⟨RX3, "startOver", "()V"⟩
abbrev cX3_keepPlace : ByteArray := prog_5_method_4_code
def yX3_keepPlace : MethodName := ⟨RX3, "keepPlace", "()V"⟩
abbrev cX3_returnToConfirmed : ByteArray := prog_5_method_5_code
def yX3_returnToConfirmed : MethodName := ⟨RX3, "returnToConfirmed", "()V"⟩
abbrev cX3_takeOver : ByteArray := prog_5_method_6_code
def yX3_takeOver : MethodName := ⟨RX3, "takeOver", "(LChangeFeed$Snapshot;)V"⟩
abbrev cX3_readOn : ByteArray := prog_5_method_7_code
def yX3_readOn : MethodName := ⟨RX3, "readOn", "(LChangeFeed$Feed;I)I"⟩
def RX4 : String := "ChangeFeed$Slot"
def TX4 : u_T := fun k => match k with
  | 0 => ("ChangeFeed$Slot", "isUsed", "Z", false)
  | _ => ("ChangeFeed$Slot", "state", "LChangeFeed$State;", true)
def tyX4 : Nat → FieldType := fun k => match k with
  | 0 => .boolean
  | _ => .object "ChangeFeed$State"
abbrev wsX40 : List Cond := u_ws RX4 TX4 2
theorem nmX4 : ∀ a, a < 2 → ∀ b, b < 2 → a ≠ b → (TX4 a).2.1 ≠ (TX4 b).2.1 := by decide +kernel
theorem tyX4_ok : ∀ k, k < 2 → parseFieldDescriptor (TX4 k).2.2.1 = some (tyX4 k) := by decide +kernel
abbrev cX4_init : ByteArray := prog_6_method_1_code
def yX4_init : MethodName := ⟨RX4, "<init>", "()V"⟩
def RX5 : String := "ChangeFeed$Snapshot"
def TX5 : u_T := fun k => match k with
  | 0 => ("ChangeFeed$Snapshot", "number", "I", false)
  | _ => ("ChangeFeed$Snapshot", "table", "LChangeFeed$Values;", true)
def tyX5 : Nat → FieldType := fun k => match k with
  | 0 => .int
  | _ => .object "ChangeFeed$Values"
abbrev wsX50 : List Cond := u_ws RX5 TX5 2
theorem nmX5 : ∀ a, a < 2 → ∀ b, b < 2 → a ≠ b → (TX5 a).2.1 ≠ (TX5 b).2.1 := by decide +kernel
theorem tyX5_ok : ∀ k, k < 2 → parseFieldDescriptor (TX5 k).2.2.1 = some (tyX5 k) := by decide +kernel
abbrev cX5_init : ByteArray := prog_7_method_1_code
def yX5_init : MethodName := ⟨RX5, "<init>", "()V"⟩
abbrev cX5_copyFrom : ByteArray := prog_7_method_2_code
def yX5_copyFrom : MethodName := ⟨RX5, "copyFrom", "(LChangeFeed$Snapshot;)V"⟩
def RX6 : String := "ChangeFeed$State"
def TX6 : u_T := fun k => match k with
  | 0 => ("ChangeFeed$State", "size", "I", false)
  | 1 => ("ChangeFeed$State", "grace", "I", false)
  | 2 => ("ChangeFeed$State", "minute", "I", false)
  | 3 => ("ChangeFeed$State", "readerCount", "I", false)
  | 4 => ("ChangeFeed$State", "snapshotCount", "I", false)
  | 5 => ("ChangeFeed$State", "table", "LChangeFeed$Values;", true)
  | 6 => ("ChangeFeed$State", "feed", "LChangeFeed$Feed;", true)
  | 7 => ("ChangeFeed$State", "readers", "[LChangeFeed$Reader;", true)
  | _ => ("ChangeFeed$State", "snapshots", "[LChangeFeed$Snapshot;", true)
def tyX6 : Nat → FieldType := fun k => match k with
  | 0 => .int
  | 1 => .int
  | 2 => .int
  | 3 => .int
  | 4 => .int
  | 5 => .object "ChangeFeed$Values"
  | 6 => .object "ChangeFeed$Feed"
  | 7 => .array (.object "ChangeFeed$Reader")
  | _ => .array (.object "ChangeFeed$Snapshot")
abbrev wsX60 : List Cond := u_ws RX6 TX6 9
theorem nmX6 : ∀ a, a < 9 → ∀ b, b < 9 → a ≠ b → (TX6 a).2.1 ≠ (TX6 b).2.1 := by decide +kernel
theorem tyX6_ok : ∀ k, k < 9 → parseFieldDescriptor (TX6 k).2.2.1 = some (tyX6 k) := by decide +kernel
abbrev cX6_init : ByteArray := prog_8_method_1_code
def yX6_init : MethodName := ⟨RX6, "<init>", "()V"⟩
abbrev cX6_copyFrom : ByteArray := prog_8_method_2_code
def yX6_copyFrom : MethodName := ⟨RX6, "copyFrom", "(LChangeFeed$State;)V"⟩
abbrev cX6_copySnapshot : ByteArray := prog_8_method_3_code
def yX6_copySnapshot : MethodName := ⟨RX6, "copySnapshot", "(LChangeFeed$Snapshot;LChangeFeed$Snapshot;)V"⟩
abbrev cX6_readerAt : ByteArray := prog_8_method_4_code
def yX6_readerAt : MethodName := ⟨RX6, "readerAt", "(I)LChangeFeed$Reader;"⟩
abbrev cX6_snapshotAt : ByteArray := prog_8_method_5_code
def yX6_snapshotAt : MethodName := ⟨RX6, "snapshotAt", "(I)LChangeFeed$Snapshot;"⟩
abbrev cX6_turnSetting : ByteArray := prog_8_method_6_code
def yX6_turnSetting : MethodName := ⟨RX6, "turnSetting", "(II)I"⟩
abbrev cX6_setKey : ByteArray := prog_8_method_7_code
def yX6_setKey : MethodName := ⟨RX6, "setKey", "(II)I"⟩
abbrev cX6_removeKey : ByteArray := prog_8_method_8_code
def yX6_removeKey : MethodName := ⟨RX6, "removeKey", "(I)I"⟩
abbrev cX6_letPass : ByteArray := prog_8_method_9_code
def yX6_letPass : MethodName := ⟨RX6, "letPass", "(I)I"⟩
abbrev cX6_thinFeed : ByteArray := prog_8_method_10_code
def yX6_thinFeed : MethodName := ⟨RX6, "thinFeed", "()I"⟩
abbrev cX6_makeSnapshot : ByteArray := prog_8_method_11_code
def yX6_makeSnapshot : MethodName := ⟨RX6, "makeSnapshot", "()I"⟩
abbrev cX6_addReader : ByteArray := prog_8_method_12_code
def yX6_addReader : MethodName := ⟨RX6, "addReader", "()I"⟩
abbrev cX6_letRead : ByteArray := prog_8_method_13_code
def yX6_letRead : MethodName := ⟨RX6, "letRead", "(II)I"⟩
abbrev cX6_letConfirm : ByteArray := prog_8_method_14_code
def yX6_letConfirm : MethodName := ⟨RX6, "letConfirm", "(I)I"⟩
abbrev cX6_letGoBack : ByteArray := prog_8_method_15_code
def yX6_letGoBack : MethodName := ⟨RX6, "letGoBack", "(I)I"⟩
abbrev cX6_letBeginAnew : ByteArray := prog_8_method_16_code
def yX6_letBeginAnew : MethodName := ⟨RX6, "letBeginAnew", "(I)I"⟩
abbrev cX6_letLoad : ByteArray := prog_8_method_17_code
def yX6_letLoad : MethodName := ⟨RX6, "letLoad", "(II)I"⟩
abbrev cX6_lateBelow : ByteArray := prog_8_method_18_code
def yX6_lateBelow : MethodName := ⟨RX6, "lateBelow", "(I)I"⟩
abbrev cX6_entriesOnWay : ByteArray := prog_8_method_19_code
def yX6_entriesOnWay : MethodName := ⟨RX6, "entriesOnWay", "(LChangeFeed$Reader;I)I"⟩
abbrev cX6_aheadUnlessLate : ByteArray := prog_8_method_20_code
def yX6_aheadUnlessLate : MethodName := ⟨RX6, "aheadUnlessLate", "(I)I"⟩
abbrev cX6_shortestWay : ByteArray := prog_8_method_21_code
def yX6_shortestWay : MethodName := ⟨RX6, "shortestWay", "(LChangeFeed$Reader;)I"⟩
def RX7 : String := "ChangeFeed$Values"
def TX7 : u_T := fun k => match k with
  | _ => ("ChangeFeed$Values", "values", "[I", true)
def tyX7 : Nat → FieldType := fun k => match k with
  | _ => .array .int
abbrev wsX70 : List Cond := u_ws RX7 TX7 1
theorem nmX7 : ∀ a, a < 1 → ∀ b, b < 1 → a ≠ b → (TX7 a).2.1 ≠ (TX7 b).2.1 := by decide +kernel
theorem tyX7_ok : ∀ k, k < 1 → parseFieldDescriptor (TX7 k).2.2.1 = some (tyX7 k) := by decide +kernel
abbrev cX7_init : ByteArray := prog_9_method_1_code
def yX7_init : MethodName := ⟨RX7, "<init>", "()V"⟩
abbrev cX7_clear : ByteArray := prog_9_method_2_code
def yX7_clear : MethodName := ⟨RX7, "clear", "()V"⟩
abbrev cX7_copyFrom : ByteArray := prog_9_method_3_code
def yX7_copyFrom : MethodName := ⟨RX7, "copyFrom", "(LChangeFeed$Values;)V"⟩
abbrev cX7_of : ByteArray := prog_9_method_4_code
def yX7_of : MethodName := ⟨RX7, "of", "(I)I"⟩
abbrev cX7_change : ByteArray := prog_9_method_5_code
def yX7_change : MethodName := ⟨RX7, "change", "(II)V"⟩
abbrev cX7_howMany : ByteArray := prog_9_method_6_code
def yX7_howMany : MethodName := ⟨RX7, "howMany", "()I"⟩
abbrev cX7_differingFrom : ByteArray := prog_9_method_7_code
def yX7_differingFrom : MethodName := ⟨RX7, "differingFrom", "(LChangeFeed$Values;)I"⟩
def RX8 : String := "ChangeFeed"
def TX8 : u_T := fun k => match k with
  | 0 => ("ChangeFeed", "now", "LChangeFeed$State;", true)
  | 1 => ("ChangeFeed", "history", "LChangeFeed$History;", true)
  | 2 => ("ChangeFeed", "pad", "LChangeFeed$Pad;", true)
  | _ => ("ChangeFeed", "slots", "[LChangeFeed$Slot;", true)
def tyX8 : Nat → FieldType := fun k => match k with
  | 0 => .object "ChangeFeed$State"
  | 1 => .object "ChangeFeed$History"
  | 2 => .object "ChangeFeed$Pad"
  | _ => .array (.object "ChangeFeed$Slot")
abbrev wsX80 : List Cond := u_ws RX8 TX8 4
theorem nmX8 : ∀ a, a < 4 → ∀ b, b < 4 → a ≠ b → (TX8 a).2.1 ≠ (TX8 b).2.1 := by decide +kernel
theorem tyX8_ok : ∀ k, k < 4 → parseFieldDescriptor (TX8 k).2.2.1 = some (tyX8 k) := by decide +kernel
abbrev cX8_init : ByteArray := prog_1_method_1_code
def yX8_init : MethodName := ⟨RX8, "<init>", "()V"⟩
abbrev cX8_turn : ByteArray := prog_1_method_2_code
def yX8_turn : MethodName := ⟨RX8, "turn", "(II)I"⟩
abbrev cX8_set : ByteArray := prog_1_method_3_code
def yX8_set : MethodName := ⟨RX8, "set", "(II)I"⟩
abbrev cX8_remove : ByteArray := prog_1_method_4_code
def yX8_remove : MethodName := ⟨RX8, "remove", "(I)I"⟩
abbrev cX8_pass : ByteArray := prog_1_method_5_code
def yX8_pass : MethodName := ⟨RX8, "pass", "(I)I"⟩
abbrev cX8_thin : ByteArray := prog_1_method_6_code
def yX8_thin : MethodName := ⟨RX8, "thin", "()I"⟩
abbrev cX8_snapshot : ByteArray := prog_1_method_7_code
def yX8_snapshot : MethodName := ⟨RX8, "snapshot", "()I"⟩
abbrev cX8_reader : ByteArray := prog_1_method_8_code
def yX8_reader : MethodName := ⟨RX8, "reader", "()I"⟩
abbrev cX8_read : ByteArray := prog_1_method_9_code
def yX8_read : MethodName := ⟨RX8, "read", "(II)I"⟩
abbrev cX8_confirm : ByteArray := prog_1_method_10_code
def yX8_confirm : MethodName := ⟨RX8, "confirm", "(I)I"⟩
abbrev cX8_goBack : ByteArray := prog_1_method_11_code
def yX8_goBack : MethodName := ⟨RX8, "goBack", "(I)I"⟩
abbrev cX8_beginAnew : ByteArray := prog_1_method_12_code
def yX8_beginAnew : MethodName := ⟨RX8, "beginAnew", "(I)I"⟩
abbrev cX8_load : ByteArray := prog_1_method_13_code
def yX8_load : MethodName := ⟨RX8, "load", "(II)I"⟩
abbrev cX8_table : ByteArray := prog_1_method_14_code
def yX8_table : MethodName := ⟨RX8, "table", "(I)I"⟩
abbrev cX8_view : ByteArray := prog_1_method_15_code
def yX8_view : MethodName := ⟨RX8, "view", "(II)I"⟩
abbrev cX8_entry : ByteArray := prog_1_method_16_code
def yX8_entry : MethodName := ⟨RX8, "entry", "(II)I"⟩
abbrev cX8_ofReader : ByteArray := prog_1_method_17_code
def yX8_ofReader : MethodName := ⟨RX8, "ofReader", "(II)I"⟩
abbrev cX8_ofSnapshot : ByteArray := prog_1_method_18_code
def yX8_ofSnapshot : MethodName := ⟨RX8, "ofSnapshot", "(II)I"⟩
abbrev cX8_count : ByteArray := prog_1_method_19_code
def yX8_count : MethodName := ⟨RX8, "count", "(I)I"⟩
abbrev cX8_leftIn : ByteArray := prog_1_method_20_code
def yX8_leftIn : MethodName := ⟨RX8, "leftIn", "(I)I"⟩
abbrev cX8_lateIn : ByteArray := prog_1_method_21_code
def yX8_lateIn : MethodName := ⟨RX8, "lateIn", "(I)I"⟩
abbrev cX8_shortest : ByteArray := prog_1_method_22_code
def yX8_shortest : MethodName := ⟨RX8, "shortest", "(II)I"⟩
abbrev cX8_gentlest : ByteArray := prog_1_method_23_code
def yX8_gentlest : MethodName := ⟨RX8, "gentlest", "()I"⟩
abbrev cX8_put : ByteArray := prog_1_method_24_code
def yX8_put : MethodName := ⟨RX8, "put", "(J)I"⟩
abbrev cX8_wipe : ByteArray := prog_1_method_25_code
def yX8_wipe : MethodName := ⟨RX8, "wipe", "()I"⟩
abbrev cX8_fault : ByteArray := prog_1_method_26_code
def yX8_fault : MethodName := ⟨RX8, "fault", "()I"⟩
abbrev cX8_carryOut : ByteArray := prog_1_method_27_code
def yX8_carryOut : MethodName := ⟨RX8, "carryOut", "()I"⟩
abbrev cX8_carryOutOrder : ByteArray := prog_1_method_28_code
def yX8_carryOutOrder : MethodName := ⟨RX8, "carryOutOrder", "()I"⟩
abbrev cX8_undo : ByteArray := prog_1_method_29_code
def yX8_undo : MethodName := ⟨RX8, "undo", "()I"⟩
abbrev cX8_save : ByteArray := prog_1_method_30_code
def yX8_save : MethodName := ⟨RX8, "save", "(I)I"⟩
abbrev cX8_restore : ByteArray := prog_1_method_31_code
def yX8_restore : MethodName := ⟨RX8, "restore", "(I)I"⟩
abbrev cX8_slotAt : ByteArray := prog_1_method_32_code
def yX8_slotAt : MethodName := ⟨RX8, "slotAt", "(I)LChangeFeed$Slot;"⟩
abbrev cX8_isKey : ByteArray := prog_1_method_33_code
def yX8_isKey : MethodName := ⟨RX8, "isKey", "(I)Z"⟩
abbrev cX8_isNumber : ByteArray := prog_1_method_34_code
def yX8_isNumber : MethodName := ⟨RX8, "isNumber", "(I)Z"⟩
abbrev cX8_isLate : ByteArray := prog_1_method_35_code
def yX8_isLate : MethodName := ⟨RX8, "isLate", "(II)Z"⟩
abbrev cX8_oneIf : ByteArray := prog_1_method_36_code
def yX8_oneIf : MethodName := ⟨RX8, "oneIf", "(Z)I"⟩
abbrev cX8_at : ByteArray := prog_1_method_37_code
def yX8_at : MethodName := ⟨RX8, "at", "([II)I"⟩
abbrev cX8_layAt : ByteArray := prog_1_method_38_code
def yX8_layAt : MethodName := ⟨RX8, "layAt", "([III)V"⟩
abbrev cX8_copyRow : ByteArray := prog_1_method_39_code
def yX8_copyRow : MethodName := ⟨RX8, "copyRow", "([I[I)V"⟩
def RX9 : String := "ChangeFeedModel"
def TX9 : u_T := fun k => match k with
  | 0 => ("ChangeFeedModel", "now", "[I", true)
  | 1 => ("ChangeFeedModel", "then", "[I", true)
  | 2 => ("ChangeFeedModel", "past", "[I", true)
  | 3 => ("ChangeFeedModel", "kept", "I", false)
  | 4 => ("ChangeFeedModel", "slots", "[I", true)
  | 5 => ("ChangeFeedModel", "held", "[Z", true)
  | 6 => ("ChangeFeedModel", "pad", "[I", true)
  | 7 => ("ChangeFeedModel", "padded", "I", false)
  | 8 => ("ChangeFeedModel", "at", "I", false)
  | 9 => ("ChangeFeedModel", "orders", "[I", true)
  | _ => ("ChangeFeedModel", "ordered", "I", false)
def tyX9 : Nat → FieldType := fun k => match k with
  | 0 => .array .int
  | 1 => .array .int
  | 2 => .array .int
  | 3 => .int
  | 4 => .array .int
  | 5 => .array .boolean
  | 6 => .array .int
  | 7 => .int
  | 8 => .int
  | 9 => .array .int
  | _ => .int
abbrev wsX90 : List Cond := u_ws RX9 TX9 11
theorem nmX9 : ∀ a, a < 11 → ∀ b, b < 11 → a ≠ b → (TX9 a).2.1 ≠ (TX9 b).2.1 := by decide +kernel
theorem tyX9_ok : ∀ k, k < 11 → parseFieldDescriptor (TX9 k).2.2.1 = some (tyX9 k) := by decide +kernel
abbrev cX9_init : ByteArray := prog_11_method_1_code
def yX9_init : MethodName := ⟨RX9, "<init>", "()V"⟩
abbrev cX9_in : ByteArray := prog_11_method_3_code
def yX9_in : MethodName := ⟨RX9, "in", "(III)Z"⟩
abbrev cX9_isKey : ByteArray := prog_11_method_4_code
def yX9_isKey : MethodName := ⟨RX9, "isKey", "(I)Z"⟩
abbrev cX9_isReader : ByteArray := prog_11_method_5_code
def yX9_isReader : MethodName := ⟨RX9, "isReader", "(I)Z"⟩
abbrev cX9_isShot : ByteArray := prog_11_method_6_code
def yX9_isShot : MethodName := ⟨RX9, "isShot", "(I)Z"⟩
abbrev cX9_row : ByteArray := prog_11_method_7_code
def yX9_row : MethodName := ⟨RX9, "row", "(I)I"⟩
abbrev cX9_lays : ByteArray := prog_11_method_8_code
def yX9_lays : MethodName := ⟨RX9, "lays", "([II[II)V"⟩
abbrev cX9_records : ByteArray := prog_11_method_9_code
def yX9_records : MethodName := ⟨RX9, "records", "()V"⟩
abbrev cX9_undo : ByteArray := prog_11_method_10_code
def yX9_undo : MethodName := ⟨RX9, "undo", "()I"⟩
abbrev cX9_save : ByteArray := prog_11_method_11_code
def yX9_save : MethodName := ⟨RX9, "save", "(I)I"⟩
abbrev cX9_restore : ByteArray := prog_11_method_12_code
def yX9_restore : MethodName := ⟨RX9, "restore", "(I)I"⟩
abbrev cX9_of : ByteArray := prog_11_method_13_code
def yX9_of : MethodName := ⟨RX9, "of", "([III)I"⟩
abbrev cX9_isClosed : ByteArray := prog_11_method_14_code
def yX9_isClosed : MethodName := ⟨RX9, "isClosed", "([II)Z"⟩
abbrev cX9_isLast : ByteArray := prog_11_method_15_code
def yX9_isLast : MethodName := ⟨RX9, "isLast", "([II)Z"⟩
abbrev cX9_goes : ByteArray := prog_11_method_16_code
def yX9_goes : MethodName := ⟨RX9, "goes", "([II)V"⟩
abbrev cX9_thins : ByteArray := prog_11_method_17_code
def yX9_thins : MethodName := ⟨RX9, "thins", "([I)I"⟩
abbrev cX9_isLatePlace : ByteArray := prog_11_method_18_code
def yX9_isLatePlace : MethodName := ⟨RX9, "isLatePlace", "([II)Z"⟩
abbrev cX9_isLate : ByteArray := prog_11_method_19_code
def yX9_isLate : MethodName := ⟨RX9, "isLate", "([II)Z"⟩
abbrev cX9_lateOnes : ByteArray := prog_11_method_20_code
def yX9_lateOnes : MethodName := ⟨RX9, "lateOnes", "([I)I"⟩
abbrev cX9_ahead : ByteArray := prog_11_method_21_code
def yX9_ahead : MethodName := ⟨RX9, "ahead", "(I)I"⟩
abbrev cX9_turn : ByteArray := prog_11_method_22_code
def yX9_turn : MethodName := ⟨RX9, "turn", "(II)I"⟩
abbrev cX9_maySet : ByteArray := prog_11_method_23_code
def yX9_maySet : MethodName := ⟨RX9, "maySet", "(II)I"⟩
abbrev cX9_sets : ByteArray := prog_11_method_24_code
def yX9_sets : MethodName := ⟨RX9, "sets", "(II)I"⟩
abbrev cX9_set : ByteArray := prog_11_method_25_code
def yX9_set : MethodName := ⟨RX9, "set", "(II)I"⟩
abbrev cX9_mayRemove : ByteArray := prog_11_method_26_code
def yX9_mayRemove : MethodName := ⟨RX9, "mayRemove", "(I)I"⟩
abbrev cX9_remove : ByteArray := prog_11_method_27_code
def yX9_remove : MethodName := ⟨RX9, "remove", "(I)I"⟩
abbrev cX9_mayPass : ByteArray := prog_11_method_28_code
def yX9_mayPass : MethodName := ⟨RX9, "mayPass", "(I)I"⟩
abbrev cX9_pass : ByteArray := prog_11_method_29_code
def yX9_pass : MethodName := ⟨RX9, "pass", "(I)I"⟩
abbrev cX9_thin : ByteArray := prog_11_method_30_code
def yX9_thin : MethodName := ⟨RX9, "thin", "()I"⟩
abbrev cX9_shoots : ByteArray := prog_11_method_31_code
def yX9_shoots : MethodName := ⟨RX9, "shoots", "()I"⟩
abbrev cX9_snapshot : ByteArray := prog_11_method_32_code
def yX9_snapshot : MethodName := ⟨RX9, "snapshot", "()I"⟩
abbrev cX9_begins : ByteArray := prog_11_method_33_code
def yX9_begins : MethodName := ⟨RX9, "begins", "(III)I"⟩
abbrev cX9_comes : ByteArray := prog_11_method_34_code
def yX9_comes : MethodName := ⟨RX9, "comes", "()I"⟩
abbrev cX9_reader : ByteArray := prog_11_method_35_code
def yX9_reader : MethodName := ⟨RX9, "reader", "()I"⟩
abbrev cX9_mayRead : ByteArray := prog_11_method_36_code
def yX9_mayRead : MethodName := ⟨RX9, "mayRead", "(II)I"⟩
abbrev cX9_reads : ByteArray := prog_11_method_37_code
def yX9_reads : MethodName := ⟨RX9, "reads", "(II)I"⟩
abbrev cX9_read : ByteArray := prog_11_method_38_code
def yX9_read : MethodName := ⟨RX9, "read", "(II)I"⟩
abbrev cX9_takes : ByteArray := prog_11_method_39_code
def yX9_takes : MethodName := ⟨RX9, "takes", "(IZ)I"⟩
abbrev cX9_confirm : ByteArray := prog_11_method_40_code
def yX9_confirm : MethodName := ⟨RX9, "confirm", "(I)I"⟩
abbrev cX9_goBack : ByteArray := prog_11_method_41_code
def yX9_goBack : MethodName := ⟨RX9, "goBack", "(I)I"⟩
abbrev cX9_beginAnew : ByteArray := prog_11_method_42_code
def yX9_beginAnew : MethodName := ⟨RX9, "beginAnew", "(I)I"⟩
abbrev cX9_mayLoad : ByteArray := prog_11_method_43_code
def yX9_mayLoad : MethodName := ⟨RX9, "mayLoad", "(II)I"⟩
abbrev cX9_loads : ByteArray := prog_11_method_44_code
def yX9_loads : MethodName := ⟨RX9, "loads", "(II)I"⟩
abbrev cX9_load : ByteArray := prog_11_method_45_code
def yX9_load : MethodName := ⟨RX9, "load", "(II)I"⟩
abbrev cX9_table : ByteArray := prog_11_method_46_code
def yX9_table : MethodName := ⟨RX9, "table", "(I)I"⟩
abbrev cX9_view : ByteArray := prog_11_method_47_code
def yX9_view : MethodName := ⟨RX9, "view", "(II)I"⟩
abbrev cX9_entry : ByteArray := prog_11_method_48_code
def yX9_entry : MethodName := ⟨RX9, "entry", "(II)I"⟩
abbrev cX9_unlike : ByteArray := prog_11_method_49_code
def yX9_unlike : MethodName := ⟨RX9, "unlike", "(I)I"⟩
abbrev cX9_ofReader : ByteArray := prog_11_method_50_code
def yX9_ofReader : MethodName := ⟨RX9, "ofReader", "(II)I"⟩
abbrev cX9_valued : ByteArray := prog_11_method_51_code
def yX9_valued : MethodName := ⟨RX9, "valued", "(I)I"⟩
abbrev cX9_ofSnapshot : ByteArray := prog_11_method_52_code
def yX9_ofSnapshot : MethodName := ⟨RX9, "ofSnapshot", "(II)I"⟩
abbrev cX9_count : ByteArray := prog_11_method_53_code
def yX9_count : MethodName := ⟨RX9, "count", "(I)I"⟩
abbrev cX9_thinsThen : ByteArray := prog_11_method_54_code
def yX9_thinsThen : MethodName := ⟨RX9, "thinsThen", "(I)V"⟩
abbrev cX9_leftIn : ByteArray := prog_11_method_55_code
def yX9_leftIn : MethodName := ⟨RX9, "leftIn", "(I)I"⟩
abbrev cX9_lateIn : ByteArray := prog_11_method_56_code
def yX9_lateIn : MethodName := ⟨RX9, "lateIn", "(I)I"⟩
abbrev cX9_shortest : ByteArray := prog_11_method_57_code
def yX9_shortest : MethodName := ⟨RX9, "shortest", "(II)I"⟩
abbrev cX9_gentlest : ByteArray := prog_11_method_58_code
def yX9_gentlest : MethodName := ⟨RX9, "gentlest", "()I"⟩
abbrev cX9_byteOf : ByteArray := prog_11_method_59_code
def yX9_byteOf : MethodName := ⟨RX9, "byteOf", "(JI)I"⟩
abbrev cX9_toldBy : ByteArray := prog_11_method_60_code
def yX9_toldBy : MethodName := ⟨RX9, "toldBy", "(J)I"⟩
abbrev cX9_put : ByteArray := prog_11_method_61_code
def yX9_put : MethodName := ⟨RX9, "put", "(J)I"⟩
abbrev cX9_wipe : ByteArray := prog_11_method_62_code
def yX9_wipe : MethodName := ⟨RX9, "wipe", "()I"⟩
abbrev cX9_isAt : ByteArray := prog_11_method_63_code
def yX9_isAt : MethodName := ⟨RX9, "isAt", "(II)Z"⟩
abbrev cX9_isSign : ByteArray := prog_11_method_64_code
def yX9_isSign : MethodName := ⟨RX9, "isSign", "(I)Z"⟩
abbrev cX9_isDigit : ByteArray := prog_11_method_65_code
def yX9_isDigit : MethodName := ⟨RX9, "isDigit", "(II)Z"⟩
abbrev cX9_isNumber : ByteArray := prog_11_method_66_code
def yX9_isNumber : MethodName := ⟨RX9, "isNumber", "(I)Z"⟩
abbrev cX9_isOrder : ByteArray := prog_11_method_67_code
def yX9_isOrder : MethodName := ⟨RX9, "isOrder", "()Z"⟩
abbrev cX9_isText : ByteArray := prog_11_method_68_code
def yX9_isText : MethodName := ⟨RX9, "isText", "()Z"⟩
abbrev cX9_fault : ByteArray := prog_11_method_69_code
def yX9_fault : MethodName := ⟨RX9, "fault", "()I"⟩
abbrev cX9_mayDo : ByteArray := prog_11_method_70_code
def yX9_mayDo : MethodName := ⟨RX9, "mayDo", "(III)I"⟩
abbrev cX9_does : ByteArray := prog_11_method_71_code
def yX9_does : MethodName := ⟨RX9, "does", "(I)Z"⟩
abbrev cX9_carryOut : ByteArray := prog_11_method_72_code
def yX9_carryOut : MethodName := ⟨RX9, "carryOut", "()I"⟩
def RJ9 : String := "java/lang/Math"
def TJ9 : u_T := fun k => match k with
  | _ => ("", "", "", false)
def tyJ9 : Nat → FieldType := fun k => match k with
  | _ => .int
abbrev wsJ90 : List Cond := u_ws RJ9 TJ9 0
theorem nmJ9 : ∀ a, a < 0 → ∀ b, b < 0 → a ≠ b → (TJ9 a).2.1 ≠ (TJ9 b).2.1 := by decide +kernel
theorem tyJ9_ok : ∀ k, k < 0 → parseFieldDescriptor (TJ9 k).2.2.1 = some (tyJ9 k) := by decide +kernel
abbrev cJ9_max_7cf53 : ByteArray := prog_12_method_65_code
def yJ9_max_7cf53 : MethodName := ⟨RJ9, "max", "(II)I"⟩
abbrev cJ9_min_7cf53 : ByteArray := prog_12_method_69_code
def yJ9_min_7cf53 : MethodName := ⟨RJ9, "min", "(II)I"⟩
def RL : String := "ChangeFeedLaw"
abbrev cL_law : ByteArray := code
def yL_law : MethodName := ⟨RL, "law", "([I)Z"⟩
abbrev kX0_init : MethodName × ByteArray × Nat × Option FieldType := (yX0_init, cX0_init, 1, none)
abbrev kX0_copyFrom : MethodName × ByteArray × Nat × Option FieldType := (yX0_copyFrom, cX0_copyFrom, 2, none)
abbrev kX0_numberAt : MethodName × ByteArray × Nat × Option FieldType := (yX0_numberAt, cX0_numberAt, 2, (some .int))
abbrev kX0_keyAt : MethodName × ByteArray × Nat × Option FieldType := (yX0_keyAt, cX0_keyAt, 2, (some .int))
abbrev kX0_valueAt : MethodName × ByteArray × Nat × Option FieldType := (yX0_valueAt, cX0_valueAt, 2, (some .int))
abbrev kX0_minuteAt : MethodName × ByteArray × Nat × Option FieldType := (yX0_minuteAt, cX0_minuteAt, 2, (some .int))
abbrev kX0_isFull : MethodName × ByteArray × Nat × Option FieldType := (yX0_isFull, cX0_isFull, 1, (some .boolean))
abbrev kX0_append : MethodName × ByteArray × Nat × Option FieldType := (yX0_append, cX0_append, 5, (some .int))
abbrev kX0_layEntry : MethodName × ByteArray × Nat × Option FieldType := (yX0_layEntry, cX0_layEntry, 6, none)
abbrev kX0_firstFrom : MethodName × ByteArray × Nat × Option FieldType := (yX0_firstFrom, cX0_firstFrom, 3, (some .int))
abbrev kX0_aheadOf : MethodName × ByteArray × Nat × Option FieldType := (yX0_aheadOf, cX0_aheadOf, 2, (some .int))
abbrev kX0_isLastOfItsKey : MethodName × ByteArray × Nat × Option FieldType := (yX0_isLastOfItsKey, cX0_isLastOfItsKey, 3, (some .boolean))
abbrev kX0_isClosed : MethodName × ByteArray × Nat × Option FieldType := (yX0_isClosed, cX0_isClosed, 3, (some .boolean))
abbrev kX0_segmentOf : MethodName × ByteArray × Nat × Option FieldType := (yX0_segmentOf, cX0_segmentOf, 2, (some .int))
abbrev kX0_isOldRemoval : MethodName × ByteArray × Nat × Option FieldType := (yX0_isOldRemoval, cX0_isOldRemoval, 4, (some .boolean))
abbrev kX0_wouldGo : MethodName × ByteArray × Nat × Option FieldType := (yX0_wouldGo, cX0_wouldGo, 5, (some .boolean))
abbrev kX0_leftAfterThinning : MethodName × ByteArray × Nat × Option FieldType := (yX0_leftAfterThinning, cX0_leftAfterThinning, 6, (some .int))
abbrev kX0_floorAfterThinning : MethodName × ByteArray × Nat × Option FieldType := (yX0_floorAfterThinning, cX0_floorAfterThinning, 6, (some .int))
abbrev kX0_thinOut : MethodName × ByteArray × Nat × Option FieldType := (yX0_thinOut, cX0_thinOut, 6, (some .int))
abbrev kX1_init : MethodName × ByteArray × Nat × Option FieldType := (yX1_init, cX1_init, 2, none)
abbrev kX1_stateAt : MethodName × ByteArray × Nat × Option FieldType := (yX1_stateAt, cX1_stateAt, 2, (some (.object RX6)))
abbrev kX1_prepare : MethodName × ByteArray × Nat × Option FieldType := (yX1_prepare, cX1_prepare, 3, none)
abbrev kX1_settle : MethodName × ByteArray × Nat × Option FieldType := (yX1_settle, cX1_settle, 2, (some .int))
abbrev kX1_dropOldest : MethodName × ByteArray × Nat × Option FieldType := (yX1_dropOldest, cX1_dropOldest, 3, none)
abbrev kX1_bringBack : MethodName × ByteArray × Nat × Option FieldType := (yX1_bringBack, cX1_bringBack, 3, (some .int))
abbrev kX2_init : MethodName × ByteArray × Nat × Option FieldType := (yX2_init, cX2_init, 1, none)
abbrev kX2_append : MethodName × ByteArray × Nat × Option FieldType := (yX2_append, cX2_append, 7, (some .int))
abbrev kX2_signFromTheEnd : MethodName × ByteArray × Nat × Option FieldType := (yX2_signFromTheEnd, cX2_signFromTheEnd, 3, (some .int))
abbrev kX2_empty : MethodName × ByteArray × Nat × Option FieldType := (yX2_empty, cX2_empty, 2, (some .int))
abbrev kX2_goToStart : MethodName × ByteArray × Nat × Option FieldType := (yX2_goToStart, cX2_goToStart, 1, none)
abbrev kX2_firstFault : MethodName × ByteArray × Nat × Option FieldType := (yX2_firstFault, cX2_firstFault, 2, (some .int))
abbrev kX2_takeOrder : MethodName × ByteArray × Nat × Option FieldType := (yX2_takeOrder, cX2_takeOrder, 1, (some .boolean))
abbrev kX2_takeFirst : MethodName × ByteArray × Nat × Option FieldType := (yX2_takeFirst, cX2_takeFirst, 2, (some .boolean))
abbrev kX2_takeSecond : MethodName × ByteArray × Nat × Option FieldType := (yX2_takeSecond, cX2_takeSecond, 2, (some .boolean))
abbrev kX2_signHere : MethodName × ByteArray × Nat × Option FieldType := (yX2_signHere, cX2_signHere, 1, (some .int))
abbrev kX2_takeSign : MethodName × ByteArray × Nat × Option FieldType := (yX2_takeSign, cX2_takeSign, 2, (some .boolean))
abbrev kX2_takeReader : MethodName × ByteArray × Nat × Option FieldType := (yX2_takeReader, cX2_takeReader, 1, (some .int))
abbrev kX2_takeDigit : MethodName × ByteArray × Nat × Option FieldType := (yX2_takeDigit, cX2_takeDigit, 3, (some .int))
abbrev kX2_takeNumber : MethodName × ByteArray × Nat × Option FieldType := (yX2_takeNumber, cX2_takeNumber, 4, (some .int))
abbrev kX3_init : MethodName × ByteArray × Nat × Option FieldType := (yX3_init, cX3_init, 1, none)
abbrev kX3_copyFrom : MethodName × ByteArray × Nat × Option FieldType := (yX3_copyFrom, cX3_copyFrom, 2, none)
abbrev kX3_startOver : MethodName × ByteArray × Nat × Option FieldType := (yX3_startOver, cX3_startOver, 1, none)
abbrev kX3_keepPlace : MethodName × ByteArray × Nat × Option FieldType := (yX3_keepPlace, cX3_keepPlace, 1, none)
abbrev kX3_returnToConfirmed : MethodName × ByteArray × Nat × Option FieldType := (yX3_returnToConfirmed, cX3_returnToConfirmed, 1, none)
abbrev kX3_takeOver : MethodName × ByteArray × Nat × Option FieldType := (yX3_takeOver, cX3_takeOver, 2, none)
abbrev kX3_readOn : MethodName × ByteArray × Nat × Option FieldType := (yX3_readOn, cX3_readOn, 6, (some .int))
abbrev kX4_init : MethodName × ByteArray × Nat × Option FieldType := (yX4_init, cX4_init, 1, none)
abbrev kX5_init : MethodName × ByteArray × Nat × Option FieldType := (yX5_init, cX5_init, 1, none)
abbrev kX5_copyFrom : MethodName × ByteArray × Nat × Option FieldType := (yX5_copyFrom, cX5_copyFrom, 2, none)
abbrev kX6_init : MethodName × ByteArray × Nat × Option FieldType := (yX6_init, cX6_init, 2, none)
abbrev kX6_copyFrom : MethodName × ByteArray × Nat × Option FieldType := (yX6_copyFrom, cX6_copyFrom, 5, none)
abbrev kX6_copySnapshot : MethodName × ByteArray × Nat × Option FieldType := (yX6_copySnapshot, cX6_copySnapshot, 2, none)
abbrev kX6_readerAt : MethodName × ByteArray × Nat × Option FieldType := (yX6_readerAt, cX6_readerAt, 2, (some (.object RX3)))
abbrev kX6_snapshotAt : MethodName × ByteArray × Nat × Option FieldType := (yX6_snapshotAt, cX6_snapshotAt, 2, (some (.object RX5)))
abbrev kX6_turnSetting : MethodName × ByteArray × Nat × Option FieldType := (yX6_turnSetting, cX6_turnSetting, 4, (some .int))
abbrev kX6_setKey : MethodName × ByteArray × Nat × Option FieldType := (yX6_setKey, cX6_setKey, 3, (some .int))
abbrev kX6_removeKey : MethodName × ByteArray × Nat × Option FieldType := (yX6_removeKey, cX6_removeKey, 2, (some .int))
abbrev kX6_letPass : MethodName × ByteArray × Nat × Option FieldType := (yX6_letPass, cX6_letPass, 2, (some .int))
abbrev kX6_thinFeed : MethodName × ByteArray × Nat × Option FieldType := (yX6_thinFeed, cX6_thinFeed, 1, (some .int))
abbrev kX6_makeSnapshot : MethodName × ByteArray × Nat × Option FieldType := (yX6_makeSnapshot, cX6_makeSnapshot, 2, (some .int))
abbrev kX6_addReader : MethodName × ByteArray × Nat × Option FieldType := (yX6_addReader, cX6_addReader, 3, (some .int))
abbrev kX6_letRead : MethodName × ByteArray × Nat × Option FieldType := (yX6_letRead, cX6_letRead, 4, (some .int))
abbrev kX6_letConfirm : MethodName × ByteArray × Nat × Option FieldType := (yX6_letConfirm, cX6_letConfirm, 3, (some .int))
abbrev kX6_letGoBack : MethodName × ByteArray × Nat × Option FieldType := (yX6_letGoBack, cX6_letGoBack, 3, (some .int))
abbrev kX6_letBeginAnew : MethodName × ByteArray × Nat × Option FieldType := (yX6_letBeginAnew, cX6_letBeginAnew, 3, (some .int))
abbrev kX6_letLoad : MethodName × ByteArray × Nat × Option FieldType := (yX6_letLoad, cX6_letLoad, 5, (some .int))
abbrev kX6_lateBelow : MethodName × ByteArray × Nat × Option FieldType := (yX6_lateBelow, cX6_lateBelow, 5, (some .int))
abbrev kX6_entriesOnWay : MethodName × ByteArray × Nat × Option FieldType := (yX6_entriesOnWay, cX6_entriesOnWay, 4, (some .int))
abbrev kX6_aheadUnlessLate : MethodName × ByteArray × Nat × Option FieldType := (yX6_aheadUnlessLate, cX6_aheadUnlessLate, 2, (some .int))
abbrev kX6_shortestWay : MethodName × ByteArray × Nat × Option FieldType := (yX6_shortestWay, cX6_shortestWay, 6, (some .int))
abbrev kX7_init : MethodName × ByteArray × Nat × Option FieldType := (yX7_init, cX7_init, 1, none)
abbrev kX7_clear : MethodName × ByteArray × Nat × Option FieldType := (yX7_clear, cX7_clear, 2, none)
abbrev kX7_copyFrom : MethodName × ByteArray × Nat × Option FieldType := (yX7_copyFrom, cX7_copyFrom, 2, none)
abbrev kX7_of : MethodName × ByteArray × Nat × Option FieldType := (yX7_of, cX7_of, 2, (some .int))
abbrev kX7_change : MethodName × ByteArray × Nat × Option FieldType := (yX7_change, cX7_change, 3, none)
abbrev kX7_howMany : MethodName × ByteArray × Nat × Option FieldType := (yX7_howMany, cX7_howMany, 3, (some .int))
abbrev kX7_differingFrom : MethodName × ByteArray × Nat × Option FieldType := (yX7_differingFrom, cX7_differingFrom, 4, (some .int))
abbrev kX8_init : MethodName × ByteArray × Nat × Option FieldType := (yX8_init, cX8_init, 2, none)
abbrev kX8_turn : MethodName × ByteArray × Nat × Option FieldType := (yX8_turn, cX8_turn, 3, (some .int))
abbrev kX8_set : MethodName × ByteArray × Nat × Option FieldType := (yX8_set, cX8_set, 3, (some .int))
abbrev kX8_remove : MethodName × ByteArray × Nat × Option FieldType := (yX8_remove, cX8_remove, 2, (some .int))
abbrev kX8_pass : MethodName × ByteArray × Nat × Option FieldType := (yX8_pass, cX8_pass, 2, (some .int))
abbrev kX8_thin : MethodName × ByteArray × Nat × Option FieldType := (yX8_thin, cX8_thin, 1, (some .int))
abbrev kX8_snapshot : MethodName × ByteArray × Nat × Option FieldType := (yX8_snapshot, cX8_snapshot, 1, (some .int))
abbrev kX8_reader : MethodName × ByteArray × Nat × Option FieldType := (yX8_reader, cX8_reader, 1, (some .int))
abbrev kX8_read : MethodName × ByteArray × Nat × Option FieldType := (yX8_read, cX8_read, 3, (some .int))
abbrev kX8_confirm : MethodName × ByteArray × Nat × Option FieldType := (yX8_confirm, cX8_confirm, 2, (some .int))
abbrev kX8_goBack : MethodName × ByteArray × Nat × Option FieldType := (yX8_goBack, cX8_goBack, 2, (some .int))
abbrev kX8_beginAnew : MethodName × ByteArray × Nat × Option FieldType := (yX8_beginAnew, cX8_beginAnew, 2, (some .int))
abbrev kX8_load : MethodName × ByteArray × Nat × Option FieldType := (yX8_load, cX8_load, 3, (some .int))
abbrev kX8_table : MethodName × ByteArray × Nat × Option FieldType := (yX8_table, cX8_table, 2, (some .int))
abbrev kX8_view : MethodName × ByteArray × Nat × Option FieldType := (yX8_view, cX8_view, 4, (some .int))
abbrev kX8_entry : MethodName × ByteArray × Nat × Option FieldType := (yX8_entry, cX8_entry, 4, (some .int))
abbrev kX8_ofReader : MethodName × ByteArray × Nat × Option FieldType := (yX8_ofReader, cX8_ofReader, 4, (some .int))
abbrev kX8_ofSnapshot : MethodName × ByteArray × Nat × Option FieldType := (yX8_ofSnapshot, cX8_ofSnapshot, 4, (some .int))
abbrev kX8_count : MethodName × ByteArray × Nat × Option FieldType := (yX8_count, cX8_count, 2, (some .int))
abbrev kX8_leftIn : MethodName × ByteArray × Nat × Option FieldType := (yX8_leftIn, cX8_leftIn, 2, (some .int))
abbrev kX8_lateIn : MethodName × ByteArray × Nat × Option FieldType := (yX8_lateIn, cX8_lateIn, 2, (some .int))
abbrev kX8_shortest : MethodName × ByteArray × Nat × Option FieldType := (yX8_shortest, cX8_shortest, 5, (some .int))
abbrev kX8_gentlest : MethodName × ByteArray × Nat × Option FieldType := (yX8_gentlest, cX8_gentlest, 5, (some .int))
abbrev kX8_put : MethodName × ByteArray × Nat × Option FieldType := (yX8_put, cX8_put, 3, (some .int))
abbrev kX8_wipe : MethodName × ByteArray × Nat × Option FieldType := (yX8_wipe, cX8_wipe, 1, (some .int))
abbrev kX8_fault : MethodName × ByteArray × Nat × Option FieldType := (yX8_fault, cX8_fault, 1, (some .int))
abbrev kX8_carryOut : MethodName × ByteArray × Nat × Option FieldType := (yX8_carryOut, cX8_carryOut, 2, (some .int))
abbrev kX8_carryOutOrder : MethodName × ByteArray × Nat × Option FieldType := (yX8_carryOutOrder, cX8_carryOutOrder, 1, (some .int))
abbrev kX8_undo : MethodName × ByteArray × Nat × Option FieldType := (yX8_undo, cX8_undo, 1, (some .int))
abbrev kX8_save : MethodName × ByteArray × Nat × Option FieldType := (yX8_save, cX8_save, 3, (some .int))
abbrev kX8_restore : MethodName × ByteArray × Nat × Option FieldType := (yX8_restore, cX8_restore, 3, (some .int))
abbrev kX8_slotAt : MethodName × ByteArray × Nat × Option FieldType := (yX8_slotAt, cX8_slotAt, 2, (some (.object RX4)))
abbrev kX8_isKey : MethodName × ByteArray × Nat × Option FieldType := (yX8_isKey, cX8_isKey, 1, (some .boolean))
abbrev kX8_isNumber : MethodName × ByteArray × Nat × Option FieldType := (yX8_isNumber, cX8_isNumber, 1, (some .boolean))
abbrev kX8_isLate : MethodName × ByteArray × Nat × Option FieldType := (yX8_isLate, cX8_isLate, 2, (some .boolean))
abbrev kX8_oneIf : MethodName × ByteArray × Nat × Option FieldType := (yX8_oneIf, cX8_oneIf, 1, (some .int))
abbrev kX8_at : MethodName × ByteArray × Nat × Option FieldType := (yX8_at, cX8_at, 2, (some .int))
abbrev kX8_layAt : MethodName × ByteArray × Nat × Option FieldType := (yX8_layAt, cX8_layAt, 3, none)
abbrev kX8_copyRow : MethodName × ByteArray × Nat × Option FieldType := (yX8_copyRow, cX8_copyRow, 3, none)
abbrev kX9_init : MethodName × ByteArray × Nat × Option FieldType := (yX9_init, cX9_init, 2, none)
abbrev kX9_in : MethodName × ByteArray × Nat × Option FieldType := (yX9_in, cX9_in, 3, (some .boolean))
abbrev kX9_isKey : MethodName × ByteArray × Nat × Option FieldType := (yX9_isKey, cX9_isKey, 1, (some .boolean))
abbrev kX9_isReader : MethodName × ByteArray × Nat × Option FieldType := (yX9_isReader, cX9_isReader, 2, (some .boolean))
abbrev kX9_isShot : MethodName × ByteArray × Nat × Option FieldType := (yX9_isShot, cX9_isShot, 2, (some .boolean))
abbrev kX9_row : MethodName × ByteArray × Nat × Option FieldType := (yX9_row, cX9_row, 1, (some .int))
abbrev kX9_lays : MethodName × ByteArray × Nat × Option FieldType := (yX9_lays, cX9_lays, 5, none)
abbrev kX9_records : MethodName × ByteArray × Nat × Option FieldType := (yX9_records, cX9_records, 2, none)
abbrev kX9_undo : MethodName × ByteArray × Nat × Option FieldType := (yX9_undo, cX9_undo, 1, (some .int))
abbrev kX9_save : MethodName × ByteArray × Nat × Option FieldType := (yX9_save, cX9_save, 2, (some .int))
abbrev kX9_restore : MethodName × ByteArray × Nat × Option FieldType := (yX9_restore, cX9_restore, 2, (some .int))
abbrev kX9_of : MethodName × ByteArray × Nat × Option FieldType := (yX9_of, cX9_of, 3, (some .int))
abbrev kX9_isClosed : MethodName × ByteArray × Nat × Option FieldType := (yX9_isClosed, cX9_isClosed, 2, (some .boolean))
abbrev kX9_isLast : MethodName × ByteArray × Nat × Option FieldType := (yX9_isLast, cX9_isLast, 3, (some .boolean))
abbrev kX9_goes : MethodName × ByteArray × Nat × Option FieldType := (yX9_goes, cX9_goes, 3, none)
abbrev kX9_thins : MethodName × ByteArray × Nat × Option FieldType := (yX9_thins, cX9_thins, 3, (some .int))
abbrev kX9_isLatePlace : MethodName × ByteArray × Nat × Option FieldType := (yX9_isLatePlace, cX9_isLatePlace, 2, (some .boolean))
abbrev kX9_isLate : MethodName × ByteArray × Nat × Option FieldType := (yX9_isLate, cX9_isLate, 2, (some .boolean))
abbrev kX9_lateOnes : MethodName × ByteArray × Nat × Option FieldType := (yX9_lateOnes, cX9_lateOnes, 3, (some .int))
abbrev kX9_ahead : MethodName × ByteArray × Nat × Option FieldType := (yX9_ahead, cX9_ahead, 4, (some .int))
abbrev kX9_turn : MethodName × ByteArray × Nat × Option FieldType := (yX9_turn, cX9_turn, 4, (some .int))
abbrev kX9_maySet : MethodName × ByteArray × Nat × Option FieldType := (yX9_maySet, cX9_maySet, 3, (some .int))
abbrev kX9_sets : MethodName × ByteArray × Nat × Option FieldType := (yX9_sets, cX9_sets, 4, (some .int))
abbrev kX9_set : MethodName × ByteArray × Nat × Option FieldType := (yX9_set, cX9_set, 4, (some .int))
abbrev kX9_mayRemove : MethodName × ByteArray × Nat × Option FieldType := (yX9_mayRemove, cX9_mayRemove, 2, (some .int))
abbrev kX9_remove : MethodName × ByteArray × Nat × Option FieldType := (yX9_remove, cX9_remove, 3, (some .int))
abbrev kX9_mayPass : MethodName × ByteArray × Nat × Option FieldType := (yX9_mayPass, cX9_mayPass, 2, (some .int))
abbrev kX9_pass : MethodName × ByteArray × Nat × Option FieldType := (yX9_pass, cX9_pass, 3, (some .int))
abbrev kX9_thin : MethodName × ByteArray × Nat × Option FieldType := (yX9_thin, cX9_thin, 1, (some .int))
abbrev kX9_shoots : MethodName × ByteArray × Nat × Option FieldType := (yX9_shoots, cX9_shoots, 2, (some .int))
abbrev kX9_snapshot : MethodName × ByteArray × Nat × Option FieldType := (yX9_snapshot, cX9_snapshot, 1, (some .int))
abbrev kX9_begins : MethodName × ByteArray × Nat × Option FieldType := (yX9_begins, cX9_begins, 6, (some .int))
abbrev kX9_comes : MethodName × ByteArray × Nat × Option FieldType := (yX9_comes, cX9_comes, 1, (some .int))
abbrev kX9_reader : MethodName × ByteArray × Nat × Option FieldType := (yX9_reader, cX9_reader, 1, (some .int))
abbrev kX9_mayRead : MethodName × ByteArray × Nat × Option FieldType := (yX9_mayRead, cX9_mayRead, 3, (some .int))
abbrev kX9_reads : MethodName × ByteArray × Nat × Option FieldType := (yX9_reads, cX9_reads, 5, (some .int))
abbrev kX9_read : MethodName × ByteArray × Nat × Option FieldType := (yX9_read, cX9_read, 4, (some .int))
abbrev kX9_takes : MethodName × ByteArray × Nat × Option FieldType := (yX9_takes, cX9_takes, 6, (some .int))
abbrev kX9_confirm : MethodName × ByteArray × Nat × Option FieldType := (yX9_confirm, cX9_confirm, 2, (some .int))
abbrev kX9_goBack : MethodName × ByteArray × Nat × Option FieldType := (yX9_goBack, cX9_goBack, 2, (some .int))
abbrev kX9_beginAnew : MethodName × ByteArray × Nat × Option FieldType := (yX9_beginAnew, cX9_beginAnew, 2, (some .int))
abbrev kX9_mayLoad : MethodName × ByteArray × Nat × Option FieldType := (yX9_mayLoad, cX9_mayLoad, 3, (some .int))
abbrev kX9_loads : MethodName × ByteArray × Nat × Option FieldType := (yX9_loads, cX9_loads, 4, (some .int))
abbrev kX9_load : MethodName × ByteArray × Nat × Option FieldType := (yX9_load, cX9_load, 4, (some .int))
abbrev kX9_table : MethodName × ByteArray × Nat × Option FieldType := (yX9_table, cX9_table, 2, (some .int))
abbrev kX9_view : MethodName × ByteArray × Nat × Option FieldType := (yX9_view, cX9_view, 3, (some .int))
abbrev kX9_entry : MethodName × ByteArray × Nat × Option FieldType := (yX9_entry, cX9_entry, 3, (some .int))
abbrev kX9_unlike : MethodName × ByteArray × Nat × Option FieldType := (yX9_unlike, cX9_unlike, 4, (some .int))
abbrev kX9_ofReader : MethodName × ByteArray × Nat × Option FieldType := (yX9_ofReader, cX9_ofReader, 4, (some .int))
abbrev kX9_valued : MethodName × ByteArray × Nat × Option FieldType := (yX9_valued, cX9_valued, 4, (some .int))
abbrev kX9_ofSnapshot : MethodName × ByteArray × Nat × Option FieldType := (yX9_ofSnapshot, cX9_ofSnapshot, 4, (some .int))
abbrev kX9_count : MethodName × ByteArray × Nat × Option FieldType := (yX9_count, cX9_count, 2, (some .int))
abbrev kX9_thinsThen : MethodName × ByteArray × Nat × Option FieldType := (yX9_thinsThen, cX9_thinsThen, 2, none)
abbrev kX9_leftIn : MethodName × ByteArray × Nat × Option FieldType := (yX9_leftIn, cX9_leftIn, 2, (some .int))
abbrev kX9_lateIn : MethodName × ByteArray × Nat × Option FieldType := (yX9_lateIn, cX9_lateIn, 2, (some .int))
abbrev kX9_shortest : MethodName × ByteArray × Nat × Option FieldType := (yX9_shortest, cX9_shortest, 8, (some .int))
abbrev kX9_gentlest : MethodName × ByteArray × Nat × Option FieldType := (yX9_gentlest, cX9_gentlest, 4, (some .int))
abbrev kX9_byteOf : MethodName × ByteArray × Nat × Option FieldType := (yX9_byteOf, cX9_byteOf, 3, (some .int))
abbrev kX9_toldBy : MethodName × ByteArray × Nat × Option FieldType := (yX9_toldBy, cX9_toldBy, 4, (some .int))
abbrev kX9_put : MethodName × ByteArray × Nat × Option FieldType := (yX9_put, cX9_put, 5, (some .int))
abbrev kX9_wipe : MethodName × ByteArray × Nat × Option FieldType := (yX9_wipe, cX9_wipe, 2, (some .int))
abbrev kX9_isAt : MethodName × ByteArray × Nat × Option FieldType := (yX9_isAt, cX9_isAt, 3, (some .boolean))
abbrev kX9_isSign : MethodName × ByteArray × Nat × Option FieldType := (yX9_isSign, cX9_isSign, 3, (some .boolean))
abbrev kX9_isDigit : MethodName × ByteArray × Nat × Option FieldType := (yX9_isDigit, cX9_isDigit, 4, (some .boolean))
abbrev kX9_isNumber : MethodName × ByteArray × Nat × Option FieldType := (yX9_isNumber, cX9_isNumber, 3, (some .boolean))
abbrev kX9_isOrder : MethodName × ByteArray × Nat × Option FieldType := (yX9_isOrder, cX9_isOrder, 2, (some .boolean))
abbrev kX9_isText : MethodName × ByteArray × Nat × Option FieldType := (yX9_isText, cX9_isText, 2, (some .boolean))
abbrev kX9_fault : MethodName × ByteArray × Nat × Option FieldType := (yX9_fault, cX9_fault, 1, (some .int))
abbrev kX9_mayDo : MethodName × ByteArray × Nat × Option FieldType := (yX9_mayDo, cX9_mayDo, 4, (some .int))
abbrev kX9_does : MethodName × ByteArray × Nat × Option FieldType := (yX9_does, cX9_does, 5, (some .boolean))
abbrev kX9_carryOut : MethodName × ByteArray × Nat × Option FieldType := (yX9_carryOut, cX9_carryOut, 2, (some .int))
abbrev kL_law : MethodName × ByteArray × Nat × Option FieldType := (yL_law, code, 4, some .boolean)
abbrev classes : List vw_C := [(RX0, TX0, 8), (RX1, TX1, 2), (RX2, TX2, 6), (RX3, TX3, 5), (RX4, TX4, 2), (RX5, TX5, 2), (RX6, TX6, 9), (RX7, TX7, 1), (RX8, TX8, 4), (RX9, TX9, 11)]
end
section
theorem qini_L : Cond.initialized RL ∈ lwT := List.mem_filter.mpr ⟨List.mem_of_getElem? (i := 41) (by decide +kernel), by decide +kernel⟩
theorem qini_X8 : Cond.initialized RX8 ∈ lwT := List.mem_filter.mpr ⟨List.mem_of_getElem? (i := 42) (by decide +kernel), by decide +kernel⟩
theorem qini_X6 : Cond.initialized RX6 ∈ lwT := List.mem_filter.mpr ⟨List.mem_of_getElem? (i := 43) (by decide +kernel), by decide +kernel⟩
theorem qini_X7 : Cond.initialized RX7 ∈ lwT := List.mem_filter.mpr ⟨List.mem_of_getElem? (i := 44) (by decide +kernel), by decide +kernel⟩
theorem qini_X0 : Cond.initialized RX0 ∈ lwT := List.mem_filter.mpr ⟨List.mem_of_getElem? (i := 45) (by decide +kernel), by decide +kernel⟩
theorem qini_X3 : Cond.initialized RX3 ∈ lwT := List.mem_filter.mpr ⟨List.mem_of_getElem? (i := 46) (by decide +kernel), by decide +kernel⟩
theorem qini_X5 : Cond.initialized RX5 ∈ lwT := List.mem_filter.mpr ⟨List.mem_of_getElem? (i := 47) (by decide +kernel), by decide +kernel⟩
theorem qini_X1 : Cond.initialized RX1 ∈ lwT := List.mem_filter.mpr ⟨List.mem_of_getElem? (i := 48) (by decide +kernel), by decide +kernel⟩
theorem qini_X2 : Cond.initialized RX2 ∈ lwT := List.mem_filter.mpr ⟨List.mem_of_getElem? (i := 49) (by decide +kernel), by decide +kernel⟩
theorem qini_X4 : Cond.initialized RX4 ∈ lwT := List.mem_filter.mpr ⟨List.mem_of_getElem? (i := 50) (by decide +kernel), by decide +kernel⟩
theorem qini_X9 : Cond.initialized RX9 ∈ lwT := List.mem_filter.mpr ⟨List.mem_of_getElem? (i := 51) (by decide +kernel), by decide +kernel⟩
theorem qini_J9 : Cond.initialized RJ9 ∈ lwT := List.mem_filter.mpr ⟨List.mem_of_getElem? (i := 52) (by decide +kernel), by decide +kernel⟩
theorem qL_7 : Cond.classLink RL 7 RX8 ∈ lwT := List.mem_filter.mpr ⟨List.mem_of_getElem? (i := 53) (by decide +kernel), by decide +kernel⟩
theorem qins_X8 : Cond.instantiable RX8 4 ∈ lwT := List.mem_filter.mpr ⟨List.mem_of_getElem? (i := 54) (by decide +kernel), by decide +kernel⟩
theorem qL_9 : Cond.methodLink RL 9 yX8_init ∈ lwT := List.mem_filter.mpr ⟨List.mem_of_getElem? (i := 55) (by decide +kernel), by decide +kernel⟩
theorem qX8_1 : Cond.methodLink RX8 1 objectInit ∈ lwT := List.mem_filter.mpr ⟨List.mem_of_getElem? (i := 58) (by decide +kernel), by decide +kernel⟩
theorem qX8_7 : Cond.classLink RX8 7 RX6 ∈ lwT := List.mem_filter.mpr ⟨List.mem_of_getElem? (i := 61) (by decide +kernel), by decide +kernel⟩
theorem qins_X6 : Cond.instantiable RX6 9 ∈ lwT := List.mem_filter.mpr ⟨List.mem_of_getElem? (i := 62) (by decide +kernel), by decide +kernel⟩
theorem qX8_9 : Cond.methodLink RX8 9 yX6_init ∈ lwT := List.mem_filter.mpr ⟨List.mem_of_getElem? (i := 63) (by decide +kernel), by decide +kernel⟩
theorem qX6_3 : Cond.methodLink RX6 3 objectInit ∈ lwT := List.mem_filter.mpr ⟨List.mem_of_getElem? (i := 66) (by decide +kernel), by decide +kernel⟩
theorem qX6_27 : Cond.classLink RX6 27 RX7 ∈ lwT := List.mem_filter.mpr ⟨List.mem_of_getElem? (i := 67) (by decide +kernel), by decide +kernel⟩
theorem qins_X7 : Cond.instantiable RX7 1 ∈ lwT := List.mem_filter.mpr ⟨List.mem_of_getElem? (i := 68) (by decide +kernel), by decide +kernel⟩
theorem qX6_29 : Cond.methodLink RX6 29 yX7_init ∈ lwT := List.mem_filter.mpr ⟨List.mem_of_getElem? (i := 69) (by decide +kernel), by decide +kernel⟩
theorem qX7_3 : Cond.methodLink RX7 3 objectInit ∈ lwT := List.mem_filter.mpr ⟨List.mem_of_getElem? (i := 72) (by decide +kernel), by decide +kernel⟩
theorem qX7_15 : Cond.methodLink RX7 15 yX7_clear ∈ lwT := List.mem_filter.mpr ⟨List.mem_of_getElem? (i := 73) (by decide +kernel), by decide +kernel⟩
theorem qX7_9 : Cond.fieldLink RX7 9 "ChangeFeed$Values" "values" "[I" ∈ lwT := List.mem_filter.mpr ⟨List.mem_of_getElem? (i := 80) (by decide +kernel), by decide +kernel⟩
theorem qac_int : Cond.arrayClass .int ∈ lwT := List.mem_filter.mpr ⟨List.mem_of_getElem? (i := 84) (by decide +kernel), by decide +kernel⟩
theorem qX6_34 : Cond.classLink RX6 34 RX0 ∈ lwT := List.mem_filter.mpr ⟨List.mem_of_getElem? (i := 85) (by decide +kernel), by decide +kernel⟩
theorem qins_X0 : Cond.instantiable RX0 8 ∈ lwT := List.mem_filter.mpr ⟨List.mem_of_getElem? (i := 86) (by decide +kernel), by decide +kernel⟩
theorem qX0_3 : Cond.methodLink RX0 3 objectInit ∈ lwT := List.mem_filter.mpr ⟨List.mem_of_getElem? (i := 90) (by decide +kernel), by decide +kernel⟩
theorem qX0_9 : Cond.fieldLink RX0 9 "ChangeFeed$Feed" "numbers" "[I" ∈ lwT := List.mem_filter.mpr ⟨List.mem_of_getElem? (i := 91) (by decide +kernel), by decide +kernel⟩
theorem qX0_15 : Cond.fieldLink RX0 15 "ChangeFeed$Feed" "keys" "[I" ∈ lwT := List.mem_filter.mpr ⟨List.mem_of_getElem? (i := 92) (by decide +kernel), by decide +kernel⟩
theorem qX0_18 : Cond.fieldLink RX0 18 "ChangeFeed$Feed" "values" "[I" ∈ lwT := List.mem_filter.mpr ⟨List.mem_of_getElem? (i := 93) (by decide +kernel), by decide +kernel⟩
theorem qX0_21 : Cond.fieldLink RX0 21 "ChangeFeed$Feed" "minutes" "[I" ∈ lwT := List.mem_filter.mpr ⟨List.mem_of_getElem? (i := 94) (by decide +kernel), by decide +kernel⟩
theorem qX0_24 : Cond.fieldLink RX0 24 "ChangeFeed$Feed" "held" "I" ∈ lwT := List.mem_filter.mpr ⟨List.mem_of_getElem? (i := 95) (by decide +kernel), by decide +kernel⟩
theorem qX3_53 : Cond.fieldLink RX3 53 "ChangeFeed$Feed" "held" "I" ∈ lwT := List.mem_filter.mpr ⟨List.mem_of_getElem? (i := 96) (by decide +kernel), by decide +kernel⟩
theorem qX8_109 : Cond.fieldLink RX8 109 "ChangeFeed$Feed" "held" "I" ∈ lwT := List.mem_filter.mpr ⟨List.mem_of_getElem? (i := 97) (by decide +kernel), by decide +kernel⟩
theorem qX6_149 : Cond.fieldLink RX6 149 "ChangeFeed$Feed" "held" "I" ∈ lwT := List.mem_filter.mpr ⟨List.mem_of_getElem? (i := 98) (by decide +kernel), by decide +kernel⟩
theorem qX0_28 : Cond.fieldLink RX0 28 "ChangeFeed$Feed" "next" "I" ∈ lwT := List.mem_filter.mpr ⟨List.mem_of_getElem? (i := 99) (by decide +kernel), by decide +kernel⟩
theorem qX6_113 : Cond.fieldLink RX6 113 "ChangeFeed$Feed" "next" "I" ∈ lwT := List.mem_filter.mpr ⟨List.mem_of_getElem? (i := 100) (by decide +kernel), by decide +kernel⟩
theorem qX8_179 : Cond.fieldLink RX8 179 "ChangeFeed$Feed" "next" "I" ∈ lwT := List.mem_filter.mpr ⟨List.mem_of_getElem? (i := 101) (by decide +kernel), by decide +kernel⟩
theorem qX0_31 : Cond.fieldLink RX0 31 "ChangeFeed$Feed" "floor" "I" ∈ lwT := List.mem_filter.mpr ⟨List.mem_of_getElem? (i := 102) (by decide +kernel), by decide +kernel⟩
theorem qX6_107 : Cond.fieldLink RX6 107 "ChangeFeed$Feed" "floor" "I" ∈ lwT := List.mem_filter.mpr ⟨List.mem_of_getElem? (i := 103) (by decide +kernel), by decide +kernel⟩
theorem qX8_150 : Cond.fieldLink RX8 150 "ChangeFeed$Feed" "floor" "I" ∈ lwT := List.mem_filter.mpr ⟨List.mem_of_getElem? (i := 104) (by decide +kernel), by decide +kernel⟩
theorem qX0_34 : Cond.fieldLink RX0 34 "ChangeFeed$Feed" "gone" "I" ∈ lwT := List.mem_filter.mpr ⟨List.mem_of_getElem? (i := 105) (by decide +kernel), by decide +kernel⟩
theorem qX8_185 : Cond.fieldLink RX8 185 "ChangeFeed$Feed" "gone" "I" ∈ lwT := List.mem_filter.mpr ⟨List.mem_of_getElem? (i := 106) (by decide +kernel), by decide +kernel⟩
theorem qX6_41 : Cond.classLink RX6 41 RX3 ∈ lwT := List.mem_filter.mpr ⟨List.mem_of_getElem? (i := 124) (by decide +kernel), by decide +kernel⟩
theorem qX6_47 : Cond.classLink RX6 47 RX5 ∈ lwT := List.mem_filter.mpr ⟨List.mem_of_getElem? (i := 126) (by decide +kernel), by decide +kernel⟩
theorem qins_X3 : Cond.instantiable RX3 5 ∈ lwT := List.mem_filter.mpr ⟨List.mem_of_getElem? (i := 128) (by decide +kernel), by decide +kernel⟩
theorem qX3_1 : Cond.methodLink RX3 1 objectInit ∈ lwT := List.mem_filter.mpr ⟨List.mem_of_getElem? (i := 132) (by decide +kernel), by decide +kernel⟩
theorem qX3_19 : Cond.classLink RX3 19 RX7 ∈ lwT := List.mem_filter.mpr ⟨List.mem_of_getElem? (i := 133) (by decide +kernel), by decide +kernel⟩
theorem qX3_21 : Cond.methodLink RX3 21 yX7_init ∈ lwT := List.mem_filter.mpr ⟨List.mem_of_getElem? (i := 134) (by decide +kernel), by decide +kernel⟩
theorem qX3_7 : Cond.fieldLink RX3 7 "ChangeFeed$Reader" "place" "I" ∈ lwT := List.mem_filter.mpr ⟨List.mem_of_getElem? (i := 135) (by decide +kernel), by decide +kernel⟩
theorem qX6_126 : Cond.fieldLink RX6 126 "ChangeFeed$Reader" "place" "I" ∈ lwT := List.mem_filter.mpr ⟨List.mem_of_getElem? (i := 136) (by decide +kernel), by decide +kernel⟩
theorem qX8_141 : Cond.fieldLink RX8 141 "ChangeFeed$Reader" "place" "I" ∈ lwT := List.mem_filter.mpr ⟨List.mem_of_getElem? (i := 137) (by decide +kernel), by decide +kernel⟩
theorem qX3_13 : Cond.fieldLink RX3 13 "ChangeFeed$Reader" "confirmedPlace" "I" ∈ lwT := List.mem_filter.mpr ⟨List.mem_of_getElem? (i := 138) (by decide +kernel), by decide +kernel⟩
theorem qX8_144 : Cond.fieldLink RX8 144 "ChangeFeed$Reader" "confirmedPlace" "I" ∈ lwT := List.mem_filter.mpr ⟨List.mem_of_getElem? (i := 139) (by decide +kernel), by decide +kernel⟩
theorem qX3_16 : Cond.fieldLink RX3 16 "ChangeFeed$Reader" "readSoFar" "I" ∈ lwT := List.mem_filter.mpr ⟨List.mem_of_getElem? (i := 140) (by decide +kernel), by decide +kernel⟩
theorem qX6_123 : Cond.fieldLink RX6 123 "ChangeFeed$Reader" "readSoFar" "I" ∈ lwT := List.mem_filter.mpr ⟨List.mem_of_getElem? (i := 141) (by decide +kernel), by decide +kernel⟩
theorem qX8_156 : Cond.fieldLink RX8 156 "ChangeFeed$Reader" "readSoFar" "I" ∈ lwT := List.mem_filter.mpr ⟨List.mem_of_getElem? (i := 142) (by decide +kernel), by decide +kernel⟩
theorem qX3_22 : Cond.fieldLink RX3 22 "ChangeFeed$Reader" "view" "LChangeFeed$Values;" ∈ lwT := List.mem_filter.mpr ⟨List.mem_of_getElem? (i := 143) (by decide +kernel), by decide +kernel⟩
theorem qX8_100 : Cond.fieldLink RX8 100 "ChangeFeed$Reader" "view" "LChangeFeed$Values;" ∈ lwT := List.mem_filter.mpr ⟨List.mem_of_getElem? (i := 144) (by decide +kernel), by decide +kernel⟩
theorem qX3_26 : Cond.fieldLink RX3 26 "ChangeFeed$Reader" "confirmedView" "LChangeFeed$Values;" ∈ lwT := List.mem_filter.mpr ⟨List.mem_of_getElem? (i := 145) (by decide +kernel), by decide +kernel⟩
theorem qX8_163 : Cond.fieldLink RX8 163 "ChangeFeed$Reader" "confirmedView" "LChangeFeed$Values;" ∈ lwT := List.mem_filter.mpr ⟨List.mem_of_getElem? (i := 146) (by decide +kernel), by decide +kernel⟩
theorem qins_X5 : Cond.instantiable RX5 2 ∈ lwT := List.mem_filter.mpr ⟨List.mem_of_getElem? (i := 158) (by decide +kernel), by decide +kernel⟩
theorem qX5_1 : Cond.methodLink RX5 1 objectInit ∈ lwT := List.mem_filter.mpr ⟨List.mem_of_getElem? (i := 162) (by decide +kernel), by decide +kernel⟩
theorem qX5_13 : Cond.classLink RX5 13 RX7 ∈ lwT := List.mem_filter.mpr ⟨List.mem_of_getElem? (i := 163) (by decide +kernel), by decide +kernel⟩
theorem qX5_15 : Cond.methodLink RX5 15 yX7_init ∈ lwT := List.mem_filter.mpr ⟨List.mem_of_getElem? (i := 164) (by decide +kernel), by decide +kernel⟩
theorem qX5_7 : Cond.fieldLink RX5 7 "ChangeFeed$Snapshot" "number" "I" ∈ lwT := List.mem_filter.mpr ⟨List.mem_of_getElem? (i := 165) (by decide +kernel), by decide +kernel⟩
theorem qX3_39 : Cond.fieldLink RX3 39 "ChangeFeed$Snapshot" "number" "I" ∈ lwT := List.mem_filter.mpr ⟨List.mem_of_getElem? (i := 166) (by decide +kernel), by decide +kernel⟩
theorem qX6_116 : Cond.fieldLink RX6 116 "ChangeFeed$Snapshot" "number" "I" ∈ lwT := List.mem_filter.mpr ⟨List.mem_of_getElem? (i := 167) (by decide +kernel), by decide +kernel⟩
theorem qX8_170 : Cond.fieldLink RX8 170 "ChangeFeed$Snapshot" "number" "I" ∈ lwT := List.mem_filter.mpr ⟨List.mem_of_getElem? (i := 168) (by decide +kernel), by decide +kernel⟩
theorem qX5_16 : Cond.fieldLink RX5 16 "ChangeFeed$Snapshot" "table" "LChangeFeed$Values;" ∈ lwT := List.mem_filter.mpr ⟨List.mem_of_getElem? (i := 169) (by decide +kernel), by decide +kernel⟩
theorem qX3_44 : Cond.fieldLink RX3 44 "ChangeFeed$Snapshot" "table" "LChangeFeed$Values;" ∈ lwT := List.mem_filter.mpr ⟨List.mem_of_getElem? (i := 170) (by decide +kernel), by decide +kernel⟩
theorem qX6_119 : Cond.fieldLink RX6 119 "ChangeFeed$Snapshot" "table" "LChangeFeed$Values;" ∈ lwT := List.mem_filter.mpr ⟨List.mem_of_getElem? (i := 171) (by decide +kernel), by decide +kernel⟩
theorem qX8_175 : Cond.fieldLink RX8 175 "ChangeFeed$Snapshot" "table" "LChangeFeed$Values;" ∈ lwT := List.mem_filter.mpr ⟨List.mem_of_getElem? (i := 172) (by decide +kernel), by decide +kernel⟩
theorem qX6_9 : Cond.fieldLink RX6 9 "ChangeFeed$State" "size" "I" ∈ lwT := List.mem_filter.mpr ⟨List.mem_of_getElem? (i := 178) (by decide +kernel), by decide +kernel⟩
theorem qX8_134 : Cond.fieldLink RX8 134 "ChangeFeed$State" "size" "I" ∈ lwT := List.mem_filter.mpr ⟨List.mem_of_getElem? (i := 179) (by decide +kernel), by decide +kernel⟩
theorem qX6_15 : Cond.fieldLink RX6 15 "ChangeFeed$State" "grace" "I" ∈ lwT := List.mem_filter.mpr ⟨List.mem_of_getElem? (i := 180) (by decide +kernel), by decide +kernel⟩
theorem qX8_197 : Cond.fieldLink RX8 197 "ChangeFeed$State" "grace" "I" ∈ lwT := List.mem_filter.mpr ⟨List.mem_of_getElem? (i := 181) (by decide +kernel), by decide +kernel⟩
theorem qX6_18 : Cond.fieldLink RX6 18 "ChangeFeed$State" "minute" "I" ∈ lwT := List.mem_filter.mpr ⟨List.mem_of_getElem? (i := 182) (by decide +kernel), by decide +kernel⟩
theorem qX8_182 : Cond.fieldLink RX8 182 "ChangeFeed$State" "minute" "I" ∈ lwT := List.mem_filter.mpr ⟨List.mem_of_getElem? (i := 183) (by decide +kernel), by decide +kernel⟩
theorem qX6_21 : Cond.fieldLink RX6 21 "ChangeFeed$State" "readerCount" "I" ∈ lwT := List.mem_filter.mpr ⟨List.mem_of_getElem? (i := 184) (by decide +kernel), by decide +kernel⟩
theorem qX8_188 : Cond.fieldLink RX8 188 "ChangeFeed$State" "readerCount" "I" ∈ lwT := List.mem_filter.mpr ⟨List.mem_of_getElem? (i := 185) (by decide +kernel), by decide +kernel⟩
theorem qX6_24 : Cond.fieldLink RX6 24 "ChangeFeed$State" "snapshotCount" "I" ∈ lwT := List.mem_filter.mpr ⟨List.mem_of_getElem? (i := 186) (by decide +kernel), by decide +kernel⟩
theorem qX8_194 : Cond.fieldLink RX8 194 "ChangeFeed$State" "snapshotCount" "I" ∈ lwT := List.mem_filter.mpr ⟨List.mem_of_getElem? (i := 187) (by decide +kernel), by decide +kernel⟩
theorem qX6_30 : Cond.fieldLink RX6 30 "ChangeFeed$State" "table" "LChangeFeed$Values;" ∈ lwT := List.mem_filter.mpr ⟨List.mem_of_getElem? (i := 188) (by decide +kernel), by decide +kernel⟩
theorem qX8_87 : Cond.fieldLink RX8 87 "ChangeFeed$State" "table" "LChangeFeed$Values;" ∈ lwT := List.mem_filter.mpr ⟨List.mem_of_getElem? (i := 189) (by decide +kernel), by decide +kernel⟩
theorem qX6_37 : Cond.fieldLink RX6 37 "ChangeFeed$State" "feed" "LChangeFeed$Feed;" ∈ lwT := List.mem_filter.mpr ⟨List.mem_of_getElem? (i := 190) (by decide +kernel), by decide +kernel⟩
theorem qX8_105 : Cond.fieldLink RX8 105 "ChangeFeed$State" "feed" "LChangeFeed$Feed;" ∈ lwT := List.mem_filter.mpr ⟨List.mem_of_getElem? (i := 191) (by decide +kernel), by decide +kernel⟩
theorem qX6_43 : Cond.fieldLink RX6 43 "ChangeFeed$State" "readers" "[LChangeFeed$Reader;" ∈ lwT := List.mem_filter.mpr ⟨List.mem_of_getElem? (i := 192) (by decide +kernel), by decide +kernel⟩
theorem qX6_49 : Cond.fieldLink RX6 49 "ChangeFeed$State" "snapshots" "[LChangeFeed$Snapshot;" ∈ lwT := List.mem_filter.mpr ⟨List.mem_of_getElem? (i := 193) (by decide +kernel), by decide +kernel⟩
theorem qX8_16 : Cond.classLink RX8 16 RX1 ∈ lwT := List.mem_filter.mpr ⟨List.mem_of_getElem? (i := 213) (by decide +kernel), by decide +kernel⟩
theorem qins_X1 : Cond.instantiable RX1 2 ∈ lwT := List.mem_filter.mpr ⟨List.mem_of_getElem? (i := 214) (by decide +kernel), by decide +kernel⟩
theorem qX8_18 : Cond.methodLink RX8 18 yX1_init ∈ lwT := List.mem_filter.mpr ⟨List.mem_of_getElem? (i := 215) (by decide +kernel), by decide +kernel⟩
theorem qX1_3 : Cond.methodLink RX1 3 objectInit ∈ lwT := List.mem_filter.mpr ⟨List.mem_of_getElem? (i := 218) (by decide +kernel), by decide +kernel⟩
theorem qX1_9 : Cond.classLink RX1 9 RX6 ∈ lwT := List.mem_filter.mpr ⟨List.mem_of_getElem? (i := 219) (by decide +kernel), by decide +kernel⟩
theorem qX1_21 : Cond.methodLink RX1 21 yX6_init ∈ lwT := List.mem_filter.mpr ⟨List.mem_of_getElem? (i := 221) (by decide +kernel), by decide +kernel⟩
theorem qX1_11 : Cond.fieldLink RX1 11 "ChangeFeed$History" "states" "[LChangeFeed$State;" ∈ lwT := List.mem_filter.mpr ⟨List.mem_of_getElem? (i := 222) (by decide +kernel), by decide +kernel⟩
theorem qX1_17 : Cond.fieldLink RX1 17 "ChangeFeed$History" "held" "I" ∈ lwT := List.mem_filter.mpr ⟨List.mem_of_getElem? (i := 223) (by decide +kernel), by decide +kernel⟩
theorem qX8_203 : Cond.fieldLink RX8 203 "ChangeFeed$History" "held" "I" ∈ lwT := List.mem_filter.mpr ⟨List.mem_of_getElem? (i := 224) (by decide +kernel), by decide +kernel⟩
theorem qX8_23 : Cond.classLink RX8 23 RX2 ∈ lwT := List.mem_filter.mpr ⟨List.mem_of_getElem? (i := 230) (by decide +kernel), by decide +kernel⟩
theorem qins_X2 : Cond.instantiable RX2 6 ∈ lwT := List.mem_filter.mpr ⟨List.mem_of_getElem? (i := 231) (by decide +kernel), by decide +kernel⟩
theorem qX2_3 : Cond.methodLink RX2 3 objectInit ∈ lwT := List.mem_filter.mpr ⟨List.mem_of_getElem? (i := 235) (by decide +kernel), by decide +kernel⟩
theorem qX2_9 : Cond.fieldLink RX2 9 "ChangeFeed$Pad" "signs" "[I" ∈ lwT := List.mem_filter.mpr ⟨List.mem_of_getElem? (i := 236) (by decide +kernel), by decide +kernel⟩
theorem qX2_15 : Cond.fieldLink RX2 15 "ChangeFeed$Pad" "length" "I" ∈ lwT := List.mem_filter.mpr ⟨List.mem_of_getElem? (i := 237) (by decide +kernel), by decide +kernel⟩
theorem qX8_200 : Cond.fieldLink RX8 200 "ChangeFeed$Pad" "length" "I" ∈ lwT := List.mem_filter.mpr ⟨List.mem_of_getElem? (i := 238) (by decide +kernel), by decide +kernel⟩
theorem qX2_19 : Cond.fieldLink RX2 19 "ChangeFeed$Pad" "place" "I" ∈ lwT := List.mem_filter.mpr ⟨List.mem_of_getElem? (i := 239) (by decide +kernel), by decide +kernel⟩
theorem qX2_22 : Cond.fieldLink RX2 22 "ChangeFeed$Pad" "letter" "I" ∈ lwT := List.mem_filter.mpr ⟨List.mem_of_getElem? (i := 240) (by decide +kernel), by decide +kernel⟩
theorem qX8_245 : Cond.fieldLink RX8 245 "ChangeFeed$Pad" "letter" "I" ∈ lwT := List.mem_filter.mpr ⟨List.mem_of_getElem? (i := 241) (by decide +kernel), by decide +kernel⟩
theorem qX2_25 : Cond.fieldLink RX2 25 "ChangeFeed$Pad" "first" "I" ∈ lwT := List.mem_filter.mpr ⟨List.mem_of_getElem? (i := 242) (by decide +kernel), by decide +kernel⟩
theorem qX8_248 : Cond.fieldLink RX8 248 "ChangeFeed$Pad" "first" "I" ∈ lwT := List.mem_filter.mpr ⟨List.mem_of_getElem? (i := 243) (by decide +kernel), by decide +kernel⟩
theorem qX2_28 : Cond.fieldLink RX2 28 "ChangeFeed$Pad" "second" "I" ∈ lwT := List.mem_filter.mpr ⟨List.mem_of_getElem? (i := 244) (by decide +kernel), by decide +kernel⟩
theorem qX8_251 : Cond.fieldLink RX8 251 "ChangeFeed$Pad" "second" "I" ∈ lwT := List.mem_filter.mpr ⟨List.mem_of_getElem? (i := 245) (by decide +kernel), by decide +kernel⟩
theorem qX8_30 : Cond.classLink RX8 30 RX4 ∈ lwT := List.mem_filter.mpr ⟨List.mem_of_getElem? (i := 259) (by decide +kernel), by decide +kernel⟩
theorem qins_X4 : Cond.instantiable RX4 2 ∈ lwT := List.mem_filter.mpr ⟨List.mem_of_getElem? (i := 261) (by decide +kernel), by decide +kernel⟩
theorem qX4_1 : Cond.methodLink RX4 1 objectInit ∈ lwT := List.mem_filter.mpr ⟨List.mem_of_getElem? (i := 265) (by decide +kernel), by decide +kernel⟩
theorem qX4_13 : Cond.classLink RX4 13 RX6 ∈ lwT := List.mem_filter.mpr ⟨List.mem_of_getElem? (i := 266) (by decide +kernel), by decide +kernel⟩
theorem qX4_15 : Cond.methodLink RX4 15 yX6_init ∈ lwT := List.mem_filter.mpr ⟨List.mem_of_getElem? (i := 267) (by decide +kernel), by decide +kernel⟩
theorem qX4_7 : Cond.fieldLink RX4 7 "ChangeFeed$Slot" "isUsed" "Z" ∈ lwT := List.mem_filter.mpr ⟨List.mem_of_getElem? (i := 268) (by decide +kernel), by decide +kernel⟩
theorem qX8_268 : Cond.fieldLink RX8 268 "ChangeFeed$Slot" "isUsed" "Z" ∈ lwT := List.mem_filter.mpr ⟨List.mem_of_getElem? (i := 269) (by decide +kernel), by decide +kernel⟩
theorem qX4_16 : Cond.fieldLink RX4 16 "ChangeFeed$Slot" "state" "LChangeFeed$State;" ∈ lwT := List.mem_filter.mpr ⟨List.mem_of_getElem? (i := 270) (by decide +kernel), by decide +kernel⟩
theorem qX8_262 : Cond.fieldLink RX8 262 "ChangeFeed$Slot" "state" "LChangeFeed$State;" ∈ lwT := List.mem_filter.mpr ⟨List.mem_of_getElem? (i := 271) (by decide +kernel), by decide +kernel⟩
theorem qX8_10 : Cond.fieldLink RX8 10 "ChangeFeed" "now" "LChangeFeed$State;" ∈ lwT := List.mem_filter.mpr ⟨List.mem_of_getElem? (i := 277) (by decide +kernel), by decide +kernel⟩
theorem qX8_19 : Cond.fieldLink RX8 19 "ChangeFeed" "history" "LChangeFeed$History;" ∈ lwT := List.mem_filter.mpr ⟨List.mem_of_getElem? (i := 278) (by decide +kernel), by decide +kernel⟩
theorem qX8_26 : Cond.fieldLink RX8 26 "ChangeFeed" "pad" "LChangeFeed$Pad;" ∈ lwT := List.mem_filter.mpr ⟨List.mem_of_getElem? (i := 279) (by decide +kernel), by decide +kernel⟩
theorem qX8_32 : Cond.fieldLink RX8 32 "ChangeFeed" "slots" "[LChangeFeed$Slot;" ∈ lwT := List.mem_filter.mpr ⟨List.mem_of_getElem? (i := 280) (by decide +kernel), by decide +kernel⟩
theorem qL_13 : Cond.methodLink RL 13 yX8_turn ∈ lwT := List.mem_filter.mpr ⟨List.mem_of_getElem? (i := 290) (by decide +kernel), by decide +kernel⟩
theorem qX8_37 : Cond.methodLink RX8 37 yX1_prepare ∈ lwT := List.mem_filter.mpr ⟨List.mem_of_getElem? (i := 294) (by decide +kernel), by decide +kernel⟩
theorem qX1_22 : Cond.methodLink RX1 22 yX1_stateAt ∈ lwT := List.mem_filter.mpr ⟨List.mem_of_getElem? (i := 298) (by decide +kernel), by decide +kernel⟩
theorem qX1_26 : Cond.methodLink RX1 26 yX6_copyFrom ∈ lwT := List.mem_filter.mpr ⟨List.mem_of_getElem? (i := 302) (by decide +kernel), by decide +kernel⟩
theorem qX6_55 : Cond.methodLink RX6 55 yX7_copyFrom ∈ lwT := List.mem_filter.mpr ⟨List.mem_of_getElem? (i := 306) (by decide +kernel), by decide +kernel⟩
theorem qX6_59 : Cond.methodLink RX6 59 yX0_copyFrom ∈ lwT := List.mem_filter.mpr ⟨List.mem_of_getElem? (i := 313) (by decide +kernel), by decide +kernel⟩
theorem qX6_62 : Cond.methodLink RX6 62 yX6_readerAt ∈ lwT := List.mem_filter.mpr ⟨List.mem_of_getElem? (i := 318) (by decide +kernel), by decide +kernel⟩
theorem qX6_66 : Cond.methodLink RX6 66 yX3_copyFrom ∈ lwT := List.mem_filter.mpr ⟨List.mem_of_getElem? (i := 322) (by decide +kernel), by decide +kernel⟩
theorem qX3_29 : Cond.methodLink RX3 29 yX7_copyFrom ∈ lwT := List.mem_filter.mpr ⟨List.mem_of_getElem? (i := 326) (by decide +kernel), by decide +kernel⟩
theorem qX6_69 : Cond.methodLink RX6 69 yX6_snapshotAt ∈ lwT := List.mem_filter.mpr ⟨List.mem_of_getElem? (i := 327) (by decide +kernel), by decide +kernel⟩
theorem qX6_73 : Cond.methodLink RX6 73 yX6_copySnapshot ∈ lwT := List.mem_filter.mpr ⟨List.mem_of_getElem? (i := 331) (by decide +kernel), by decide +kernel⟩
theorem qX6_77 : Cond.methodLink RX6 77 yX5_copyFrom ∈ lwT := List.mem_filter.mpr ⟨List.mem_of_getElem? (i := 334) (by decide +kernel), by decide +kernel⟩
theorem qX5_20 : Cond.methodLink RX5 20 yX7_copyFrom ∈ lwT := List.mem_filter.mpr ⟨List.mem_of_getElem? (i := 338) (by decide +kernel), by decide +kernel⟩
theorem qX8_41 : Cond.methodLink RX8 41 yX6_turnSetting ∈ lwT := List.mem_filter.mpr ⟨List.mem_of_getElem? (i := 339) (by decide +kernel), by decide +kernel⟩
theorem qX8_45 : Cond.methodLink RX8 45 yX1_settle ∈ lwT := List.mem_filter.mpr ⟨List.mem_of_getElem? (i := 346) (by decide +kernel), by decide +kernel⟩
theorem qX1_30 : Cond.methodLink RX1 30 yX1_dropOldest ∈ lwT := List.mem_filter.mpr ⟨List.mem_of_getElem? (i := 350) (by decide +kernel), by decide +kernel⟩
theorem qL_18 : Cond.methodLink RL 18 yX8_set ∈ lwT := List.mem_filter.mpr ⟨List.mem_of_getElem? (i := 354) (by decide +kernel), by decide +kernel⟩
theorem qX8_49 : Cond.methodLink RX8 49 yX6_setKey ∈ lwT := List.mem_filter.mpr ⟨List.mem_of_getElem? (i := 358) (by decide +kernel), by decide +kernel⟩
theorem qX6_87 : Cond.methodLink RX6 87 yX0_isFull ∈ lwT := List.mem_filter.mpr ⟨List.mem_of_getElem? (i := 365) (by decide +kernel), by decide +kernel⟩
theorem qX6_91 : Cond.methodLink RX6 91 yX7_change ∈ lwT := List.mem_filter.mpr ⟨List.mem_of_getElem? (i := 369) (by decide +kernel), by decide +kernel⟩
theorem qX6_95 : Cond.methodLink RX6 95 yX0_append ∈ lwT := List.mem_filter.mpr ⟨List.mem_of_getElem? (i := 373) (by decide +kernel), by decide +kernel⟩
theorem qX0_45 : Cond.methodLink RX0 45 yX0_layEntry ∈ lwT := List.mem_filter.mpr ⟨List.mem_of_getElem? (i := 377) (by decide +kernel), by decide +kernel⟩
theorem qL_22 : Cond.methodLink RL 22 yX8_remove ∈ lwT := List.mem_filter.mpr ⟨List.mem_of_getElem? (i := 382) (by decide +kernel), by decide +kernel⟩
theorem qX8_52 : Cond.methodLink RX8 52 yX6_removeKey ∈ lwT := List.mem_filter.mpr ⟨List.mem_of_getElem? (i := 386) (by decide +kernel), by decide +kernel⟩
theorem qX6_99 : Cond.methodLink RX6 99 yX7_of ∈ lwT := List.mem_filter.mpr ⟨List.mem_of_getElem? (i := 390) (by decide +kernel), by decide +kernel⟩
theorem qL_27 : Cond.methodLink RL 27 yX8_pass ∈ lwT := List.mem_filter.mpr ⟨List.mem_of_getElem? (i := 397) (by decide +kernel), by decide +kernel⟩
theorem qX8_55 : Cond.methodLink RX8 55 yX6_letPass ∈ lwT := List.mem_filter.mpr ⟨List.mem_of_getElem? (i := 401) (by decide +kernel), by decide +kernel⟩
theorem qX6_103 : Cond.constant RX6 103 (99999) ∈ lwT := List.mem_filter.mpr ⟨List.mem_of_getElem? (i := 405) (by decide +kernel), by decide +kernel⟩
theorem qL_31 : Cond.methodLink RL 31 yX8_thin ∈ lwT := List.mem_filter.mpr ⟨List.mem_of_getElem? (i := 406) (by decide +kernel), by decide +kernel⟩
theorem qX8_58 : Cond.methodLink RX8 58 yX6_thinFeed ∈ lwT := List.mem_filter.mpr ⟨List.mem_of_getElem? (i := 410) (by decide +kernel), by decide +kernel⟩
theorem qX6_104 : Cond.methodLink RX6 104 yX0_floorAfterThinning ∈ lwT := List.mem_filter.mpr ⟨List.mem_of_getElem? (i := 414) (by decide +kernel), by decide +kernel⟩
theorem qX0_65 : Cond.methodLink RX0 65 yX0_isLastOfItsKey ∈ lwT := List.mem_filter.mpr ⟨List.mem_of_getElem? (i := 418) (by decide +kernel), by decide +kernel⟩
theorem qX0_73 : Cond.methodLink RX0 73 yX0_wouldGo ∈ lwT := List.mem_filter.mpr ⟨List.mem_of_getElem? (i := 423) (by decide +kernel), by decide +kernel⟩
theorem qX0_61 : Cond.methodLink RX0 61 yX0_isClosed ∈ lwT := List.mem_filter.mpr ⟨List.mem_of_getElem? (i := 427) (by decide +kernel), by decide +kernel⟩
theorem qX0_57 : Cond.methodLink RX0 57 yX0_segmentOf ∈ lwT := List.mem_filter.mpr ⟨List.mem_of_getElem? (i := 431) (by decide +kernel), by decide +kernel⟩
theorem qX0_69 : Cond.methodLink RX0 69 yX0_isOldRemoval ∈ lwT := List.mem_filter.mpr ⟨List.mem_of_getElem? (i := 434) (by decide +kernel), by decide +kernel⟩
theorem qX0_77 : Cond.methodLink RX0 77 yX0_numberAt ∈ lwT := List.mem_filter.mpr ⟨List.mem_of_getElem? (i := 438) (by decide +kernel), by decide +kernel⟩
theorem qX0_80 : Cond.methodLink RX0 80 Lib.Math.max.name ∈ lwT := List.mem_filter.mpr ⟨List.mem_of_getElem? (i := 442) (by decide +kernel), by decide +kernel⟩
theorem qX6_110 : Cond.methodLink RX6 110 yX0_thinOut ∈ lwT := List.mem_filter.mpr ⟨List.mem_of_getElem? (i := 445) (by decide +kernel), by decide +kernel⟩
theorem qX0_85 : Cond.methodLink RX0 85 yX0_keyAt ∈ lwT := List.mem_filter.mpr ⟨List.mem_of_getElem? (i := 449) (by decide +kernel), by decide +kernel⟩
theorem qX0_88 : Cond.methodLink RX0 88 yX0_valueAt ∈ lwT := List.mem_filter.mpr ⟨List.mem_of_getElem? (i := 453) (by decide +kernel), by decide +kernel⟩
theorem qX0_91 : Cond.methodLink RX0 91 yX0_minuteAt ∈ lwT := List.mem_filter.mpr ⟨List.mem_of_getElem? (i := 457) (by decide +kernel), by decide +kernel⟩
theorem qL_36 : Cond.methodLink RL 36 yX8_snapshot ∈ lwT := List.mem_filter.mpr ⟨List.mem_of_getElem? (i := 461) (by decide +kernel), by decide +kernel⟩
theorem qX8_62 : Cond.methodLink RX8 62 yX6_makeSnapshot ∈ lwT := List.mem_filter.mpr ⟨List.mem_of_getElem? (i := 465) (by decide +kernel), by decide +kernel⟩
theorem qL_40 : Cond.methodLink RL 40 yX8_reader ∈ lwT := List.mem_filter.mpr ⟨List.mem_of_getElem? (i := 469) (by decide +kernel), by decide +kernel⟩
theorem qX8_65 : Cond.methodLink RX8 65 yX6_addReader ∈ lwT := List.mem_filter.mpr ⟨List.mem_of_getElem? (i := 473) (by decide +kernel), by decide +kernel⟩
theorem qX6_120 : Cond.methodLink RX6 120 yX3_startOver ∈ lwT := List.mem_filter.mpr ⟨List.mem_of_getElem? (i := 477) (by decide +kernel), by decide +kernel⟩
theorem qX3_33 : Cond.methodLink RX3 33 yX7_clear ∈ lwT := List.mem_filter.mpr ⟨List.mem_of_getElem? (i := 481) (by decide +kernel), by decide +kernel⟩
theorem qX3_36 : Cond.methodLink RX3 36 yX3_keepPlace ∈ lwT := List.mem_filter.mpr ⟨List.mem_of_getElem? (i := 482) (by decide +kernel), by decide +kernel⟩
theorem qL_44 : Cond.methodLink RL 44 yX8_read ∈ lwT := List.mem_filter.mpr ⟨List.mem_of_getElem? (i := 486) (by decide +kernel), by decide +kernel⟩
theorem qX8_68 : Cond.methodLink RX8 68 yX6_letRead ∈ lwT := List.mem_filter.mpr ⟨List.mem_of_getElem? (i := 490) (by decide +kernel), by decide +kernel⟩
theorem qX6_133 : Cond.methodLink RX6 133 yX3_readOn ∈ lwT := List.mem_filter.mpr ⟨List.mem_of_getElem? (i := 497) (by decide +kernel), by decide +kernel⟩
theorem qX3_47 : Cond.methodLink RX3 47 yX0_firstFrom ∈ lwT := List.mem_filter.mpr ⟨List.mem_of_getElem? (i := 501) (by decide +kernel), by decide +kernel⟩
theorem qX3_56 : Cond.methodLink RX3 56 Lib.Math.min.name ∈ lwT := List.mem_filter.mpr ⟨List.mem_of_getElem? (i := 505) (by decide +kernel), by decide +kernel⟩
theorem qX3_62 : Cond.methodLink RX3 62 yX0_keyAt ∈ lwT := List.mem_filter.mpr ⟨List.mem_of_getElem? (i := 508) (by decide +kernel), by decide +kernel⟩
theorem qX3_65 : Cond.methodLink RX3 65 yX0_valueAt ∈ lwT := List.mem_filter.mpr ⟨List.mem_of_getElem? (i := 509) (by decide +kernel), by decide +kernel⟩
theorem qX3_68 : Cond.methodLink RX3 68 yX7_change ∈ lwT := List.mem_filter.mpr ⟨List.mem_of_getElem? (i := 510) (by decide +kernel), by decide +kernel⟩
theorem qX3_72 : Cond.methodLink RX3 72 yX0_numberAt ∈ lwT := List.mem_filter.mpr ⟨List.mem_of_getElem? (i := 511) (by decide +kernel), by decide +kernel⟩
theorem qL_48 : Cond.methodLink RL 48 yX8_confirm ∈ lwT := List.mem_filter.mpr ⟨List.mem_of_getElem? (i := 512) (by decide +kernel), by decide +kernel⟩
theorem qX8_71 : Cond.methodLink RX8 71 yX6_letConfirm ∈ lwT := List.mem_filter.mpr ⟨List.mem_of_getElem? (i := 516) (by decide +kernel), by decide +kernel⟩
theorem qX6_137 : Cond.methodLink RX6 137 yX3_keepPlace ∈ lwT := List.mem_filter.mpr ⟨List.mem_of_getElem? (i := 520) (by decide +kernel), by decide +kernel⟩
theorem qL_52 : Cond.methodLink RL 52 yX8_goBack ∈ lwT := List.mem_filter.mpr ⟨List.mem_of_getElem? (i := 521) (by decide +kernel), by decide +kernel⟩
theorem qX8_74 : Cond.methodLink RX8 74 yX6_letGoBack ∈ lwT := List.mem_filter.mpr ⟨List.mem_of_getElem? (i := 525) (by decide +kernel), by decide +kernel⟩
theorem qX6_140 : Cond.methodLink RX6 140 yX3_returnToConfirmed ∈ lwT := List.mem_filter.mpr ⟨List.mem_of_getElem? (i := 529) (by decide +kernel), by decide +kernel⟩
theorem qL_56 : Cond.methodLink RL 56 yX8_beginAnew ∈ lwT := List.mem_filter.mpr ⟨List.mem_of_getElem? (i := 533) (by decide +kernel), by decide +kernel⟩
theorem qX8_77 : Cond.methodLink RX8 77 yX6_letBeginAnew ∈ lwT := List.mem_filter.mpr ⟨List.mem_of_getElem? (i := 537) (by decide +kernel), by decide +kernel⟩
theorem qX6_143 : Cond.methodLink RX6 143 yX0_aheadOf ∈ lwT := List.mem_filter.mpr ⟨List.mem_of_getElem? (i := 541) (by decide +kernel), by decide +kernel⟩
theorem qX0_53 : Cond.methodLink RX0 53 yX0_firstFrom ∈ lwT := List.mem_filter.mpr ⟨List.mem_of_getElem? (i := 545) (by decide +kernel), by decide +kernel⟩
theorem qL_60 : Cond.methodLink RL 60 yX8_load ∈ lwT := List.mem_filter.mpr ⟨List.mem_of_getElem? (i := 546) (by decide +kernel), by decide +kernel⟩
theorem qX8_80 : Cond.methodLink RX8 80 yX6_letLoad ∈ lwT := List.mem_filter.mpr ⟨List.mem_of_getElem? (i := 550) (by decide +kernel), by decide +kernel⟩
theorem qX6_146 : Cond.methodLink RX6 146 yX3_takeOver ∈ lwT := List.mem_filter.mpr ⟨List.mem_of_getElem? (i := 554) (by decide +kernel), by decide +kernel⟩
theorem qL_64 : Cond.methodLink RL 64 yX8_table ∈ lwT := List.mem_filter.mpr ⟨List.mem_of_getElem? (i := 558) (by decide +kernel), by decide +kernel⟩
theorem qX8_83 : Cond.methodLink RX8 83 yX8_isKey ∈ lwT := List.mem_filter.mpr ⟨List.mem_of_getElem? (i := 562) (by decide +kernel), by decide +kernel⟩
theorem qX8_91 : Cond.methodLink RX8 91 yX7_of ∈ lwT := List.mem_filter.mpr ⟨List.mem_of_getElem? (i := 563) (by decide +kernel), by decide +kernel⟩
theorem qL_68 : Cond.methodLink RL 68 yX8_view ∈ lwT := List.mem_filter.mpr ⟨List.mem_of_getElem? (i := 564) (by decide +kernel), by decide +kernel⟩
theorem qX8_96 : Cond.methodLink RX8 96 yX6_readerAt ∈ lwT := List.mem_filter.mpr ⟨List.mem_of_getElem? (i := 568) (by decide +kernel), by decide +kernel⟩
theorem qL_72 : Cond.methodLink RL 72 yX8_entry ∈ lwT := List.mem_filter.mpr ⟨List.mem_of_getElem? (i := 569) (by decide +kernel), by decide +kernel⟩
theorem qX8_115 : Cond.methodLink RX8 115 yX0_numberAt ∈ lwT := List.mem_filter.mpr ⟨List.mem_of_getElem? (i := 573) (by decide +kernel), by decide +kernel⟩
theorem qX8_118 : Cond.methodLink RX8 118 yX0_keyAt ∈ lwT := List.mem_filter.mpr ⟨List.mem_of_getElem? (i := 574) (by decide +kernel), by decide +kernel⟩
theorem qX8_121 : Cond.methodLink RX8 121 yX0_valueAt ∈ lwT := List.mem_filter.mpr ⟨List.mem_of_getElem? (i := 575) (by decide +kernel), by decide +kernel⟩
theorem qX8_124 : Cond.methodLink RX8 124 yX0_minuteAt ∈ lwT := List.mem_filter.mpr ⟨List.mem_of_getElem? (i := 576) (by decide +kernel), by decide +kernel⟩
theorem qX8_127 : Cond.methodLink RX8 127 yX0_isLastOfItsKey ∈ lwT := List.mem_filter.mpr ⟨List.mem_of_getElem? (i := 577) (by decide +kernel), by decide +kernel⟩
theorem qX8_130 : Cond.methodLink RX8 130 yX8_oneIf ∈ lwT := List.mem_filter.mpr ⟨List.mem_of_getElem? (i := 578) (by decide +kernel), by decide +kernel⟩
theorem qX8_137 : Cond.methodLink RX8 137 yX0_isClosed ∈ lwT := List.mem_filter.mpr ⟨List.mem_of_getElem? (i := 581) (by decide +kernel), by decide +kernel⟩
theorem qL_76 : Cond.methodLink RL 76 yX8_ofReader ∈ lwT := List.mem_filter.mpr ⟨List.mem_of_getElem? (i := 582) (by decide +kernel), by decide +kernel⟩
theorem qX8_147 : Cond.methodLink RX8 147 yX0_aheadOf ∈ lwT := List.mem_filter.mpr ⟨List.mem_of_getElem? (i := 586) (by decide +kernel), by decide +kernel⟩
theorem qX8_153 : Cond.methodLink RX8 153 yX8_isLate ∈ lwT := List.mem_filter.mpr ⟨List.mem_of_getElem? (i := 587) (by decide +kernel), by decide +kernel⟩
theorem qX8_159 : Cond.methodLink RX8 159 yX7_differingFrom ∈ lwT := List.mem_filter.mpr ⟨List.mem_of_getElem? (i := 588) (by decide +kernel), by decide +kernel⟩
theorem qX7_30 : Cond.methodLink RX7 30 yX7_of ∈ lwT := List.mem_filter.mpr ⟨List.mem_of_getElem? (i := 592) (by decide +kernel), by decide +kernel⟩
theorem qL_80 : Cond.methodLink RL 80 yX8_ofSnapshot ∈ lwT := List.mem_filter.mpr ⟨List.mem_of_getElem? (i := 593) (by decide +kernel), by decide +kernel⟩
theorem qX8_166 : Cond.methodLink RX8 166 yX6_snapshotAt ∈ lwT := List.mem_filter.mpr ⟨List.mem_of_getElem? (i := 597) (by decide +kernel), by decide +kernel⟩
theorem qX8_176 : Cond.methodLink RX8 176 yX7_howMany ∈ lwT := List.mem_filter.mpr ⟨List.mem_of_getElem? (i := 598) (by decide +kernel), by decide +kernel⟩
theorem qL_84 : Cond.methodLink RL 84 yX8_count ∈ lwT := List.mem_filter.mpr ⟨List.mem_of_getElem? (i := 602) (by decide +kernel), by decide +kernel⟩
theorem qX8_191 : Cond.methodLink RX8 191 yX6_lateBelow ∈ lwT := List.mem_filter.mpr ⟨List.mem_of_getElem? (i := 606) (by decide +kernel), by decide +kernel⟩
theorem qL_88 : Cond.methodLink RL 88 yX8_leftIn ∈ lwT := List.mem_filter.mpr ⟨List.mem_of_getElem? (i := 610) (by decide +kernel), by decide +kernel⟩
theorem qX8_204 : Cond.methodLink RX8 204 yX8_isNumber ∈ lwT := List.mem_filter.mpr ⟨List.mem_of_getElem? (i := 614) (by decide +kernel), by decide +kernel⟩
theorem qX8_207 : Cond.methodLink RX8 207 yX0_leftAfterThinning ∈ lwT := List.mem_filter.mpr ⟨List.mem_of_getElem? (i := 615) (by decide +kernel), by decide +kernel⟩
theorem qL_92 : Cond.methodLink RL 92 yX8_lateIn ∈ lwT := List.mem_filter.mpr ⟨List.mem_of_getElem? (i := 619) (by decide +kernel), by decide +kernel⟩
theorem qX8_211 : Cond.methodLink RX8 211 yX0_floorAfterThinning ∈ lwT := List.mem_filter.mpr ⟨List.mem_of_getElem? (i := 623) (by decide +kernel), by decide +kernel⟩
theorem qL_96 : Cond.methodLink RL 96 yX8_shortest ∈ lwT := List.mem_filter.mpr ⟨List.mem_of_getElem? (i := 624) (by decide +kernel), by decide +kernel⟩
theorem qX8_214 : Cond.methodLink RX8 214 yX6_shortestWay ∈ lwT := List.mem_filter.mpr ⟨List.mem_of_getElem? (i := 628) (by decide +kernel), by decide +kernel⟩
theorem qX6_155 : Cond.methodLink RX6 155 yX6_entriesOnWay ∈ lwT := List.mem_filter.mpr ⟨List.mem_of_getElem? (i := 632) (by decide +kernel), by decide +kernel⟩
theorem qX6_152 : Cond.methodLink RX6 152 yX6_aheadUnlessLate ∈ lwT := List.mem_filter.mpr ⟨List.mem_of_getElem? (i := 636) (by decide +kernel), by decide +kernel⟩
theorem qX8_218 : Cond.methodLink RX8 218 yX6_entriesOnWay ∈ lwT := List.mem_filter.mpr ⟨List.mem_of_getElem? (i := 640) (by decide +kernel), by decide +kernel⟩
theorem qL_100 : Cond.methodLink RL 100 yX8_gentlest ∈ lwT := List.mem_filter.mpr ⟨List.mem_of_getElem? (i := 641) (by decide +kernel), by decide +kernel⟩
theorem qL_106 : Cond.methodLink RL 106 yX8_put ∈ lwT := List.mem_filter.mpr ⟨List.mem_of_getElem? (i := 645) (by decide +kernel), by decide +kernel⟩
theorem qX8_222 : Cond.methodLink RX8 222 yX2_append ∈ lwT := List.mem_filter.mpr ⟨List.mem_of_getElem? (i := 649) (by decide +kernel), by decide +kernel⟩
theorem qX2_31 : Cond.methodLink RX2 31 yX2_signFromTheEnd ∈ lwT := List.mem_filter.mpr ⟨List.mem_of_getElem? (i := 653) (by decide +kernel), by decide +kernel⟩
theorem qX2_39 : Cond.constantLong RX2 39 (255) ∈ lwT := List.mem_filter.mpr ⟨List.mem_of_getElem? (i := 656) (by decide +kernel), by decide +kernel⟩
theorem qL_111 : Cond.methodLink RL 111 yX8_wipe ∈ lwT := List.mem_filter.mpr ⟨List.mem_of_getElem? (i := 658) (by decide +kernel), by decide +kernel⟩
theorem qX8_226 : Cond.methodLink RX8 226 yX2_empty ∈ lwT := List.mem_filter.mpr ⟨List.mem_of_getElem? (i := 662) (by decide +kernel), by decide +kernel⟩
theorem qL_115 : Cond.methodLink RL 115 yX8_fault ∈ lwT := List.mem_filter.mpr ⟨List.mem_of_getElem? (i := 666) (by decide +kernel), by decide +kernel⟩
theorem qX8_229 : Cond.methodLink RX8 229 yX2_firstFault ∈ lwT := List.mem_filter.mpr ⟨List.mem_of_getElem? (i := 670) (by decide +kernel), by decide +kernel⟩
theorem qX2_41 : Cond.methodLink RX2 41 yX2_goToStart ∈ lwT := List.mem_filter.mpr ⟨List.mem_of_getElem? (i := 674) (by decide +kernel), by decide +kernel⟩
theorem qX2_44 : Cond.methodLink RX2 44 yX2_takeOrder ∈ lwT := List.mem_filter.mpr ⟨List.mem_of_getElem? (i := 678) (by decide +kernel), by decide +kernel⟩
theorem qX2_52 : Cond.methodLink RX2 52 yX2_signHere ∈ lwT := List.mem_filter.mpr ⟨List.mem_of_getElem? (i := 682) (by decide +kernel), by decide +kernel⟩
theorem qX2_48 : Cond.methodLink RX2 48 yX2_takeSign ∈ lwT := List.mem_filter.mpr ⟨List.mem_of_getElem? (i := 687) (by decide +kernel), by decide +kernel⟩
theorem qX2_56 : Cond.methodLink RX2 56 yX2_takeNumber ∈ lwT := List.mem_filter.mpr ⟨List.mem_of_getElem? (i := 691) (by decide +kernel), by decide +kernel⟩
theorem qX2_68 : Cond.methodLink RX2 68 yX2_takeDigit ∈ lwT := List.mem_filter.mpr ⟨List.mem_of_getElem? (i := 695) (by decide +kernel), by decide +kernel⟩
theorem qX2_59 : Cond.methodLink RX2 59 yX2_takeFirst ∈ lwT := List.mem_filter.mpr ⟨List.mem_of_getElem? (i := 699) (by decide +kernel), by decide +kernel⟩
theorem qX2_62 : Cond.methodLink RX2 62 yX2_takeReader ∈ lwT := List.mem_filter.mpr ⟨List.mem_of_getElem? (i := 703) (by decide +kernel), by decide +kernel⟩
theorem qX2_65 : Cond.methodLink RX2 65 yX2_takeSecond ∈ lwT := List.mem_filter.mpr ⟨List.mem_of_getElem? (i := 707) (by decide +kernel), by decide +kernel⟩
theorem qL_119 : Cond.methodLink RL 119 yX8_carryOut ∈ lwT := List.mem_filter.mpr ⟨List.mem_of_getElem? (i := 711) (by decide +kernel), by decide +kernel⟩
theorem qX8_232 : Cond.methodLink RX8 232 yX2_goToStart ∈ lwT := List.mem_filter.mpr ⟨List.mem_of_getElem? (i := 715) (by decide +kernel), by decide +kernel⟩
theorem qX8_235 : Cond.methodLink RX8 235 yX2_takeOrder ∈ lwT := List.mem_filter.mpr ⟨List.mem_of_getElem? (i := 716) (by decide +kernel), by decide +kernel⟩
theorem qX8_239 : Cond.methodLink RX8 239 yX8_carryOutOrder ∈ lwT := List.mem_filter.mpr ⟨List.mem_of_getElem? (i := 717) (by decide +kernel), by decide +kernel⟩
theorem qX8_242 : Cond.methodLink RX8 242 yX2_takeSign ∈ lwT := List.mem_filter.mpr ⟨List.mem_of_getElem? (i := 721) (by decide +kernel), by decide +kernel⟩
theorem qL_123 : Cond.methodLink RL 123 yX8_undo ∈ lwT := List.mem_filter.mpr ⟨List.mem_of_getElem? (i := 722) (by decide +kernel), by decide +kernel⟩
theorem qX8_254 : Cond.methodLink RX8 254 yX1_bringBack ∈ lwT := List.mem_filter.mpr ⟨List.mem_of_getElem? (i := 726) (by decide +kernel), by decide +kernel⟩
theorem qL_127 : Cond.methodLink RL 127 yX8_save ∈ lwT := List.mem_filter.mpr ⟨List.mem_of_getElem? (i := 730) (by decide +kernel), by decide +kernel⟩
theorem qX8_258 : Cond.methodLink RX8 258 yX8_slotAt ∈ lwT := List.mem_filter.mpr ⟨List.mem_of_getElem? (i := 734) (by decide +kernel), by decide +kernel⟩
theorem qX8_265 : Cond.methodLink RX8 265 yX6_copyFrom ∈ lwT := List.mem_filter.mpr ⟨List.mem_of_getElem? (i := 738) (by decide +kernel), by decide +kernel⟩
theorem qL_131 : Cond.methodLink RL 131 yX8_restore ∈ lwT := List.mem_filter.mpr ⟨List.mem_of_getElem? (i := 739) (by decide +kernel), by decide +kernel⟩
theorem qL_10 : Cond.classLink RL 10 RX9 ∈ lwT := List.mem_filter.mpr ⟨List.mem_of_getElem? (i := 743) (by decide +kernel), by decide +kernel⟩
theorem qins_X9 : Cond.instantiable RX9 11 ∈ lwT := List.mem_filter.mpr ⟨List.mem_of_getElem? (i := 744) (by decide +kernel), by decide +kernel⟩
theorem qL_12 : Cond.methodLink RL 12 yX9_init ∈ lwT := List.mem_filter.mpr ⟨List.mem_of_getElem? (i := 745) (by decide +kernel), by decide +kernel⟩
theorem qX9_1 : Cond.methodLink RX9 1 objectInit ∈ lwT := List.mem_filter.mpr ⟨List.mem_of_getElem? (i := 748) (by decide +kernel), by decide +kernel⟩
theorem qX9_7 : Cond.fieldLink RX9 7 "ChangeFeedModel" "now" "[I" ∈ lwT := List.mem_filter.mpr ⟨List.mem_of_getElem? (i := 749) (by decide +kernel), by decide +kernel⟩
theorem qX9_13 : Cond.fieldLink RX9 13 "ChangeFeedModel" "then" "[I" ∈ lwT := List.mem_filter.mpr ⟨List.mem_of_getElem? (i := 750) (by decide +kernel), by decide +kernel⟩
theorem qX9_16 : Cond.fieldLink RX9 16 "ChangeFeedModel" "past" "[I" ∈ lwT := List.mem_filter.mpr ⟨List.mem_of_getElem? (i := 751) (by decide +kernel), by decide +kernel⟩
theorem qX9_36 : Cond.fieldLink RX9 36 "ChangeFeedModel" "kept" "I" ∈ lwT := List.mem_filter.mpr ⟨List.mem_of_getElem? (i := 752) (by decide +kernel), by decide +kernel⟩
theorem qX9_19 : Cond.fieldLink RX9 19 "ChangeFeedModel" "slots" "[I" ∈ lwT := List.mem_filter.mpr ⟨List.mem_of_getElem? (i := 753) (by decide +kernel), by decide +kernel⟩
theorem qX9_22 : Cond.fieldLink RX9 22 "ChangeFeedModel" "held" "[Z" ∈ lwT := List.mem_filter.mpr ⟨List.mem_of_getElem? (i := 754) (by decide +kernel), by decide +kernel⟩
theorem qX9_26 : Cond.fieldLink RX9 26 "ChangeFeedModel" "pad" "[I" ∈ lwT := List.mem_filter.mpr ⟨List.mem_of_getElem? (i := 755) (by decide +kernel), by decide +kernel⟩
theorem qX9_139 : Cond.fieldLink RX9 139 "ChangeFeedModel" "padded" "I" ∈ lwT := List.mem_filter.mpr ⟨List.mem_of_getElem? (i := 756) (by decide +kernel), by decide +kernel⟩
theorem qX9_156 : Cond.fieldLink RX9 156 "ChangeFeedModel" "at" "I" ∈ lwT := List.mem_filter.mpr ⟨List.mem_of_getElem? (i := 757) (by decide +kernel), by decide +kernel⟩
theorem qX9_29 : Cond.fieldLink RX9 29 "ChangeFeedModel" "orders" "[I" ∈ lwT := List.mem_filter.mpr ⟨List.mem_of_getElem? (i := 758) (by decide +kernel), by decide +kernel⟩
theorem qX9_163 : Cond.fieldLink RX9 163 "ChangeFeedModel" "ordered" "I" ∈ lwT := List.mem_filter.mpr ⟨List.mem_of_getElem? (i := 759) (by decide +kernel), by decide +kernel⟩
theorem qac_boolean : Cond.arrayClass .boolean ∈ lwT := List.mem_filter.mpr ⟨List.mem_of_getElem? (i := 783) (by decide +kernel), by decide +kernel⟩
theorem qL_126 : Cond.methodLink RL 126 yX9_undo ∈ lwT := List.mem_filter.mpr ⟨List.mem_of_getElem? (i := 784) (by decide +kernel), by decide +kernel⟩
theorem qX9_40 : Cond.methodLink RX9 40 yX9_lays ∈ lwT := List.mem_filter.mpr ⟨List.mem_of_getElem? (i := 788) (by decide +kernel), by decide +kernel⟩
theorem qL_130 : Cond.methodLink RL 130 yX9_save ∈ lwT := List.mem_filter.mpr ⟨List.mem_of_getElem? (i := 791) (by decide +kernel), by decide +kernel⟩
theorem qX9_32 : Cond.methodLink RX9 32 yX9_in ∈ lwT := List.mem_filter.mpr ⟨List.mem_of_getElem? (i := 795) (by decide +kernel), by decide +kernel⟩
theorem qL_134 : Cond.methodLink RL 134 yX9_restore ∈ lwT := List.mem_filter.mpr ⟨List.mem_of_getElem? (i := 798) (by decide +kernel), by decide +kernel⟩
theorem qX9_44 : Cond.methodLink RX9 44 yX9_records ∈ lwT := List.mem_filter.mpr ⟨List.mem_of_getElem? (i := 802) (by decide +kernel), by decide +kernel⟩
theorem qL_17 : Cond.methodLink RL 17 yX9_turn ∈ lwT := List.mem_filter.mpr ⟨List.mem_of_getElem? (i := 806) (by decide +kernel), by decide +kernel⟩
theorem qL_21 : Cond.methodLink RL 21 yX9_set ∈ lwT := List.mem_filter.mpr ⟨List.mem_of_getElem? (i := 810) (by decide +kernel), by decide +kernel⟩
theorem qX9_76 : Cond.methodLink RX9 76 yX9_maySet ∈ lwT := List.mem_filter.mpr ⟨List.mem_of_getElem? (i := 814) (by decide +kernel), by decide +kernel⟩
theorem qX9_72 : Cond.methodLink RX9 72 yX9_isKey ∈ lwT := List.mem_filter.mpr ⟨List.mem_of_getElem? (i := 818) (by decide +kernel), by decide +kernel⟩
theorem qX9_80 : Cond.methodLink RX9 80 yX9_sets ∈ lwT := List.mem_filter.mpr ⟨List.mem_of_getElem? (i := 821) (by decide +kernel), by decide +kernel⟩
theorem qL_26 : Cond.methodLink RL 26 yX9_remove ∈ lwT := List.mem_filter.mpr ⟨List.mem_of_getElem? (i := 825) (by decide +kernel), by decide +kernel⟩
theorem qX9_83 : Cond.methodLink RX9 83 yX9_mayRemove ∈ lwT := List.mem_filter.mpr ⟨List.mem_of_getElem? (i := 829) (by decide +kernel), by decide +kernel⟩
theorem qL_30 : Cond.methodLink RL 30 yX9_pass ∈ lwT := List.mem_filter.mpr ⟨List.mem_of_getElem? (i := 833) (by decide +kernel), by decide +kernel⟩
theorem qX9_87 : Cond.methodLink RX9 87 yX9_mayPass ∈ lwT := List.mem_filter.mpr ⟨List.mem_of_getElem? (i := 837) (by decide +kernel), by decide +kernel⟩
theorem qX9_86 : Cond.constant RX9 86 (99999) ∈ lwT := List.mem_filter.mpr ⟨List.mem_of_getElem? (i := 841) (by decide +kernel), by decide +kernel⟩
theorem qL_35 : Cond.methodLink RL 35 yX9_thin ∈ lwT := List.mem_filter.mpr ⟨List.mem_of_getElem? (i := 842) (by decide +kernel), by decide +kernel⟩
theorem qX9_90 : Cond.methodLink RX9 90 yX9_thins ∈ lwT := List.mem_filter.mpr ⟨List.mem_of_getElem? (i := 846) (by decide +kernel), by decide +kernel⟩
theorem qX9_51 : Cond.methodLink RX9 51 yX9_isClosed ∈ lwT := List.mem_filter.mpr ⟨List.mem_of_getElem? (i := 849) (by decide +kernel), by decide +kernel⟩
theorem qX9_47 : Cond.methodLink RX9 47 yX9_of ∈ lwT := List.mem_filter.mpr ⟨List.mem_of_getElem? (i := 852) (by decide +kernel), by decide +kernel⟩
theorem qX9_55 : Cond.methodLink RX9 55 yX9_isLast ∈ lwT := List.mem_filter.mpr ⟨List.mem_of_getElem? (i := 855) (by decide +kernel), by decide +kernel⟩
theorem qX9_58 : Cond.methodLink RX9 58 yX9_goes ∈ lwT := List.mem_filter.mpr ⟨List.mem_of_getElem? (i := 858) (by decide +kernel), by decide +kernel⟩
theorem qL_39 : Cond.methodLink RL 39 yX9_snapshot ∈ lwT := List.mem_filter.mpr ⟨List.mem_of_getElem? (i := 861) (by decide +kernel), by decide +kernel⟩
theorem qX9_94 : Cond.methodLink RX9 94 yX9_shoots ∈ lwT := List.mem_filter.mpr ⟨List.mem_of_getElem? (i := 865) (by decide +kernel), by decide +kernel⟩
theorem qL_43 : Cond.methodLink RL 43 yX9_reader ∈ lwT := List.mem_filter.mpr ⟨List.mem_of_getElem? (i := 869) (by decide +kernel), by decide +kernel⟩
theorem qX9_102 : Cond.methodLink RX9 102 yX9_comes ∈ lwT := List.mem_filter.mpr ⟨List.mem_of_getElem? (i := 873) (by decide +kernel), by decide +kernel⟩
theorem qX9_62 : Cond.methodLink RX9 62 yX9_row ∈ lwT := List.mem_filter.mpr ⟨List.mem_of_getElem? (i := 877) (by decide +kernel), by decide +kernel⟩
theorem qX9_98 : Cond.methodLink RX9 98 yX9_begins ∈ lwT := List.mem_filter.mpr ⟨List.mem_of_getElem? (i := 880) (by decide +kernel), by decide +kernel⟩
theorem qL_47 : Cond.methodLink RL 47 yX9_read ∈ lwT := List.mem_filter.mpr ⟨List.mem_of_getElem? (i := 884) (by decide +kernel), by decide +kernel⟩
theorem qX9_108 : Cond.methodLink RX9 108 yX9_mayRead ∈ lwT := List.mem_filter.mpr ⟨List.mem_of_getElem? (i := 888) (by decide +kernel), by decide +kernel⟩
theorem qX9_105 : Cond.methodLink RX9 105 yX9_isReader ∈ lwT := List.mem_filter.mpr ⟨List.mem_of_getElem? (i := 892) (by decide +kernel), by decide +kernel⟩
theorem qX9_69 : Cond.methodLink RX9 69 yX9_isLate ∈ lwT := List.mem_filter.mpr ⟨List.mem_of_getElem? (i := 896) (by decide +kernel), by decide +kernel⟩
theorem qX9_66 : Cond.methodLink RX9 66 yX9_isLatePlace ∈ lwT := List.mem_filter.mpr ⟨List.mem_of_getElem? (i := 899) (by decide +kernel), by decide +kernel⟩
theorem qX9_111 : Cond.methodLink RX9 111 yX9_reads ∈ lwT := List.mem_filter.mpr ⟨List.mem_of_getElem? (i := 902) (by decide +kernel), by decide +kernel⟩
theorem qL_51 : Cond.methodLink RL 51 yX9_confirm ∈ lwT := List.mem_filter.mpr ⟨List.mem_of_getElem? (i := 906) (by decide +kernel), by decide +kernel⟩
theorem qX9_114 : Cond.methodLink RX9 114 yX9_takes ∈ lwT := List.mem_filter.mpr ⟨List.mem_of_getElem? (i := 910) (by decide +kernel), by decide +kernel⟩
theorem qL_55 : Cond.methodLink RL 55 yX9_goBack ∈ lwT := List.mem_filter.mpr ⟨List.mem_of_getElem? (i := 914) (by decide +kernel), by decide +kernel⟩
theorem qL_59 : Cond.methodLink RL 59 yX9_beginAnew ∈ lwT := List.mem_filter.mpr ⟨List.mem_of_getElem? (i := 918) (by decide +kernel), by decide +kernel⟩
theorem qL_63 : Cond.methodLink RL 63 yX9_load ∈ lwT := List.mem_filter.mpr ⟨List.mem_of_getElem? (i := 922) (by decide +kernel), by decide +kernel⟩
theorem qX9_121 : Cond.methodLink RX9 121 yX9_mayLoad ∈ lwT := List.mem_filter.mpr ⟨List.mem_of_getElem? (i := 926) (by decide +kernel), by decide +kernel⟩
theorem qX9_118 : Cond.methodLink RX9 118 yX9_isShot ∈ lwT := List.mem_filter.mpr ⟨List.mem_of_getElem? (i := 930) (by decide +kernel), by decide +kernel⟩
theorem qX9_124 : Cond.methodLink RX9 124 yX9_loads ∈ lwT := List.mem_filter.mpr ⟨List.mem_of_getElem? (i := 934) (by decide +kernel), by decide +kernel⟩
theorem qL_67 : Cond.methodLink RL 67 yX9_table ∈ lwT := List.mem_filter.mpr ⟨List.mem_of_getElem? (i := 938) (by decide +kernel), by decide +kernel⟩
theorem qL_71 : Cond.methodLink RL 71 yX9_view ∈ lwT := List.mem_filter.mpr ⟨List.mem_of_getElem? (i := 942) (by decide +kernel), by decide +kernel⟩
theorem qL_75 : Cond.methodLink RL 75 yX9_entry ∈ lwT := List.mem_filter.mpr ⟨List.mem_of_getElem? (i := 946) (by decide +kernel), by decide +kernel⟩
theorem qL_79 : Cond.methodLink RL 79 yX9_ofReader ∈ lwT := List.mem_filter.mpr ⟨List.mem_of_getElem? (i := 950) (by decide +kernel), by decide +kernel⟩
theorem qX9_127 : Cond.methodLink RX9 127 yX9_ahead ∈ lwT := List.mem_filter.mpr ⟨List.mem_of_getElem? (i := 954) (by decide +kernel), by decide +kernel⟩
theorem qX9_130 : Cond.methodLink RX9 130 yX9_unlike ∈ lwT := List.mem_filter.mpr ⟨List.mem_of_getElem? (i := 958) (by decide +kernel), by decide +kernel⟩
theorem qL_83 : Cond.methodLink RL 83 yX9_ofSnapshot ∈ lwT := List.mem_filter.mpr ⟨List.mem_of_getElem? (i := 962) (by decide +kernel), by decide +kernel⟩
theorem qX9_133 : Cond.methodLink RX9 133 yX9_valued ∈ lwT := List.mem_filter.mpr ⟨List.mem_of_getElem? (i := 966) (by decide +kernel), by decide +kernel⟩
theorem qL_87 : Cond.methodLink RL 87 yX9_count ∈ lwT := List.mem_filter.mpr ⟨List.mem_of_getElem? (i := 970) (by decide +kernel), by decide +kernel⟩
theorem qX9_136 : Cond.methodLink RX9 136 yX9_lateOnes ∈ lwT := List.mem_filter.mpr ⟨List.mem_of_getElem? (i := 974) (by decide +kernel), by decide +kernel⟩
theorem qL_91 : Cond.methodLink RL 91 yX9_leftIn ∈ lwT := List.mem_filter.mpr ⟨List.mem_of_getElem? (i := 977) (by decide +kernel), by decide +kernel⟩
theorem qX9_142 : Cond.methodLink RX9 142 yX9_thinsThen ∈ lwT := List.mem_filter.mpr ⟨List.mem_of_getElem? (i := 981) (by decide +kernel), by decide +kernel⟩
theorem qL_95 : Cond.methodLink RL 95 yX9_lateIn ∈ lwT := List.mem_filter.mpr ⟨List.mem_of_getElem? (i := 985) (by decide +kernel), by decide +kernel⟩
theorem qL_99 : Cond.methodLink RL 99 yX9_shortest ∈ lwT := List.mem_filter.mpr ⟨List.mem_of_getElem? (i := 989) (by decide +kernel), by decide +kernel⟩
theorem qL_103 : Cond.methodLink RL 103 yX9_gentlest ∈ lwT := List.mem_filter.mpr ⟨List.mem_of_getElem? (i := 993) (by decide +kernel), by decide +kernel⟩
theorem qL_110 : Cond.methodLink RL 110 yX9_put ∈ lwT := List.mem_filter.mpr ⟨List.mem_of_getElem? (i := 997) (by decide +kernel), by decide +kernel⟩
theorem qX9_152 : Cond.methodLink RX9 152 yX9_toldBy ∈ lwT := List.mem_filter.mpr ⟨List.mem_of_getElem? (i := 1001) (by decide +kernel), by decide +kernel⟩
theorem qX9_148 : Cond.methodLink RX9 148 yX9_byteOf ∈ lwT := List.mem_filter.mpr ⟨List.mem_of_getElem? (i := 1004) (by decide +kernel), by decide +kernel⟩
theorem qX9_146 : Cond.constantLong RX9 146 (255) ∈ lwT := List.mem_filter.mpr ⟨List.mem_of_getElem? (i := 1007) (by decide +kernel), by decide +kernel⟩
theorem qL_114 : Cond.methodLink RL 114 yX9_wipe ∈ lwT := List.mem_filter.mpr ⟨List.mem_of_getElem? (i := 1008) (by decide +kernel), by decide +kernel⟩
theorem qL_118 : Cond.methodLink RL 118 yX9_fault ∈ lwT := List.mem_filter.mpr ⟨List.mem_of_getElem? (i := 1012) (by decide +kernel), by decide +kernel⟩
theorem qX9_179 : Cond.methodLink RX9 179 yX9_isText ∈ lwT := List.mem_filter.mpr ⟨List.mem_of_getElem? (i := 1016) (by decide +kernel), by decide +kernel⟩
theorem qX9_175 : Cond.methodLink RX9 175 yX9_isOrder ∈ lwT := List.mem_filter.mpr ⟨List.mem_of_getElem? (i := 1020) (by decide +kernel), by decide +kernel⟩
theorem qX9_166 : Cond.methodLink RX9 166 yX9_isNumber ∈ lwT := List.mem_filter.mpr ⟨List.mem_of_getElem? (i := 1024) (by decide +kernel), by decide +kernel⟩
theorem qX9_159 : Cond.methodLink RX9 159 yX9_isAt ∈ lwT := List.mem_filter.mpr ⟨List.mem_of_getElem? (i := 1028) (by decide +kernel), by decide +kernel⟩
theorem qX9_169 : Cond.methodLink RX9 169 yX9_isSign ∈ lwT := List.mem_filter.mpr ⟨List.mem_of_getElem? (i := 1032) (by decide +kernel), by decide +kernel⟩
theorem qX9_172 : Cond.methodLink RX9 172 yX9_isDigit ∈ lwT := List.mem_filter.mpr ⟨List.mem_of_getElem? (i := 1036) (by decide +kernel), by decide +kernel⟩
theorem qL_122 : Cond.methodLink RL 122 yX9_carryOut ∈ lwT := List.mem_filter.mpr ⟨List.mem_of_getElem? (i := 1040) (by decide +kernel), by decide +kernel⟩
theorem qX9_185 : Cond.methodLink RX9 185 yX9_does ∈ lwT := List.mem_filter.mpr ⟨List.mem_of_getElem? (i := 1044) (by decide +kernel), by decide +kernel⟩
theorem qX9_182 : Cond.methodLink RX9 182 yX9_mayDo ∈ lwT := List.mem_filter.mpr ⟨List.mem_of_getElem? (i := 1048) (by decide +kernel), by decide +kernel⟩
theorem qL_104 : Cond.constantLong RL 104 (4294967295) ∈ lwT := List.mem_filter.mpr ⟨List.mem_of_getElem? (i := 1052) (by decide +kernel), by decide +kernel⟩
theorem inX0 : ∀ w ∈ u_ws RX0 TX0 8, w ∈ lwT := fun w hw => List.mem_filter.mpr ⟨(show ∀ w ∈ u_ws RX0 TX0 8, w ∈ lw_tbl by decide +kernel) w hw, (show ∀ w ∈ u_ws RX0 TX0 8, goodWord w = true by decide +kernel) w hw⟩
theorem inX1 : ∀ w ∈ u_ws RX1 TX1 2, w ∈ lwT := fun w hw => List.mem_filter.mpr ⟨(show ∀ w ∈ u_ws RX1 TX1 2, w ∈ lw_tbl by decide +kernel) w hw, (show ∀ w ∈ u_ws RX1 TX1 2, goodWord w = true by decide +kernel) w hw⟩
theorem inX2 : ∀ w ∈ u_ws RX2 TX2 6, w ∈ lwT := fun w hw => List.mem_filter.mpr ⟨(show ∀ w ∈ u_ws RX2 TX2 6, w ∈ lw_tbl by decide +kernel) w hw, (show ∀ w ∈ u_ws RX2 TX2 6, goodWord w = true by decide +kernel) w hw⟩
theorem inX3 : ∀ w ∈ u_ws RX3 TX3 5, w ∈ lwT := fun w hw => List.mem_filter.mpr ⟨(show ∀ w ∈ u_ws RX3 TX3 5, w ∈ lw_tbl by decide +kernel) w hw, (show ∀ w ∈ u_ws RX3 TX3 5, goodWord w = true by decide +kernel) w hw⟩
theorem inX4 : ∀ w ∈ u_ws RX4 TX4 2, w ∈ lwT := fun w hw => List.mem_filter.mpr ⟨(show ∀ w ∈ u_ws RX4 TX4 2, w ∈ lw_tbl by decide +kernel) w hw, (show ∀ w ∈ u_ws RX4 TX4 2, goodWord w = true by decide +kernel) w hw⟩
theorem inX5 : ∀ w ∈ u_ws RX5 TX5 2, w ∈ lwT := fun w hw => List.mem_filter.mpr ⟨(show ∀ w ∈ u_ws RX5 TX5 2, w ∈ lw_tbl by decide +kernel) w hw, (show ∀ w ∈ u_ws RX5 TX5 2, goodWord w = true by decide +kernel) w hw⟩
theorem inX6 : ∀ w ∈ u_ws RX6 TX6 9, w ∈ lwT := fun w hw => List.mem_filter.mpr ⟨(show ∀ w ∈ u_ws RX6 TX6 9, w ∈ lw_tbl by decide +kernel) w hw, (show ∀ w ∈ u_ws RX6 TX6 9, goodWord w = true by decide +kernel) w hw⟩
theorem inX7 : ∀ w ∈ u_ws RX7 TX7 1, w ∈ lwT := fun w hw => List.mem_filter.mpr ⟨(show ∀ w ∈ u_ws RX7 TX7 1, w ∈ lw_tbl by decide +kernel) w hw, (show ∀ w ∈ u_ws RX7 TX7 1, goodWord w = true by decide +kernel) w hw⟩
theorem inX8 : ∀ w ∈ u_ws RX8 TX8 4, w ∈ lwT := fun w hw => List.mem_filter.mpr ⟨(show ∀ w ∈ u_ws RX8 TX8 4, w ∈ lw_tbl by decide +kernel) w hw, (show ∀ w ∈ u_ws RX8 TX8 4, goodWord w = true by decide +kernel) w hw⟩
theorem inX9 : ∀ w ∈ u_ws RX9 TX9 11, w ∈ lwT := fun w hw => List.mem_filter.mpr ⟨(show ∀ w ∈ u_ws RX9 TX9 11, w ∈ lw_tbl by decide +kernel) w hw, (show ∀ w ∈ u_ws RX9 TX9 11, goodWord w = true by decide +kernel) w hw⟩
abbrev nestL : List (String × Nat × MethodName × String) := [(RX7, 18, yX8_layAt, RX8), (RX6, 36, yX0_init, RX8), (RX6, 53, yX3_init, RX8), (RX6, 54, yX5_init, RX8), (RX8, 25, yX2_init, RX8), (RX8, 36, yX4_init, RX8), (RX7, 22, yX8_copyRow, RX8), (RX0, 37, yX8_copyRow, RX8), (RX6, 80, yX8_isNumber, RX8), (RX6, 84, yX8_isKey, RX8), (RX0, 49, yX8_layAt, RX8), (RX7, 26, yX8_at, RX8), (RX0, 41, yX8_at, RX8), (RX6, 129, yX8_isLate, RX8), (RX2, 35, yX8_layAt, RX8), (RX2, 72, yX8_at, RX8)]
theorem nX7_18 : (RX7, 18, yX8_layAt, RX8) ∈ nestL := List.mem_of_getElem? (i := 0) rfl
theorem nX6_36 : (RX6, 36, yX0_init, RX8) ∈ nestL := List.mem_of_getElem? (i := 1) rfl
theorem nX6_53 : (RX6, 53, yX3_init, RX8) ∈ nestL := List.mem_of_getElem? (i := 2) rfl
theorem nX6_54 : (RX6, 54, yX5_init, RX8) ∈ nestL := List.mem_of_getElem? (i := 3) rfl
theorem nX8_25 : (RX8, 25, yX2_init, RX8) ∈ nestL := List.mem_of_getElem? (i := 4) rfl
theorem nX8_36 : (RX8, 36, yX4_init, RX8) ∈ nestL := List.mem_of_getElem? (i := 5) rfl
theorem nX7_22 : (RX7, 22, yX8_copyRow, RX8) ∈ nestL := List.mem_of_getElem? (i := 6) rfl
theorem nX0_37 : (RX0, 37, yX8_copyRow, RX8) ∈ nestL := List.mem_of_getElem? (i := 7) rfl
theorem nX6_80 : (RX6, 80, yX8_isNumber, RX8) ∈ nestL := List.mem_of_getElem? (i := 8) rfl
theorem nX6_84 : (RX6, 84, yX8_isKey, RX8) ∈ nestL := List.mem_of_getElem? (i := 9) rfl
theorem nX0_49 : (RX0, 49, yX8_layAt, RX8) ∈ nestL := List.mem_of_getElem? (i := 10) rfl
theorem nX7_26 : (RX7, 26, yX8_at, RX8) ∈ nestL := List.mem_of_getElem? (i := 11) rfl
theorem nX0_41 : (RX0, 41, yX8_at, RX8) ∈ nestL := List.mem_of_getElem? (i := 12) rfl
theorem nX6_129 : (RX6, 129, yX8_isLate, RX8) ∈ nestL := List.mem_of_getElem? (i := 13) rfl
theorem nX2_35 : (RX2, 35, yX8_layAt, RX8) ∈ nestL := List.mem_of_getElem? (i := 14) rfl
theorem nX2_72 : (RX2, 72, yX8_at, RX8) ∈ nestL := List.mem_of_getElem? (i := 15) rfl
theorem nest_in : ∀ q ∈ nestL, Cond.methodLinkNest q.1 q.2.1 q.2.2.1 q.2.2.2 ∈ lw_tbl := by
  refine List.forall_mem_cons.mpr ⟨?_, List.forall_mem_cons.mpr ⟨?_, List.forall_mem_cons.mpr ⟨?_, List.forall_mem_cons.mpr ⟨?_, List.forall_mem_cons.mpr ⟨?_, List.forall_mem_cons.mpr ⟨?_, List.forall_mem_cons.mpr ⟨?_, List.forall_mem_cons.mpr ⟨?_, List.forall_mem_cons.mpr ⟨?_, List.forall_mem_cons.mpr ⟨?_, List.forall_mem_cons.mpr ⟨?_, List.forall_mem_cons.mpr ⟨?_, List.forall_mem_cons.mpr ⟨?_, List.forall_mem_cons.mpr ⟨?_, List.forall_mem_cons.mpr ⟨?_, List.forall_mem_cons.mpr ⟨?_, fun _ h => absurd h List.not_mem_nil⟩⟩⟩⟩⟩⟩⟩⟩⟩⟩⟩⟩⟩⟩⟩⟩
  · exact List.mem_of_getElem? (i := 77) (by decide +kernel)
  · exact List.mem_of_getElem? (i := 87) (by decide +kernel)
  · exact List.mem_of_getElem? (i := 129) (by decide +kernel)
  · exact List.mem_of_getElem? (i := 159) (by decide +kernel)
  · exact List.mem_of_getElem? (i := 232) (by decide +kernel)
  · exact List.mem_of_getElem? (i := 262) (by decide +kernel)
  · exact List.mem_of_getElem? (i := 310) (by decide +kernel)
  · exact List.mem_of_getElem? (i := 317) (by decide +kernel)
  · exact List.mem_of_getElem? (i := 343) (by decide +kernel)
  · exact List.mem_of_getElem? (i := 362) (by decide +kernel)
  · exact List.mem_of_getElem? (i := 381) (by decide +kernel)
  · exact List.mem_of_getElem? (i := 394) (by decide +kernel)
  · exact List.mem_of_getElem? (i := 422) (by decide +kernel)
  · exact List.mem_of_getElem? (i := 494) (by decide +kernel)
  · exact List.mem_of_getElem? (i := 657) (by decide +kernel)
  · exact List.mem_of_getElem? (i := 686) (by decide +kernel)
/-- a field of class ci, place k, as own links it at idx -/
def FOk (ci k : Nat) (own : String) (idx : Nat) : Prop := ∃ (C : String) (T : u_T) (N : Nat), classes[ci]? = some (C, T, N) ∧ k < N ∧ (∀ w ∈ u_ws C T N, w ∈ lwT) ∧ Cond.fieldLink own idx (T k).1 (T k).2.1 (T k).2.2.1 ∈ lwT
def POk (ci k : Nat) (own : String) (idx : Nat) (fin : Bool) (ty : FieldType) : Prop := ∃ (C : String) (T : u_T) (N : Nat) (ty0 : Nat → FieldType), classes[ci]? = some (C, T, N) ∧ k < N ∧ (∀ w ∈ u_ws C T N, w ∈ lwT) ∧ Cond.fieldLink own idx (T k).1 (T k).2.1 (T k).2.2.1 ∈ lwT ∧ (∀ k, k < N → parseFieldDescriptor (T k).2.2.1 = some (ty0 k)) ∧ (∀ a, a < N → ∀ b, b < N → a ≠ b → (T a).2.1 ≠ (T b).2.1) ∧ (T k).2.2.2 = fin ∧ parseFieldDescriptor (T k).2.2.1 = some ty ∧ (fin = true → (T k).1 = own)
theorem fX7_9 : FOk 7 0 RX7 9 := ⟨_, _, _, rfl, by decide, inX7, qX7_9⟩
theorem pX7_9 : POk 7 0 RX7 9 true (.array .int) := ⟨_, _, _, tyX7, rfl, by decide, inX7, qX7_9, tyX7_ok, nmX7, rfl, by decide +kernel, by decide +kernel⟩
theorem fX0_9 : FOk 0 0 RX0 9 := ⟨_, _, _, rfl, by decide, inX0, qX0_9⟩
theorem pX0_9 : POk 0 0 RX0 9 true (.array .int) := ⟨_, _, _, tyX0, rfl, by decide, inX0, qX0_9, tyX0_ok, nmX0, rfl, by decide +kernel, by decide +kernel⟩
theorem fX0_15 : FOk 0 1 RX0 15 := ⟨_, _, _, rfl, by decide, inX0, qX0_15⟩
theorem pX0_15 : POk 0 1 RX0 15 true (.array .int) := ⟨_, _, _, tyX0, rfl, by decide, inX0, qX0_15, tyX0_ok, nmX0, rfl, by decide +kernel, by decide +kernel⟩
theorem fX0_18 : FOk 0 2 RX0 18 := ⟨_, _, _, rfl, by decide, inX0, qX0_18⟩
theorem pX0_18 : POk 0 2 RX0 18 true (.array .int) := ⟨_, _, _, tyX0, rfl, by decide, inX0, qX0_18, tyX0_ok, nmX0, rfl, by decide +kernel, by decide +kernel⟩
theorem fX0_21 : FOk 0 3 RX0 21 := ⟨_, _, _, rfl, by decide, inX0, qX0_21⟩
theorem pX0_21 : POk 0 3 RX0 21 true (.array .int) := ⟨_, _, _, tyX0, rfl, by decide, inX0, qX0_21, tyX0_ok, nmX0, rfl, by decide +kernel, by decide +kernel⟩
theorem fX0_24 : FOk 0 4 RX0 24 := ⟨_, _, _, rfl, by decide, inX0, qX0_24⟩
theorem pX0_24 : POk 0 4 RX0 24 false .int := ⟨_, _, _, tyX0, rfl, by decide, inX0, qX0_24, tyX0_ok, nmX0, rfl, by decide +kernel, by decide +kernel⟩
theorem fX3_53 : FOk 0 4 RX3 53 := ⟨_, _, _, rfl, by decide, inX0, qX3_53⟩
theorem pX3_53 : POk 0 4 RX3 53 false .int := ⟨_, _, _, tyX0, rfl, by decide, inX0, qX3_53, tyX0_ok, nmX0, rfl, by decide +kernel, by decide +kernel⟩
theorem fX8_109 : FOk 0 4 RX8 109 := ⟨_, _, _, rfl, by decide, inX0, qX8_109⟩
theorem pX8_109 : POk 0 4 RX8 109 false .int := ⟨_, _, _, tyX0, rfl, by decide, inX0, qX8_109, tyX0_ok, nmX0, rfl, by decide +kernel, by decide +kernel⟩
theorem fX6_149 : FOk 0 4 RX6 149 := ⟨_, _, _, rfl, by decide, inX0, qX6_149⟩
theorem pX6_149 : POk 0 4 RX6 149 false .int := ⟨_, _, _, tyX0, rfl, by decide, inX0, qX6_149, tyX0_ok, nmX0, rfl, by decide +kernel, by decide +kernel⟩
theorem fX0_28 : FOk 0 5 RX0 28 := ⟨_, _, _, rfl, by decide, inX0, qX0_28⟩
theorem pX0_28 : POk 0 5 RX0 28 false .int := ⟨_, _, _, tyX0, rfl, by decide, inX0, qX0_28, tyX0_ok, nmX0, rfl, by decide +kernel, by decide +kernel⟩
theorem fX6_113 : FOk 0 5 RX6 113 := ⟨_, _, _, rfl, by decide, inX0, qX6_113⟩
theorem pX6_113 : POk 0 5 RX6 113 false .int := ⟨_, _, _, tyX0, rfl, by decide, inX0, qX6_113, tyX0_ok, nmX0, rfl, by decide +kernel, by decide +kernel⟩
theorem fX8_179 : FOk 0 5 RX8 179 := ⟨_, _, _, rfl, by decide, inX0, qX8_179⟩
theorem pX8_179 : POk 0 5 RX8 179 false .int := ⟨_, _, _, tyX0, rfl, by decide, inX0, qX8_179, tyX0_ok, nmX0, rfl, by decide +kernel, by decide +kernel⟩
theorem fX0_31 : FOk 0 6 RX0 31 := ⟨_, _, _, rfl, by decide, inX0, qX0_31⟩
theorem pX0_31 : POk 0 6 RX0 31 false .int := ⟨_, _, _, tyX0, rfl, by decide, inX0, qX0_31, tyX0_ok, nmX0, rfl, by decide +kernel, by decide +kernel⟩
theorem fX6_107 : FOk 0 6 RX6 107 := ⟨_, _, _, rfl, by decide, inX0, qX6_107⟩
theorem pX6_107 : POk 0 6 RX6 107 false .int := ⟨_, _, _, tyX0, rfl, by decide, inX0, qX6_107, tyX0_ok, nmX0, rfl, by decide +kernel, by decide +kernel⟩
theorem fX8_150 : FOk 0 6 RX8 150 := ⟨_, _, _, rfl, by decide, inX0, qX8_150⟩
theorem pX8_150 : POk 0 6 RX8 150 false .int := ⟨_, _, _, tyX0, rfl, by decide, inX0, qX8_150, tyX0_ok, nmX0, rfl, by decide +kernel, by decide +kernel⟩
theorem fX0_34 : FOk 0 7 RX0 34 := ⟨_, _, _, rfl, by decide, inX0, qX0_34⟩
theorem pX0_34 : POk 0 7 RX0 34 false .int := ⟨_, _, _, tyX0, rfl, by decide, inX0, qX0_34, tyX0_ok, nmX0, rfl, by decide +kernel, by decide +kernel⟩
theorem fX8_185 : FOk 0 7 RX8 185 := ⟨_, _, _, rfl, by decide, inX0, qX8_185⟩
theorem pX8_185 : POk 0 7 RX8 185 false .int := ⟨_, _, _, tyX0, rfl, by decide, inX0, qX8_185, tyX0_ok, nmX0, rfl, by decide +kernel, by decide +kernel⟩
theorem fX3_7 : FOk 3 0 RX3 7 := ⟨_, _, _, rfl, by decide, inX3, qX3_7⟩
theorem pX3_7 : POk 3 0 RX3 7 false .int := ⟨_, _, _, tyX3, rfl, by decide, inX3, qX3_7, tyX3_ok, nmX3, rfl, by decide +kernel, by decide +kernel⟩
theorem fX6_126 : FOk 3 0 RX6 126 := ⟨_, _, _, rfl, by decide, inX3, qX6_126⟩
theorem pX6_126 : POk 3 0 RX6 126 false .int := ⟨_, _, _, tyX3, rfl, by decide, inX3, qX6_126, tyX3_ok, nmX3, rfl, by decide +kernel, by decide +kernel⟩
theorem fX8_141 : FOk 3 0 RX8 141 := ⟨_, _, _, rfl, by decide, inX3, qX8_141⟩
theorem pX8_141 : POk 3 0 RX8 141 false .int := ⟨_, _, _, tyX3, rfl, by decide, inX3, qX8_141, tyX3_ok, nmX3, rfl, by decide +kernel, by decide +kernel⟩
theorem fX3_13 : FOk 3 1 RX3 13 := ⟨_, _, _, rfl, by decide, inX3, qX3_13⟩
theorem pX3_13 : POk 3 1 RX3 13 false .int := ⟨_, _, _, tyX3, rfl, by decide, inX3, qX3_13, tyX3_ok, nmX3, rfl, by decide +kernel, by decide +kernel⟩
theorem fX8_144 : FOk 3 1 RX8 144 := ⟨_, _, _, rfl, by decide, inX3, qX8_144⟩
theorem pX8_144 : POk 3 1 RX8 144 false .int := ⟨_, _, _, tyX3, rfl, by decide, inX3, qX8_144, tyX3_ok, nmX3, rfl, by decide +kernel, by decide +kernel⟩
theorem fX3_16 : FOk 3 2 RX3 16 := ⟨_, _, _, rfl, by decide, inX3, qX3_16⟩
theorem pX3_16 : POk 3 2 RX3 16 false .int := ⟨_, _, _, tyX3, rfl, by decide, inX3, qX3_16, tyX3_ok, nmX3, rfl, by decide +kernel, by decide +kernel⟩
theorem fX6_123 : FOk 3 2 RX6 123 := ⟨_, _, _, rfl, by decide, inX3, qX6_123⟩
theorem pX6_123 : POk 3 2 RX6 123 false .int := ⟨_, _, _, tyX3, rfl, by decide, inX3, qX6_123, tyX3_ok, nmX3, rfl, by decide +kernel, by decide +kernel⟩
theorem fX8_156 : FOk 3 2 RX8 156 := ⟨_, _, _, rfl, by decide, inX3, qX8_156⟩
theorem pX8_156 : POk 3 2 RX8 156 false .int := ⟨_, _, _, tyX3, rfl, by decide, inX3, qX8_156, tyX3_ok, nmX3, rfl, by decide +kernel, by decide +kernel⟩
theorem fX3_22 : FOk 3 3 RX3 22 := ⟨_, _, _, rfl, by decide, inX3, qX3_22⟩
theorem pX3_22 : POk 3 3 RX3 22 true (.object RX7) := ⟨_, _, _, tyX3, rfl, by decide, inX3, qX3_22, tyX3_ok, nmX3, rfl, by decide +kernel, by decide +kernel⟩
theorem fX8_100 : FOk 3 3 RX8 100 := ⟨_, _, _, rfl, by decide, inX3, qX8_100⟩
theorem fX3_26 : FOk 3 4 RX3 26 := ⟨_, _, _, rfl, by decide, inX3, qX3_26⟩
theorem pX3_26 : POk 3 4 RX3 26 true (.object RX7) := ⟨_, _, _, tyX3, rfl, by decide, inX3, qX3_26, tyX3_ok, nmX3, rfl, by decide +kernel, by decide +kernel⟩
theorem fX8_163 : FOk 3 4 RX8 163 := ⟨_, _, _, rfl, by decide, inX3, qX8_163⟩
theorem fX5_7 : FOk 5 0 RX5 7 := ⟨_, _, _, rfl, by decide, inX5, qX5_7⟩
theorem pX5_7 : POk 5 0 RX5 7 false .int := ⟨_, _, _, tyX5, rfl, by decide, inX5, qX5_7, tyX5_ok, nmX5, rfl, by decide +kernel, by decide +kernel⟩
theorem fX3_39 : FOk 5 0 RX3 39 := ⟨_, _, _, rfl, by decide, inX5, qX3_39⟩
theorem pX3_39 : POk 5 0 RX3 39 false .int := ⟨_, _, _, tyX5, rfl, by decide, inX5, qX3_39, tyX5_ok, nmX5, rfl, by decide +kernel, by decide +kernel⟩
theorem fX6_116 : FOk 5 0 RX6 116 := ⟨_, _, _, rfl, by decide, inX5, qX6_116⟩
theorem pX6_116 : POk 5 0 RX6 116 false .int := ⟨_, _, _, tyX5, rfl, by decide, inX5, qX6_116, tyX5_ok, nmX5, rfl, by decide +kernel, by decide +kernel⟩
theorem fX8_170 : FOk 5 0 RX8 170 := ⟨_, _, _, rfl, by decide, inX5, qX8_170⟩
theorem pX8_170 : POk 5 0 RX8 170 false .int := ⟨_, _, _, tyX5, rfl, by decide, inX5, qX8_170, tyX5_ok, nmX5, rfl, by decide +kernel, by decide +kernel⟩
theorem fX5_16 : FOk 5 1 RX5 16 := ⟨_, _, _, rfl, by decide, inX5, qX5_16⟩
theorem pX5_16 : POk 5 1 RX5 16 true (.object RX7) := ⟨_, _, _, tyX5, rfl, by decide, inX5, qX5_16, tyX5_ok, nmX5, rfl, by decide +kernel, by decide +kernel⟩
theorem fX3_44 : FOk 5 1 RX3 44 := ⟨_, _, _, rfl, by decide, inX5, qX3_44⟩
theorem fX6_119 : FOk 5 1 RX6 119 := ⟨_, _, _, rfl, by decide, inX5, qX6_119⟩
theorem fX8_175 : FOk 5 1 RX8 175 := ⟨_, _, _, rfl, by decide, inX5, qX8_175⟩
theorem fX6_9 : FOk 6 0 RX6 9 := ⟨_, _, _, rfl, by decide, inX6, qX6_9⟩
theorem pX6_9 : POk 6 0 RX6 9 false .int := ⟨_, _, _, tyX6, rfl, by decide, inX6, qX6_9, tyX6_ok, nmX6, rfl, by decide +kernel, by decide +kernel⟩
theorem fX8_134 : FOk 6 0 RX8 134 := ⟨_, _, _, rfl, by decide, inX6, qX8_134⟩
theorem pX8_134 : POk 6 0 RX8 134 false .int := ⟨_, _, _, tyX6, rfl, by decide, inX6, qX8_134, tyX6_ok, nmX6, rfl, by decide +kernel, by decide +kernel⟩
theorem fX6_15 : FOk 6 1 RX6 15 := ⟨_, _, _, rfl, by decide, inX6, qX6_15⟩
theorem pX6_15 : POk 6 1 RX6 15 false .int := ⟨_, _, _, tyX6, rfl, by decide, inX6, qX6_15, tyX6_ok, nmX6, rfl, by decide +kernel, by decide +kernel⟩
theorem fX8_197 : FOk 6 1 RX8 197 := ⟨_, _, _, rfl, by decide, inX6, qX8_197⟩
theorem pX8_197 : POk 6 1 RX8 197 false .int := ⟨_, _, _, tyX6, rfl, by decide, inX6, qX8_197, tyX6_ok, nmX6, rfl, by decide +kernel, by decide +kernel⟩
theorem fX6_18 : FOk 6 2 RX6 18 := ⟨_, _, _, rfl, by decide, inX6, qX6_18⟩
theorem pX6_18 : POk 6 2 RX6 18 false .int := ⟨_, _, _, tyX6, rfl, by decide, inX6, qX6_18, tyX6_ok, nmX6, rfl, by decide +kernel, by decide +kernel⟩
theorem fX8_182 : FOk 6 2 RX8 182 := ⟨_, _, _, rfl, by decide, inX6, qX8_182⟩
theorem pX8_182 : POk 6 2 RX8 182 false .int := ⟨_, _, _, tyX6, rfl, by decide, inX6, qX8_182, tyX6_ok, nmX6, rfl, by decide +kernel, by decide +kernel⟩
theorem fX6_21 : FOk 6 3 RX6 21 := ⟨_, _, _, rfl, by decide, inX6, qX6_21⟩
theorem pX6_21 : POk 6 3 RX6 21 false .int := ⟨_, _, _, tyX6, rfl, by decide, inX6, qX6_21, tyX6_ok, nmX6, rfl, by decide +kernel, by decide +kernel⟩
theorem fX8_188 : FOk 6 3 RX8 188 := ⟨_, _, _, rfl, by decide, inX6, qX8_188⟩
theorem pX8_188 : POk 6 3 RX8 188 false .int := ⟨_, _, _, tyX6, rfl, by decide, inX6, qX8_188, tyX6_ok, nmX6, rfl, by decide +kernel, by decide +kernel⟩
theorem fX6_24 : FOk 6 4 RX6 24 := ⟨_, _, _, rfl, by decide, inX6, qX6_24⟩
theorem pX6_24 : POk 6 4 RX6 24 false .int := ⟨_, _, _, tyX6, rfl, by decide, inX6, qX6_24, tyX6_ok, nmX6, rfl, by decide +kernel, by decide +kernel⟩
theorem fX8_194 : FOk 6 4 RX8 194 := ⟨_, _, _, rfl, by decide, inX6, qX8_194⟩
theorem pX8_194 : POk 6 4 RX8 194 false .int := ⟨_, _, _, tyX6, rfl, by decide, inX6, qX8_194, tyX6_ok, nmX6, rfl, by decide +kernel, by decide +kernel⟩
theorem fX6_30 : FOk 6 5 RX6 30 := ⟨_, _, _, rfl, by decide, inX6, qX6_30⟩
theorem pX6_30 : POk 6 5 RX6 30 true (.object RX7) := ⟨_, _, _, tyX6, rfl, by decide, inX6, qX6_30, tyX6_ok, nmX6, rfl, by decide +kernel, by decide +kernel⟩
theorem fX8_87 : FOk 6 5 RX8 87 := ⟨_, _, _, rfl, by decide, inX6, qX8_87⟩
theorem fX6_37 : FOk 6 6 RX6 37 := ⟨_, _, _, rfl, by decide, inX6, qX6_37⟩
theorem pX6_37 : POk 6 6 RX6 37 true (.object RX0) := ⟨_, _, _, tyX6, rfl, by decide, inX6, qX6_37, tyX6_ok, nmX6, rfl, by decide +kernel, by decide +kernel⟩
theorem fX8_105 : FOk 6 6 RX8 105 := ⟨_, _, _, rfl, by decide, inX6, qX8_105⟩
theorem fX6_43 : FOk 6 7 RX6 43 := ⟨_, _, _, rfl, by decide, inX6, qX6_43⟩
theorem pX6_43 : POk 6 7 RX6 43 true (.array (.object RX3)) := ⟨_, _, _, tyX6, rfl, by decide, inX6, qX6_43, tyX6_ok, nmX6, rfl, by decide +kernel, by decide +kernel⟩
theorem fX6_49 : FOk 6 8 RX6 49 := ⟨_, _, _, rfl, by decide, inX6, qX6_49⟩
theorem pX6_49 : POk 6 8 RX6 49 true (.array (.object RX5)) := ⟨_, _, _, tyX6, rfl, by decide, inX6, qX6_49, tyX6_ok, nmX6, rfl, by decide +kernel, by decide +kernel⟩
theorem fX1_11 : FOk 1 0 RX1 11 := ⟨_, _, _, rfl, by decide, inX1, qX1_11⟩
theorem pX1_11 : POk 1 0 RX1 11 true (.array (.object RX6)) := ⟨_, _, _, tyX1, rfl, by decide, inX1, qX1_11, tyX1_ok, nmX1, rfl, by decide +kernel, by decide +kernel⟩
theorem fX1_17 : FOk 1 1 RX1 17 := ⟨_, _, _, rfl, by decide, inX1, qX1_17⟩
theorem pX1_17 : POk 1 1 RX1 17 false .int := ⟨_, _, _, tyX1, rfl, by decide, inX1, qX1_17, tyX1_ok, nmX1, rfl, by decide +kernel, by decide +kernel⟩
theorem fX8_203 : FOk 1 1 RX8 203 := ⟨_, _, _, rfl, by decide, inX1, qX8_203⟩
theorem pX8_203 : POk 1 1 RX8 203 false .int := ⟨_, _, _, tyX1, rfl, by decide, inX1, qX8_203, tyX1_ok, nmX1, rfl, by decide +kernel, by decide +kernel⟩
theorem fX2_9 : FOk 2 0 RX2 9 := ⟨_, _, _, rfl, by decide, inX2, qX2_9⟩
theorem pX2_9 : POk 2 0 RX2 9 true (.array .int) := ⟨_, _, _, tyX2, rfl, by decide, inX2, qX2_9, tyX2_ok, nmX2, rfl, by decide +kernel, by decide +kernel⟩
theorem fX2_15 : FOk 2 1 RX2 15 := ⟨_, _, _, rfl, by decide, inX2, qX2_15⟩
theorem pX2_15 : POk 2 1 RX2 15 false .int := ⟨_, _, _, tyX2, rfl, by decide, inX2, qX2_15, tyX2_ok, nmX2, rfl, by decide +kernel, by decide +kernel⟩
theorem fX8_200 : FOk 2 1 RX8 200 := ⟨_, _, _, rfl, by decide, inX2, qX8_200⟩
theorem pX8_200 : POk 2 1 RX8 200 false .int := ⟨_, _, _, tyX2, rfl, by decide, inX2, qX8_200, tyX2_ok, nmX2, rfl, by decide +kernel, by decide +kernel⟩
theorem fX2_19 : FOk 2 2 RX2 19 := ⟨_, _, _, rfl, by decide, inX2, qX2_19⟩
theorem pX2_19 : POk 2 2 RX2 19 false .int := ⟨_, _, _, tyX2, rfl, by decide, inX2, qX2_19, tyX2_ok, nmX2, rfl, by decide +kernel, by decide +kernel⟩
theorem fX2_22 : FOk 2 3 RX2 22 := ⟨_, _, _, rfl, by decide, inX2, qX2_22⟩
theorem pX2_22 : POk 2 3 RX2 22 false .int := ⟨_, _, _, tyX2, rfl, by decide, inX2, qX2_22, tyX2_ok, nmX2, rfl, by decide +kernel, by decide +kernel⟩
theorem fX8_245 : FOk 2 3 RX8 245 := ⟨_, _, _, rfl, by decide, inX2, qX8_245⟩
theorem pX8_245 : POk 2 3 RX8 245 false .int := ⟨_, _, _, tyX2, rfl, by decide, inX2, qX8_245, tyX2_ok, nmX2, rfl, by decide +kernel, by decide +kernel⟩
theorem fX2_25 : FOk 2 4 RX2 25 := ⟨_, _, _, rfl, by decide, inX2, qX2_25⟩
theorem pX2_25 : POk 2 4 RX2 25 false .int := ⟨_, _, _, tyX2, rfl, by decide, inX2, qX2_25, tyX2_ok, nmX2, rfl, by decide +kernel, by decide +kernel⟩
theorem fX8_248 : FOk 2 4 RX8 248 := ⟨_, _, _, rfl, by decide, inX2, qX8_248⟩
theorem pX8_248 : POk 2 4 RX8 248 false .int := ⟨_, _, _, tyX2, rfl, by decide, inX2, qX8_248, tyX2_ok, nmX2, rfl, by decide +kernel, by decide +kernel⟩
theorem fX2_28 : FOk 2 5 RX2 28 := ⟨_, _, _, rfl, by decide, inX2, qX2_28⟩
theorem pX2_28 : POk 2 5 RX2 28 false .int := ⟨_, _, _, tyX2, rfl, by decide, inX2, qX2_28, tyX2_ok, nmX2, rfl, by decide +kernel, by decide +kernel⟩
theorem fX8_251 : FOk 2 5 RX8 251 := ⟨_, _, _, rfl, by decide, inX2, qX8_251⟩
theorem pX8_251 : POk 2 5 RX8 251 false .int := ⟨_, _, _, tyX2, rfl, by decide, inX2, qX8_251, tyX2_ok, nmX2, rfl, by decide +kernel, by decide +kernel⟩
theorem fX4_7 : FOk 4 0 RX4 7 := ⟨_, _, _, rfl, by decide, inX4, qX4_7⟩
theorem pX4_7 : POk 4 0 RX4 7 false .boolean := ⟨_, _, _, tyX4, rfl, by decide, inX4, qX4_7, tyX4_ok, nmX4, rfl, by decide +kernel, by decide +kernel⟩
theorem fX8_268 : FOk 4 0 RX8 268 := ⟨_, _, _, rfl, by decide, inX4, qX8_268⟩
theorem pX8_268 : POk 4 0 RX8 268 false .boolean := ⟨_, _, _, tyX4, rfl, by decide, inX4, qX8_268, tyX4_ok, nmX4, rfl, by decide +kernel, by decide +kernel⟩
theorem fX4_16 : FOk 4 1 RX4 16 := ⟨_, _, _, rfl, by decide, inX4, qX4_16⟩
theorem pX4_16 : POk 4 1 RX4 16 true (.object RX6) := ⟨_, _, _, tyX4, rfl, by decide, inX4, qX4_16, tyX4_ok, nmX4, rfl, by decide +kernel, by decide +kernel⟩
theorem fX8_262 : FOk 4 1 RX8 262 := ⟨_, _, _, rfl, by decide, inX4, qX8_262⟩
theorem fX8_10 : FOk 8 0 RX8 10 := ⟨_, _, _, rfl, by decide, inX8, qX8_10⟩
theorem pX8_10 : POk 8 0 RX8 10 true (.object RX6) := ⟨_, _, _, tyX8, rfl, by decide, inX8, qX8_10, tyX8_ok, nmX8, rfl, by decide +kernel, by decide +kernel⟩
theorem fX8_19 : FOk 8 1 RX8 19 := ⟨_, _, _, rfl, by decide, inX8, qX8_19⟩
theorem pX8_19 : POk 8 1 RX8 19 true (.object RX1) := ⟨_, _, _, tyX8, rfl, by decide, inX8, qX8_19, tyX8_ok, nmX8, rfl, by decide +kernel, by decide +kernel⟩
theorem fX8_26 : FOk 8 2 RX8 26 := ⟨_, _, _, rfl, by decide, inX8, qX8_26⟩
theorem pX8_26 : POk 8 2 RX8 26 true (.object RX2) := ⟨_, _, _, tyX8, rfl, by decide, inX8, qX8_26, tyX8_ok, nmX8, rfl, by decide +kernel, by decide +kernel⟩
theorem fX8_32 : FOk 8 3 RX8 32 := ⟨_, _, _, rfl, by decide, inX8, qX8_32⟩
theorem pX8_32 : POk 8 3 RX8 32 true (.array (.object RX4)) := ⟨_, _, _, tyX8, rfl, by decide, inX8, qX8_32, tyX8_ok, nmX8, rfl, by decide +kernel, by decide +kernel⟩
theorem fX9_7 : FOk 9 0 RX9 7 := ⟨_, _, _, rfl, by decide, inX9, qX9_7⟩
theorem pX9_7 : POk 9 0 RX9 7 true (.array .int) := ⟨_, _, _, tyX9, rfl, by decide, inX9, qX9_7, tyX9_ok, nmX9, rfl, by decide +kernel, by decide +kernel⟩
theorem fX9_13 : FOk 9 1 RX9 13 := ⟨_, _, _, rfl, by decide, inX9, qX9_13⟩
theorem pX9_13 : POk 9 1 RX9 13 true (.array .int) := ⟨_, _, _, tyX9, rfl, by decide, inX9, qX9_13, tyX9_ok, nmX9, rfl, by decide +kernel, by decide +kernel⟩
theorem fX9_16 : FOk 9 2 RX9 16 := ⟨_, _, _, rfl, by decide, inX9, qX9_16⟩
theorem pX9_16 : POk 9 2 RX9 16 true (.array .int) := ⟨_, _, _, tyX9, rfl, by decide, inX9, qX9_16, tyX9_ok, nmX9, rfl, by decide +kernel, by decide +kernel⟩
theorem fX9_36 : FOk 9 3 RX9 36 := ⟨_, _, _, rfl, by decide, inX9, qX9_36⟩
theorem pX9_36 : POk 9 3 RX9 36 false .int := ⟨_, _, _, tyX9, rfl, by decide, inX9, qX9_36, tyX9_ok, nmX9, rfl, by decide +kernel, by decide +kernel⟩
theorem fX9_19 : FOk 9 4 RX9 19 := ⟨_, _, _, rfl, by decide, inX9, qX9_19⟩
theorem pX9_19 : POk 9 4 RX9 19 true (.array .int) := ⟨_, _, _, tyX9, rfl, by decide, inX9, qX9_19, tyX9_ok, nmX9, rfl, by decide +kernel, by decide +kernel⟩
theorem fX9_22 : FOk 9 5 RX9 22 := ⟨_, _, _, rfl, by decide, inX9, qX9_22⟩
theorem pX9_22 : POk 9 5 RX9 22 true (.array .boolean) := ⟨_, _, _, tyX9, rfl, by decide, inX9, qX9_22, tyX9_ok, nmX9, rfl, by decide +kernel, by decide +kernel⟩
theorem fX9_26 : FOk 9 6 RX9 26 := ⟨_, _, _, rfl, by decide, inX9, qX9_26⟩
theorem pX9_26 : POk 9 6 RX9 26 true (.array .int) := ⟨_, _, _, tyX9, rfl, by decide, inX9, qX9_26, tyX9_ok, nmX9, rfl, by decide +kernel, by decide +kernel⟩
theorem fX9_139 : FOk 9 7 RX9 139 := ⟨_, _, _, rfl, by decide, inX9, qX9_139⟩
theorem pX9_139 : POk 9 7 RX9 139 false .int := ⟨_, _, _, tyX9, rfl, by decide, inX9, qX9_139, tyX9_ok, nmX9, rfl, by decide +kernel, by decide +kernel⟩
theorem fX9_156 : FOk 9 8 RX9 156 := ⟨_, _, _, rfl, by decide, inX9, qX9_156⟩
theorem pX9_156 : POk 9 8 RX9 156 false .int := ⟨_, _, _, tyX9, rfl, by decide, inX9, qX9_156, tyX9_ok, nmX9, rfl, by decide +kernel, by decide +kernel⟩
theorem fX9_29 : FOk 9 9 RX9 29 := ⟨_, _, _, rfl, by decide, inX9, qX9_29⟩
theorem pX9_29 : POk 9 9 RX9 29 true (.array .int) := ⟨_, _, _, tyX9, rfl, by decide, inX9, qX9_29, tyX9_ok, nmX9, rfl, by decide +kernel, by decide +kernel⟩
theorem fX9_163 : FOk 9 10 RX9 163 := ⟨_, _, _, rfl, by decide, inX9, qX9_163⟩
theorem pX9_163 : POk 9 10 RX9 163 false .int := ⟨_, _, _, tyX9, rfl, by decide, inX9, qX9_163, tyX9_ok, nmX9, rfl, by decide +kernel, by decide +kernel⟩
/-- what is asked of a callee, by kind -/
abbrev BOk (k : MethodName × ByteArray × Nat × Option FieldType) (n : Nat) : Prop := Cond.code k.1 k.2.1 k.2.2.1 k.2.2.2 ∈ lwT ∧ Cond.initialized k.1.cls ∈ lwT ∧ (k.1.cls ≠ "java/lang/invoke/MethodHandle" ∧ k.1.cls ≠ "java/lang/invoke/VarHandle" ∧ (parseMethodDescriptor k.1.desc).map (fun d => d.parameters.length) = some n) ∧ plainName k.1.cls = true
def VOk (k : MethodName × ByteArray × Nat × Option FieldType) (n : Nat) : Prop := BOk k n ∧ Cond.instanceMethod k.1 ∈ lwT ∧ Cond.selects k.1.cls k.1 k.1 ∈ lwT
def SOk (k : MethodName × ByteArray × Nat × Option FieldType) (n : Nat) : Prop := BOk k n ∧ Cond.static k.1 ∈ lwT
def IOk (k : MethodName × ByteArray × Nat × Option FieldType) (n : Nat) : Prop := BOk k n ∧ k.1.name = "<init>" ∧ Cond.instanceMethod k.1 ∈ lwT
theorem oX0_init : IOk kX0_init 0 := ⟨⟨List.mem_filter.mpr ⟨List.mem_of_getElem? (i := 89) (by decide +kernel), by decide +kernel⟩, qini_X0, ⟨by decide +kernel, by decide +kernel, by decide +kernel⟩, by decide +kernel⟩, by decide +kernel, List.mem_filter.mpr ⟨List.mem_of_getElem? (i := 88) (by decide +kernel), by decide +kernel⟩⟩
theorem oX0_copyFrom : VOk kX0_copyFrom 1 := ⟨⟨List.mem_filter.mpr ⟨List.mem_of_getElem? (i := 316) (by decide +kernel), by decide +kernel⟩, qini_X0, ⟨by decide +kernel, by decide +kernel, by decide +kernel⟩, by decide +kernel⟩, List.mem_filter.mpr ⟨List.mem_of_getElem? (i := 314) (by decide +kernel), by decide +kernel⟩, List.mem_filter.mpr ⟨List.mem_of_getElem? (i := 315) (by decide +kernel), by decide +kernel⟩⟩
theorem oX0_numberAt : VOk kX0_numberAt 1 := ⟨⟨List.mem_filter.mpr ⟨List.mem_of_getElem? (i := 441) (by decide +kernel), by decide +kernel⟩, qini_X0, ⟨by decide +kernel, by decide +kernel, by decide +kernel⟩, by decide +kernel⟩, List.mem_filter.mpr ⟨List.mem_of_getElem? (i := 439) (by decide +kernel), by decide +kernel⟩, List.mem_filter.mpr ⟨List.mem_of_getElem? (i := 440) (by decide +kernel), by decide +kernel⟩⟩
theorem oX0_keyAt : VOk kX0_keyAt 1 := ⟨⟨List.mem_filter.mpr ⟨List.mem_of_getElem? (i := 452) (by decide +kernel), by decide +kernel⟩, qini_X0, ⟨by decide +kernel, by decide +kernel, by decide +kernel⟩, by decide +kernel⟩, List.mem_filter.mpr ⟨List.mem_of_getElem? (i := 450) (by decide +kernel), by decide +kernel⟩, List.mem_filter.mpr ⟨List.mem_of_getElem? (i := 451) (by decide +kernel), by decide +kernel⟩⟩
theorem oX0_valueAt : VOk kX0_valueAt 1 := ⟨⟨List.mem_filter.mpr ⟨List.mem_of_getElem? (i := 456) (by decide +kernel), by decide +kernel⟩, qini_X0, ⟨by decide +kernel, by decide +kernel, by decide +kernel⟩, by decide +kernel⟩, List.mem_filter.mpr ⟨List.mem_of_getElem? (i := 454) (by decide +kernel), by decide +kernel⟩, List.mem_filter.mpr ⟨List.mem_of_getElem? (i := 455) (by decide +kernel), by decide +kernel⟩⟩
theorem oX0_minuteAt : VOk kX0_minuteAt 1 := ⟨⟨List.mem_filter.mpr ⟨List.mem_of_getElem? (i := 460) (by decide +kernel), by decide +kernel⟩, qini_X0, ⟨by decide +kernel, by decide +kernel, by decide +kernel⟩, by decide +kernel⟩, List.mem_filter.mpr ⟨List.mem_of_getElem? (i := 458) (by decide +kernel), by decide +kernel⟩, List.mem_filter.mpr ⟨List.mem_of_getElem? (i := 459) (by decide +kernel), by decide +kernel⟩⟩
theorem oX0_isFull : VOk kX0_isFull 0 := ⟨⟨List.mem_filter.mpr ⟨List.mem_of_getElem? (i := 368) (by decide +kernel), by decide +kernel⟩, qini_X0, ⟨by decide +kernel, by decide +kernel, by decide +kernel⟩, by decide +kernel⟩, List.mem_filter.mpr ⟨List.mem_of_getElem? (i := 366) (by decide +kernel), by decide +kernel⟩, List.mem_filter.mpr ⟨List.mem_of_getElem? (i := 367) (by decide +kernel), by decide +kernel⟩⟩
theorem oX0_append : VOk kX0_append 3 := ⟨⟨List.mem_filter.mpr ⟨List.mem_of_getElem? (i := 376) (by decide +kernel), by decide +kernel⟩, qini_X0, ⟨by decide +kernel, by decide +kernel, by decide +kernel⟩, by decide +kernel⟩, List.mem_filter.mpr ⟨List.mem_of_getElem? (i := 374) (by decide +kernel), by decide +kernel⟩, List.mem_filter.mpr ⟨List.mem_of_getElem? (i := 375) (by decide +kernel), by decide +kernel⟩⟩
theorem oX0_layEntry : VOk kX0_layEntry 5 := ⟨⟨List.mem_filter.mpr ⟨List.mem_of_getElem? (i := 380) (by decide +kernel), by decide +kernel⟩, qini_X0, ⟨by decide +kernel, by decide +kernel, by decide +kernel⟩, by decide +kernel⟩, List.mem_filter.mpr ⟨List.mem_of_getElem? (i := 379) (by decide +kernel), by decide +kernel⟩, List.mem_filter.mpr ⟨List.mem_of_getElem? (i := 2) (by decide +kernel), by decide +kernel⟩⟩
theorem oX0_firstFrom : VOk kX0_firstFrom 1 := ⟨⟨List.mem_filter.mpr ⟨List.mem_of_getElem? (i := 504) (by decide +kernel), by decide +kernel⟩, qini_X0, ⟨by decide +kernel, by decide +kernel, by decide +kernel⟩, by decide +kernel⟩, List.mem_filter.mpr ⟨List.mem_of_getElem? (i := 502) (by decide +kernel), by decide +kernel⟩, List.mem_filter.mpr ⟨List.mem_of_getElem? (i := 503) (by decide +kernel), by decide +kernel⟩⟩
theorem oX0_aheadOf : VOk kX0_aheadOf 1 := ⟨⟨List.mem_filter.mpr ⟨List.mem_of_getElem? (i := 544) (by decide +kernel), by decide +kernel⟩, qini_X0, ⟨by decide +kernel, by decide +kernel, by decide +kernel⟩, by decide +kernel⟩, List.mem_filter.mpr ⟨List.mem_of_getElem? (i := 542) (by decide +kernel), by decide +kernel⟩, List.mem_filter.mpr ⟨List.mem_of_getElem? (i := 543) (by decide +kernel), by decide +kernel⟩⟩
theorem oX0_isLastOfItsKey : VOk kX0_isLastOfItsKey 1 := ⟨⟨List.mem_filter.mpr ⟨List.mem_of_getElem? (i := 421) (by decide +kernel), by decide +kernel⟩, qini_X0, ⟨by decide +kernel, by decide +kernel, by decide +kernel⟩, by decide +kernel⟩, List.mem_filter.mpr ⟨List.mem_of_getElem? (i := 419) (by decide +kernel), by decide +kernel⟩, List.mem_filter.mpr ⟨List.mem_of_getElem? (i := 420) (by decide +kernel), by decide +kernel⟩⟩
theorem oX0_isClosed : VOk kX0_isClosed 2 := ⟨⟨List.mem_filter.mpr ⟨List.mem_of_getElem? (i := 430) (by decide +kernel), by decide +kernel⟩, qini_X0, ⟨by decide +kernel, by decide +kernel, by decide +kernel⟩, by decide +kernel⟩, List.mem_filter.mpr ⟨List.mem_of_getElem? (i := 428) (by decide +kernel), by decide +kernel⟩, List.mem_filter.mpr ⟨List.mem_of_getElem? (i := 429) (by decide +kernel), by decide +kernel⟩⟩
theorem oX0_segmentOf : SOk kX0_segmentOf 2 := ⟨⟨List.mem_filter.mpr ⟨List.mem_of_getElem? (i := 433) (by decide +kernel), by decide +kernel⟩, qini_X0, ⟨by decide +kernel, by decide +kernel, by decide +kernel⟩, by decide +kernel⟩, List.mem_filter.mpr ⟨List.mem_of_getElem? (i := 432) (by decide +kernel), by decide +kernel⟩⟩
theorem oX0_isOldRemoval : VOk kX0_isOldRemoval 3 := ⟨⟨List.mem_filter.mpr ⟨List.mem_of_getElem? (i := 437) (by decide +kernel), by decide +kernel⟩, qini_X0, ⟨by decide +kernel, by decide +kernel, by decide +kernel⟩, by decide +kernel⟩, List.mem_filter.mpr ⟨List.mem_of_getElem? (i := 436) (by decide +kernel), by decide +kernel⟩, List.mem_filter.mpr ⟨List.mem_of_getElem? (i := 4) (by decide +kernel), by decide +kernel⟩⟩
theorem oX0_wouldGo : VOk kX0_wouldGo 4 := ⟨⟨List.mem_filter.mpr ⟨List.mem_of_getElem? (i := 426) (by decide +kernel), by decide +kernel⟩, qini_X0, ⟨by decide +kernel, by decide +kernel, by decide +kernel⟩, by decide +kernel⟩, List.mem_filter.mpr ⟨List.mem_of_getElem? (i := 425) (by decide +kernel), by decide +kernel⟩, List.mem_filter.mpr ⟨List.mem_of_getElem? (i := 3) (by decide +kernel), by decide +kernel⟩⟩
theorem oX0_leftAfterThinning : VOk kX0_leftAfterThinning 3 := ⟨⟨List.mem_filter.mpr ⟨List.mem_of_getElem? (i := 618) (by decide +kernel), by decide +kernel⟩, qini_X0, ⟨by decide +kernel, by decide +kernel, by decide +kernel⟩, by decide +kernel⟩, List.mem_filter.mpr ⟨List.mem_of_getElem? (i := 616) (by decide +kernel), by decide +kernel⟩, List.mem_filter.mpr ⟨List.mem_of_getElem? (i := 617) (by decide +kernel), by decide +kernel⟩⟩
theorem oX0_floorAfterThinning : VOk kX0_floorAfterThinning 3 := ⟨⟨List.mem_filter.mpr ⟨List.mem_of_getElem? (i := 417) (by decide +kernel), by decide +kernel⟩, qini_X0, ⟨by decide +kernel, by decide +kernel, by decide +kernel⟩, by decide +kernel⟩, List.mem_filter.mpr ⟨List.mem_of_getElem? (i := 415) (by decide +kernel), by decide +kernel⟩, List.mem_filter.mpr ⟨List.mem_of_getElem? (i := 416) (by decide +kernel), by decide +kernel⟩⟩
theorem oX0_thinOut : VOk kX0_thinOut 3 := ⟨⟨List.mem_filter.mpr ⟨List.mem_of_getElem? (i := 448) (by decide +kernel), by decide +kernel⟩, qini_X0, ⟨by decide +kernel, by decide +kernel, by decide +kernel⟩, by decide +kernel⟩, List.mem_filter.mpr ⟨List.mem_of_getElem? (i := 446) (by decide +kernel), by decide +kernel⟩, List.mem_filter.mpr ⟨List.mem_of_getElem? (i := 447) (by decide +kernel), by decide +kernel⟩⟩
theorem oX1_init : IOk kX1_init 0 := ⟨⟨List.mem_filter.mpr ⟨List.mem_of_getElem? (i := 217) (by decide +kernel), by decide +kernel⟩, qini_X1, ⟨by decide +kernel, by decide +kernel, by decide +kernel⟩, by decide +kernel⟩, by decide +kernel, List.mem_filter.mpr ⟨List.mem_of_getElem? (i := 216) (by decide +kernel), by decide +kernel⟩⟩
theorem oX1_stateAt : VOk kX1_stateAt 1 := ⟨⟨List.mem_filter.mpr ⟨List.mem_of_getElem? (i := 301) (by decide +kernel), by decide +kernel⟩, qini_X1, ⟨by decide +kernel, by decide +kernel, by decide +kernel⟩, by decide +kernel⟩, List.mem_filter.mpr ⟨List.mem_of_getElem? (i := 300) (by decide +kernel), by decide +kernel⟩, List.mem_filter.mpr ⟨List.mem_of_getElem? (i := 0) (by decide +kernel), by decide +kernel⟩⟩
theorem oX1_prepare : VOk kX1_prepare 1 := ⟨⟨List.mem_filter.mpr ⟨List.mem_of_getElem? (i := 297) (by decide +kernel), by decide +kernel⟩, qini_X1, ⟨by decide +kernel, by decide +kernel, by decide +kernel⟩, by decide +kernel⟩, List.mem_filter.mpr ⟨List.mem_of_getElem? (i := 295) (by decide +kernel), by decide +kernel⟩, List.mem_filter.mpr ⟨List.mem_of_getElem? (i := 296) (by decide +kernel), by decide +kernel⟩⟩
theorem oX1_settle : VOk kX1_settle 1 := ⟨⟨List.mem_filter.mpr ⟨List.mem_of_getElem? (i := 349) (by decide +kernel), by decide +kernel⟩, qini_X1, ⟨by decide +kernel, by decide +kernel, by decide +kernel⟩, by decide +kernel⟩, List.mem_filter.mpr ⟨List.mem_of_getElem? (i := 347) (by decide +kernel), by decide +kernel⟩, List.mem_filter.mpr ⟨List.mem_of_getElem? (i := 348) (by decide +kernel), by decide +kernel⟩⟩
theorem oX1_dropOldest : VOk kX1_dropOldest 0 := ⟨⟨List.mem_filter.mpr ⟨List.mem_of_getElem? (i := 353) (by decide +kernel), by decide +kernel⟩, qini_X1, ⟨by decide +kernel, by decide +kernel, by decide +kernel⟩, by decide +kernel⟩, List.mem_filter.mpr ⟨List.mem_of_getElem? (i := 352) (by decide +kernel), by decide +kernel⟩, List.mem_filter.mpr ⟨List.mem_of_getElem? (i := 1) (by decide +kernel), by decide +kernel⟩⟩
theorem oX1_bringBack : VOk kX1_bringBack 1 := ⟨⟨List.mem_filter.mpr ⟨List.mem_of_getElem? (i := 729) (by decide +kernel), by decide +kernel⟩, qini_X1, ⟨by decide +kernel, by decide +kernel, by decide +kernel⟩, by decide +kernel⟩, List.mem_filter.mpr ⟨List.mem_of_getElem? (i := 727) (by decide +kernel), by decide +kernel⟩, List.mem_filter.mpr ⟨List.mem_of_getElem? (i := 728) (by decide +kernel), by decide +kernel⟩⟩
theorem oX2_init : IOk kX2_init 0 := ⟨⟨List.mem_filter.mpr ⟨List.mem_of_getElem? (i := 234) (by decide +kernel), by decide +kernel⟩, qini_X2, ⟨by decide +kernel, by decide +kernel, by decide +kernel⟩, by decide +kernel⟩, by decide +kernel, List.mem_filter.mpr ⟨List.mem_of_getElem? (i := 233) (by decide +kernel), by decide +kernel⟩⟩
theorem oX2_append : VOk kX2_append 1 := ⟨⟨List.mem_filter.mpr ⟨List.mem_of_getElem? (i := 652) (by decide +kernel), by decide +kernel⟩, qini_X2, ⟨by decide +kernel, by decide +kernel, by decide +kernel⟩, by decide +kernel⟩, List.mem_filter.mpr ⟨List.mem_of_getElem? (i := 650) (by decide +kernel), by decide +kernel⟩, List.mem_filter.mpr ⟨List.mem_of_getElem? (i := 651) (by decide +kernel), by decide +kernel⟩⟩
theorem oX2_signFromTheEnd : SOk kX2_signFromTheEnd 2 := ⟨⟨List.mem_filter.mpr ⟨List.mem_of_getElem? (i := 655) (by decide +kernel), by decide +kernel⟩, qini_X2, ⟨by decide +kernel, by decide +kernel, by decide +kernel⟩, by decide +kernel⟩, List.mem_filter.mpr ⟨List.mem_of_getElem? (i := 654) (by decide +kernel), by decide +kernel⟩⟩
theorem oX2_empty : VOk kX2_empty 0 := ⟨⟨List.mem_filter.mpr ⟨List.mem_of_getElem? (i := 665) (by decide +kernel), by decide +kernel⟩, qini_X2, ⟨by decide +kernel, by decide +kernel, by decide +kernel⟩, by decide +kernel⟩, List.mem_filter.mpr ⟨List.mem_of_getElem? (i := 663) (by decide +kernel), by decide +kernel⟩, List.mem_filter.mpr ⟨List.mem_of_getElem? (i := 664) (by decide +kernel), by decide +kernel⟩⟩
theorem oX2_goToStart : VOk kX2_goToStart 0 := ⟨⟨List.mem_filter.mpr ⟨List.mem_of_getElem? (i := 677) (by decide +kernel), by decide +kernel⟩, qini_X2, ⟨by decide +kernel, by decide +kernel, by decide +kernel⟩, by decide +kernel⟩, List.mem_filter.mpr ⟨List.mem_of_getElem? (i := 675) (by decide +kernel), by decide +kernel⟩, List.mem_filter.mpr ⟨List.mem_of_getElem? (i := 676) (by decide +kernel), by decide +kernel⟩⟩
theorem oX2_firstFault : VOk kX2_firstFault 0 := ⟨⟨List.mem_filter.mpr ⟨List.mem_of_getElem? (i := 673) (by decide +kernel), by decide +kernel⟩, qini_X2, ⟨by decide +kernel, by decide +kernel, by decide +kernel⟩, by decide +kernel⟩, List.mem_filter.mpr ⟨List.mem_of_getElem? (i := 671) (by decide +kernel), by decide +kernel⟩, List.mem_filter.mpr ⟨List.mem_of_getElem? (i := 672) (by decide +kernel), by decide +kernel⟩⟩
theorem oX2_takeOrder : VOk kX2_takeOrder 0 := ⟨⟨List.mem_filter.mpr ⟨List.mem_of_getElem? (i := 681) (by decide +kernel), by decide +kernel⟩, qini_X2, ⟨by decide +kernel, by decide +kernel, by decide +kernel⟩, by decide +kernel⟩, List.mem_filter.mpr ⟨List.mem_of_getElem? (i := 679) (by decide +kernel), by decide +kernel⟩, List.mem_filter.mpr ⟨List.mem_of_getElem? (i := 680) (by decide +kernel), by decide +kernel⟩⟩
theorem oX2_takeFirst : VOk kX2_takeFirst 1 := ⟨⟨List.mem_filter.mpr ⟨List.mem_of_getElem? (i := 702) (by decide +kernel), by decide +kernel⟩, qini_X2, ⟨by decide +kernel, by decide +kernel, by decide +kernel⟩, by decide +kernel⟩, List.mem_filter.mpr ⟨List.mem_of_getElem? (i := 701) (by decide +kernel), by decide +kernel⟩, List.mem_filter.mpr ⟨List.mem_of_getElem? (i := 9) (by decide +kernel), by decide +kernel⟩⟩
theorem oX2_takeSecond : VOk kX2_takeSecond 1 := ⟨⟨List.mem_filter.mpr ⟨List.mem_of_getElem? (i := 710) (by decide +kernel), by decide +kernel⟩, qini_X2, ⟨by decide +kernel, by decide +kernel, by decide +kernel⟩, by decide +kernel⟩, List.mem_filter.mpr ⟨List.mem_of_getElem? (i := 709) (by decide +kernel), by decide +kernel⟩, List.mem_filter.mpr ⟨List.mem_of_getElem? (i := 11) (by decide +kernel), by decide +kernel⟩⟩
theorem oX2_signHere : VOk kX2_signHere 0 := ⟨⟨List.mem_filter.mpr ⟨List.mem_of_getElem? (i := 685) (by decide +kernel), by decide +kernel⟩, qini_X2, ⟨by decide +kernel, by decide +kernel, by decide +kernel⟩, by decide +kernel⟩, List.mem_filter.mpr ⟨List.mem_of_getElem? (i := 684) (by decide +kernel), by decide +kernel⟩, List.mem_filter.mpr ⟨List.mem_of_getElem? (i := 6) (by decide +kernel), by decide +kernel⟩⟩
theorem oX2_takeSign : VOk kX2_takeSign 1 := ⟨⟨List.mem_filter.mpr ⟨List.mem_of_getElem? (i := 690) (by decide +kernel), by decide +kernel⟩, qini_X2, ⟨by decide +kernel, by decide +kernel, by decide +kernel⟩, by decide +kernel⟩, List.mem_filter.mpr ⟨List.mem_of_getElem? (i := 688) (by decide +kernel), by decide +kernel⟩, List.mem_filter.mpr ⟨List.mem_of_getElem? (i := 689) (by decide +kernel), by decide +kernel⟩⟩
theorem oX2_takeReader : VOk kX2_takeReader 0 := ⟨⟨List.mem_filter.mpr ⟨List.mem_of_getElem? (i := 706) (by decide +kernel), by decide +kernel⟩, qini_X2, ⟨by decide +kernel, by decide +kernel, by decide +kernel⟩, by decide +kernel⟩, List.mem_filter.mpr ⟨List.mem_of_getElem? (i := 705) (by decide +kernel), by decide +kernel⟩, List.mem_filter.mpr ⟨List.mem_of_getElem? (i := 10) (by decide +kernel), by decide +kernel⟩⟩
theorem oX2_takeDigit : VOk kX2_takeDigit 1 := ⟨⟨List.mem_filter.mpr ⟨List.mem_of_getElem? (i := 698) (by decide +kernel), by decide +kernel⟩, qini_X2, ⟨by decide +kernel, by decide +kernel, by decide +kernel⟩, by decide +kernel⟩, List.mem_filter.mpr ⟨List.mem_of_getElem? (i := 697) (by decide +kernel), by decide +kernel⟩, List.mem_filter.mpr ⟨List.mem_of_getElem? (i := 8) (by decide +kernel), by decide +kernel⟩⟩
theorem oX2_takeNumber : VOk kX2_takeNumber 0 := ⟨⟨List.mem_filter.mpr ⟨List.mem_of_getElem? (i := 694) (by decide +kernel), by decide +kernel⟩, qini_X2, ⟨by decide +kernel, by decide +kernel, by decide +kernel⟩, by decide +kernel⟩, List.mem_filter.mpr ⟨List.mem_of_getElem? (i := 693) (by decide +kernel), by decide +kernel⟩, List.mem_filter.mpr ⟨List.mem_of_getElem? (i := 7) (by decide +kernel), by decide +kernel⟩⟩
theorem oX3_init : IOk kX3_init 0 := ⟨⟨List.mem_filter.mpr ⟨List.mem_of_getElem? (i := 131) (by decide +kernel), by decide +kernel⟩, qini_X3, ⟨by decide +kernel, by decide +kernel, by decide +kernel⟩, by decide +kernel⟩, by decide +kernel, List.mem_filter.mpr ⟨List.mem_of_getElem? (i := 130) (by decide +kernel), by decide +kernel⟩⟩
theorem oX3_copyFrom : VOk kX3_copyFrom 1 := ⟨⟨List.mem_filter.mpr ⟨List.mem_of_getElem? (i := 325) (by decide +kernel), by decide +kernel⟩, qini_X3, ⟨by decide +kernel, by decide +kernel, by decide +kernel⟩, by decide +kernel⟩, List.mem_filter.mpr ⟨List.mem_of_getElem? (i := 323) (by decide +kernel), by decide +kernel⟩, List.mem_filter.mpr ⟨List.mem_of_getElem? (i := 324) (by decide +kernel), by decide +kernel⟩⟩
theorem oX3_startOver : VOk kX3_startOver 0 := ⟨⟨List.mem_filter.mpr ⟨List.mem_of_getElem? (i := 480) (by decide +kernel), by decide +kernel⟩, qini_X3, ⟨by decide +kernel, by decide +kernel, by decide +kernel⟩, by decide +kernel⟩, List.mem_filter.mpr ⟨List.mem_of_getElem? (i := 478) (by decide +kernel), by decide +kernel⟩, List.mem_filter.mpr ⟨List.mem_of_getElem? (i := 479) (by decide +kernel), by decide +kernel⟩⟩
theorem oX3_keepPlace : VOk kX3_keepPlace 0 := ⟨⟨List.mem_filter.mpr ⟨List.mem_of_getElem? (i := 485) (by decide +kernel), by decide +kernel⟩, qini_X3, ⟨by decide +kernel, by decide +kernel, by decide +kernel⟩, by decide +kernel⟩, List.mem_filter.mpr ⟨List.mem_of_getElem? (i := 483) (by decide +kernel), by decide +kernel⟩, List.mem_filter.mpr ⟨List.mem_of_getElem? (i := 484) (by decide +kernel), by decide +kernel⟩⟩
theorem oX3_returnToConfirmed : VOk kX3_returnToConfirmed 0 := ⟨⟨List.mem_filter.mpr ⟨List.mem_of_getElem? (i := 532) (by decide +kernel), by decide +kernel⟩, qini_X3, ⟨by decide +kernel, by decide +kernel, by decide +kernel⟩, by decide +kernel⟩, List.mem_filter.mpr ⟨List.mem_of_getElem? (i := 530) (by decide +kernel), by decide +kernel⟩, List.mem_filter.mpr ⟨List.mem_of_getElem? (i := 531) (by decide +kernel), by decide +kernel⟩⟩
theorem oX3_takeOver : VOk kX3_takeOver 1 := ⟨⟨List.mem_filter.mpr ⟨List.mem_of_getElem? (i := 557) (by decide +kernel), by decide +kernel⟩, qini_X3, ⟨by decide +kernel, by decide +kernel, by decide +kernel⟩, by decide +kernel⟩, List.mem_filter.mpr ⟨List.mem_of_getElem? (i := 555) (by decide +kernel), by decide +kernel⟩, List.mem_filter.mpr ⟨List.mem_of_getElem? (i := 556) (by decide +kernel), by decide +kernel⟩⟩
theorem oX3_readOn : VOk kX3_readOn 2 := ⟨⟨List.mem_filter.mpr ⟨List.mem_of_getElem? (i := 500) (by decide +kernel), by decide +kernel⟩, qini_X3, ⟨by decide +kernel, by decide +kernel, by decide +kernel⟩, by decide +kernel⟩, List.mem_filter.mpr ⟨List.mem_of_getElem? (i := 498) (by decide +kernel), by decide +kernel⟩, List.mem_filter.mpr ⟨List.mem_of_getElem? (i := 499) (by decide +kernel), by decide +kernel⟩⟩
theorem oX4_init : IOk kX4_init 0 := ⟨⟨List.mem_filter.mpr ⟨List.mem_of_getElem? (i := 264) (by decide +kernel), by decide +kernel⟩, qini_X4, ⟨by decide +kernel, by decide +kernel, by decide +kernel⟩, by decide +kernel⟩, by decide +kernel, List.mem_filter.mpr ⟨List.mem_of_getElem? (i := 263) (by decide +kernel), by decide +kernel⟩⟩
theorem oX5_init : IOk kX5_init 0 := ⟨⟨List.mem_filter.mpr ⟨List.mem_of_getElem? (i := 161) (by decide +kernel), by decide +kernel⟩, qini_X5, ⟨by decide +kernel, by decide +kernel, by decide +kernel⟩, by decide +kernel⟩, by decide +kernel, List.mem_filter.mpr ⟨List.mem_of_getElem? (i := 160) (by decide +kernel), by decide +kernel⟩⟩
theorem oX5_copyFrom : VOk kX5_copyFrom 1 := ⟨⟨List.mem_filter.mpr ⟨List.mem_of_getElem? (i := 337) (by decide +kernel), by decide +kernel⟩, qini_X5, ⟨by decide +kernel, by decide +kernel, by decide +kernel⟩, by decide +kernel⟩, List.mem_filter.mpr ⟨List.mem_of_getElem? (i := 335) (by decide +kernel), by decide +kernel⟩, List.mem_filter.mpr ⟨List.mem_of_getElem? (i := 336) (by decide +kernel), by decide +kernel⟩⟩
theorem oX6_init : IOk kX6_init 0 := ⟨⟨List.mem_filter.mpr ⟨List.mem_of_getElem? (i := 65) (by decide +kernel), by decide +kernel⟩, qini_X6, ⟨by decide +kernel, by decide +kernel, by decide +kernel⟩, by decide +kernel⟩, by decide +kernel, List.mem_filter.mpr ⟨List.mem_of_getElem? (i := 64) (by decide +kernel), by decide +kernel⟩⟩
theorem oX6_copyFrom : VOk kX6_copyFrom 1 := ⟨⟨List.mem_filter.mpr ⟨List.mem_of_getElem? (i := 305) (by decide +kernel), by decide +kernel⟩, qini_X6, ⟨by decide +kernel, by decide +kernel, by decide +kernel⟩, by decide +kernel⟩, List.mem_filter.mpr ⟨List.mem_of_getElem? (i := 303) (by decide +kernel), by decide +kernel⟩, List.mem_filter.mpr ⟨List.mem_of_getElem? (i := 304) (by decide +kernel), by decide +kernel⟩⟩
theorem oX6_copySnapshot : SOk kX6_copySnapshot 2 := ⟨⟨List.mem_filter.mpr ⟨List.mem_of_getElem? (i := 333) (by decide +kernel), by decide +kernel⟩, qini_X6, ⟨by decide +kernel, by decide +kernel, by decide +kernel⟩, by decide +kernel⟩, List.mem_filter.mpr ⟨List.mem_of_getElem? (i := 332) (by decide +kernel), by decide +kernel⟩⟩
theorem oX6_readerAt : VOk kX6_readerAt 1 := ⟨⟨List.mem_filter.mpr ⟨List.mem_of_getElem? (i := 321) (by decide +kernel), by decide +kernel⟩, qini_X6, ⟨by decide +kernel, by decide +kernel, by decide +kernel⟩, by decide +kernel⟩, List.mem_filter.mpr ⟨List.mem_of_getElem? (i := 319) (by decide +kernel), by decide +kernel⟩, List.mem_filter.mpr ⟨List.mem_of_getElem? (i := 320) (by decide +kernel), by decide +kernel⟩⟩
theorem oX6_snapshotAt : VOk kX6_snapshotAt 1 := ⟨⟨List.mem_filter.mpr ⟨List.mem_of_getElem? (i := 330) (by decide +kernel), by decide +kernel⟩, qini_X6, ⟨by decide +kernel, by decide +kernel, by decide +kernel⟩, by decide +kernel⟩, List.mem_filter.mpr ⟨List.mem_of_getElem? (i := 328) (by decide +kernel), by decide +kernel⟩, List.mem_filter.mpr ⟨List.mem_of_getElem? (i := 329) (by decide +kernel), by decide +kernel⟩⟩
theorem oX6_turnSetting : VOk kX6_turnSetting 2 := ⟨⟨List.mem_filter.mpr ⟨List.mem_of_getElem? (i := 342) (by decide +kernel), by decide +kernel⟩, qini_X6, ⟨by decide +kernel, by decide +kernel, by decide +kernel⟩, by decide +kernel⟩, List.mem_filter.mpr ⟨List.mem_of_getElem? (i := 340) (by decide +kernel), by decide +kernel⟩, List.mem_filter.mpr ⟨List.mem_of_getElem? (i := 341) (by decide +kernel), by decide +kernel⟩⟩
theorem oX6_setKey : VOk kX6_setKey 2 := ⟨⟨List.mem_filter.mpr ⟨List.mem_of_getElem? (i := 361) (by decide +kernel), by decide +kernel⟩, qini_X6, ⟨by decide +kernel, by decide +kernel, by decide +kernel⟩, by decide +kernel⟩, List.mem_filter.mpr ⟨List.mem_of_getElem? (i := 359) (by decide +kernel), by decide +kernel⟩, List.mem_filter.mpr ⟨List.mem_of_getElem? (i := 360) (by decide +kernel), by decide +kernel⟩⟩
theorem oX6_removeKey : VOk kX6_removeKey 1 := ⟨⟨List.mem_filter.mpr ⟨List.mem_of_getElem? (i := 389) (by decide +kernel), by decide +kernel⟩, qini_X6, ⟨by decide +kernel, by decide +kernel, by decide +kernel⟩, by decide +kernel⟩, List.mem_filter.mpr ⟨List.mem_of_getElem? (i := 387) (by decide +kernel), by decide +kernel⟩, List.mem_filter.mpr ⟨List.mem_of_getElem? (i := 388) (by decide +kernel), by decide +kernel⟩⟩
theorem oX6_letPass : VOk kX6_letPass 1 := ⟨⟨List.mem_filter.mpr ⟨List.mem_of_getElem? (i := 404) (by decide +kernel), by decide +kernel⟩, qini_X6, ⟨by decide +kernel, by decide +kernel, by decide +kernel⟩, by decide +kernel⟩, List.mem_filter.mpr ⟨List.mem_of_getElem? (i := 402) (by decide +kernel), by decide +kernel⟩, List.mem_filter.mpr ⟨List.mem_of_getElem? (i := 403) (by decide +kernel), by decide +kernel⟩⟩
theorem oX6_thinFeed : VOk kX6_thinFeed 0 := ⟨⟨List.mem_filter.mpr ⟨List.mem_of_getElem? (i := 413) (by decide +kernel), by decide +kernel⟩, qini_X6, ⟨by decide +kernel, by decide +kernel, by decide +kernel⟩, by decide +kernel⟩, List.mem_filter.mpr ⟨List.mem_of_getElem? (i := 411) (by decide +kernel), by decide +kernel⟩, List.mem_filter.mpr ⟨List.mem_of_getElem? (i := 412) (by decide +kernel), by decide +kernel⟩⟩
theorem oX6_makeSnapshot : VOk kX6_makeSnapshot 0 := ⟨⟨List.mem_filter.mpr ⟨List.mem_of_getElem? (i := 468) (by decide +kernel), by decide +kernel⟩, qini_X6, ⟨by decide +kernel, by decide +kernel, by decide +kernel⟩, by decide +kernel⟩, List.mem_filter.mpr ⟨List.mem_of_getElem? (i := 466) (by decide +kernel), by decide +kernel⟩, List.mem_filter.mpr ⟨List.mem_of_getElem? (i := 467) (by decide +kernel), by decide +kernel⟩⟩
theorem oX6_addReader : VOk kX6_addReader 0 := ⟨⟨List.mem_filter.mpr ⟨List.mem_of_getElem? (i := 476) (by decide +kernel), by decide +kernel⟩, qini_X6, ⟨by decide +kernel, by decide +kernel, by decide +kernel⟩, by decide +kernel⟩, List.mem_filter.mpr ⟨List.mem_of_getElem? (i := 474) (by decide +kernel), by decide +kernel⟩, List.mem_filter.mpr ⟨List.mem_of_getElem? (i := 475) (by decide +kernel), by decide +kernel⟩⟩
theorem oX6_letRead : VOk kX6_letRead 2 := ⟨⟨List.mem_filter.mpr ⟨List.mem_of_getElem? (i := 493) (by decide +kernel), by decide +kernel⟩, qini_X6, ⟨by decide +kernel, by decide +kernel, by decide +kernel⟩, by decide +kernel⟩, List.mem_filter.mpr ⟨List.mem_of_getElem? (i := 491) (by decide +kernel), by decide +kernel⟩, List.mem_filter.mpr ⟨List.mem_of_getElem? (i := 492) (by decide +kernel), by decide +kernel⟩⟩
theorem oX6_letConfirm : VOk kX6_letConfirm 1 := ⟨⟨List.mem_filter.mpr ⟨List.mem_of_getElem? (i := 519) (by decide +kernel), by decide +kernel⟩, qini_X6, ⟨by decide +kernel, by decide +kernel, by decide +kernel⟩, by decide +kernel⟩, List.mem_filter.mpr ⟨List.mem_of_getElem? (i := 517) (by decide +kernel), by decide +kernel⟩, List.mem_filter.mpr ⟨List.mem_of_getElem? (i := 518) (by decide +kernel), by decide +kernel⟩⟩
theorem oX6_letGoBack : VOk kX6_letGoBack 1 := ⟨⟨List.mem_filter.mpr ⟨List.mem_of_getElem? (i := 528) (by decide +kernel), by decide +kernel⟩, qini_X6, ⟨by decide +kernel, by decide +kernel, by decide +kernel⟩, by decide +kernel⟩, List.mem_filter.mpr ⟨List.mem_of_getElem? (i := 526) (by decide +kernel), by decide +kernel⟩, List.mem_filter.mpr ⟨List.mem_of_getElem? (i := 527) (by decide +kernel), by decide +kernel⟩⟩
theorem oX6_letBeginAnew : VOk kX6_letBeginAnew 1 := ⟨⟨List.mem_filter.mpr ⟨List.mem_of_getElem? (i := 540) (by decide +kernel), by decide +kernel⟩, qini_X6, ⟨by decide +kernel, by decide +kernel, by decide +kernel⟩, by decide +kernel⟩, List.mem_filter.mpr ⟨List.mem_of_getElem? (i := 538) (by decide +kernel), by decide +kernel⟩, List.mem_filter.mpr ⟨List.mem_of_getElem? (i := 539) (by decide +kernel), by decide +kernel⟩⟩
theorem oX6_letLoad : VOk kX6_letLoad 2 := ⟨⟨List.mem_filter.mpr ⟨List.mem_of_getElem? (i := 553) (by decide +kernel), by decide +kernel⟩, qini_X6, ⟨by decide +kernel, by decide +kernel, by decide +kernel⟩, by decide +kernel⟩, List.mem_filter.mpr ⟨List.mem_of_getElem? (i := 551) (by decide +kernel), by decide +kernel⟩, List.mem_filter.mpr ⟨List.mem_of_getElem? (i := 552) (by decide +kernel), by decide +kernel⟩⟩
theorem oX6_lateBelow : VOk kX6_lateBelow 1 := ⟨⟨List.mem_filter.mpr ⟨List.mem_of_getElem? (i := 609) (by decide +kernel), by decide +kernel⟩, qini_X6, ⟨by decide +kernel, by decide +kernel, by decide +kernel⟩, by decide +kernel⟩, List.mem_filter.mpr ⟨List.mem_of_getElem? (i := 607) (by decide +kernel), by decide +kernel⟩, List.mem_filter.mpr ⟨List.mem_of_getElem? (i := 608) (by decide +kernel), by decide +kernel⟩⟩
theorem oX6_entriesOnWay : VOk kX6_entriesOnWay 2 := ⟨⟨List.mem_filter.mpr ⟨List.mem_of_getElem? (i := 635) (by decide +kernel), by decide +kernel⟩, qini_X6, ⟨by decide +kernel, by decide +kernel, by decide +kernel⟩, by decide +kernel⟩, List.mem_filter.mpr ⟨List.mem_of_getElem? (i := 633) (by decide +kernel), by decide +kernel⟩, List.mem_filter.mpr ⟨List.mem_of_getElem? (i := 634) (by decide +kernel), by decide +kernel⟩⟩
theorem oX6_aheadUnlessLate : VOk kX6_aheadUnlessLate 1 := ⟨⟨List.mem_filter.mpr ⟨List.mem_of_getElem? (i := 639) (by decide +kernel), by decide +kernel⟩, qini_X6, ⟨by decide +kernel, by decide +kernel, by decide +kernel⟩, by decide +kernel⟩, List.mem_filter.mpr ⟨List.mem_of_getElem? (i := 638) (by decide +kernel), by decide +kernel⟩, List.mem_filter.mpr ⟨List.mem_of_getElem? (i := 5) (by decide +kernel), by decide +kernel⟩⟩
theorem oX6_shortestWay : VOk kX6_shortestWay 1 := ⟨⟨List.mem_filter.mpr ⟨List.mem_of_getElem? (i := 631) (by decide +kernel), by decide +kernel⟩, qini_X6, ⟨by decide +kernel, by decide +kernel, by decide +kernel⟩, by decide +kernel⟩, List.mem_filter.mpr ⟨List.mem_of_getElem? (i := 629) (by decide +kernel), by decide +kernel⟩, List.mem_filter.mpr ⟨List.mem_of_getElem? (i := 630) (by decide +kernel), by decide +kernel⟩⟩
theorem oX7_init : IOk kX7_init 0 := ⟨⟨List.mem_filter.mpr ⟨List.mem_of_getElem? (i := 71) (by decide +kernel), by decide +kernel⟩, qini_X7, ⟨by decide +kernel, by decide +kernel, by decide +kernel⟩, by decide +kernel⟩, by decide +kernel, List.mem_filter.mpr ⟨List.mem_of_getElem? (i := 70) (by decide +kernel), by decide +kernel⟩⟩
theorem oX7_clear : VOk kX7_clear 0 := ⟨⟨List.mem_filter.mpr ⟨List.mem_of_getElem? (i := 76) (by decide +kernel), by decide +kernel⟩, qini_X7, ⟨by decide +kernel, by decide +kernel, by decide +kernel⟩, by decide +kernel⟩, List.mem_filter.mpr ⟨List.mem_of_getElem? (i := 74) (by decide +kernel), by decide +kernel⟩, List.mem_filter.mpr ⟨List.mem_of_getElem? (i := 75) (by decide +kernel), by decide +kernel⟩⟩
theorem oX7_copyFrom : VOk kX7_copyFrom 1 := ⟨⟨List.mem_filter.mpr ⟨List.mem_of_getElem? (i := 309) (by decide +kernel), by decide +kernel⟩, qini_X7, ⟨by decide +kernel, by decide +kernel, by decide +kernel⟩, by decide +kernel⟩, List.mem_filter.mpr ⟨List.mem_of_getElem? (i := 307) (by decide +kernel), by decide +kernel⟩, List.mem_filter.mpr ⟨List.mem_of_getElem? (i := 308) (by decide +kernel), by decide +kernel⟩⟩
theorem oX7_of : VOk kX7_of 1 := ⟨⟨List.mem_filter.mpr ⟨List.mem_of_getElem? (i := 393) (by decide +kernel), by decide +kernel⟩, qini_X7, ⟨by decide +kernel, by decide +kernel, by decide +kernel⟩, by decide +kernel⟩, List.mem_filter.mpr ⟨List.mem_of_getElem? (i := 391) (by decide +kernel), by decide +kernel⟩, List.mem_filter.mpr ⟨List.mem_of_getElem? (i := 392) (by decide +kernel), by decide +kernel⟩⟩
theorem oX7_change : VOk kX7_change 2 := ⟨⟨List.mem_filter.mpr ⟨List.mem_of_getElem? (i := 372) (by decide +kernel), by decide +kernel⟩, qini_X7, ⟨by decide +kernel, by decide +kernel, by decide +kernel⟩, by decide +kernel⟩, List.mem_filter.mpr ⟨List.mem_of_getElem? (i := 370) (by decide +kernel), by decide +kernel⟩, List.mem_filter.mpr ⟨List.mem_of_getElem? (i := 371) (by decide +kernel), by decide +kernel⟩⟩
theorem oX7_howMany : VOk kX7_howMany 0 := ⟨⟨List.mem_filter.mpr ⟨List.mem_of_getElem? (i := 601) (by decide +kernel), by decide +kernel⟩, qini_X7, ⟨by decide +kernel, by decide +kernel, by decide +kernel⟩, by decide +kernel⟩, List.mem_filter.mpr ⟨List.mem_of_getElem? (i := 599) (by decide +kernel), by decide +kernel⟩, List.mem_filter.mpr ⟨List.mem_of_getElem? (i := 600) (by decide +kernel), by decide +kernel⟩⟩
theorem oX7_differingFrom : VOk kX7_differingFrom 1 := ⟨⟨List.mem_filter.mpr ⟨List.mem_of_getElem? (i := 591) (by decide +kernel), by decide +kernel⟩, qini_X7, ⟨by decide +kernel, by decide +kernel, by decide +kernel⟩, by decide +kernel⟩, List.mem_filter.mpr ⟨List.mem_of_getElem? (i := 589) (by decide +kernel), by decide +kernel⟩, List.mem_filter.mpr ⟨List.mem_of_getElem? (i := 590) (by decide +kernel), by decide +kernel⟩⟩
theorem oX8_init : IOk kX8_init 0 := ⟨⟨List.mem_filter.mpr ⟨List.mem_of_getElem? (i := 57) (by decide +kernel), by decide +kernel⟩, qini_X8, ⟨by decide +kernel, by decide +kernel, by decide +kernel⟩, by decide +kernel⟩, by decide +kernel, List.mem_filter.mpr ⟨List.mem_of_getElem? (i := 56) (by decide +kernel), by decide +kernel⟩⟩
theorem oX8_turn : VOk kX8_turn 2 := ⟨⟨List.mem_filter.mpr ⟨List.mem_of_getElem? (i := 293) (by decide +kernel), by decide +kernel⟩, qini_X8, ⟨by decide +kernel, by decide +kernel, by decide +kernel⟩, by decide +kernel⟩, List.mem_filter.mpr ⟨List.mem_of_getElem? (i := 291) (by decide +kernel), by decide +kernel⟩, List.mem_filter.mpr ⟨List.mem_of_getElem? (i := 292) (by decide +kernel), by decide +kernel⟩⟩
theorem oX8_set : VOk kX8_set 2 := ⟨⟨List.mem_filter.mpr ⟨List.mem_of_getElem? (i := 357) (by decide +kernel), by decide +kernel⟩, qini_X8, ⟨by decide +kernel, by decide +kernel, by decide +kernel⟩, by decide +kernel⟩, List.mem_filter.mpr ⟨List.mem_of_getElem? (i := 355) (by decide +kernel), by decide +kernel⟩, List.mem_filter.mpr ⟨List.mem_of_getElem? (i := 356) (by decide +kernel), by decide +kernel⟩⟩
theorem oX8_remove : VOk kX8_remove 1 := ⟨⟨List.mem_filter.mpr ⟨List.mem_of_getElem? (i := 385) (by decide +kernel), by decide +kernel⟩, qini_X8, ⟨by decide +kernel, by decide +kernel, by decide +kernel⟩, by decide +kernel⟩, List.mem_filter.mpr ⟨List.mem_of_getElem? (i := 383) (by decide +kernel), by decide +kernel⟩, List.mem_filter.mpr ⟨List.mem_of_getElem? (i := 384) (by decide +kernel), by decide +kernel⟩⟩
theorem oX8_pass : VOk kX8_pass 1 := ⟨⟨List.mem_filter.mpr ⟨List.mem_of_getElem? (i := 400) (by decide +kernel), by decide +kernel⟩, qini_X8, ⟨by decide +kernel, by decide +kernel, by decide +kernel⟩, by decide +kernel⟩, List.mem_filter.mpr ⟨List.mem_of_getElem? (i := 398) (by decide +kernel), by decide +kernel⟩, List.mem_filter.mpr ⟨List.mem_of_getElem? (i := 399) (by decide +kernel), by decide +kernel⟩⟩
theorem oX8_thin : VOk kX8_thin 0 := ⟨⟨List.mem_filter.mpr ⟨List.mem_of_getElem? (i := 409) (by decide +kernel), by decide +kernel⟩, qini_X8, ⟨by decide +kernel, by decide +kernel, by decide +kernel⟩, by decide +kernel⟩, List.mem_filter.mpr ⟨List.mem_of_getElem? (i := 407) (by decide +kernel), by decide +kernel⟩, List.mem_filter.mpr ⟨List.mem_of_getElem? (i := 408) (by decide +kernel), by decide +kernel⟩⟩
theorem oX8_snapshot : VOk kX8_snapshot 0 := ⟨⟨List.mem_filter.mpr ⟨List.mem_of_getElem? (i := 464) (by decide +kernel), by decide +kernel⟩, qini_X8, ⟨by decide +kernel, by decide +kernel, by decide +kernel⟩, by decide +kernel⟩, List.mem_filter.mpr ⟨List.mem_of_getElem? (i := 462) (by decide +kernel), by decide +kernel⟩, List.mem_filter.mpr ⟨List.mem_of_getElem? (i := 463) (by decide +kernel), by decide +kernel⟩⟩
theorem oX8_reader : VOk kX8_reader 0 := ⟨⟨List.mem_filter.mpr ⟨List.mem_of_getElem? (i := 472) (by decide +kernel), by decide +kernel⟩, qini_X8, ⟨by decide +kernel, by decide +kernel, by decide +kernel⟩, by decide +kernel⟩, List.mem_filter.mpr ⟨List.mem_of_getElem? (i := 470) (by decide +kernel), by decide +kernel⟩, List.mem_filter.mpr ⟨List.mem_of_getElem? (i := 471) (by decide +kernel), by decide +kernel⟩⟩
theorem oX8_read : VOk kX8_read 2 := ⟨⟨List.mem_filter.mpr ⟨List.mem_of_getElem? (i := 489) (by decide +kernel), by decide +kernel⟩, qini_X8, ⟨by decide +kernel, by decide +kernel, by decide +kernel⟩, by decide +kernel⟩, List.mem_filter.mpr ⟨List.mem_of_getElem? (i := 487) (by decide +kernel), by decide +kernel⟩, List.mem_filter.mpr ⟨List.mem_of_getElem? (i := 488) (by decide +kernel), by decide +kernel⟩⟩
theorem oX8_confirm : VOk kX8_confirm 1 := ⟨⟨List.mem_filter.mpr ⟨List.mem_of_getElem? (i := 515) (by decide +kernel), by decide +kernel⟩, qini_X8, ⟨by decide +kernel, by decide +kernel, by decide +kernel⟩, by decide +kernel⟩, List.mem_filter.mpr ⟨List.mem_of_getElem? (i := 513) (by decide +kernel), by decide +kernel⟩, List.mem_filter.mpr ⟨List.mem_of_getElem? (i := 514) (by decide +kernel), by decide +kernel⟩⟩
theorem oX8_goBack : VOk kX8_goBack 1 := ⟨⟨List.mem_filter.mpr ⟨List.mem_of_getElem? (i := 524) (by decide +kernel), by decide +kernel⟩, qini_X8, ⟨by decide +kernel, by decide +kernel, by decide +kernel⟩, by decide +kernel⟩, List.mem_filter.mpr ⟨List.mem_of_getElem? (i := 522) (by decide +kernel), by decide +kernel⟩, List.mem_filter.mpr ⟨List.mem_of_getElem? (i := 523) (by decide +kernel), by decide +kernel⟩⟩
theorem oX8_beginAnew : VOk kX8_beginAnew 1 := ⟨⟨List.mem_filter.mpr ⟨List.mem_of_getElem? (i := 536) (by decide +kernel), by decide +kernel⟩, qini_X8, ⟨by decide +kernel, by decide +kernel, by decide +kernel⟩, by decide +kernel⟩, List.mem_filter.mpr ⟨List.mem_of_getElem? (i := 534) (by decide +kernel), by decide +kernel⟩, List.mem_filter.mpr ⟨List.mem_of_getElem? (i := 535) (by decide +kernel), by decide +kernel⟩⟩
theorem oX8_load : VOk kX8_load 2 := ⟨⟨List.mem_filter.mpr ⟨List.mem_of_getElem? (i := 549) (by decide +kernel), by decide +kernel⟩, qini_X8, ⟨by decide +kernel, by decide +kernel, by decide +kernel⟩, by decide +kernel⟩, List.mem_filter.mpr ⟨List.mem_of_getElem? (i := 547) (by decide +kernel), by decide +kernel⟩, List.mem_filter.mpr ⟨List.mem_of_getElem? (i := 548) (by decide +kernel), by decide +kernel⟩⟩
theorem oX8_table : VOk kX8_table 1 := ⟨⟨List.mem_filter.mpr ⟨List.mem_of_getElem? (i := 561) (by decide +kernel), by decide +kernel⟩, qini_X8, ⟨by decide +kernel, by decide +kernel, by decide +kernel⟩, by decide +kernel⟩, List.mem_filter.mpr ⟨List.mem_of_getElem? (i := 559) (by decide +kernel), by decide +kernel⟩, List.mem_filter.mpr ⟨List.mem_of_getElem? (i := 560) (by decide +kernel), by decide +kernel⟩⟩
theorem oX8_view : VOk kX8_view 2 := ⟨⟨List.mem_filter.mpr ⟨List.mem_of_getElem? (i := 567) (by decide +kernel), by decide +kernel⟩, qini_X8, ⟨by decide +kernel, by decide +kernel, by decide +kernel⟩, by decide +kernel⟩, List.mem_filter.mpr ⟨List.mem_of_getElem? (i := 565) (by decide +kernel), by decide +kernel⟩, List.mem_filter.mpr ⟨List.mem_of_getElem? (i := 566) (by decide +kernel), by decide +kernel⟩⟩
theorem oX8_entry : VOk kX8_entry 2 := ⟨⟨List.mem_filter.mpr ⟨List.mem_of_getElem? (i := 572) (by decide +kernel), by decide +kernel⟩, qini_X8, ⟨by decide +kernel, by decide +kernel, by decide +kernel⟩, by decide +kernel⟩, List.mem_filter.mpr ⟨List.mem_of_getElem? (i := 570) (by decide +kernel), by decide +kernel⟩, List.mem_filter.mpr ⟨List.mem_of_getElem? (i := 571) (by decide +kernel), by decide +kernel⟩⟩
theorem oX8_ofReader : VOk kX8_ofReader 2 := ⟨⟨List.mem_filter.mpr ⟨List.mem_of_getElem? (i := 585) (by decide +kernel), by decide +kernel⟩, qini_X8, ⟨by decide +kernel, by decide +kernel, by decide +kernel⟩, by decide +kernel⟩, List.mem_filter.mpr ⟨List.mem_of_getElem? (i := 583) (by decide +kernel), by decide +kernel⟩, List.mem_filter.mpr ⟨List.mem_of_getElem? (i := 584) (by decide +kernel), by decide +kernel⟩⟩
theorem oX8_ofSnapshot : VOk kX8_ofSnapshot 2 := ⟨⟨List.mem_filter.mpr ⟨List.mem_of_getElem? (i := 596) (by decide +kernel), by decide +kernel⟩, qini_X8, ⟨by decide +kernel, by decide +kernel, by decide +kernel⟩, by decide +kernel⟩, List.mem_filter.mpr ⟨List.mem_of_getElem? (i := 594) (by decide +kernel), by decide +kernel⟩, List.mem_filter.mpr ⟨List.mem_of_getElem? (i := 595) (by decide +kernel), by decide +kernel⟩⟩
theorem oX8_count : VOk kX8_count 1 := ⟨⟨List.mem_filter.mpr ⟨List.mem_of_getElem? (i := 605) (by decide +kernel), by decide +kernel⟩, qini_X8, ⟨by decide +kernel, by decide +kernel, by decide +kernel⟩, by decide +kernel⟩, List.mem_filter.mpr ⟨List.mem_of_getElem? (i := 603) (by decide +kernel), by decide +kernel⟩, List.mem_filter.mpr ⟨List.mem_of_getElem? (i := 604) (by decide +kernel), by decide +kernel⟩⟩
theorem oX8_leftIn : VOk kX8_leftIn 1 := ⟨⟨List.mem_filter.mpr ⟨List.mem_of_getElem? (i := 613) (by decide +kernel), by decide +kernel⟩, qini_X8, ⟨by decide +kernel, by decide +kernel, by decide +kernel⟩, by decide +kernel⟩, List.mem_filter.mpr ⟨List.mem_of_getElem? (i := 611) (by decide +kernel), by decide +kernel⟩, List.mem_filter.mpr ⟨List.mem_of_getElem? (i := 612) (by decide +kernel), by decide +kernel⟩⟩
theorem oX8_lateIn : VOk kX8_lateIn 1 := ⟨⟨List.mem_filter.mpr ⟨List.mem_of_getElem? (i := 622) (by decide +kernel), by decide +kernel⟩, qini_X8, ⟨by decide +kernel, by decide +kernel, by decide +kernel⟩, by decide +kernel⟩, List.mem_filter.mpr ⟨List.mem_of_getElem? (i := 620) (by decide +kernel), by decide +kernel⟩, List.mem_filter.mpr ⟨List.mem_of_getElem? (i := 621) (by decide +kernel), by decide +kernel⟩⟩
theorem oX8_shortest : VOk kX8_shortest 2 := ⟨⟨List.mem_filter.mpr ⟨List.mem_of_getElem? (i := 627) (by decide +kernel), by decide +kernel⟩, qini_X8, ⟨by decide +kernel, by decide +kernel, by decide +kernel⟩, by decide +kernel⟩, List.mem_filter.mpr ⟨List.mem_of_getElem? (i := 625) (by decide +kernel), by decide +kernel⟩, List.mem_filter.mpr ⟨List.mem_of_getElem? (i := 626) (by decide +kernel), by decide +kernel⟩⟩
theorem oX8_gentlest : VOk kX8_gentlest 0 := ⟨⟨List.mem_filter.mpr ⟨List.mem_of_getElem? (i := 644) (by decide +kernel), by decide +kernel⟩, qini_X8, ⟨by decide +kernel, by decide +kernel, by decide +kernel⟩, by decide +kernel⟩, List.mem_filter.mpr ⟨List.mem_of_getElem? (i := 642) (by decide +kernel), by decide +kernel⟩, List.mem_filter.mpr ⟨List.mem_of_getElem? (i := 643) (by decide +kernel), by decide +kernel⟩⟩
theorem oX8_put : VOk kX8_put 1 := ⟨⟨List.mem_filter.mpr ⟨List.mem_of_getElem? (i := 648) (by decide +kernel), by decide +kernel⟩, qini_X8, ⟨by decide +kernel, by decide +kernel, by decide +kernel⟩, by decide +kernel⟩, List.mem_filter.mpr ⟨List.mem_of_getElem? (i := 646) (by decide +kernel), by decide +kernel⟩, List.mem_filter.mpr ⟨List.mem_of_getElem? (i := 647) (by decide +kernel), by decide +kernel⟩⟩
theorem oX8_wipe : VOk kX8_wipe 0 := ⟨⟨List.mem_filter.mpr ⟨List.mem_of_getElem? (i := 661) (by decide +kernel), by decide +kernel⟩, qini_X8, ⟨by decide +kernel, by decide +kernel, by decide +kernel⟩, by decide +kernel⟩, List.mem_filter.mpr ⟨List.mem_of_getElem? (i := 659) (by decide +kernel), by decide +kernel⟩, List.mem_filter.mpr ⟨List.mem_of_getElem? (i := 660) (by decide +kernel), by decide +kernel⟩⟩
theorem oX8_fault : VOk kX8_fault 0 := ⟨⟨List.mem_filter.mpr ⟨List.mem_of_getElem? (i := 669) (by decide +kernel), by decide +kernel⟩, qini_X8, ⟨by decide +kernel, by decide +kernel, by decide +kernel⟩, by decide +kernel⟩, List.mem_filter.mpr ⟨List.mem_of_getElem? (i := 667) (by decide +kernel), by decide +kernel⟩, List.mem_filter.mpr ⟨List.mem_of_getElem? (i := 668) (by decide +kernel), by decide +kernel⟩⟩
theorem oX8_carryOut : VOk kX8_carryOut 0 := ⟨⟨List.mem_filter.mpr ⟨List.mem_of_getElem? (i := 714) (by decide +kernel), by decide +kernel⟩, qini_X8, ⟨by decide +kernel, by decide +kernel, by decide +kernel⟩, by decide +kernel⟩, List.mem_filter.mpr ⟨List.mem_of_getElem? (i := 712) (by decide +kernel), by decide +kernel⟩, List.mem_filter.mpr ⟨List.mem_of_getElem? (i := 713) (by decide +kernel), by decide +kernel⟩⟩
theorem oX8_carryOutOrder : VOk kX8_carryOutOrder 0 := ⟨⟨List.mem_filter.mpr ⟨List.mem_of_getElem? (i := 720) (by decide +kernel), by decide +kernel⟩, qini_X8, ⟨by decide +kernel, by decide +kernel, by decide +kernel⟩, by decide +kernel⟩, List.mem_filter.mpr ⟨List.mem_of_getElem? (i := 719) (by decide +kernel), by decide +kernel⟩, List.mem_filter.mpr ⟨List.mem_of_getElem? (i := 12) (by decide +kernel), by decide +kernel⟩⟩
theorem oX8_undo : VOk kX8_undo 0 := ⟨⟨List.mem_filter.mpr ⟨List.mem_of_getElem? (i := 725) (by decide +kernel), by decide +kernel⟩, qini_X8, ⟨by decide +kernel, by decide +kernel, by decide +kernel⟩, by decide +kernel⟩, List.mem_filter.mpr ⟨List.mem_of_getElem? (i := 723) (by decide +kernel), by decide +kernel⟩, List.mem_filter.mpr ⟨List.mem_of_getElem? (i := 724) (by decide +kernel), by decide +kernel⟩⟩
theorem oX8_save : VOk kX8_save 1 := ⟨⟨List.mem_filter.mpr ⟨List.mem_of_getElem? (i := 733) (by decide +kernel), by decide +kernel⟩, qini_X8, ⟨by decide +kernel, by decide +kernel, by decide +kernel⟩, by decide +kernel⟩, List.mem_filter.mpr ⟨List.mem_of_getElem? (i := 731) (by decide +kernel), by decide +kernel⟩, List.mem_filter.mpr ⟨List.mem_of_getElem? (i := 732) (by decide +kernel), by decide +kernel⟩⟩
theorem oX8_restore : VOk kX8_restore 1 := ⟨⟨List.mem_filter.mpr ⟨List.mem_of_getElem? (i := 742) (by decide +kernel), by decide +kernel⟩, qini_X8, ⟨by decide +kernel, by decide +kernel, by decide +kernel⟩, by decide +kernel⟩, List.mem_filter.mpr ⟨List.mem_of_getElem? (i := 740) (by decide +kernel), by decide +kernel⟩, List.mem_filter.mpr ⟨List.mem_of_getElem? (i := 741) (by decide +kernel), by decide +kernel⟩⟩
theorem oX8_slotAt : VOk kX8_slotAt 1 := ⟨⟨List.mem_filter.mpr ⟨List.mem_of_getElem? (i := 737) (by decide +kernel), by decide +kernel⟩, qini_X8, ⟨by decide +kernel, by decide +kernel, by decide +kernel⟩, by decide +kernel⟩, List.mem_filter.mpr ⟨List.mem_of_getElem? (i := 736) (by decide +kernel), by decide +kernel⟩, List.mem_filter.mpr ⟨List.mem_of_getElem? (i := 13) (by decide +kernel), by decide +kernel⟩⟩
theorem oX8_isKey : SOk kX8_isKey 1 := ⟨⟨List.mem_filter.mpr ⟨List.mem_of_getElem? (i := 364) (by decide +kernel), by decide +kernel⟩, qini_X8, ⟨by decide +kernel, by decide +kernel, by decide +kernel⟩, by decide +kernel⟩, List.mem_filter.mpr ⟨List.mem_of_getElem? (i := 363) (by decide +kernel), by decide +kernel⟩⟩
theorem oX8_isNumber : SOk kX8_isNumber 1 := ⟨⟨List.mem_filter.mpr ⟨List.mem_of_getElem? (i := 345) (by decide +kernel), by decide +kernel⟩, qini_X8, ⟨by decide +kernel, by decide +kernel, by decide +kernel⟩, by decide +kernel⟩, List.mem_filter.mpr ⟨List.mem_of_getElem? (i := 344) (by decide +kernel), by decide +kernel⟩⟩
theorem oX8_isLate : SOk kX8_isLate 2 := ⟨⟨List.mem_filter.mpr ⟨List.mem_of_getElem? (i := 496) (by decide +kernel), by decide +kernel⟩, qini_X8, ⟨by decide +kernel, by decide +kernel, by decide +kernel⟩, by decide +kernel⟩, List.mem_filter.mpr ⟨List.mem_of_getElem? (i := 495) (by decide +kernel), by decide +kernel⟩⟩
theorem oX8_oneIf : SOk kX8_oneIf 1 := ⟨⟨List.mem_filter.mpr ⟨List.mem_of_getElem? (i := 580) (by decide +kernel), by decide +kernel⟩, qini_X8, ⟨by decide +kernel, by decide +kernel, by decide +kernel⟩, by decide +kernel⟩, List.mem_filter.mpr ⟨List.mem_of_getElem? (i := 579) (by decide +kernel), by decide +kernel⟩⟩
theorem oX8_at : SOk kX8_at 2 := ⟨⟨List.mem_filter.mpr ⟨List.mem_of_getElem? (i := 396) (by decide +kernel), by decide +kernel⟩, qini_X8, ⟨by decide +kernel, by decide +kernel, by decide +kernel⟩, by decide +kernel⟩, List.mem_filter.mpr ⟨List.mem_of_getElem? (i := 395) (by decide +kernel), by decide +kernel⟩⟩
theorem oX8_layAt : SOk kX8_layAt 3 := ⟨⟨List.mem_filter.mpr ⟨List.mem_of_getElem? (i := 79) (by decide +kernel), by decide +kernel⟩, qini_X8, ⟨by decide +kernel, by decide +kernel, by decide +kernel⟩, by decide +kernel⟩, List.mem_filter.mpr ⟨List.mem_of_getElem? (i := 78) (by decide +kernel), by decide +kernel⟩⟩
theorem oX8_copyRow : SOk kX8_copyRow 2 := ⟨⟨List.mem_filter.mpr ⟨List.mem_of_getElem? (i := 312) (by decide +kernel), by decide +kernel⟩, qini_X8, ⟨by decide +kernel, by decide +kernel, by decide +kernel⟩, by decide +kernel⟩, List.mem_filter.mpr ⟨List.mem_of_getElem? (i := 311) (by decide +kernel), by decide +kernel⟩⟩
theorem oX9_init : IOk kX9_init 0 := ⟨⟨List.mem_filter.mpr ⟨List.mem_of_getElem? (i := 747) (by decide +kernel), by decide +kernel⟩, qini_X9, ⟨by decide +kernel, by decide +kernel, by decide +kernel⟩, by decide +kernel⟩, by decide +kernel, List.mem_filter.mpr ⟨List.mem_of_getElem? (i := 746) (by decide +kernel), by decide +kernel⟩⟩
theorem oX9_in : SOk kX9_in 3 := ⟨⟨List.mem_filter.mpr ⟨List.mem_of_getElem? (i := 797) (by decide +kernel), by decide +kernel⟩, qini_X9, ⟨by decide +kernel, by decide +kernel, by decide +kernel⟩, by decide +kernel⟩, List.mem_filter.mpr ⟨List.mem_of_getElem? (i := 796) (by decide +kernel), by decide +kernel⟩⟩
theorem oX9_isKey : SOk kX9_isKey 1 := ⟨⟨List.mem_filter.mpr ⟨List.mem_of_getElem? (i := 820) (by decide +kernel), by decide +kernel⟩, qini_X9, ⟨by decide +kernel, by decide +kernel, by decide +kernel⟩, by decide +kernel⟩, List.mem_filter.mpr ⟨List.mem_of_getElem? (i := 819) (by decide +kernel), by decide +kernel⟩⟩
theorem oX9_isReader : VOk kX9_isReader 1 := ⟨⟨List.mem_filter.mpr ⟨List.mem_of_getElem? (i := 895) (by decide +kernel), by decide +kernel⟩, qini_X9, ⟨by decide +kernel, by decide +kernel, by decide +kernel⟩, by decide +kernel⟩, List.mem_filter.mpr ⟨List.mem_of_getElem? (i := 894) (by decide +kernel), by decide +kernel⟩, List.mem_filter.mpr ⟨List.mem_of_getElem? (i := 23) (by decide +kernel), by decide +kernel⟩⟩
theorem oX9_isShot : VOk kX9_isShot 1 := ⟨⟨List.mem_filter.mpr ⟨List.mem_of_getElem? (i := 933) (by decide +kernel), by decide +kernel⟩, qini_X9, ⟨by decide +kernel, by decide +kernel, by decide +kernel⟩, by decide +kernel⟩, List.mem_filter.mpr ⟨List.mem_of_getElem? (i := 932) (by decide +kernel), by decide +kernel⟩, List.mem_filter.mpr ⟨List.mem_of_getElem? (i := 27) (by decide +kernel), by decide +kernel⟩⟩
theorem oX9_row : SOk kX9_row 1 := ⟨⟨List.mem_filter.mpr ⟨List.mem_of_getElem? (i := 879) (by decide +kernel), by decide +kernel⟩, qini_X9, ⟨by decide +kernel, by decide +kernel, by decide +kernel⟩, by decide +kernel⟩, List.mem_filter.mpr ⟨List.mem_of_getElem? (i := 878) (by decide +kernel), by decide +kernel⟩⟩
theorem oX9_lays : SOk kX9_lays 4 := ⟨⟨List.mem_filter.mpr ⟨List.mem_of_getElem? (i := 790) (by decide +kernel), by decide +kernel⟩, qini_X9, ⟨by decide +kernel, by decide +kernel, by decide +kernel⟩, by decide +kernel⟩, List.mem_filter.mpr ⟨List.mem_of_getElem? (i := 789) (by decide +kernel), by decide +kernel⟩⟩
theorem oX9_records : VOk kX9_records 0 := ⟨⟨List.mem_filter.mpr ⟨List.mem_of_getElem? (i := 805) (by decide +kernel), by decide +kernel⟩, qini_X9, ⟨by decide +kernel, by decide +kernel, by decide +kernel⟩, by decide +kernel⟩, List.mem_filter.mpr ⟨List.mem_of_getElem? (i := 804) (by decide +kernel), by decide +kernel⟩, List.mem_filter.mpr ⟨List.mem_of_getElem? (i := 14) (by decide +kernel), by decide +kernel⟩⟩
theorem oX9_undo : VOk kX9_undo 0 := ⟨⟨List.mem_filter.mpr ⟨List.mem_of_getElem? (i := 787) (by decide +kernel), by decide +kernel⟩, qini_X9, ⟨by decide +kernel, by decide +kernel, by decide +kernel⟩, by decide +kernel⟩, List.mem_filter.mpr ⟨List.mem_of_getElem? (i := 785) (by decide +kernel), by decide +kernel⟩, List.mem_filter.mpr ⟨List.mem_of_getElem? (i := 786) (by decide +kernel), by decide +kernel⟩⟩
theorem oX9_save : VOk kX9_save 1 := ⟨⟨List.mem_filter.mpr ⟨List.mem_of_getElem? (i := 794) (by decide +kernel), by decide +kernel⟩, qini_X9, ⟨by decide +kernel, by decide +kernel, by decide +kernel⟩, by decide +kernel⟩, List.mem_filter.mpr ⟨List.mem_of_getElem? (i := 792) (by decide +kernel), by decide +kernel⟩, List.mem_filter.mpr ⟨List.mem_of_getElem? (i := 793) (by decide +kernel), by decide +kernel⟩⟩
theorem oX9_restore : VOk kX9_restore 1 := ⟨⟨List.mem_filter.mpr ⟨List.mem_of_getElem? (i := 801) (by decide +kernel), by decide +kernel⟩, qini_X9, ⟨by decide +kernel, by decide +kernel, by decide +kernel⟩, by decide +kernel⟩, List.mem_filter.mpr ⟨List.mem_of_getElem? (i := 799) (by decide +kernel), by decide +kernel⟩, List.mem_filter.mpr ⟨List.mem_of_getElem? (i := 800) (by decide +kernel), by decide +kernel⟩⟩
theorem oX9_of : SOk kX9_of 3 := ⟨⟨List.mem_filter.mpr ⟨List.mem_of_getElem? (i := 854) (by decide +kernel), by decide +kernel⟩, qini_X9, ⟨by decide +kernel, by decide +kernel, by decide +kernel⟩, by decide +kernel⟩, List.mem_filter.mpr ⟨List.mem_of_getElem? (i := 853) (by decide +kernel), by decide +kernel⟩⟩
theorem oX9_isClosed : SOk kX9_isClosed 2 := ⟨⟨List.mem_filter.mpr ⟨List.mem_of_getElem? (i := 851) (by decide +kernel), by decide +kernel⟩, qini_X9, ⟨by decide +kernel, by decide +kernel, by decide +kernel⟩, by decide +kernel⟩, List.mem_filter.mpr ⟨List.mem_of_getElem? (i := 850) (by decide +kernel), by decide +kernel⟩⟩
theorem oX9_isLast : SOk kX9_isLast 2 := ⟨⟨List.mem_filter.mpr ⟨List.mem_of_getElem? (i := 857) (by decide +kernel), by decide +kernel⟩, qini_X9, ⟨by decide +kernel, by decide +kernel, by decide +kernel⟩, by decide +kernel⟩, List.mem_filter.mpr ⟨List.mem_of_getElem? (i := 856) (by decide +kernel), by decide +kernel⟩⟩
theorem oX9_goes : SOk kX9_goes 2 := ⟨⟨List.mem_filter.mpr ⟨List.mem_of_getElem? (i := 860) (by decide +kernel), by decide +kernel⟩, qini_X9, ⟨by decide +kernel, by decide +kernel, by decide +kernel⟩, by decide +kernel⟩, List.mem_filter.mpr ⟨List.mem_of_getElem? (i := 859) (by decide +kernel), by decide +kernel⟩⟩
theorem oX9_thins : SOk kX9_thins 1 := ⟨⟨List.mem_filter.mpr ⟨List.mem_of_getElem? (i := 848) (by decide +kernel), by decide +kernel⟩, qini_X9, ⟨by decide +kernel, by decide +kernel, by decide +kernel⟩, by decide +kernel⟩, List.mem_filter.mpr ⟨List.mem_of_getElem? (i := 847) (by decide +kernel), by decide +kernel⟩⟩
theorem oX9_isLatePlace : SOk kX9_isLatePlace 2 := ⟨⟨List.mem_filter.mpr ⟨List.mem_of_getElem? (i := 901) (by decide +kernel), by decide +kernel⟩, qini_X9, ⟨by decide +kernel, by decide +kernel, by decide +kernel⟩, by decide +kernel⟩, List.mem_filter.mpr ⟨List.mem_of_getElem? (i := 900) (by decide +kernel), by decide +kernel⟩⟩
theorem oX9_isLate : SOk kX9_isLate 2 := ⟨⟨List.mem_filter.mpr ⟨List.mem_of_getElem? (i := 898) (by decide +kernel), by decide +kernel⟩, qini_X9, ⟨by decide +kernel, by decide +kernel, by decide +kernel⟩, by decide +kernel⟩, List.mem_filter.mpr ⟨List.mem_of_getElem? (i := 897) (by decide +kernel), by decide +kernel⟩⟩
theorem oX9_lateOnes : SOk kX9_lateOnes 1 := ⟨⟨List.mem_filter.mpr ⟨List.mem_of_getElem? (i := 976) (by decide +kernel), by decide +kernel⟩, qini_X9, ⟨by decide +kernel, by decide +kernel, by decide +kernel⟩, by decide +kernel⟩, List.mem_filter.mpr ⟨List.mem_of_getElem? (i := 975) (by decide +kernel), by decide +kernel⟩⟩
theorem oX9_ahead : VOk kX9_ahead 1 := ⟨⟨List.mem_filter.mpr ⟨List.mem_of_getElem? (i := 957) (by decide +kernel), by decide +kernel⟩, qini_X9, ⟨by decide +kernel, by decide +kernel, by decide +kernel⟩, by decide +kernel⟩, List.mem_filter.mpr ⟨List.mem_of_getElem? (i := 956) (by decide +kernel), by decide +kernel⟩, List.mem_filter.mpr ⟨List.mem_of_getElem? (i := 29) (by decide +kernel), by decide +kernel⟩⟩
theorem oX9_turn : VOk kX9_turn 2 := ⟨⟨List.mem_filter.mpr ⟨List.mem_of_getElem? (i := 809) (by decide +kernel), by decide +kernel⟩, qini_X9, ⟨by decide +kernel, by decide +kernel, by decide +kernel⟩, by decide +kernel⟩, List.mem_filter.mpr ⟨List.mem_of_getElem? (i := 807) (by decide +kernel), by decide +kernel⟩, List.mem_filter.mpr ⟨List.mem_of_getElem? (i := 808) (by decide +kernel), by decide +kernel⟩⟩
theorem oX9_maySet : VOk kX9_maySet 2 := ⟨⟨List.mem_filter.mpr ⟨List.mem_of_getElem? (i := 817) (by decide +kernel), by decide +kernel⟩, qini_X9, ⟨by decide +kernel, by decide +kernel, by decide +kernel⟩, by decide +kernel⟩, List.mem_filter.mpr ⟨List.mem_of_getElem? (i := 816) (by decide +kernel), by decide +kernel⟩, List.mem_filter.mpr ⟨List.mem_of_getElem? (i := 15) (by decide +kernel), by decide +kernel⟩⟩
theorem oX9_sets : VOk kX9_sets 2 := ⟨⟨List.mem_filter.mpr ⟨List.mem_of_getElem? (i := 824) (by decide +kernel), by decide +kernel⟩, qini_X9, ⟨by decide +kernel, by decide +kernel, by decide +kernel⟩, by decide +kernel⟩, List.mem_filter.mpr ⟨List.mem_of_getElem? (i := 823) (by decide +kernel), by decide +kernel⟩, List.mem_filter.mpr ⟨List.mem_of_getElem? (i := 16) (by decide +kernel), by decide +kernel⟩⟩
theorem oX9_set : VOk kX9_set 2 := ⟨⟨List.mem_filter.mpr ⟨List.mem_of_getElem? (i := 813) (by decide +kernel), by decide +kernel⟩, qini_X9, ⟨by decide +kernel, by decide +kernel, by decide +kernel⟩, by decide +kernel⟩, List.mem_filter.mpr ⟨List.mem_of_getElem? (i := 811) (by decide +kernel), by decide +kernel⟩, List.mem_filter.mpr ⟨List.mem_of_getElem? (i := 812) (by decide +kernel), by decide +kernel⟩⟩
theorem oX9_mayRemove : VOk kX9_mayRemove 1 := ⟨⟨List.mem_filter.mpr ⟨List.mem_of_getElem? (i := 832) (by decide +kernel), by decide +kernel⟩, qini_X9, ⟨by decide +kernel, by decide +kernel, by decide +kernel⟩, by decide +kernel⟩, List.mem_filter.mpr ⟨List.mem_of_getElem? (i := 831) (by decide +kernel), by decide +kernel⟩, List.mem_filter.mpr ⟨List.mem_of_getElem? (i := 17) (by decide +kernel), by decide +kernel⟩⟩
theorem oX9_remove : VOk kX9_remove 1 := ⟨⟨List.mem_filter.mpr ⟨List.mem_of_getElem? (i := 828) (by decide +kernel), by decide +kernel⟩, qini_X9, ⟨by decide +kernel, by decide +kernel, by decide +kernel⟩, by decide +kernel⟩, List.mem_filter.mpr ⟨List.mem_of_getElem? (i := 826) (by decide +kernel), by decide +kernel⟩, List.mem_filter.mpr ⟨List.mem_of_getElem? (i := 827) (by decide +kernel), by decide +kernel⟩⟩
theorem oX9_mayPass : VOk kX9_mayPass 1 := ⟨⟨List.mem_filter.mpr ⟨List.mem_of_getElem? (i := 840) (by decide +kernel), by decide +kernel⟩, qini_X9, ⟨by decide +kernel, by decide +kernel, by decide +kernel⟩, by decide +kernel⟩, List.mem_filter.mpr ⟨List.mem_of_getElem? (i := 839) (by decide +kernel), by decide +kernel⟩, List.mem_filter.mpr ⟨List.mem_of_getElem? (i := 18) (by decide +kernel), by decide +kernel⟩⟩
theorem oX9_pass : VOk kX9_pass 1 := ⟨⟨List.mem_filter.mpr ⟨List.mem_of_getElem? (i := 836) (by decide +kernel), by decide +kernel⟩, qini_X9, ⟨by decide +kernel, by decide +kernel, by decide +kernel⟩, by decide +kernel⟩, List.mem_filter.mpr ⟨List.mem_of_getElem? (i := 834) (by decide +kernel), by decide +kernel⟩, List.mem_filter.mpr ⟨List.mem_of_getElem? (i := 835) (by decide +kernel), by decide +kernel⟩⟩
theorem oX9_thin : VOk kX9_thin 0 := ⟨⟨List.mem_filter.mpr ⟨List.mem_of_getElem? (i := 845) (by decide +kernel), by decide +kernel⟩, qini_X9, ⟨by decide +kernel, by decide +kernel, by decide +kernel⟩, by decide +kernel⟩, List.mem_filter.mpr ⟨List.mem_of_getElem? (i := 843) (by decide +kernel), by decide +kernel⟩, List.mem_filter.mpr ⟨List.mem_of_getElem? (i := 844) (by decide +kernel), by decide +kernel⟩⟩
theorem oX9_shoots : VOk kX9_shoots 0 := ⟨⟨List.mem_filter.mpr ⟨List.mem_of_getElem? (i := 868) (by decide +kernel), by decide +kernel⟩, qini_X9, ⟨by decide +kernel, by decide +kernel, by decide +kernel⟩, by decide +kernel⟩, List.mem_filter.mpr ⟨List.mem_of_getElem? (i := 867) (by decide +kernel), by decide +kernel⟩, List.mem_filter.mpr ⟨List.mem_of_getElem? (i := 19) (by decide +kernel), by decide +kernel⟩⟩
theorem oX9_snapshot : VOk kX9_snapshot 0 := ⟨⟨List.mem_filter.mpr ⟨List.mem_of_getElem? (i := 864) (by decide +kernel), by decide +kernel⟩, qini_X9, ⟨by decide +kernel, by decide +kernel, by decide +kernel⟩, by decide +kernel⟩, List.mem_filter.mpr ⟨List.mem_of_getElem? (i := 862) (by decide +kernel), by decide +kernel⟩, List.mem_filter.mpr ⟨List.mem_of_getElem? (i := 863) (by decide +kernel), by decide +kernel⟩⟩
theorem oX9_begins : VOk kX9_begins 3 := ⟨⟨List.mem_filter.mpr ⟨List.mem_of_getElem? (i := 883) (by decide +kernel), by decide +kernel⟩, qini_X9, ⟨by decide +kernel, by decide +kernel, by decide +kernel⟩, by decide +kernel⟩, List.mem_filter.mpr ⟨List.mem_of_getElem? (i := 882) (by decide +kernel), by decide +kernel⟩, List.mem_filter.mpr ⟨List.mem_of_getElem? (i := 21) (by decide +kernel), by decide +kernel⟩⟩
theorem oX9_comes : VOk kX9_comes 0 := ⟨⟨List.mem_filter.mpr ⟨List.mem_of_getElem? (i := 876) (by decide +kernel), by decide +kernel⟩, qini_X9, ⟨by decide +kernel, by decide +kernel, by decide +kernel⟩, by decide +kernel⟩, List.mem_filter.mpr ⟨List.mem_of_getElem? (i := 875) (by decide +kernel), by decide +kernel⟩, List.mem_filter.mpr ⟨List.mem_of_getElem? (i := 20) (by decide +kernel), by decide +kernel⟩⟩
theorem oX9_reader : VOk kX9_reader 0 := ⟨⟨List.mem_filter.mpr ⟨List.mem_of_getElem? (i := 872) (by decide +kernel), by decide +kernel⟩, qini_X9, ⟨by decide +kernel, by decide +kernel, by decide +kernel⟩, by decide +kernel⟩, List.mem_filter.mpr ⟨List.mem_of_getElem? (i := 870) (by decide +kernel), by decide +kernel⟩, List.mem_filter.mpr ⟨List.mem_of_getElem? (i := 871) (by decide +kernel), by decide +kernel⟩⟩
theorem oX9_mayRead : VOk kX9_mayRead 2 := ⟨⟨List.mem_filter.mpr ⟨List.mem_of_getElem? (i := 891) (by decide +kernel), by decide +kernel⟩, qini_X9, ⟨by decide +kernel, by decide +kernel, by decide +kernel⟩, by decide +kernel⟩, List.mem_filter.mpr ⟨List.mem_of_getElem? (i := 890) (by decide +kernel), by decide +kernel⟩, List.mem_filter.mpr ⟨List.mem_of_getElem? (i := 22) (by decide +kernel), by decide +kernel⟩⟩
theorem oX9_reads : VOk kX9_reads 2 := ⟨⟨List.mem_filter.mpr ⟨List.mem_of_getElem? (i := 905) (by decide +kernel), by decide +kernel⟩, qini_X9, ⟨by decide +kernel, by decide +kernel, by decide +kernel⟩, by decide +kernel⟩, List.mem_filter.mpr ⟨List.mem_of_getElem? (i := 904) (by decide +kernel), by decide +kernel⟩, List.mem_filter.mpr ⟨List.mem_of_getElem? (i := 24) (by decide +kernel), by decide +kernel⟩⟩
theorem oX9_read : VOk kX9_read 2 := ⟨⟨List.mem_filter.mpr ⟨List.mem_of_getElem? (i := 887) (by decide +kernel), by decide +kernel⟩, qini_X9, ⟨by decide +kernel, by decide +kernel, by decide +kernel⟩, by decide +kernel⟩, List.mem_filter.mpr ⟨List.mem_of_getElem? (i := 885) (by decide +kernel), by decide +kernel⟩, List.mem_filter.mpr ⟨List.mem_of_getElem? (i := 886) (by decide +kernel), by decide +kernel⟩⟩
theorem oX9_takes : VOk kX9_takes 2 := ⟨⟨List.mem_filter.mpr ⟨List.mem_of_getElem? (i := 913) (by decide +kernel), by decide +kernel⟩, qini_X9, ⟨by decide +kernel, by decide +kernel, by decide +kernel⟩, by decide +kernel⟩, List.mem_filter.mpr ⟨List.mem_of_getElem? (i := 912) (by decide +kernel), by decide +kernel⟩, List.mem_filter.mpr ⟨List.mem_of_getElem? (i := 25) (by decide +kernel), by decide +kernel⟩⟩
theorem oX9_confirm : VOk kX9_confirm 1 := ⟨⟨List.mem_filter.mpr ⟨List.mem_of_getElem? (i := 909) (by decide +kernel), by decide +kernel⟩, qini_X9, ⟨by decide +kernel, by decide +kernel, by decide +kernel⟩, by decide +kernel⟩, List.mem_filter.mpr ⟨List.mem_of_getElem? (i := 907) (by decide +kernel), by decide +kernel⟩, List.mem_filter.mpr ⟨List.mem_of_getElem? (i := 908) (by decide +kernel), by decide +kernel⟩⟩
theorem oX9_goBack : VOk kX9_goBack 1 := ⟨⟨List.mem_filter.mpr ⟨List.mem_of_getElem? (i := 917) (by decide +kernel), by decide +kernel⟩, qini_X9, ⟨by decide +kernel, by decide +kernel, by decide +kernel⟩, by decide +kernel⟩, List.mem_filter.mpr ⟨List.mem_of_getElem? (i := 915) (by decide +kernel), by decide +kernel⟩, List.mem_filter.mpr ⟨List.mem_of_getElem? (i := 916) (by decide +kernel), by decide +kernel⟩⟩
theorem oX9_beginAnew : VOk kX9_beginAnew 1 := ⟨⟨List.mem_filter.mpr ⟨List.mem_of_getElem? (i := 921) (by decide +kernel), by decide +kernel⟩, qini_X9, ⟨by decide +kernel, by decide +kernel, by decide +kernel⟩, by decide +kernel⟩, List.mem_filter.mpr ⟨List.mem_of_getElem? (i := 919) (by decide +kernel), by decide +kernel⟩, List.mem_filter.mpr ⟨List.mem_of_getElem? (i := 920) (by decide +kernel), by decide +kernel⟩⟩
theorem oX9_mayLoad : VOk kX9_mayLoad 2 := ⟨⟨List.mem_filter.mpr ⟨List.mem_of_getElem? (i := 929) (by decide +kernel), by decide +kernel⟩, qini_X9, ⟨by decide +kernel, by decide +kernel, by decide +kernel⟩, by decide +kernel⟩, List.mem_filter.mpr ⟨List.mem_of_getElem? (i := 928) (by decide +kernel), by decide +kernel⟩, List.mem_filter.mpr ⟨List.mem_of_getElem? (i := 26) (by decide +kernel), by decide +kernel⟩⟩
theorem oX9_loads : VOk kX9_loads 2 := ⟨⟨List.mem_filter.mpr ⟨List.mem_of_getElem? (i := 937) (by decide +kernel), by decide +kernel⟩, qini_X9, ⟨by decide +kernel, by decide +kernel, by decide +kernel⟩, by decide +kernel⟩, List.mem_filter.mpr ⟨List.mem_of_getElem? (i := 936) (by decide +kernel), by decide +kernel⟩, List.mem_filter.mpr ⟨List.mem_of_getElem? (i := 28) (by decide +kernel), by decide +kernel⟩⟩
theorem oX9_load : VOk kX9_load 2 := ⟨⟨List.mem_filter.mpr ⟨List.mem_of_getElem? (i := 925) (by decide +kernel), by decide +kernel⟩, qini_X9, ⟨by decide +kernel, by decide +kernel, by decide +kernel⟩, by decide +kernel⟩, List.mem_filter.mpr ⟨List.mem_of_getElem? (i := 923) (by decide +kernel), by decide +kernel⟩, List.mem_filter.mpr ⟨List.mem_of_getElem? (i := 924) (by decide +kernel), by decide +kernel⟩⟩
theorem oX9_table : VOk kX9_table 1 := ⟨⟨List.mem_filter.mpr ⟨List.mem_of_getElem? (i := 941) (by decide +kernel), by decide +kernel⟩, qini_X9, ⟨by decide +kernel, by decide +kernel, by decide +kernel⟩, by decide +kernel⟩, List.mem_filter.mpr ⟨List.mem_of_getElem? (i := 939) (by decide +kernel), by decide +kernel⟩, List.mem_filter.mpr ⟨List.mem_of_getElem? (i := 940) (by decide +kernel), by decide +kernel⟩⟩
theorem oX9_view : VOk kX9_view 2 := ⟨⟨List.mem_filter.mpr ⟨List.mem_of_getElem? (i := 945) (by decide +kernel), by decide +kernel⟩, qini_X9, ⟨by decide +kernel, by decide +kernel, by decide +kernel⟩, by decide +kernel⟩, List.mem_filter.mpr ⟨List.mem_of_getElem? (i := 943) (by decide +kernel), by decide +kernel⟩, List.mem_filter.mpr ⟨List.mem_of_getElem? (i := 944) (by decide +kernel), by decide +kernel⟩⟩
theorem oX9_entry : VOk kX9_entry 2 := ⟨⟨List.mem_filter.mpr ⟨List.mem_of_getElem? (i := 949) (by decide +kernel), by decide +kernel⟩, qini_X9, ⟨by decide +kernel, by decide +kernel, by decide +kernel⟩, by decide +kernel⟩, List.mem_filter.mpr ⟨List.mem_of_getElem? (i := 947) (by decide +kernel), by decide +kernel⟩, List.mem_filter.mpr ⟨List.mem_of_getElem? (i := 948) (by decide +kernel), by decide +kernel⟩⟩
theorem oX9_unlike : VOk kX9_unlike 1 := ⟨⟨List.mem_filter.mpr ⟨List.mem_of_getElem? (i := 961) (by decide +kernel), by decide +kernel⟩, qini_X9, ⟨by decide +kernel, by decide +kernel, by decide +kernel⟩, by decide +kernel⟩, List.mem_filter.mpr ⟨List.mem_of_getElem? (i := 960) (by decide +kernel), by decide +kernel⟩, List.mem_filter.mpr ⟨List.mem_of_getElem? (i := 30) (by decide +kernel), by decide +kernel⟩⟩
theorem oX9_ofReader : VOk kX9_ofReader 2 := ⟨⟨List.mem_filter.mpr ⟨List.mem_of_getElem? (i := 953) (by decide +kernel), by decide +kernel⟩, qini_X9, ⟨by decide +kernel, by decide +kernel, by decide +kernel⟩, by decide +kernel⟩, List.mem_filter.mpr ⟨List.mem_of_getElem? (i := 951) (by decide +kernel), by decide +kernel⟩, List.mem_filter.mpr ⟨List.mem_of_getElem? (i := 952) (by decide +kernel), by decide +kernel⟩⟩
theorem oX9_valued : VOk kX9_valued 1 := ⟨⟨List.mem_filter.mpr ⟨List.mem_of_getElem? (i := 969) (by decide +kernel), by decide +kernel⟩, qini_X9, ⟨by decide +kernel, by decide +kernel, by decide +kernel⟩, by decide +kernel⟩, List.mem_filter.mpr ⟨List.mem_of_getElem? (i := 968) (by decide +kernel), by decide +kernel⟩, List.mem_filter.mpr ⟨List.mem_of_getElem? (i := 31) (by decide +kernel), by decide +kernel⟩⟩
theorem oX9_ofSnapshot : VOk kX9_ofSnapshot 2 := ⟨⟨List.mem_filter.mpr ⟨List.mem_of_getElem? (i := 965) (by decide +kernel), by decide +kernel⟩, qini_X9, ⟨by decide +kernel, by decide +kernel, by decide +kernel⟩, by decide +kernel⟩, List.mem_filter.mpr ⟨List.mem_of_getElem? (i := 963) (by decide +kernel), by decide +kernel⟩, List.mem_filter.mpr ⟨List.mem_of_getElem? (i := 964) (by decide +kernel), by decide +kernel⟩⟩
theorem oX9_count : VOk kX9_count 1 := ⟨⟨List.mem_filter.mpr ⟨List.mem_of_getElem? (i := 973) (by decide +kernel), by decide +kernel⟩, qini_X9, ⟨by decide +kernel, by decide +kernel, by decide +kernel⟩, by decide +kernel⟩, List.mem_filter.mpr ⟨List.mem_of_getElem? (i := 971) (by decide +kernel), by decide +kernel⟩, List.mem_filter.mpr ⟨List.mem_of_getElem? (i := 972) (by decide +kernel), by decide +kernel⟩⟩
theorem oX9_thinsThen : VOk kX9_thinsThen 1 := ⟨⟨List.mem_filter.mpr ⟨List.mem_of_getElem? (i := 984) (by decide +kernel), by decide +kernel⟩, qini_X9, ⟨by decide +kernel, by decide +kernel, by decide +kernel⟩, by decide +kernel⟩, List.mem_filter.mpr ⟨List.mem_of_getElem? (i := 983) (by decide +kernel), by decide +kernel⟩, List.mem_filter.mpr ⟨List.mem_of_getElem? (i := 32) (by decide +kernel), by decide +kernel⟩⟩
theorem oX9_leftIn : VOk kX9_leftIn 1 := ⟨⟨List.mem_filter.mpr ⟨List.mem_of_getElem? (i := 980) (by decide +kernel), by decide +kernel⟩, qini_X9, ⟨by decide +kernel, by decide +kernel, by decide +kernel⟩, by decide +kernel⟩, List.mem_filter.mpr ⟨List.mem_of_getElem? (i := 978) (by decide +kernel), by decide +kernel⟩, List.mem_filter.mpr ⟨List.mem_of_getElem? (i := 979) (by decide +kernel), by decide +kernel⟩⟩
theorem oX9_lateIn : VOk kX9_lateIn 1 := ⟨⟨List.mem_filter.mpr ⟨List.mem_of_getElem? (i := 988) (by decide +kernel), by decide +kernel⟩, qini_X9, ⟨by decide +kernel, by decide +kernel, by decide +kernel⟩, by decide +kernel⟩, List.mem_filter.mpr ⟨List.mem_of_getElem? (i := 986) (by decide +kernel), by decide +kernel⟩, List.mem_filter.mpr ⟨List.mem_of_getElem? (i := 987) (by decide +kernel), by decide +kernel⟩⟩
theorem oX9_shortest : VOk kX9_shortest 2 := ⟨⟨List.mem_filter.mpr ⟨List.mem_of_getElem? (i := 992) (by decide +kernel), by decide +kernel⟩, qini_X9, ⟨by decide +kernel, by decide +kernel, by decide +kernel⟩, by decide +kernel⟩, List.mem_filter.mpr ⟨List.mem_of_getElem? (i := 990) (by decide +kernel), by decide +kernel⟩, List.mem_filter.mpr ⟨List.mem_of_getElem? (i := 991) (by decide +kernel), by decide +kernel⟩⟩
theorem oX9_gentlest : VOk kX9_gentlest 0 := ⟨⟨List.mem_filter.mpr ⟨List.mem_of_getElem? (i := 996) (by decide +kernel), by decide +kernel⟩, qini_X9, ⟨by decide +kernel, by decide +kernel, by decide +kernel⟩, by decide +kernel⟩, List.mem_filter.mpr ⟨List.mem_of_getElem? (i := 994) (by decide +kernel), by decide +kernel⟩, List.mem_filter.mpr ⟨List.mem_of_getElem? (i := 995) (by decide +kernel), by decide +kernel⟩⟩
theorem oX9_byteOf : SOk kX9_byteOf 2 := ⟨⟨List.mem_filter.mpr ⟨List.mem_of_getElem? (i := 1006) (by decide +kernel), by decide +kernel⟩, qini_X9, ⟨by decide +kernel, by decide +kernel, by decide +kernel⟩, by decide +kernel⟩, List.mem_filter.mpr ⟨List.mem_of_getElem? (i := 1005) (by decide +kernel), by decide +kernel⟩⟩
theorem oX9_toldBy : SOk kX9_toldBy 1 := ⟨⟨List.mem_filter.mpr ⟨List.mem_of_getElem? (i := 1003) (by decide +kernel), by decide +kernel⟩, qini_X9, ⟨by decide +kernel, by decide +kernel, by decide +kernel⟩, by decide +kernel⟩, List.mem_filter.mpr ⟨List.mem_of_getElem? (i := 1002) (by decide +kernel), by decide +kernel⟩⟩
theorem oX9_put : VOk kX9_put 1 := ⟨⟨List.mem_filter.mpr ⟨List.mem_of_getElem? (i := 1000) (by decide +kernel), by decide +kernel⟩, qini_X9, ⟨by decide +kernel, by decide +kernel, by decide +kernel⟩, by decide +kernel⟩, List.mem_filter.mpr ⟨List.mem_of_getElem? (i := 998) (by decide +kernel), by decide +kernel⟩, List.mem_filter.mpr ⟨List.mem_of_getElem? (i := 999) (by decide +kernel), by decide +kernel⟩⟩
theorem oX9_wipe : VOk kX9_wipe 0 := ⟨⟨List.mem_filter.mpr ⟨List.mem_of_getElem? (i := 1011) (by decide +kernel), by decide +kernel⟩, qini_X9, ⟨by decide +kernel, by decide +kernel, by decide +kernel⟩, by decide +kernel⟩, List.mem_filter.mpr ⟨List.mem_of_getElem? (i := 1009) (by decide +kernel), by decide +kernel⟩, List.mem_filter.mpr ⟨List.mem_of_getElem? (i := 1010) (by decide +kernel), by decide +kernel⟩⟩
theorem oX9_isAt : VOk kX9_isAt 2 := ⟨⟨List.mem_filter.mpr ⟨List.mem_of_getElem? (i := 1031) (by decide +kernel), by decide +kernel⟩, qini_X9, ⟨by decide +kernel, by decide +kernel, by decide +kernel⟩, by decide +kernel⟩, List.mem_filter.mpr ⟨List.mem_of_getElem? (i := 1030) (by decide +kernel), by decide +kernel⟩, List.mem_filter.mpr ⟨List.mem_of_getElem? (i := 36) (by decide +kernel), by decide +kernel⟩⟩
theorem oX9_isSign : VOk kX9_isSign 1 := ⟨⟨List.mem_filter.mpr ⟨List.mem_of_getElem? (i := 1035) (by decide +kernel), by decide +kernel⟩, qini_X9, ⟨by decide +kernel, by decide +kernel, by decide +kernel⟩, by decide +kernel⟩, List.mem_filter.mpr ⟨List.mem_of_getElem? (i := 1034) (by decide +kernel), by decide +kernel⟩, List.mem_filter.mpr ⟨List.mem_of_getElem? (i := 37) (by decide +kernel), by decide +kernel⟩⟩
theorem oX9_isDigit : VOk kX9_isDigit 2 := ⟨⟨List.mem_filter.mpr ⟨List.mem_of_getElem? (i := 1039) (by decide +kernel), by decide +kernel⟩, qini_X9, ⟨by decide +kernel, by decide +kernel, by decide +kernel⟩, by decide +kernel⟩, List.mem_filter.mpr ⟨List.mem_of_getElem? (i := 1038) (by decide +kernel), by decide +kernel⟩, List.mem_filter.mpr ⟨List.mem_of_getElem? (i := 38) (by decide +kernel), by decide +kernel⟩⟩
theorem oX9_isNumber : VOk kX9_isNumber 1 := ⟨⟨List.mem_filter.mpr ⟨List.mem_of_getElem? (i := 1027) (by decide +kernel), by decide +kernel⟩, qini_X9, ⟨by decide +kernel, by decide +kernel, by decide +kernel⟩, by decide +kernel⟩, List.mem_filter.mpr ⟨List.mem_of_getElem? (i := 1026) (by decide +kernel), by decide +kernel⟩, List.mem_filter.mpr ⟨List.mem_of_getElem? (i := 35) (by decide +kernel), by decide +kernel⟩⟩
theorem oX9_isOrder : VOk kX9_isOrder 0 := ⟨⟨List.mem_filter.mpr ⟨List.mem_of_getElem? (i := 1023) (by decide +kernel), by decide +kernel⟩, qini_X9, ⟨by decide +kernel, by decide +kernel, by decide +kernel⟩, by decide +kernel⟩, List.mem_filter.mpr ⟨List.mem_of_getElem? (i := 1022) (by decide +kernel), by decide +kernel⟩, List.mem_filter.mpr ⟨List.mem_of_getElem? (i := 34) (by decide +kernel), by decide +kernel⟩⟩
theorem oX9_isText : VOk kX9_isText 0 := ⟨⟨List.mem_filter.mpr ⟨List.mem_of_getElem? (i := 1019) (by decide +kernel), by decide +kernel⟩, qini_X9, ⟨by decide +kernel, by decide +kernel, by decide +kernel⟩, by decide +kernel⟩, List.mem_filter.mpr ⟨List.mem_of_getElem? (i := 1018) (by decide +kernel), by decide +kernel⟩, List.mem_filter.mpr ⟨List.mem_of_getElem? (i := 33) (by decide +kernel), by decide +kernel⟩⟩
theorem oX9_fault : VOk kX9_fault 0 := ⟨⟨List.mem_filter.mpr ⟨List.mem_of_getElem? (i := 1015) (by decide +kernel), by decide +kernel⟩, qini_X9, ⟨by decide +kernel, by decide +kernel, by decide +kernel⟩, by decide +kernel⟩, List.mem_filter.mpr ⟨List.mem_of_getElem? (i := 1013) (by decide +kernel), by decide +kernel⟩, List.mem_filter.mpr ⟨List.mem_of_getElem? (i := 1014) (by decide +kernel), by decide +kernel⟩⟩
theorem oX9_mayDo : VOk kX9_mayDo 3 := ⟨⟨List.mem_filter.mpr ⟨List.mem_of_getElem? (i := 1051) (by decide +kernel), by decide +kernel⟩, qini_X9, ⟨by decide +kernel, by decide +kernel, by decide +kernel⟩, by decide +kernel⟩, List.mem_filter.mpr ⟨List.mem_of_getElem? (i := 1050) (by decide +kernel), by decide +kernel⟩, List.mem_filter.mpr ⟨List.mem_of_getElem? (i := 40) (by decide +kernel), by decide +kernel⟩⟩
theorem oX9_does : VOk kX9_does 1 := ⟨⟨List.mem_filter.mpr ⟨List.mem_of_getElem? (i := 1047) (by decide +kernel), by decide +kernel⟩, qini_X9, ⟨by decide +kernel, by decide +kernel, by decide +kernel⟩, by decide +kernel⟩, List.mem_filter.mpr ⟨List.mem_of_getElem? (i := 1046) (by decide +kernel), by decide +kernel⟩, List.mem_filter.mpr ⟨List.mem_of_getElem? (i := 39) (by decide +kernel), by decide +kernel⟩⟩
theorem oX9_carryOut : VOk kX9_carryOut 0 := ⟨⟨List.mem_filter.mpr ⟨List.mem_of_getElem? (i := 1043) (by decide +kernel), by decide +kernel⟩, qini_X9, ⟨by decide +kernel, by decide +kernel, by decide +kernel⟩, by decide +kernel⟩, List.mem_filter.mpr ⟨List.mem_of_getElem? (i := 1041) (by decide +kernel), by decide +kernel⟩, List.mem_filter.mpr ⟨List.mem_of_getElem? (i := 1042) (by decide +kernel), by decide +kernel⟩⟩
theorem qoi_inst : Cond.instanceMethod objectInit ∈ lwT := List.mem_filter.mpr ⟨List.mem_of_getElem? (i := 59) (by decide +kernel), by decide +kernel⟩
theorem qoi_code : Cond.code objectInit ⟨#[0xb1]⟩ 1 none ∈ lwT := List.mem_filter.mpr ⟨List.mem_of_getElem? (i := 60) (by decide +kernel), by decide +kernel⟩
theorem qmax_st : Cond.static Lib.Math.max.name ∈ lwT := List.mem_filter.mpr ⟨List.mem_of_getElem? (i := 443) (by decide +kernel), by decide +kernel⟩
theorem qmax_code : Cond.code Lib.Math.max.name Lib.Math.max.code 2 (some .int) ∈ lwT := List.mem_filter.mpr ⟨List.mem_of_getElem? (i := 444) (by decide +kernel), by decide +kernel⟩
theorem qmin_st : Cond.static Lib.Math.min.name ∈ lwT := List.mem_filter.mpr ⟨List.mem_of_getElem? (i := 506) (by decide +kernel), by decide +kernel⟩
theorem qmin_code : Cond.code Lib.Math.min.name Lib.Math.min.code 2 (some .int) ∈ lwT := List.mem_filter.mpr ⟨List.mem_of_getElem? (i := 507) (by decide +kernel), by decide +kernel⟩
end
section
theorem dX0_init_0 : decode cX0_init 0 = .ok (.aload_n 0, 1) := by decide +kernel
theorem dX0_init_1 : decode cX0_init 1 = .ok (.invokespecial 3, 3) := by decide +kernel
theorem dX0_init_4 : decode cX0_init 4 = .ok (.aload_n 0, 1) := by decide +kernel
theorem dX0_init_5 : decode cX0_init 5 = .ok (.bipush 60, 2) := by decide +kernel
theorem dX0_init_7 : decode cX0_init 7 = .ok (.newarray .int, 2) := by decide +kernel
theorem dX0_init_9 : decode cX0_init 9 = .ok (.putfield 9, 3) := by decide +kernel
theorem dX0_init_12 : decode cX0_init 12 = .ok (.aload_n 0, 1) := by decide +kernel
theorem dX0_init_13 : decode cX0_init 13 = .ok (.bipush 60, 2) := by decide +kernel
theorem dX0_init_15 : decode cX0_init 15 = .ok (.newarray .int, 2) := by decide +kernel
theorem dX0_init_17 : decode cX0_init 17 = .ok (.putfield 15, 3) := by decide +kernel
theorem dX0_init_20 : decode cX0_init 20 = .ok (.aload_n 0, 1) := by decide +kernel
theorem dX0_init_21 : decode cX0_init 21 = .ok (.bipush 60, 2) := by decide +kernel
theorem dX0_init_23 : decode cX0_init 23 = .ok (.newarray .int, 2) := by decide +kernel
theorem dX0_init_25 : decode cX0_init 25 = .ok (.putfield 18, 3) := by decide +kernel
theorem dX0_init_28 : decode cX0_init 28 = .ok (.aload_n 0, 1) := by decide +kernel
theorem dX0_init_29 : decode cX0_init 29 = .ok (.bipush 60, 2) := by decide +kernel
theorem dX0_init_31 : decode cX0_init 31 = .ok (.newarray .int, 2) := by decide +kernel
theorem dX0_init_33 : decode cX0_init 33 = .ok (.putfield 21, 3) := by decide +kernel
theorem dX0_init_36 : decode cX0_init 36 = .ok (.aload_n 0, 1) := by decide +kernel
theorem dX0_init_37 : decode cX0_init 37 = .ok (.iconst 0, 1) := by decide +kernel
theorem dX0_init_38 : decode cX0_init 38 = .ok (.putfield 24, 3) := by decide +kernel
theorem dX0_init_41 : decode cX0_init 41 = .ok (.aload_n 0, 1) := by decide +kernel
theorem dX0_init_42 : decode cX0_init 42 = .ok (.iconst 0, 1) := by decide +kernel
theorem dX0_init_43 : decode cX0_init 43 = .ok (.putfield 28, 3) := by decide +kernel
theorem dX0_init_46 : decode cX0_init 46 = .ok (.aload_n 0, 1) := by decide +kernel
theorem dX0_init_47 : decode cX0_init 47 = .ok (.iconst 0, 1) := by decide +kernel
theorem dX0_init_48 : decode cX0_init 48 = .ok (.putfield 31, 3) := by decide +kernel
theorem dX0_init_51 : decode cX0_init 51 = .ok (.aload_n 0, 1) := by decide +kernel
theorem dX0_init_52 : decode cX0_init 52 = .ok (.iconst 0, 1) := by decide +kernel
theorem dX0_init_53 : decode cX0_init 53 = .ok (.putfield 34, 3) := by decide +kernel
theorem dX0_init_56 : decode cX0_init 56 = .ok (.return_, 1) := by decide +kernel
theorem dX0_copyFrom_0 : decode cX0_copyFrom 0 = .ok (.aload_n 1, 1) := by decide +kernel
theorem dX0_copyFrom_1 : decode cX0_copyFrom 1 = .ok (.getfield 9, 3) := by decide +kernel
theorem dX0_copyFrom_4 : decode cX0_copyFrom 4 = .ok (.aload_n 0, 1) := by decide +kernel
theorem dX0_copyFrom_5 : decode cX0_copyFrom 5 = .ok (.getfield 9, 3) := by decide +kernel
theorem dX0_copyFrom_8 : decode cX0_copyFrom 8 = .ok (.invokestatic 37, 3) := by decide +kernel
theorem dX0_copyFrom_11 : decode cX0_copyFrom 11 = .ok (.aload_n 1, 1) := by decide +kernel
theorem dX0_copyFrom_12 : decode cX0_copyFrom 12 = .ok (.getfield 15, 3) := by decide +kernel
theorem dX0_copyFrom_15 : decode cX0_copyFrom 15 = .ok (.aload_n 0, 1) := by decide +kernel
theorem dX0_copyFrom_16 : decode cX0_copyFrom 16 = .ok (.getfield 15, 3) := by decide +kernel
theorem dX0_copyFrom_19 : decode cX0_copyFrom 19 = .ok (.invokestatic 37, 3) := by decide +kernel
theorem dX0_copyFrom_22 : decode cX0_copyFrom 22 = .ok (.aload_n 1, 1) := by decide +kernel
theorem dX0_copyFrom_23 : decode cX0_copyFrom 23 = .ok (.getfield 18, 3) := by decide +kernel
theorem dX0_copyFrom_26 : decode cX0_copyFrom 26 = .ok (.aload_n 0, 1) := by decide +kernel
theorem dX0_copyFrom_27 : decode cX0_copyFrom 27 = .ok (.getfield 18, 3) := by decide +kernel
theorem dX0_copyFrom_30 : decode cX0_copyFrom 30 = .ok (.invokestatic 37, 3) := by decide +kernel
theorem dX0_copyFrom_33 : decode cX0_copyFrom 33 = .ok (.aload_n 1, 1) := by decide +kernel
theorem dX0_copyFrom_34 : decode cX0_copyFrom 34 = .ok (.getfield 21, 3) := by decide +kernel
theorem dX0_copyFrom_37 : decode cX0_copyFrom 37 = .ok (.aload_n 0, 1) := by decide +kernel
theorem dX0_copyFrom_38 : decode cX0_copyFrom 38 = .ok (.getfield 21, 3) := by decide +kernel
theorem dX0_copyFrom_41 : decode cX0_copyFrom 41 = .ok (.invokestatic 37, 3) := by decide +kernel
theorem dX0_copyFrom_44 : decode cX0_copyFrom 44 = .ok (.aload_n 0, 1) := by decide +kernel
theorem dX0_copyFrom_45 : decode cX0_copyFrom 45 = .ok (.aload_n 1, 1) := by decide +kernel
theorem dX0_copyFrom_46 : decode cX0_copyFrom 46 = .ok (.getfield 24, 3) := by decide +kernel
theorem dX0_copyFrom_49 : decode cX0_copyFrom 49 = .ok (.putfield 24, 3) := by decide +kernel
theorem dX0_copyFrom_52 : decode cX0_copyFrom 52 = .ok (.aload_n 0, 1) := by decide +kernel
theorem dX0_copyFrom_53 : decode cX0_copyFrom 53 = .ok (.aload_n 1, 1) := by decide +kernel
theorem dX0_copyFrom_54 : decode cX0_copyFrom 54 = .ok (.getfield 28, 3) := by decide +kernel
theorem dX0_copyFrom_57 : decode cX0_copyFrom 57 = .ok (.putfield 28, 3) := by decide +kernel
theorem dX0_copyFrom_60 : decode cX0_copyFrom 60 = .ok (.aload_n 0, 1) := by decide +kernel
theorem dX0_copyFrom_61 : decode cX0_copyFrom 61 = .ok (.aload_n 1, 1) := by decide +kernel
theorem dX0_copyFrom_62 : decode cX0_copyFrom 62 = .ok (.getfield 31, 3) := by decide +kernel
theorem dX0_copyFrom_65 : decode cX0_copyFrom 65 = .ok (.putfield 31, 3) := by decide +kernel
theorem dX0_copyFrom_68 : decode cX0_copyFrom 68 = .ok (.aload_n 0, 1) := by decide +kernel
theorem dX0_copyFrom_69 : decode cX0_copyFrom 69 = .ok (.aload_n 1, 1) := by decide +kernel
theorem dX0_copyFrom_70 : decode cX0_copyFrom 70 = .ok (.getfield 34, 3) := by decide +kernel
theorem dX0_copyFrom_73 : decode cX0_copyFrom 73 = .ok (.putfield 34, 3) := by decide +kernel
theorem dX0_copyFrom_76 : decode cX0_copyFrom 76 = .ok (.return_, 1) := by decide +kernel
theorem dX0_numberAt_0 : decode cX0_numberAt 0 = .ok (.aload_n 0, 1) := by decide +kernel
theorem dX0_numberAt_1 : decode cX0_numberAt 1 = .ok (.getfield 9, 3) := by decide +kernel
theorem dX0_numberAt_4 : decode cX0_numberAt 4 = .ok (.iload_n 1, 1) := by decide +kernel
theorem dX0_numberAt_5 : decode cX0_numberAt 5 = .ok (.invokestatic 41, 3) := by decide +kernel
theorem dX0_numberAt_8 : decode cX0_numberAt 8 = .ok (.ireturn, 1) := by decide +kernel
theorem dX0_keyAt_0 : decode cX0_keyAt 0 = .ok (.aload_n 0, 1) := by decide +kernel
theorem dX0_keyAt_1 : decode cX0_keyAt 1 = .ok (.getfield 15, 3) := by decide +kernel
theorem dX0_keyAt_4 : decode cX0_keyAt 4 = .ok (.iload_n 1, 1) := by decide +kernel
theorem dX0_keyAt_5 : decode cX0_keyAt 5 = .ok (.invokestatic 41, 3) := by decide +kernel
theorem dX0_keyAt_8 : decode cX0_keyAt 8 = .ok (.ireturn, 1) := by decide +kernel
theorem dX0_valueAt_0 : decode cX0_valueAt 0 = .ok (.aload_n 0, 1) := by decide +kernel
theorem dX0_valueAt_1 : decode cX0_valueAt 1 = .ok (.getfield 18, 3) := by decide +kernel
theorem dX0_valueAt_4 : decode cX0_valueAt 4 = .ok (.iload_n 1, 1) := by decide +kernel
theorem dX0_valueAt_5 : decode cX0_valueAt 5 = .ok (.invokestatic 41, 3) := by decide +kernel
theorem dX0_valueAt_8 : decode cX0_valueAt 8 = .ok (.ireturn, 1) := by decide +kernel
theorem dX0_minuteAt_0 : decode cX0_minuteAt 0 = .ok (.aload_n 0, 1) := by decide +kernel
theorem dX0_minuteAt_1 : decode cX0_minuteAt 1 = .ok (.getfield 21, 3) := by decide +kernel
theorem dX0_minuteAt_4 : decode cX0_minuteAt 4 = .ok (.iload_n 1, 1) := by decide +kernel
theorem dX0_minuteAt_5 : decode cX0_minuteAt 5 = .ok (.invokestatic 41, 3) := by decide +kernel
theorem dX0_minuteAt_8 : decode cX0_minuteAt 8 = .ok (.ireturn, 1) := by decide +kernel
theorem dX0_isFull_0 : decode cX0_isFull 0 = .ok (.aload_n 0, 1) := by decide +kernel
theorem dX0_isFull_1 : decode cX0_isFull 1 = .ok (.getfield 24, 3) := by decide +kernel
theorem dX0_isFull_4 : decode cX0_isFull 4 = .ok (.bipush 60, 2) := by decide +kernel
theorem dX0_isFull_6 : decode cX0_isFull 6 = .ok (.if_icmp .lt 7, 3) := by decide +kernel
theorem dX0_isFull_9 : decode cX0_isFull 9 = .ok (.iconst 1, 1) := by decide +kernel
theorem dX0_isFull_10 : decode cX0_isFull 10 = .ok (.goto 4, 3) := by decide +kernel
theorem dX0_isFull_13 : decode cX0_isFull 13 = .ok (.iconst 0, 1) := by decide +kernel
theorem dX0_isFull_14 : decode cX0_isFull 14 = .ok (.ireturn, 1) := by decide +kernel
theorem dX0_append_0 : decode cX0_append 0 = .ok (.aload_n 0, 1) := by decide +kernel
theorem dX0_append_1 : decode cX0_append 1 = .ok (.getfield 28, 3) := by decide +kernel
theorem dX0_append_4 : decode cX0_append 4 = .ok (.istore 4, 2) := by decide +kernel
theorem dX0_append_6 : decode cX0_append 6 = .ok (.aload_n 0, 1) := by decide +kernel
theorem dX0_append_7 : decode cX0_append 7 = .ok (.aload_n 0, 1) := by decide +kernel
theorem dX0_append_8 : decode cX0_append 8 = .ok (.getfield 24, 3) := by decide +kernel
theorem dX0_append_11 : decode cX0_append 11 = .ok (.iload 4, 2) := by decide +kernel
theorem dX0_append_13 : decode cX0_append 13 = .ok (.iload_n 1, 1) := by decide +kernel
theorem dX0_append_14 : decode cX0_append 14 = .ok (.iload_n 2, 1) := by decide +kernel
theorem dX0_append_15 : decode cX0_append 15 = .ok (.iload_n 3, 1) := by decide +kernel
theorem dX0_append_16 : decode cX0_append 16 = .ok (.invokevirtual 45, 3) := by decide +kernel
theorem dX0_append_19 : decode cX0_append 19 = .ok (.aload_n 0, 1) := by decide +kernel
theorem dX0_append_20 : decode cX0_append 20 = .ok (.dup, 1) := by decide +kernel
theorem dX0_append_21 : decode cX0_append 21 = .ok (.getfield 24, 3) := by decide +kernel
theorem dX0_append_24 : decode cX0_append 24 = .ok (.iconst 1, 1) := by decide +kernel
theorem dX0_append_25 : decode cX0_append 25 = .ok (.iadd, 1) := by decide +kernel
theorem dX0_append_26 : decode cX0_append 26 = .ok (.putfield 24, 3) := by decide +kernel
theorem dX0_append_29 : decode cX0_append 29 = .ok (.aload_n 0, 1) := by decide +kernel
theorem dX0_append_30 : decode cX0_append 30 = .ok (.dup, 1) := by decide +kernel
theorem dX0_append_31 : decode cX0_append 31 = .ok (.getfield 28, 3) := by decide +kernel
theorem dX0_append_34 : decode cX0_append 34 = .ok (.iconst 1, 1) := by decide +kernel
theorem dX0_append_35 : decode cX0_append 35 = .ok (.iadd, 1) := by decide +kernel
theorem dX0_append_36 : decode cX0_append 36 = .ok (.putfield 28, 3) := by decide +kernel
theorem dX0_append_39 : decode cX0_append 39 = .ok (.iload 4, 2) := by decide +kernel
theorem dX0_append_41 : decode cX0_append 41 = .ok (.ireturn, 1) := by decide +kernel
theorem dX0_layEntry_0 : decode cX0_layEntry 0 = .ok (.aload_n 0, 1) := by decide +kernel
theorem dX0_layEntry_1 : decode cX0_layEntry 1 = .ok (.getfield 9, 3) := by decide +kernel
theorem dX0_layEntry_4 : decode cX0_layEntry 4 = .ok (.iload_n 1, 1) := by decide +kernel
theorem dX0_layEntry_5 : decode cX0_layEntry 5 = .ok (.iload_n 2, 1) := by decide +kernel
theorem dX0_layEntry_6 : decode cX0_layEntry 6 = .ok (.invokestatic 49, 3) := by decide +kernel
theorem dX0_layEntry_9 : decode cX0_layEntry 9 = .ok (.aload_n 0, 1) := by decide +kernel
theorem dX0_layEntry_10 : decode cX0_layEntry 10 = .ok (.getfield 15, 3) := by decide +kernel
theorem dX0_layEntry_13 : decode cX0_layEntry 13 = .ok (.iload_n 1, 1) := by decide +kernel
theorem dX0_layEntry_14 : decode cX0_layEntry 14 = .ok (.iload_n 3, 1) := by decide +kernel
theorem dX0_layEntry_15 : decode cX0_layEntry 15 = .ok (.invokestatic 49, 3) := by decide +kernel
theorem dX0_layEntry_18 : decode cX0_layEntry 18 = .ok (.aload_n 0, 1) := by decide +kernel
theorem dX0_layEntry_19 : decode cX0_layEntry 19 = .ok (.getfield 18, 3) := by decide +kernel
theorem dX0_layEntry_22 : decode cX0_layEntry 22 = .ok (.iload_n 1, 1) := by decide +kernel
theorem dX0_layEntry_23 : decode cX0_layEntry 23 = .ok (.iload 4, 2) := by decide +kernel
theorem dX0_layEntry_25 : decode cX0_layEntry 25 = .ok (.invokestatic 49, 3) := by decide +kernel
theorem dX0_layEntry_28 : decode cX0_layEntry 28 = .ok (.aload_n 0, 1) := by decide +kernel
theorem dX0_layEntry_29 : decode cX0_layEntry 29 = .ok (.getfield 21, 3) := by decide +kernel
theorem dX0_layEntry_32 : decode cX0_layEntry 32 = .ok (.iload_n 1, 1) := by decide +kernel
theorem dX0_layEntry_33 : decode cX0_layEntry 33 = .ok (.iload 5, 2) := by decide +kernel
theorem dX0_layEntry_35 : decode cX0_layEntry 35 = .ok (.invokestatic 49, 3) := by decide +kernel
theorem dX0_layEntry_38 : decode cX0_layEntry 38 = .ok (.return_, 1) := by decide +kernel
theorem dX0_firstFrom_0 : decode cX0_firstFrom 0 = .ok (.iconst 0, 1) := by decide +kernel
theorem dX0_firstFrom_1 : decode cX0_firstFrom 1 = .ok (.istore_n 2, 1) := by decide +kernel
theorem dX0_firstFrom_2 : decode cX0_firstFrom 2 = .ok (.iload_n 2, 1) := by decide +kernel
theorem dX0_firstFrom_3 : decode cX0_firstFrom 3 = .ok (.aload_n 0, 1) := by decide +kernel
theorem dX0_firstFrom_4 : decode cX0_firstFrom 4 = .ok (.getfield 24, 3) := by decide +kernel
theorem dX0_firstFrom_7 : decode cX0_firstFrom 7 = .ok (.if_icmp .ge 23, 3) := by decide +kernel
theorem dX0_firstFrom_10 : decode cX0_firstFrom 10 = .ok (.aload_n 0, 1) := by decide +kernel
theorem dX0_firstFrom_11 : decode cX0_firstFrom 11 = .ok (.getfield 9, 3) := by decide +kernel
theorem dX0_firstFrom_14 : decode cX0_firstFrom 14 = .ok (.iload_n 2, 1) := by decide +kernel
theorem dX0_firstFrom_15 : decode cX0_firstFrom 15 = .ok (.invokestatic 41, 3) := by decide +kernel
theorem dX0_firstFrom_18 : decode cX0_firstFrom 18 = .ok (.iload_n 1, 1) := by decide +kernel
theorem dX0_firstFrom_19 : decode cX0_firstFrom 19 = .ok (.if_icmp .lt 5, 3) := by decide +kernel
theorem dX0_firstFrom_22 : decode cX0_firstFrom 22 = .ok (.iload_n 2, 1) := by decide +kernel
theorem dX0_firstFrom_23 : decode cX0_firstFrom 23 = .ok (.ireturn, 1) := by decide +kernel
theorem dX0_firstFrom_24 : decode cX0_firstFrom 24 = .ok (.iinc 2 1, 3) := by decide +kernel
theorem dX0_firstFrom_27 : decode cX0_firstFrom 27 = .ok (.goto (-25), 3) := by decide +kernel
theorem dX0_firstFrom_30 : decode cX0_firstFrom 30 = .ok (.aload_n 0, 1) := by decide +kernel
theorem dX0_firstFrom_31 : decode cX0_firstFrom 31 = .ok (.getfield 24, 3) := by decide +kernel
theorem dX0_firstFrom_34 : decode cX0_firstFrom 34 = .ok (.ireturn, 1) := by decide +kernel
theorem dX0_aheadOf_0 : decode cX0_aheadOf 0 = .ok (.aload_n 0, 1) := by decide +kernel
theorem dX0_aheadOf_1 : decode cX0_aheadOf 1 = .ok (.getfield 24, 3) := by decide +kernel
theorem dX0_aheadOf_4 : decode cX0_aheadOf 4 = .ok (.aload_n 0, 1) := by decide +kernel
theorem dX0_aheadOf_5 : decode cX0_aheadOf 5 = .ok (.iload_n 1, 1) := by decide +kernel
theorem dX0_aheadOf_6 : decode cX0_aheadOf 6 = .ok (.invokevirtual 53, 3) := by decide +kernel
theorem dX0_aheadOf_9 : decode cX0_aheadOf 9 = .ok (.isub, 1) := by decide +kernel
theorem dX0_aheadOf_10 : decode cX0_aheadOf 10 = .ok (.ireturn, 1) := by decide +kernel
theorem dX0_isLastOfItsKey_0 : decode cX0_isLastOfItsKey 0 = .ok (.iload_n 1, 1) := by decide +kernel
theorem dX0_isLastOfItsKey_1 : decode cX0_isLastOfItsKey 1 = .ok (.iconst 1, 1) := by decide +kernel
theorem dX0_isLastOfItsKey_2 : decode cX0_isLastOfItsKey 2 = .ok (.iadd, 1) := by decide +kernel
theorem dX0_isLastOfItsKey_3 : decode cX0_isLastOfItsKey 3 = .ok (.istore_n 2, 1) := by decide +kernel
theorem dX0_isLastOfItsKey_4 : decode cX0_isLastOfItsKey 4 = .ok (.iload_n 2, 1) := by decide +kernel
theorem dX0_isLastOfItsKey_5 : decode cX0_isLastOfItsKey 5 = .ok (.aload_n 0, 1) := by decide +kernel
theorem dX0_isLastOfItsKey_6 : decode cX0_isLastOfItsKey 6 = .ok (.getfield 24, 3) := by decide +kernel
theorem dX0_isLastOfItsKey_9 : decode cX0_isLastOfItsKey 9 = .ok (.if_icmp .ge 30, 3) := by decide +kernel
theorem dX0_isLastOfItsKey_12 : decode cX0_isLastOfItsKey 12 = .ok (.aload_n 0, 1) := by decide +kernel
theorem dX0_isLastOfItsKey_13 : decode cX0_isLastOfItsKey 13 = .ok (.getfield 15, 3) := by decide +kernel
theorem dX0_isLastOfItsKey_16 : decode cX0_isLastOfItsKey 16 = .ok (.iload_n 2, 1) := by decide +kernel
theorem dX0_isLastOfItsKey_17 : decode cX0_isLastOfItsKey 17 = .ok (.invokestatic 41, 3) := by decide +kernel
theorem dX0_isLastOfItsKey_20 : decode cX0_isLastOfItsKey 20 = .ok (.aload_n 0, 1) := by decide +kernel
theorem dX0_isLastOfItsKey_21 : decode cX0_isLastOfItsKey 21 = .ok (.getfield 15, 3) := by decide +kernel
theorem dX0_isLastOfItsKey_24 : decode cX0_isLastOfItsKey 24 = .ok (.iload_n 1, 1) := by decide +kernel
theorem dX0_isLastOfItsKey_25 : decode cX0_isLastOfItsKey 25 = .ok (.invokestatic 41, 3) := by decide +kernel
theorem dX0_isLastOfItsKey_28 : decode cX0_isLastOfItsKey 28 = .ok (.if_icmp .ne 5, 3) := by decide +kernel
theorem dX0_isLastOfItsKey_31 : decode cX0_isLastOfItsKey 31 = .ok (.iconst 0, 1) := by decide +kernel
theorem dX0_isLastOfItsKey_32 : decode cX0_isLastOfItsKey 32 = .ok (.ireturn, 1) := by decide +kernel
theorem dX0_isLastOfItsKey_33 : decode cX0_isLastOfItsKey 33 = .ok (.iinc 2 1, 3) := by decide +kernel
theorem dX0_isLastOfItsKey_36 : decode cX0_isLastOfItsKey 36 = .ok (.goto (-32), 3) := by decide +kernel
theorem dX0_isLastOfItsKey_39 : decode cX0_isLastOfItsKey 39 = .ok (.iconst 1, 1) := by decide +kernel
theorem dX0_isLastOfItsKey_40 : decode cX0_isLastOfItsKey 40 = .ok (.ireturn, 1) := by decide +kernel
theorem dX0_isClosed_0 : decode cX0_isClosed 0 = .ok (.aload_n 0, 1) := by decide +kernel
theorem dX0_isClosed_1 : decode cX0_isClosed 1 = .ok (.getfield 9, 3) := by decide +kernel
theorem dX0_isClosed_4 : decode cX0_isClosed 4 = .ok (.iload_n 1, 1) := by decide +kernel
theorem dX0_isClosed_5 : decode cX0_isClosed 5 = .ok (.invokestatic 41, 3) := by decide +kernel
theorem dX0_isClosed_8 : decode cX0_isClosed 8 = .ok (.iload_n 2, 1) := by decide +kernel
theorem dX0_isClosed_9 : decode cX0_isClosed 9 = .ok (.invokestatic 57, 3) := by decide +kernel
theorem dX0_isClosed_12 : decode cX0_isClosed 12 = .ok (.aload_n 0, 1) := by decide +kernel
theorem dX0_isClosed_13 : decode cX0_isClosed 13 = .ok (.getfield 28, 3) := by decide +kernel
theorem dX0_isClosed_16 : decode cX0_isClosed 16 = .ok (.iload_n 2, 1) := by decide +kernel
theorem dX0_isClosed_17 : decode cX0_isClosed 17 = .ok (.invokestatic 57, 3) := by decide +kernel
theorem dX0_isClosed_20 : decode cX0_isClosed 20 = .ok (.if_icmp .eq 7, 3) := by decide +kernel
theorem dX0_isClosed_23 : decode cX0_isClosed 23 = .ok (.iconst 1, 1) := by decide +kernel
theorem dX0_isClosed_24 : decode cX0_isClosed 24 = .ok (.goto 4, 3) := by decide +kernel
theorem dX0_isClosed_27 : decode cX0_isClosed 27 = .ok (.iconst 0, 1) := by decide +kernel
theorem dX0_isClosed_28 : decode cX0_isClosed 28 = .ok (.ireturn, 1) := by decide +kernel
theorem dX0_segmentOf_0 : decode cX0_segmentOf 0 = .ok (.iload_n 1, 1) := by decide +kernel
theorem dX0_segmentOf_1 : decode cX0_segmentOf 1 = .ok (.iconst 1, 1) := by decide +kernel
theorem dX0_segmentOf_2 : decode cX0_segmentOf 2 = .ok (.if_icmp .ge 7, 3) := by decide +kernel
theorem dX0_segmentOf_5 : decode cX0_segmentOf 5 = .ok (.iconst 0, 1) := by decide +kernel
theorem dX0_segmentOf_6 : decode cX0_segmentOf 6 = .ok (.goto 6, 3) := by decide +kernel
theorem dX0_segmentOf_9 : decode cX0_segmentOf 9 = .ok (.iload_n 0, 1) := by decide +kernel
theorem dX0_segmentOf_10 : decode cX0_segmentOf 10 = .ok (.iload_n 1, 1) := by decide +kernel
theorem dX0_segmentOf_11 : decode cX0_segmentOf 11 = .ok (.idiv, 1) := by decide +kernel
theorem dX0_segmentOf_12 : decode cX0_segmentOf 12 = .ok (.ireturn, 1) := by decide +kernel
theorem dX0_isOldRemoval_0 : decode cX0_isOldRemoval 0 = .ok (.aload_n 0, 1) := by decide +kernel
theorem dX0_isOldRemoval_1 : decode cX0_isOldRemoval 1 = .ok (.getfield 18, 3) := by decide +kernel
theorem dX0_isOldRemoval_4 : decode cX0_isOldRemoval 4 = .ok (.iload_n 1, 1) := by decide +kernel
theorem dX0_isOldRemoval_5 : decode cX0_isOldRemoval 5 = .ok (.invokestatic 41, 3) := by decide +kernel
theorem dX0_isOldRemoval_8 : decode cX0_isOldRemoval 8 = .ok (.bipush (-6), 2) := by decide +kernel
theorem dX0_isOldRemoval_10 : decode cX0_isOldRemoval 10 = .ok (.if_icmp .ne 21, 3) := by decide +kernel
theorem dX0_isOldRemoval_13 : decode cX0_isOldRemoval 13 = .ok (.iload_n 3, 1) := by decide +kernel
theorem dX0_isOldRemoval_14 : decode cX0_isOldRemoval 14 = .ok (.aload_n 0, 1) := by decide +kernel
theorem dX0_isOldRemoval_15 : decode cX0_isOldRemoval 15 = .ok (.getfield 21, 3) := by decide +kernel
theorem dX0_isOldRemoval_18 : decode cX0_isOldRemoval 18 = .ok (.iload_n 1, 1) := by decide +kernel
theorem dX0_isOldRemoval_19 : decode cX0_isOldRemoval 19 = .ok (.invokestatic 41, 3) := by decide +kernel
theorem dX0_isOldRemoval_22 : decode cX0_isOldRemoval 22 = .ok (.isub, 1) := by decide +kernel
theorem dX0_isOldRemoval_23 : decode cX0_isOldRemoval 23 = .ok (.iload_n 2, 1) := by decide +kernel
theorem dX0_isOldRemoval_24 : decode cX0_isOldRemoval 24 = .ok (.if_icmp .le 7, 3) := by decide +kernel
theorem dX0_isOldRemoval_27 : decode cX0_isOldRemoval 27 = .ok (.iconst 1, 1) := by decide +kernel
theorem dX0_isOldRemoval_28 : decode cX0_isOldRemoval 28 = .ok (.goto 4, 3) := by decide +kernel
theorem dX0_isOldRemoval_31 : decode cX0_isOldRemoval 31 = .ok (.iconst 0, 1) := by decide +kernel
theorem dX0_isOldRemoval_32 : decode cX0_isOldRemoval 32 = .ok (.ireturn, 1) := by decide +kernel
theorem dX0_wouldGo_0 : decode cX0_wouldGo 0 = .ok (.aload_n 0, 1) := by decide +kernel
theorem dX0_wouldGo_1 : decode cX0_wouldGo 1 = .ok (.iload_n 1, 1) := by decide +kernel
theorem dX0_wouldGo_2 : decode cX0_wouldGo 2 = .ok (.iload_n 2, 1) := by decide +kernel
theorem dX0_wouldGo_3 : decode cX0_wouldGo 3 = .ok (.invokevirtual 61, 3) := by decide +kernel
theorem dX0_wouldGo_6 : decode cX0_wouldGo 6 = .ok (.ifCond .eq 26, 3) := by decide +kernel
theorem dX0_wouldGo_9 : decode cX0_wouldGo 9 = .ok (.aload_n 0, 1) := by decide +kernel
theorem dX0_wouldGo_10 : decode cX0_wouldGo 10 = .ok (.iload_n 1, 1) := by decide +kernel
theorem dX0_wouldGo_11 : decode cX0_wouldGo 11 = .ok (.invokevirtual 65, 3) := by decide +kernel
theorem dX0_wouldGo_14 : decode cX0_wouldGo 14 = .ok (.ifCond .eq 14, 3) := by decide +kernel
theorem dX0_wouldGo_17 : decode cX0_wouldGo 17 = .ok (.aload_n 0, 1) := by decide +kernel
theorem dX0_wouldGo_18 : decode cX0_wouldGo 18 = .ok (.iload_n 1, 1) := by decide +kernel
theorem dX0_wouldGo_19 : decode cX0_wouldGo 19 = .ok (.iload_n 3, 1) := by decide +kernel
theorem dX0_wouldGo_20 : decode cX0_wouldGo 20 = .ok (.iload 4, 2) := by decide +kernel
theorem dX0_wouldGo_22 : decode cX0_wouldGo 22 = .ok (.invokevirtual 69, 3) := by decide +kernel
theorem dX0_wouldGo_25 : decode cX0_wouldGo 25 = .ok (.ifCond .eq 7, 3) := by decide +kernel
theorem dX0_wouldGo_28 : decode cX0_wouldGo 28 = .ok (.iconst 1, 1) := by decide +kernel
theorem dX0_wouldGo_29 : decode cX0_wouldGo 29 = .ok (.goto 4, 3) := by decide +kernel
theorem dX0_wouldGo_32 : decode cX0_wouldGo 32 = .ok (.iconst 0, 1) := by decide +kernel
theorem dX0_wouldGo_33 : decode cX0_wouldGo 33 = .ok (.ireturn, 1) := by decide +kernel
theorem dX0_leftAfterThinning_0 : decode cX0_leftAfterThinning 0 = .ok (.iconst 0, 1) := by decide +kernel
theorem dX0_leftAfterThinning_1 : decode cX0_leftAfterThinning 1 = .ok (.istore 4, 2) := by decide +kernel
theorem dX0_leftAfterThinning_3 : decode cX0_leftAfterThinning 3 = .ok (.iconst 0, 1) := by decide +kernel
theorem dX0_leftAfterThinning_4 : decode cX0_leftAfterThinning 4 = .ok (.istore 5, 2) := by decide +kernel
theorem dX0_leftAfterThinning_6 : decode cX0_leftAfterThinning 6 = .ok (.iload 5, 2) := by decide +kernel
theorem dX0_leftAfterThinning_8 : decode cX0_leftAfterThinning 8 = .ok (.aload_n 0, 1) := by decide +kernel
theorem dX0_leftAfterThinning_9 : decode cX0_leftAfterThinning 9 = .ok (.getfield 24, 3) := by decide +kernel
theorem dX0_leftAfterThinning_12 : decode cX0_leftAfterThinning 12 = .ok (.if_icmp .ge 24, 3) := by decide +kernel
theorem dX0_leftAfterThinning_15 : decode cX0_leftAfterThinning 15 = .ok (.aload_n 0, 1) := by decide +kernel
theorem dX0_leftAfterThinning_16 : decode cX0_leftAfterThinning 16 = .ok (.iload 5, 2) := by decide +kernel
theorem dX0_leftAfterThinning_18 : decode cX0_leftAfterThinning 18 = .ok (.iload_n 1, 1) := by decide +kernel
theorem dX0_leftAfterThinning_19 : decode cX0_leftAfterThinning 19 = .ok (.iload_n 2, 1) := by decide +kernel
theorem dX0_leftAfterThinning_20 : decode cX0_leftAfterThinning 20 = .ok (.iload_n 3, 1) := by decide +kernel
theorem dX0_leftAfterThinning_21 : decode cX0_leftAfterThinning 21 = .ok (.invokevirtual 73, 3) := by decide +kernel
theorem dX0_leftAfterThinning_24 : decode cX0_leftAfterThinning 24 = .ok (.ifCond .ne 6, 3) := by decide +kernel
theorem dX0_leftAfterThinning_27 : decode cX0_leftAfterThinning 27 = .ok (.iinc 4 1, 3) := by decide +kernel
theorem dX0_leftAfterThinning_30 : decode cX0_leftAfterThinning 30 = .ok (.iinc 5 1, 3) := by decide +kernel
theorem dX0_leftAfterThinning_33 : decode cX0_leftAfterThinning 33 = .ok (.goto (-27), 3) := by decide +kernel
theorem dX0_leftAfterThinning_36 : decode cX0_leftAfterThinning 36 = .ok (.iload 4, 2) := by decide +kernel
theorem dX0_leftAfterThinning_38 : decode cX0_leftAfterThinning 38 = .ok (.ireturn, 1) := by decide +kernel
theorem dX0_floorAfterThinning_0 : decode cX0_floorAfterThinning 0 = .ok (.aload_n 0, 1) := by decide +kernel
theorem dX0_floorAfterThinning_1 : decode cX0_floorAfterThinning 1 = .ok (.getfield 31, 3) := by decide +kernel
theorem dX0_floorAfterThinning_4 : decode cX0_floorAfterThinning 4 = .ok (.istore 4, 2) := by decide +kernel
theorem dX0_floorAfterThinning_6 : decode cX0_floorAfterThinning 6 = .ok (.iconst 0, 1) := by decide +kernel
theorem dX0_floorAfterThinning_7 : decode cX0_floorAfterThinning 7 = .ok (.istore 5, 2) := by decide +kernel
theorem dX0_floorAfterThinning_9 : decode cX0_floorAfterThinning 9 = .ok (.iload 5, 2) := by decide +kernel
theorem dX0_floorAfterThinning_11 : decode cX0_floorAfterThinning 11 = .ok (.aload_n 0, 1) := by decide +kernel
theorem dX0_floorAfterThinning_12 : decode cX0_floorAfterThinning 12 = .ok (.getfield 24, 3) := by decide +kernel
theorem dX0_floorAfterThinning_15 : decode cX0_floorAfterThinning 15 = .ok (.if_icmp .ge 45, 3) := by decide +kernel
theorem dX0_floorAfterThinning_18 : decode cX0_floorAfterThinning 18 = .ok (.aload_n 0, 1) := by decide +kernel
theorem dX0_floorAfterThinning_19 : decode cX0_floorAfterThinning 19 = .ok (.iload 5, 2) := by decide +kernel
theorem dX0_floorAfterThinning_21 : decode cX0_floorAfterThinning 21 = .ok (.invokevirtual 65, 3) := by decide +kernel
theorem dX0_floorAfterThinning_24 : decode cX0_floorAfterThinning 24 = .ok (.ifCond .eq 30, 3) := by decide +kernel
theorem dX0_floorAfterThinning_27 : decode cX0_floorAfterThinning 27 = .ok (.aload_n 0, 1) := by decide +kernel
theorem dX0_floorAfterThinning_28 : decode cX0_floorAfterThinning 28 = .ok (.iload 5, 2) := by decide +kernel
theorem dX0_floorAfterThinning_30 : decode cX0_floorAfterThinning 30 = .ok (.iload_n 1, 1) := by decide +kernel
theorem dX0_floorAfterThinning_31 : decode cX0_floorAfterThinning 31 = .ok (.iload_n 2, 1) := by decide +kernel
theorem dX0_floorAfterThinning_32 : decode cX0_floorAfterThinning 32 = .ok (.iload_n 3, 1) := by decide +kernel
theorem dX0_floorAfterThinning_33 : decode cX0_floorAfterThinning 33 = .ok (.invokevirtual 73, 3) := by decide +kernel
theorem dX0_floorAfterThinning_36 : decode cX0_floorAfterThinning 36 = .ok (.ifCond .eq 18, 3) := by decide +kernel
theorem dX0_floorAfterThinning_39 : decode cX0_floorAfterThinning 39 = .ok (.iload 4, 2) := by decide +kernel
theorem dX0_floorAfterThinning_41 : decode cX0_floorAfterThinning 41 = .ok (.aload_n 0, 1) := by decide +kernel
theorem dX0_floorAfterThinning_42 : decode cX0_floorAfterThinning 42 = .ok (.iload 5, 2) := by decide +kernel
theorem dX0_floorAfterThinning_44 : decode cX0_floorAfterThinning 44 = .ok (.invokevirtual 77, 3) := by decide +kernel
theorem dX0_floorAfterThinning_47 : decode cX0_floorAfterThinning 47 = .ok (.iconst 1, 1) := by decide +kernel
theorem dX0_floorAfterThinning_48 : decode cX0_floorAfterThinning 48 = .ok (.iadd, 1) := by decide +kernel
theorem dX0_floorAfterThinning_49 : decode cX0_floorAfterThinning 49 = .ok (.invokestatic 80, 3) := by decide +kernel
theorem dX0_floorAfterThinning_52 : decode cX0_floorAfterThinning 52 = .ok (.istore 4, 2) := by decide +kernel
theorem dX0_floorAfterThinning_54 : decode cX0_floorAfterThinning 54 = .ok (.iinc 5 1, 3) := by decide +kernel
theorem dX0_floorAfterThinning_57 : decode cX0_floorAfterThinning 57 = .ok (.goto (-48), 3) := by decide +kernel
theorem dX0_floorAfterThinning_60 : decode cX0_floorAfterThinning 60 = .ok (.iload 4, 2) := by decide +kernel
theorem dX0_floorAfterThinning_62 : decode cX0_floorAfterThinning 62 = .ok (.ireturn, 1) := by decide +kernel
theorem dX0_thinOut_0 : decode cX0_thinOut 0 = .ok (.iconst 0, 1) := by decide +kernel
theorem dX0_thinOut_1 : decode cX0_thinOut 1 = .ok (.istore 4, 2) := by decide +kernel
theorem dX0_thinOut_3 : decode cX0_thinOut 3 = .ok (.iconst 0, 1) := by decide +kernel
theorem dX0_thinOut_4 : decode cX0_thinOut 4 = .ok (.istore 5, 2) := by decide +kernel
theorem dX0_thinOut_6 : decode cX0_thinOut 6 = .ok (.iload 5, 2) := by decide +kernel
theorem dX0_thinOut_8 : decode cX0_thinOut 8 = .ok (.aload_n 0, 1) := by decide +kernel
theorem dX0_thinOut_9 : decode cX0_thinOut 9 = .ok (.getfield 24, 3) := by decide +kernel
theorem dX0_thinOut_12 : decode cX0_thinOut 12 = .ok (.if_icmp .ge 54, 3) := by decide +kernel
theorem dX0_thinOut_15 : decode cX0_thinOut 15 = .ok (.aload_n 0, 1) := by decide +kernel
theorem dX0_thinOut_16 : decode cX0_thinOut 16 = .ok (.iload 5, 2) := by decide +kernel
theorem dX0_thinOut_18 : decode cX0_thinOut 18 = .ok (.iload_n 1, 1) := by decide +kernel
theorem dX0_thinOut_19 : decode cX0_thinOut 19 = .ok (.iload_n 2, 1) := by decide +kernel
theorem dX0_thinOut_20 : decode cX0_thinOut 20 = .ok (.iload_n 3, 1) := by decide +kernel
theorem dX0_thinOut_21 : decode cX0_thinOut 21 = .ok (.invokevirtual 73, 3) := by decide +kernel
theorem dX0_thinOut_24 : decode cX0_thinOut 24 = .ok (.ifCond .ne 36, 3) := by decide +kernel
theorem dX0_thinOut_27 : decode cX0_thinOut 27 = .ok (.aload_n 0, 1) := by decide +kernel
theorem dX0_thinOut_28 : decode cX0_thinOut 28 = .ok (.iload 4, 2) := by decide +kernel
theorem dX0_thinOut_30 : decode cX0_thinOut 30 = .ok (.aload_n 0, 1) := by decide +kernel
theorem dX0_thinOut_31 : decode cX0_thinOut 31 = .ok (.iload 5, 2) := by decide +kernel
theorem dX0_thinOut_33 : decode cX0_thinOut 33 = .ok (.invokevirtual 77, 3) := by decide +kernel
theorem dX0_thinOut_36 : decode cX0_thinOut 36 = .ok (.aload_n 0, 1) := by decide +kernel
theorem dX0_thinOut_37 : decode cX0_thinOut 37 = .ok (.iload 5, 2) := by decide +kernel
theorem dX0_thinOut_39 : decode cX0_thinOut 39 = .ok (.invokevirtual 85, 3) := by decide +kernel
theorem dX0_thinOut_42 : decode cX0_thinOut 42 = .ok (.aload_n 0, 1) := by decide +kernel
theorem dX0_thinOut_43 : decode cX0_thinOut 43 = .ok (.iload 5, 2) := by decide +kernel
theorem dX0_thinOut_45 : decode cX0_thinOut 45 = .ok (.invokevirtual 88, 3) := by decide +kernel
theorem dX0_thinOut_48 : decode cX0_thinOut 48 = .ok (.aload_n 0, 1) := by decide +kernel
theorem dX0_thinOut_49 : decode cX0_thinOut 49 = .ok (.iload 5, 2) := by decide +kernel
theorem dX0_thinOut_51 : decode cX0_thinOut 51 = .ok (.invokevirtual 91, 3) := by decide +kernel
theorem dX0_thinOut_54 : decode cX0_thinOut 54 = .ok (.invokevirtual 45, 3) := by decide +kernel
theorem dX0_thinOut_57 : decode cX0_thinOut 57 = .ok (.iinc 4 1, 3) := by decide +kernel
theorem dX0_thinOut_60 : decode cX0_thinOut 60 = .ok (.iinc 5 1, 3) := by decide +kernel
theorem dX0_thinOut_63 : decode cX0_thinOut 63 = .ok (.goto (-57), 3) := by decide +kernel
theorem dX0_thinOut_66 : decode cX0_thinOut 66 = .ok (.aload_n 0, 1) := by decide +kernel
theorem dX0_thinOut_67 : decode cX0_thinOut 67 = .ok (.getfield 24, 3) := by decide +kernel
theorem dX0_thinOut_70 : decode cX0_thinOut 70 = .ok (.iload 4, 2) := by decide +kernel
theorem dX0_thinOut_72 : decode cX0_thinOut 72 = .ok (.isub, 1) := by decide +kernel
theorem dX0_thinOut_73 : decode cX0_thinOut 73 = .ok (.istore 5, 2) := by decide +kernel
theorem dX0_thinOut_75 : decode cX0_thinOut 75 = .ok (.aload_n 0, 1) := by decide +kernel
theorem dX0_thinOut_76 : decode cX0_thinOut 76 = .ok (.iload 4, 2) := by decide +kernel
theorem dX0_thinOut_78 : decode cX0_thinOut 78 = .ok (.putfield 24, 3) := by decide +kernel
theorem dX0_thinOut_81 : decode cX0_thinOut 81 = .ok (.aload_n 0, 1) := by decide +kernel
theorem dX0_thinOut_82 : decode cX0_thinOut 82 = .ok (.dup, 1) := by decide +kernel
theorem dX0_thinOut_83 : decode cX0_thinOut 83 = .ok (.getfield 34, 3) := by decide +kernel
theorem dX0_thinOut_86 : decode cX0_thinOut 86 = .ok (.iload 5, 2) := by decide +kernel
theorem dX0_thinOut_88 : decode cX0_thinOut 88 = .ok (.iadd, 1) := by decide +kernel
theorem dX0_thinOut_89 : decode cX0_thinOut 89 = .ok (.putfield 34, 3) := by decide +kernel
theorem dX0_thinOut_92 : decode cX0_thinOut 92 = .ok (.iload 5, 2) := by decide +kernel
theorem dX0_thinOut_94 : decode cX0_thinOut 94 = .ok (.ireturn, 1) := by decide +kernel
theorem dX1_init_0 : decode cX1_init 0 = .ok (.aload_n 0, 1) := by decide +kernel
theorem dX1_init_1 : decode cX1_init 1 = .ok (.invokespecial 3, 3) := by decide +kernel
theorem dX1_init_4 : decode cX1_init 4 = .ok (.aload_n 0, 1) := by decide +kernel
theorem dX1_init_5 : decode cX1_init 5 = .ok (.bipush 7, 2) := by decide +kernel
theorem dX1_init_7 : decode cX1_init 7 = .ok (.anewarray 9, 3) := by decide +kernel
theorem dX1_init_10 : decode cX1_init 10 = .ok (.putfield 11, 3) := by decide +kernel
theorem dX1_init_13 : decode cX1_init 13 = .ok (.aload_n 0, 1) := by decide +kernel
theorem dX1_init_14 : decode cX1_init 14 = .ok (.iconst 0, 1) := by decide +kernel
theorem dX1_init_15 : decode cX1_init 15 = .ok (.putfield 17, 3) := by decide +kernel
theorem dX1_init_18 : decode cX1_init 18 = .ok (.iconst 0, 1) := by decide +kernel
theorem dX1_init_19 : decode cX1_init 19 = .ok (.istore_n 1, 1) := by decide +kernel
theorem dX1_init_20 : decode cX1_init 20 = .ok (.iload_n 1, 1) := by decide +kernel
theorem dX1_init_21 : decode cX1_init 21 = .ok (.aload_n 0, 1) := by decide +kernel
theorem dX1_init_22 : decode cX1_init 22 = .ok (.getfield 11, 3) := by decide +kernel
theorem dX1_init_25 : decode cX1_init 25 = .ok (.arraylength, 1) := by decide +kernel
theorem dX1_init_26 : decode cX1_init 26 = .ok (.if_icmp .ge 22, 3) := by decide +kernel
theorem dX1_init_29 : decode cX1_init 29 = .ok (.aload_n 0, 1) := by decide +kernel
theorem dX1_init_30 : decode cX1_init 30 = .ok (.getfield 11, 3) := by decide +kernel
theorem dX1_init_33 : decode cX1_init 33 = .ok (.iload_n 1, 1) := by decide +kernel
theorem dX1_init_34 : decode cX1_init 34 = .ok (.new 9, 3) := by decide +kernel
theorem dX1_init_37 : decode cX1_init 37 = .ok (.dup, 1) := by decide +kernel
theorem dX1_init_38 : decode cX1_init 38 = .ok (.invokespecial 21, 3) := by decide +kernel
theorem dX1_init_41 : decode cX1_init 41 = .ok (.aastore, 1) := by decide +kernel
theorem dX1_init_42 : decode cX1_init 42 = .ok (.iinc 1 1, 3) := by decide +kernel
theorem dX1_init_45 : decode cX1_init 45 = .ok (.goto (-25), 3) := by decide +kernel
theorem dX1_init_48 : decode cX1_init 48 = .ok (.return_, 1) := by decide +kernel
theorem dX1_stateAt_0 : decode cX1_stateAt 0 = .ok (.iload_n 1, 1) := by decide +kernel
theorem dX1_stateAt_1 : decode cX1_stateAt 1 = .ok (.ifCond .lt 12, 3) := by decide +kernel
theorem dX1_stateAt_4 : decode cX1_stateAt 4 = .ok (.iload_n 1, 1) := by decide +kernel
theorem dX1_stateAt_5 : decode cX1_stateAt 5 = .ok (.aload_n 0, 1) := by decide +kernel
theorem dX1_stateAt_6 : decode cX1_stateAt 6 = .ok (.getfield 11, 3) := by decide +kernel
theorem dX1_stateAt_9 : decode cX1_stateAt 9 = .ok (.arraylength, 1) := by decide +kernel
theorem dX1_stateAt_10 : decode cX1_stateAt 10 = .ok (.if_icmp .lt 7, 3) := by decide +kernel
theorem dX1_stateAt_13 : decode cX1_stateAt 13 = .ok (.aconst_null, 1) := by decide +kernel
theorem dX1_stateAt_14 : decode cX1_stateAt 14 = .ok (.goto 9, 3) := by decide +kernel
theorem dX1_stateAt_17 : decode cX1_stateAt 17 = .ok (.aload_n 0, 1) := by decide +kernel
theorem dX1_stateAt_18 : decode cX1_stateAt 18 = .ok (.getfield 11, 3) := by decide +kernel
theorem dX1_stateAt_21 : decode cX1_stateAt 21 = .ok (.iload_n 1, 1) := by decide +kernel
theorem dX1_stateAt_22 : decode cX1_stateAt 22 = .ok (.aaload, 1) := by decide +kernel
theorem dX1_stateAt_23 : decode cX1_stateAt 23 = .ok (.areturn, 1) := by decide +kernel
theorem dX1_prepare_0 : decode cX1_prepare 0 = .ok (.aload_n 0, 1) := by decide +kernel
theorem dX1_prepare_1 : decode cX1_prepare 1 = .ok (.aload_n 0, 1) := by decide +kernel
theorem dX1_prepare_2 : decode cX1_prepare 2 = .ok (.getfield 17, 3) := by decide +kernel
theorem dX1_prepare_5 : decode cX1_prepare 5 = .ok (.invokevirtual 22, 3) := by decide +kernel
theorem dX1_prepare_8 : decode cX1_prepare 8 = .ok (.astore_n 2, 1) := by decide +kernel
theorem dX1_prepare_9 : decode cX1_prepare 9 = .ok (.aload_n 2, 1) := by decide +kernel
theorem dX1_prepare_10 : decode cX1_prepare 10 = .ok (.ifnull 8, 3) := by decide +kernel
theorem dX1_prepare_13 : decode cX1_prepare 13 = .ok (.aload_n 2, 1) := by decide +kernel
theorem dX1_prepare_14 : decode cX1_prepare 14 = .ok (.aload_n 1, 1) := by decide +kernel
theorem dX1_prepare_15 : decode cX1_prepare 15 = .ok (.invokevirtual 26, 3) := by decide +kernel
theorem dX1_prepare_18 : decode cX1_prepare 18 = .ok (.return_, 1) := by decide +kernel
theorem dX1_settle_0 : decode cX1_settle 0 = .ok (.iload_n 1, 1) := by decide +kernel
theorem dX1_settle_1 : decode cX1_settle 1 = .ok (.ifCond .ge 5, 3) := by decide +kernel
theorem dX1_settle_4 : decode cX1_settle 4 = .ok (.iload_n 1, 1) := by decide +kernel
theorem dX1_settle_5 : decode cX1_settle 5 = .ok (.ireturn, 1) := by decide +kernel
theorem dX1_settle_6 : decode cX1_settle 6 = .ok (.aload_n 0, 1) := by decide +kernel
theorem dX1_settle_7 : decode cX1_settle 7 = .ok (.getfield 17, 3) := by decide +kernel
theorem dX1_settle_10 : decode cX1_settle 10 = .ok (.bipush 6, 2) := by decide +kernel
theorem dX1_settle_12 : decode cX1_settle 12 = .ok (.if_icmp .ge 16, 3) := by decide +kernel
theorem dX1_settle_15 : decode cX1_settle 15 = .ok (.aload_n 0, 1) := by decide +kernel
theorem dX1_settle_16 : decode cX1_settle 16 = .ok (.dup, 1) := by decide +kernel
theorem dX1_settle_17 : decode cX1_settle 17 = .ok (.getfield 17, 3) := by decide +kernel
theorem dX1_settle_20 : decode cX1_settle 20 = .ok (.iconst 1, 1) := by decide +kernel
theorem dX1_settle_21 : decode cX1_settle 21 = .ok (.iadd, 1) := by decide +kernel
theorem dX1_settle_22 : decode cX1_settle 22 = .ok (.putfield 17, 3) := by decide +kernel
theorem dX1_settle_25 : decode cX1_settle 25 = .ok (.goto 7, 3) := by decide +kernel
theorem dX1_settle_28 : decode cX1_settle 28 = .ok (.aload_n 0, 1) := by decide +kernel
theorem dX1_settle_29 : decode cX1_settle 29 = .ok (.invokevirtual 30, 3) := by decide +kernel
theorem dX1_settle_32 : decode cX1_settle 32 = .ok (.iload_n 1, 1) := by decide +kernel
theorem dX1_settle_33 : decode cX1_settle 33 = .ok (.ireturn, 1) := by decide +kernel
theorem dX1_dropOldest_0 : decode cX1_dropOldest 0 = .ok (.aload_n 0, 1) := by decide +kernel
theorem dX1_dropOldest_1 : decode cX1_dropOldest 1 = .ok (.iconst 0, 1) := by decide +kernel
theorem dX1_dropOldest_2 : decode cX1_dropOldest 2 = .ok (.invokevirtual 22, 3) := by decide +kernel
theorem dX1_dropOldest_5 : decode cX1_dropOldest 5 = .ok (.astore_n 1, 1) := by decide +kernel
theorem dX1_dropOldest_6 : decode cX1_dropOldest 6 = .ok (.iconst 1, 1) := by decide +kernel
theorem dX1_dropOldest_7 : decode cX1_dropOldest 7 = .ok (.istore_n 2, 1) := by decide +kernel
theorem dX1_dropOldest_8 : decode cX1_dropOldest 8 = .ok (.iload_n 2, 1) := by decide +kernel
theorem dX1_dropOldest_9 : decode cX1_dropOldest 9 = .ok (.aload_n 0, 1) := by decide +kernel
theorem dX1_dropOldest_10 : decode cX1_dropOldest 10 = .ok (.getfield 11, 3) := by decide +kernel
theorem dX1_dropOldest_13 : decode cX1_dropOldest 13 = .ok (.arraylength, 1) := by decide +kernel
theorem dX1_dropOldest_14 : decode cX1_dropOldest 14 = .ok (.if_icmp .ge 23, 3) := by decide +kernel
theorem dX1_dropOldest_17 : decode cX1_dropOldest 17 = .ok (.aload_n 0, 1) := by decide +kernel
theorem dX1_dropOldest_18 : decode cX1_dropOldest 18 = .ok (.getfield 11, 3) := by decide +kernel
theorem dX1_dropOldest_21 : decode cX1_dropOldest 21 = .ok (.iload_n 2, 1) := by decide +kernel
theorem dX1_dropOldest_22 : decode cX1_dropOldest 22 = .ok (.iconst 1, 1) := by decide +kernel
theorem dX1_dropOldest_23 : decode cX1_dropOldest 23 = .ok (.isub, 1) := by decide +kernel
theorem dX1_dropOldest_24 : decode cX1_dropOldest 24 = .ok (.aload_n 0, 1) := by decide +kernel
theorem dX1_dropOldest_25 : decode cX1_dropOldest 25 = .ok (.getfield 11, 3) := by decide +kernel
theorem dX1_dropOldest_28 : decode cX1_dropOldest 28 = .ok (.iload_n 2, 1) := by decide +kernel
theorem dX1_dropOldest_29 : decode cX1_dropOldest 29 = .ok (.aaload, 1) := by decide +kernel
theorem dX1_dropOldest_30 : decode cX1_dropOldest 30 = .ok (.aastore, 1) := by decide +kernel
theorem dX1_dropOldest_31 : decode cX1_dropOldest 31 = .ok (.iinc 2 1, 3) := by decide +kernel
theorem dX1_dropOldest_34 : decode cX1_dropOldest 34 = .ok (.goto (-26), 3) := by decide +kernel
theorem dX1_dropOldest_37 : decode cX1_dropOldest 37 = .ok (.aload_n 0, 1) := by decide +kernel
theorem dX1_dropOldest_38 : decode cX1_dropOldest 38 = .ok (.getfield 11, 3) := by decide +kernel
theorem dX1_dropOldest_41 : decode cX1_dropOldest 41 = .ok (.arraylength, 1) := by decide +kernel
theorem dX1_dropOldest_42 : decode cX1_dropOldest 42 = .ok (.ifCond .le 16, 3) := by decide +kernel
theorem dX1_dropOldest_45 : decode cX1_dropOldest 45 = .ok (.aload_n 0, 1) := by decide +kernel
theorem dX1_dropOldest_46 : decode cX1_dropOldest 46 = .ok (.getfield 11, 3) := by decide +kernel
theorem dX1_dropOldest_49 : decode cX1_dropOldest 49 = .ok (.aload_n 0, 1) := by decide +kernel
theorem dX1_dropOldest_50 : decode cX1_dropOldest 50 = .ok (.getfield 11, 3) := by decide +kernel
theorem dX1_dropOldest_53 : decode cX1_dropOldest 53 = .ok (.arraylength, 1) := by decide +kernel
theorem dX1_dropOldest_54 : decode cX1_dropOldest 54 = .ok (.iconst 1, 1) := by decide +kernel
theorem dX1_dropOldest_55 : decode cX1_dropOldest 55 = .ok (.isub, 1) := by decide +kernel
theorem dX1_dropOldest_56 : decode cX1_dropOldest 56 = .ok (.aload_n 1, 1) := by decide +kernel
theorem dX1_dropOldest_57 : decode cX1_dropOldest 57 = .ok (.aastore, 1) := by decide +kernel
theorem dX1_dropOldest_58 : decode cX1_dropOldest 58 = .ok (.return_, 1) := by decide +kernel
theorem dX1_bringBack_0 : decode cX1_bringBack 0 = .ok (.aload_n 0, 1) := by decide +kernel
theorem dX1_bringBack_1 : decode cX1_bringBack 1 = .ok (.aload_n 0, 1) := by decide +kernel
theorem dX1_bringBack_2 : decode cX1_bringBack 2 = .ok (.getfield 17, 3) := by decide +kernel
theorem dX1_bringBack_5 : decode cX1_bringBack 5 = .ok (.iconst 1, 1) := by decide +kernel
theorem dX1_bringBack_6 : decode cX1_bringBack 6 = .ok (.isub, 1) := by decide +kernel
theorem dX1_bringBack_7 : decode cX1_bringBack 7 = .ok (.invokevirtual 22, 3) := by decide +kernel
theorem dX1_bringBack_10 : decode cX1_bringBack 10 = .ok (.astore_n 2, 1) := by decide +kernel
theorem dX1_bringBack_11 : decode cX1_bringBack 11 = .ok (.aload_n 2, 1) := by decide +kernel
theorem dX1_bringBack_12 : decode cX1_bringBack 12 = .ok (.ifnonnull 6, 3) := by decide +kernel
theorem dX1_bringBack_15 : decode cX1_bringBack 15 = .ok (.bipush (-5), 2) := by decide +kernel
theorem dX1_bringBack_17 : decode cX1_bringBack 17 = .ok (.ireturn, 1) := by decide +kernel
theorem dX1_bringBack_18 : decode cX1_bringBack 18 = .ok (.aload_n 1, 1) := by decide +kernel
theorem dX1_bringBack_19 : decode cX1_bringBack 19 = .ok (.aload_n 2, 1) := by decide +kernel
theorem dX1_bringBack_20 : decode cX1_bringBack 20 = .ok (.invokevirtual 26, 3) := by decide +kernel
theorem dX1_bringBack_23 : decode cX1_bringBack 23 = .ok (.aload_n 0, 1) := by decide +kernel
theorem dX1_bringBack_24 : decode cX1_bringBack 24 = .ok (.dup, 1) := by decide +kernel
theorem dX1_bringBack_25 : decode cX1_bringBack 25 = .ok (.getfield 17, 3) := by decide +kernel
theorem dX1_bringBack_28 : decode cX1_bringBack 28 = .ok (.iconst 1, 1) := by decide +kernel
theorem dX1_bringBack_29 : decode cX1_bringBack 29 = .ok (.isub, 1) := by decide +kernel
theorem dX1_bringBack_30 : decode cX1_bringBack 30 = .ok (.putfield 17, 3) := by decide +kernel
theorem dX1_bringBack_33 : decode cX1_bringBack 33 = .ok (.aload_n 0, 1) := by decide +kernel
theorem dX1_bringBack_34 : decode cX1_bringBack 34 = .ok (.getfield 17, 3) := by decide +kernel
theorem dX1_bringBack_37 : decode cX1_bringBack 37 = .ok (.ireturn, 1) := by decide +kernel
theorem dX2_init_0 : decode cX2_init 0 = .ok (.aload_n 0, 1) := by decide +kernel
theorem dX2_init_1 : decode cX2_init 1 = .ok (.invokespecial 3, 3) := by decide +kernel
theorem dX2_init_4 : decode cX2_init 4 = .ok (.aload_n 0, 1) := by decide +kernel
theorem dX2_init_5 : decode cX2_init 5 = .ok (.bipush 80, 2) := by decide +kernel
theorem dX2_init_7 : decode cX2_init 7 = .ok (.newarray .int, 2) := by decide +kernel
theorem dX2_init_9 : decode cX2_init 9 = .ok (.putfield 9, 3) := by decide +kernel
theorem dX2_init_12 : decode cX2_init 12 = .ok (.aload_n 0, 1) := by decide +kernel
theorem dX2_init_13 : decode cX2_init 13 = .ok (.iconst 0, 1) := by decide +kernel
theorem dX2_init_14 : decode cX2_init 14 = .ok (.putfield 15, 3) := by decide +kernel
theorem dX2_init_17 : decode cX2_init 17 = .ok (.aload_n 0, 1) := by decide +kernel
theorem dX2_init_18 : decode cX2_init 18 = .ok (.iconst 0, 1) := by decide +kernel
theorem dX2_init_19 : decode cX2_init 19 = .ok (.putfield 19, 3) := by decide +kernel
theorem dX2_init_22 : decode cX2_init 22 = .ok (.aload_n 0, 1) := by decide +kernel
theorem dX2_init_23 : decode cX2_init 23 = .ok (.iconst 0, 1) := by decide +kernel
theorem dX2_init_24 : decode cX2_init 24 = .ok (.putfield 22, 3) := by decide +kernel
theorem dX2_init_27 : decode cX2_init 27 = .ok (.aload_n 0, 1) := by decide +kernel
theorem dX2_init_28 : decode cX2_init 28 = .ok (.iconst 0, 1) := by decide +kernel
theorem dX2_init_29 : decode cX2_init 29 = .ok (.putfield 25, 3) := by decide +kernel
theorem dX2_init_32 : decode cX2_init 32 = .ok (.aload_n 0, 1) := by decide +kernel
theorem dX2_init_33 : decode cX2_init 33 = .ok (.iconst 0, 1) := by decide +kernel
theorem dX2_init_34 : decode cX2_init 34 = .ok (.putfield 28, 3) := by decide +kernel
theorem dX2_init_37 : decode cX2_init 37 = .ok (.return_, 1) := by decide +kernel
theorem dX2_append_0 : decode cX2_append 0 = .ok (.iconst 0, 1) := by decide +kernel
theorem dX2_append_1 : decode cX2_append 1 = .ok (.istore_n 3, 1) := by decide +kernel
theorem dX2_append_2 : decode cX2_append 2 = .ok (.iconst 0, 1) := by decide +kernel
theorem dX2_append_3 : decode cX2_append 3 = .ok (.istore 4, 2) := by decide +kernel
theorem dX2_append_5 : decode cX2_append 5 = .ok (.iconst 0, 1) := by decide +kernel
theorem dX2_append_6 : decode cX2_append 6 = .ok (.istore 5, 2) := by decide +kernel
theorem dX2_append_8 : decode cX2_append 8 = .ok (.iload 5, 2) := by decide +kernel
theorem dX2_append_10 : decode cX2_append 10 = .ok (.bipush 8, 2) := by decide +kernel
theorem dX2_append_12 : decode cX2_append 12 = .ok (.if_icmp .ge 53, 3) := by decide +kernel
theorem dX2_append_15 : decode cX2_append 15 = .ok (.lload_n 1, 1) := by decide +kernel
theorem dX2_append_16 : decode cX2_append 16 = .ok (.iload 5, 2) := by decide +kernel
theorem dX2_append_18 : decode cX2_append 18 = .ok (.invokestatic 31, 3) := by decide +kernel
theorem dX2_append_21 : decode cX2_append 21 = .ok (.istore 6, 2) := by decide +kernel
theorem dX2_append_23 : decode cX2_append 23 = .ok (.iload 6, 2) := by decide +kernel
theorem dX2_append_25 : decode cX2_append 25 = .ok (.ifCond .ne 9, 3) := by decide +kernel
theorem dX2_append_28 : decode cX2_append 28 = .ok (.iconst 1, 1) := by decide +kernel
theorem dX2_append_29 : decode cX2_append 29 = .ok (.istore 4, 2) := by decide +kernel
theorem dX2_append_31 : decode cX2_append 31 = .ok (.goto 28, 3) := by decide +kernel
theorem dX2_append_34 : decode cX2_append 34 = .ok (.iload 4, 2) := by decide +kernel
theorem dX2_append_36 : decode cX2_append 36 = .ok (.ifCond .ne 17, 3) := by decide +kernel
theorem dX2_append_39 : decode cX2_append 39 = .ok (.iload 6, 2) := by decide +kernel
theorem dX2_append_41 : decode cX2_append 41 = .ok (.bipush 33, 2) := by decide +kernel
theorem dX2_append_43 : decode cX2_append 43 = .ok (.if_icmp .lt 10, 3) := by decide +kernel
theorem dX2_append_46 : decode cX2_append 46 = .ok (.iload 6, 2) := by decide +kernel
theorem dX2_append_48 : decode cX2_append 48 = .ok (.bipush 126, 2) := by decide +kernel
theorem dX2_append_50 : decode cX2_append 50 = .ok (.if_icmp .le 6, 3) := by decide +kernel
theorem dX2_append_53 : decode cX2_append 53 = .ok (.bipush (-2), 2) := by decide +kernel
theorem dX2_append_55 : decode cX2_append 55 = .ok (.ireturn, 1) := by decide +kernel
theorem dX2_append_56 : decode cX2_append 56 = .ok (.iinc 3 1, 3) := by decide +kernel
theorem dX2_append_59 : decode cX2_append 59 = .ok (.iinc 5 1, 3) := by decide +kernel
theorem dX2_append_62 : decode cX2_append 62 = .ok (.goto (-54), 3) := by decide +kernel
theorem dX2_append_65 : decode cX2_append 65 = .ok (.iload_n 3, 1) := by decide +kernel
theorem dX2_append_66 : decode cX2_append 66 = .ok (.ifCond .ne 6, 3) := by decide +kernel
theorem dX2_append_69 : decode cX2_append 69 = .ok (.bipush (-2), 2) := by decide +kernel
theorem dX2_append_71 : decode cX2_append 71 = .ok (.ireturn, 1) := by decide +kernel
theorem dX2_append_72 : decode cX2_append 72 = .ok (.aload_n 0, 1) := by decide +kernel
theorem dX2_append_73 : decode cX2_append 73 = .ok (.getfield 15, 3) := by decide +kernel
theorem dX2_append_76 : decode cX2_append 76 = .ok (.iload_n 3, 1) := by decide +kernel
theorem dX2_append_77 : decode cX2_append 77 = .ok (.iadd, 1) := by decide +kernel
theorem dX2_append_78 : decode cX2_append 78 = .ok (.bipush 80, 2) := by decide +kernel
theorem dX2_append_80 : decode cX2_append 80 = .ok (.if_icmp .le 6, 3) := by decide +kernel
theorem dX2_append_83 : decode cX2_append 83 = .ok (.bipush (-4), 2) := by decide +kernel
theorem dX2_append_85 : decode cX2_append 85 = .ok (.ireturn, 1) := by decide +kernel
theorem dX2_append_86 : decode cX2_append 86 = .ok (.iload_n 3, 1) := by decide +kernel
theorem dX2_append_87 : decode cX2_append 87 = .ok (.iconst 1, 1) := by decide +kernel
theorem dX2_append_88 : decode cX2_append 88 = .ok (.isub, 1) := by decide +kernel
theorem dX2_append_89 : decode cX2_append 89 = .ok (.istore 5, 2) := by decide +kernel
theorem dX2_append_91 : decode cX2_append 91 = .ok (.iload 5, 2) := by decide +kernel
theorem dX2_append_93 : decode cX2_append 93 = .ok (.ifCond .lt 36, 3) := by decide +kernel
theorem dX2_append_96 : decode cX2_append 96 = .ok (.aload_n 0, 1) := by decide +kernel
theorem dX2_append_97 : decode cX2_append 97 = .ok (.getfield 9, 3) := by decide +kernel
theorem dX2_append_100 : decode cX2_append 100 = .ok (.aload_n 0, 1) := by decide +kernel
theorem dX2_append_101 : decode cX2_append 101 = .ok (.getfield 15, 3) := by decide +kernel
theorem dX2_append_104 : decode cX2_append 104 = .ok (.lload_n 1, 1) := by decide +kernel
theorem dX2_append_105 : decode cX2_append 105 = .ok (.iload 5, 2) := by decide +kernel
theorem dX2_append_107 : decode cX2_append 107 = .ok (.invokestatic 31, 3) := by decide +kernel
theorem dX2_append_110 : decode cX2_append 110 = .ok (.invokestatic 35, 3) := by decide +kernel
theorem dX2_append_113 : decode cX2_append 113 = .ok (.aload_n 0, 1) := by decide +kernel
theorem dX2_append_114 : decode cX2_append 114 = .ok (.dup, 1) := by decide +kernel
theorem dX2_append_115 : decode cX2_append 115 = .ok (.getfield 15, 3) := by decide +kernel
theorem dX2_append_118 : decode cX2_append 118 = .ok (.iconst 1, 1) := by decide +kernel
theorem dX2_append_119 : decode cX2_append 119 = .ok (.iadd, 1) := by decide +kernel
theorem dX2_append_120 : decode cX2_append 120 = .ok (.putfield 15, 3) := by decide +kernel
theorem dX2_append_123 : decode cX2_append 123 = .ok (.iinc 5 (-1), 3) := by decide +kernel
theorem dX2_append_126 : decode cX2_append 126 = .ok (.goto (-35), 3) := by decide +kernel
theorem dX2_append_129 : decode cX2_append 129 = .ok (.aload_n 0, 1) := by decide +kernel
theorem dX2_append_130 : decode cX2_append 130 = .ok (.getfield 15, 3) := by decide +kernel
theorem dX2_append_133 : decode cX2_append 133 = .ok (.ireturn, 1) := by decide +kernel
theorem dX2_signFromTheEnd_0 : decode cX2_signFromTheEnd 0 = .ok (.lload_n 0, 1) := by decide +kernel
theorem dX2_signFromTheEnd_1 : decode cX2_signFromTheEnd 1 = .ok (.bipush 8, 2) := by decide +kernel
theorem dX2_signFromTheEnd_3 : decode cX2_signFromTheEnd 3 = .ok (.iload_n 2, 1) := by decide +kernel
theorem dX2_signFromTheEnd_4 : decode cX2_signFromTheEnd 4 = .ok (.imul, 1) := by decide +kernel
theorem dX2_signFromTheEnd_5 : decode cX2_signFromTheEnd 5 = .ok (.lushr, 1) := by decide +kernel
theorem dX2_signFromTheEnd_6 : decode cX2_signFromTheEnd 6 = .ok (.ldc2_w 39, 3) := by decide +kernel
theorem dX2_signFromTheEnd_9 : decode cX2_signFromTheEnd 9 = .ok (.land, 1) := by decide +kernel
theorem dX2_signFromTheEnd_10 : decode cX2_signFromTheEnd 10 = .ok (.l2i, 1) := by decide +kernel
theorem dX2_signFromTheEnd_11 : decode cX2_signFromTheEnd 11 = .ok (.ireturn, 1) := by decide +kernel
theorem dX2_empty_0 : decode cX2_empty 0 = .ok (.aload_n 0, 1) := by decide +kernel
theorem dX2_empty_1 : decode cX2_empty 1 = .ok (.getfield 15, 3) := by decide +kernel
theorem dX2_empty_4 : decode cX2_empty 4 = .ok (.istore_n 1, 1) := by decide +kernel
theorem dX2_empty_5 : decode cX2_empty 5 = .ok (.aload_n 0, 1) := by decide +kernel
theorem dX2_empty_6 : decode cX2_empty 6 = .ok (.iconst 0, 1) := by decide +kernel
theorem dX2_empty_7 : decode cX2_empty 7 = .ok (.putfield 15, 3) := by decide +kernel
theorem dX2_empty_10 : decode cX2_empty 10 = .ok (.iload_n 1, 1) := by decide +kernel
theorem dX2_empty_11 : decode cX2_empty 11 = .ok (.ireturn, 1) := by decide +kernel
theorem dX2_goToStart_0 : decode cX2_goToStart 0 = .ok (.aload_n 0, 1) := by decide +kernel
theorem dX2_goToStart_1 : decode cX2_goToStart 1 = .ok (.iconst 0, 1) := by decide +kernel
theorem dX2_goToStart_2 : decode cX2_goToStart 2 = .ok (.putfield 19, 3) := by decide +kernel
theorem dX2_goToStart_5 : decode cX2_goToStart 5 = .ok (.return_, 1) := by decide +kernel
theorem dX2_firstFault_0 : decode cX2_firstFault 0 = .ok (.aload_n 0, 1) := by decide +kernel
theorem dX2_firstFault_1 : decode cX2_firstFault 1 = .ok (.invokevirtual 41, 3) := by decide +kernel
theorem dX2_firstFault_4 : decode cX2_firstFault 4 = .ok (.iconst 0, 1) := by decide +kernel
theorem dX2_firstFault_5 : decode cX2_firstFault 5 = .ok (.istore_n 1, 1) := by decide +kernel
theorem dX2_firstFault_6 : decode cX2_firstFault 6 = .ok (.iload_n 1, 1) := by decide +kernel
theorem dX2_firstFault_7 : decode cX2_firstFault 7 = .ok (.bipush 80, 2) := by decide +kernel
theorem dX2_firstFault_9 : decode cX2_firstFault 9 = .ok (.if_icmp .ge 49, 3) := by decide +kernel
theorem dX2_firstFault_12 : decode cX2_firstFault 12 = .ok (.aload_n 0, 1) := by decide +kernel
theorem dX2_firstFault_13 : decode cX2_firstFault 13 = .ok (.invokevirtual 44, 3) := by decide +kernel
theorem dX2_firstFault_16 : decode cX2_firstFault 16 = .ok (.ifCond .ne 8, 3) := by decide +kernel
theorem dX2_firstFault_19 : decode cX2_firstFault 19 = .ok (.aload_n 0, 1) := by decide +kernel
theorem dX2_firstFault_20 : decode cX2_firstFault 20 = .ok (.getfield 19, 3) := by decide +kernel
theorem dX2_firstFault_23 : decode cX2_firstFault 23 = .ok (.ireturn, 1) := by decide +kernel
theorem dX2_firstFault_24 : decode cX2_firstFault 24 = .ok (.aload_n 0, 1) := by decide +kernel
theorem dX2_firstFault_25 : decode cX2_firstFault 25 = .ok (.getfield 19, 3) := by decide +kernel
theorem dX2_firstFault_28 : decode cX2_firstFault 28 = .ok (.aload_n 0, 1) := by decide +kernel
theorem dX2_firstFault_29 : decode cX2_firstFault 29 = .ok (.getfield 15, 3) := by decide +kernel
theorem dX2_firstFault_32 : decode cX2_firstFault 32 = .ok (.if_icmp .lt 6, 3) := by decide +kernel
theorem dX2_firstFault_35 : decode cX2_firstFault 35 = .ok (.bipush (-6), 2) := by decide +kernel
theorem dX2_firstFault_37 : decode cX2_firstFault 37 = .ok (.ireturn, 1) := by decide +kernel
theorem dX2_firstFault_38 : decode cX2_firstFault 38 = .ok (.aload_n 0, 1) := by decide +kernel
theorem dX2_firstFault_39 : decode cX2_firstFault 39 = .ok (.bipush 59, 2) := by decide +kernel
theorem dX2_firstFault_41 : decode cX2_firstFault 41 = .ok (.invokevirtual 48, 3) := by decide +kernel
theorem dX2_firstFault_44 : decode cX2_firstFault 44 = .ok (.ifCond .ne 8, 3) := by decide +kernel
theorem dX2_firstFault_47 : decode cX2_firstFault 47 = .ok (.aload_n 0, 1) := by decide +kernel
theorem dX2_firstFault_48 : decode cX2_firstFault 48 = .ok (.getfield 19, 3) := by decide +kernel
theorem dX2_firstFault_51 : decode cX2_firstFault 51 = .ok (.ireturn, 1) := by decide +kernel
theorem dX2_firstFault_52 : decode cX2_firstFault 52 = .ok (.iinc 1 1, 3) := by decide +kernel
theorem dX2_firstFault_55 : decode cX2_firstFault 55 = .ok (.goto (-49), 3) := by decide +kernel
theorem dX2_firstFault_58 : decode cX2_firstFault 58 = .ok (.aload_n 0, 1) := by decide +kernel
theorem dX2_firstFault_59 : decode cX2_firstFault 59 = .ok (.getfield 19, 3) := by decide +kernel
theorem dX2_firstFault_62 : decode cX2_firstFault 62 = .ok (.ireturn, 1) := by decide +kernel
theorem dX2_takeOrder_0 : decode cX2_takeOrder 0 = .ok (.aload_n 0, 1) := by decide +kernel
theorem dX2_takeOrder_1 : decode cX2_takeOrder 1 = .ok (.aload_n 0, 1) := by decide +kernel
theorem dX2_takeOrder_2 : decode cX2_takeOrder 2 = .ok (.invokevirtual 52, 3) := by decide +kernel
theorem dX2_takeOrder_5 : decode cX2_takeOrder 5 = .ok (.putfield 22, 3) := by decide +kernel
theorem dX2_takeOrder_8 : decode cX2_takeOrder 8 = .ok (.aload_n 0, 1) := by decide +kernel
theorem dX2_takeOrder_9 : decode cX2_takeOrder 9 = .ok (.getfield 22, 3) := by decide +kernel
theorem dX2_takeOrder_12 : decode cX2_takeOrder 12 = .ok (.tableswitch 319 98 120 #[145, 145, 319, 319, 319, 319, 108, 319, 319, 319, 269, 319, 108, 319, 173, 319, 221, 108, 117, 319, 319, 319, 117], 108) := by decide +kernel
theorem dX2_takeOrder_120 : decode cX2_takeOrder 120 = .ok (.aload_n 0, 1) := by decide +kernel
theorem dX2_takeOrder_121 : decode cX2_takeOrder 121 = .ok (.aload_n 0, 1) := by decide +kernel
theorem dX2_takeOrder_122 : decode cX2_takeOrder 122 = .ok (.getfield 22, 3) := by decide +kernel
theorem dX2_takeOrder_125 : decode cX2_takeOrder 125 = .ok (.invokevirtual 48, 3) := by decide +kernel
theorem dX2_takeOrder_128 : decode cX2_takeOrder 128 = .ok (.ireturn, 1) := by decide +kernel
theorem dX2_takeOrder_129 : decode cX2_takeOrder 129 = .ok (.aload_n 0, 1) := by decide +kernel
theorem dX2_takeOrder_130 : decode cX2_takeOrder 130 = .ok (.aload_n 0, 1) := by decide +kernel
theorem dX2_takeOrder_131 : decode cX2_takeOrder 131 = .ok (.getfield 22, 3) := by decide +kernel
theorem dX2_takeOrder_134 : decode cX2_takeOrder 134 = .ok (.invokevirtual 48, 3) := by decide +kernel
theorem dX2_takeOrder_137 : decode cX2_takeOrder 137 = .ok (.ifCond .eq 18, 3) := by decide +kernel
theorem dX2_takeOrder_140 : decode cX2_takeOrder 140 = .ok (.aload_n 0, 1) := by decide +kernel
theorem dX2_takeOrder_141 : decode cX2_takeOrder 141 = .ok (.aload_n 0, 1) := by decide +kernel
theorem dX2_takeOrder_142 : decode cX2_takeOrder 142 = .ok (.invokevirtual 56, 3) := by decide +kernel
theorem dX2_takeOrder_145 : decode cX2_takeOrder 145 = .ok (.invokevirtual 59, 3) := by decide +kernel
theorem dX2_takeOrder_148 : decode cX2_takeOrder 148 = .ok (.ifCond .eq 7, 3) := by decide +kernel
theorem dX2_takeOrder_151 : decode cX2_takeOrder 151 = .ok (.iconst 1, 1) := by decide +kernel
theorem dX2_takeOrder_152 : decode cX2_takeOrder 152 = .ok (.goto 4, 3) := by decide +kernel
theorem dX2_takeOrder_155 : decode cX2_takeOrder 155 = .ok (.iconst 0, 1) := by decide +kernel
theorem dX2_takeOrder_156 : decode cX2_takeOrder 156 = .ok (.ireturn, 1) := by decide +kernel
theorem dX2_takeOrder_157 : decode cX2_takeOrder 157 = .ok (.aload_n 0, 1) := by decide +kernel
theorem dX2_takeOrder_158 : decode cX2_takeOrder 158 = .ok (.aload_n 0, 1) := by decide +kernel
theorem dX2_takeOrder_159 : decode cX2_takeOrder 159 = .ok (.getfield 22, 3) := by decide +kernel
theorem dX2_takeOrder_162 : decode cX2_takeOrder 162 = .ok (.invokevirtual 48, 3) := by decide +kernel
theorem dX2_takeOrder_165 : decode cX2_takeOrder 165 = .ok (.ifCond .eq 18, 3) := by decide +kernel
theorem dX2_takeOrder_168 : decode cX2_takeOrder 168 = .ok (.aload_n 0, 1) := by decide +kernel
theorem dX2_takeOrder_169 : decode cX2_takeOrder 169 = .ok (.aload_n 0, 1) := by decide +kernel
theorem dX2_takeOrder_170 : decode cX2_takeOrder 170 = .ok (.invokevirtual 62, 3) := by decide +kernel
theorem dX2_takeOrder_173 : decode cX2_takeOrder 173 = .ok (.invokevirtual 59, 3) := by decide +kernel
theorem dX2_takeOrder_176 : decode cX2_takeOrder 176 = .ok (.ifCond .eq 7, 3) := by decide +kernel
theorem dX2_takeOrder_179 : decode cX2_takeOrder 179 = .ok (.iconst 1, 1) := by decide +kernel
theorem dX2_takeOrder_180 : decode cX2_takeOrder 180 = .ok (.goto 4, 3) := by decide +kernel
theorem dX2_takeOrder_183 : decode cX2_takeOrder 183 = .ok (.iconst 0, 1) := by decide +kernel
theorem dX2_takeOrder_184 : decode cX2_takeOrder 184 = .ok (.ireturn, 1) := by decide +kernel
theorem dX2_takeOrder_185 : decode cX2_takeOrder 185 = .ok (.aload_n 0, 1) := by decide +kernel
theorem dX2_takeOrder_186 : decode cX2_takeOrder 186 = .ok (.aload_n 0, 1) := by decide +kernel
theorem dX2_takeOrder_187 : decode cX2_takeOrder 187 = .ok (.getfield 22, 3) := by decide +kernel
theorem dX2_takeOrder_190 : decode cX2_takeOrder 190 = .ok (.invokevirtual 48, 3) := by decide +kernel
theorem dX2_takeOrder_193 : decode cX2_takeOrder 193 = .ok (.ifCond .eq 38, 3) := by decide +kernel
theorem dX2_takeOrder_196 : decode cX2_takeOrder 196 = .ok (.aload_n 0, 1) := by decide +kernel
theorem dX2_takeOrder_197 : decode cX2_takeOrder 197 = .ok (.aload_n 0, 1) := by decide +kernel
theorem dX2_takeOrder_198 : decode cX2_takeOrder 198 = .ok (.invokevirtual 56, 3) := by decide +kernel
theorem dX2_takeOrder_201 : decode cX2_takeOrder 201 = .ok (.invokevirtual 59, 3) := by decide +kernel
theorem dX2_takeOrder_204 : decode cX2_takeOrder 204 = .ok (.ifCond .eq 27, 3) := by decide +kernel
theorem dX2_takeOrder_207 : decode cX2_takeOrder 207 = .ok (.aload_n 0, 1) := by decide +kernel
theorem dX2_takeOrder_208 : decode cX2_takeOrder 208 = .ok (.bipush 61, 2) := by decide +kernel
theorem dX2_takeOrder_210 : decode cX2_takeOrder 210 = .ok (.invokevirtual 48, 3) := by decide +kernel
theorem dX2_takeOrder_213 : decode cX2_takeOrder 213 = .ok (.ifCond .eq 18, 3) := by decide +kernel
theorem dX2_takeOrder_216 : decode cX2_takeOrder 216 = .ok (.aload_n 0, 1) := by decide +kernel
theorem dX2_takeOrder_217 : decode cX2_takeOrder 217 = .ok (.aload_n 0, 1) := by decide +kernel
theorem dX2_takeOrder_218 : decode cX2_takeOrder 218 = .ok (.invokevirtual 56, 3) := by decide +kernel
theorem dX2_takeOrder_221 : decode cX2_takeOrder 221 = .ok (.invokevirtual 65, 3) := by decide +kernel
theorem dX2_takeOrder_224 : decode cX2_takeOrder 224 = .ok (.ifCond .eq 7, 3) := by decide +kernel
theorem dX2_takeOrder_227 : decode cX2_takeOrder 227 = .ok (.iconst 1, 1) := by decide +kernel
theorem dX2_takeOrder_228 : decode cX2_takeOrder 228 = .ok (.goto 4, 3) := by decide +kernel
theorem dX2_takeOrder_231 : decode cX2_takeOrder 231 = .ok (.iconst 0, 1) := by decide +kernel
theorem dX2_takeOrder_232 : decode cX2_takeOrder 232 = .ok (.ireturn, 1) := by decide +kernel
theorem dX2_takeOrder_233 : decode cX2_takeOrder 233 = .ok (.aload_n 0, 1) := by decide +kernel
theorem dX2_takeOrder_234 : decode cX2_takeOrder 234 = .ok (.aload_n 0, 1) := by decide +kernel
theorem dX2_takeOrder_235 : decode cX2_takeOrder 235 = .ok (.getfield 22, 3) := by decide +kernel
theorem dX2_takeOrder_238 : decode cX2_takeOrder 238 = .ok (.invokevirtual 48, 3) := by decide +kernel
theorem dX2_takeOrder_241 : decode cX2_takeOrder 241 = .ok (.ifCond .eq 38, 3) := by decide +kernel
theorem dX2_takeOrder_244 : decode cX2_takeOrder 244 = .ok (.aload_n 0, 1) := by decide +kernel
theorem dX2_takeOrder_245 : decode cX2_takeOrder 245 = .ok (.aload_n 0, 1) := by decide +kernel
theorem dX2_takeOrder_246 : decode cX2_takeOrder 246 = .ok (.invokevirtual 62, 3) := by decide +kernel
theorem dX2_takeOrder_249 : decode cX2_takeOrder 249 = .ok (.invokevirtual 59, 3) := by decide +kernel
theorem dX2_takeOrder_252 : decode cX2_takeOrder 252 = .ok (.ifCond .eq 27, 3) := by decide +kernel
theorem dX2_takeOrder_255 : decode cX2_takeOrder 255 = .ok (.aload_n 0, 1) := by decide +kernel
theorem dX2_takeOrder_256 : decode cX2_takeOrder 256 = .ok (.bipush 42, 2) := by decide +kernel
theorem dX2_takeOrder_258 : decode cX2_takeOrder 258 = .ok (.invokevirtual 48, 3) := by decide +kernel
theorem dX2_takeOrder_261 : decode cX2_takeOrder 261 = .ok (.ifCond .eq 18, 3) := by decide +kernel
theorem dX2_takeOrder_264 : decode cX2_takeOrder 264 = .ok (.aload_n 0, 1) := by decide +kernel
theorem dX2_takeOrder_265 : decode cX2_takeOrder 265 = .ok (.aload_n 0, 1) := by decide +kernel
theorem dX2_takeOrder_266 : decode cX2_takeOrder 266 = .ok (.invokevirtual 56, 3) := by decide +kernel
theorem dX2_takeOrder_269 : decode cX2_takeOrder 269 = .ok (.invokevirtual 65, 3) := by decide +kernel
theorem dX2_takeOrder_272 : decode cX2_takeOrder 272 = .ok (.ifCond .eq 7, 3) := by decide +kernel
theorem dX2_takeOrder_275 : decode cX2_takeOrder 275 = .ok (.iconst 1, 1) := by decide +kernel
theorem dX2_takeOrder_276 : decode cX2_takeOrder 276 = .ok (.goto 4, 3) := by decide +kernel
theorem dX2_takeOrder_279 : decode cX2_takeOrder 279 = .ok (.iconst 0, 1) := by decide +kernel
theorem dX2_takeOrder_280 : decode cX2_takeOrder 280 = .ok (.ireturn, 1) := by decide +kernel
theorem dX2_takeOrder_281 : decode cX2_takeOrder 281 = .ok (.aload_n 0, 1) := by decide +kernel
theorem dX2_takeOrder_282 : decode cX2_takeOrder 282 = .ok (.aload_n 0, 1) := by decide +kernel
theorem dX2_takeOrder_283 : decode cX2_takeOrder 283 = .ok (.getfield 22, 3) := by decide +kernel
theorem dX2_takeOrder_286 : decode cX2_takeOrder 286 = .ok (.invokevirtual 48, 3) := by decide +kernel
theorem dX2_takeOrder_289 : decode cX2_takeOrder 289 = .ok (.ifCond .eq 40, 3) := by decide +kernel
theorem dX2_takeOrder_292 : decode cX2_takeOrder 292 = .ok (.aload_n 0, 1) := by decide +kernel
theorem dX2_takeOrder_293 : decode cX2_takeOrder 293 = .ok (.aload_n 0, 1) := by decide +kernel
theorem dX2_takeOrder_294 : decode cX2_takeOrder 294 = .ok (.invokevirtual 62, 3) := by decide +kernel
theorem dX2_takeOrder_297 : decode cX2_takeOrder 297 = .ok (.invokevirtual 59, 3) := by decide +kernel
theorem dX2_takeOrder_300 : decode cX2_takeOrder 300 = .ok (.ifCond .eq 29, 3) := by decide +kernel
theorem dX2_takeOrder_303 : decode cX2_takeOrder 303 = .ok (.aload_n 0, 1) := by decide +kernel
theorem dX2_takeOrder_304 : decode cX2_takeOrder 304 = .ok (.bipush 64, 2) := by decide +kernel
theorem dX2_takeOrder_306 : decode cX2_takeOrder 306 = .ok (.invokevirtual 48, 3) := by decide +kernel
theorem dX2_takeOrder_309 : decode cX2_takeOrder 309 = .ok (.ifCond .eq 20, 3) := by decide +kernel
theorem dX2_takeOrder_312 : decode cX2_takeOrder 312 = .ok (.aload_n 0, 1) := by decide +kernel
theorem dX2_takeOrder_313 : decode cX2_takeOrder 313 = .ok (.aload_n 0, 1) := by decide +kernel
theorem dX2_takeOrder_314 : decode cX2_takeOrder 314 = .ok (.bipush 9, 2) := by decide +kernel
theorem dX2_takeOrder_316 : decode cX2_takeOrder 316 = .ok (.invokevirtual 68, 3) := by decide +kernel
theorem dX2_takeOrder_319 : decode cX2_takeOrder 319 = .ok (.invokevirtual 65, 3) := by decide +kernel
theorem dX2_takeOrder_322 : decode cX2_takeOrder 322 = .ok (.ifCond .eq 7, 3) := by decide +kernel
theorem dX2_takeOrder_325 : decode cX2_takeOrder 325 = .ok (.iconst 1, 1) := by decide +kernel
theorem dX2_takeOrder_326 : decode cX2_takeOrder 326 = .ok (.goto 4, 3) := by decide +kernel
theorem dX2_takeOrder_329 : decode cX2_takeOrder 329 = .ok (.iconst 0, 1) := by decide +kernel
theorem dX2_takeOrder_330 : decode cX2_takeOrder 330 = .ok (.ireturn, 1) := by decide +kernel
theorem dX2_takeOrder_331 : decode cX2_takeOrder 331 = .ok (.iconst 0, 1) := by decide +kernel
theorem dX2_takeOrder_332 : decode cX2_takeOrder 332 = .ok (.ireturn, 1) := by decide +kernel
theorem dX2_takeFirst_0 : decode cX2_takeFirst 0 = .ok (.aload_n 0, 1) := by decide +kernel
theorem dX2_takeFirst_1 : decode cX2_takeFirst 1 = .ok (.iload_n 1, 1) := by decide +kernel
theorem dX2_takeFirst_2 : decode cX2_takeFirst 2 = .ok (.putfield 25, 3) := by decide +kernel
theorem dX2_takeFirst_5 : decode cX2_takeFirst 5 = .ok (.iload_n 1, 1) := by decide +kernel
theorem dX2_takeFirst_6 : decode cX2_takeFirst 6 = .ok (.bipush (-6), 2) := by decide +kernel
theorem dX2_takeFirst_8 : decode cX2_takeFirst 8 = .ok (.if_icmp .eq 7, 3) := by decide +kernel
theorem dX2_takeFirst_11 : decode cX2_takeFirst 11 = .ok (.iconst 1, 1) := by decide +kernel
theorem dX2_takeFirst_12 : decode cX2_takeFirst 12 = .ok (.goto 4, 3) := by decide +kernel
theorem dX2_takeFirst_15 : decode cX2_takeFirst 15 = .ok (.iconst 0, 1) := by decide +kernel
theorem dX2_takeFirst_16 : decode cX2_takeFirst 16 = .ok (.ireturn, 1) := by decide +kernel
theorem dX2_takeSecond_0 : decode cX2_takeSecond 0 = .ok (.aload_n 0, 1) := by decide +kernel
theorem dX2_takeSecond_1 : decode cX2_takeSecond 1 = .ok (.iload_n 1, 1) := by decide +kernel
theorem dX2_takeSecond_2 : decode cX2_takeSecond 2 = .ok (.putfield 28, 3) := by decide +kernel
theorem dX2_takeSecond_5 : decode cX2_takeSecond 5 = .ok (.iload_n 1, 1) := by decide +kernel
theorem dX2_takeSecond_6 : decode cX2_takeSecond 6 = .ok (.bipush (-6), 2) := by decide +kernel
theorem dX2_takeSecond_8 : decode cX2_takeSecond 8 = .ok (.if_icmp .eq 7, 3) := by decide +kernel
theorem dX2_takeSecond_11 : decode cX2_takeSecond 11 = .ok (.iconst 1, 1) := by decide +kernel
theorem dX2_takeSecond_12 : decode cX2_takeSecond 12 = .ok (.goto 4, 3) := by decide +kernel
theorem dX2_takeSecond_15 : decode cX2_takeSecond 15 = .ok (.iconst 0, 1) := by decide +kernel
theorem dX2_takeSecond_16 : decode cX2_takeSecond 16 = .ok (.ireturn, 1) := by decide +kernel
theorem dX2_signHere_0 : decode cX2_signHere 0 = .ok (.aload_n 0, 1) := by decide +kernel
theorem dX2_signHere_1 : decode cX2_signHere 1 = .ok (.getfield 19, 3) := by decide +kernel
theorem dX2_signHere_4 : decode cX2_signHere 4 = .ok (.aload_n 0, 1) := by decide +kernel
theorem dX2_signHere_5 : decode cX2_signHere 5 = .ok (.getfield 15, 3) := by decide +kernel
theorem dX2_signHere_8 : decode cX2_signHere 8 = .ok (.if_icmp .ge 17, 3) := by decide +kernel
theorem dX2_signHere_11 : decode cX2_signHere 11 = .ok (.aload_n 0, 1) := by decide +kernel
theorem dX2_signHere_12 : decode cX2_signHere 12 = .ok (.getfield 9, 3) := by decide +kernel
theorem dX2_signHere_15 : decode cX2_signHere 15 = .ok (.aload_n 0, 1) := by decide +kernel
theorem dX2_signHere_16 : decode cX2_signHere 16 = .ok (.getfield 19, 3) := by decide +kernel
theorem dX2_signHere_19 : decode cX2_signHere 19 = .ok (.invokestatic 72, 3) := by decide +kernel
theorem dX2_signHere_22 : decode cX2_signHere 22 = .ok (.goto 4, 3) := by decide +kernel
theorem dX2_signHere_25 : decode cX2_signHere 25 = .ok (.iconst 0, 1) := by decide +kernel
theorem dX2_signHere_26 : decode cX2_signHere 26 = .ok (.ireturn, 1) := by decide +kernel
theorem dX2_takeSign_0 : decode cX2_takeSign 0 = .ok (.aload_n 0, 1) := by decide +kernel
theorem dX2_takeSign_1 : decode cX2_takeSign 1 = .ok (.invokevirtual 52, 3) := by decide +kernel
theorem dX2_takeSign_4 : decode cX2_takeSign 4 = .ok (.iload_n 1, 1) := by decide +kernel
theorem dX2_takeSign_5 : decode cX2_takeSign 5 = .ok (.if_icmp .eq 5, 3) := by decide +kernel
theorem dX2_takeSign_8 : decode cX2_takeSign 8 = .ok (.iconst 0, 1) := by decide +kernel
theorem dX2_takeSign_9 : decode cX2_takeSign 9 = .ok (.ireturn, 1) := by decide +kernel
theorem dX2_takeSign_10 : decode cX2_takeSign 10 = .ok (.aload_n 0, 1) := by decide +kernel
theorem dX2_takeSign_11 : decode cX2_takeSign 11 = .ok (.dup, 1) := by decide +kernel
theorem dX2_takeSign_12 : decode cX2_takeSign 12 = .ok (.getfield 19, 3) := by decide +kernel
theorem dX2_takeSign_15 : decode cX2_takeSign 15 = .ok (.iconst 1, 1) := by decide +kernel
theorem dX2_takeSign_16 : decode cX2_takeSign 16 = .ok (.iadd, 1) := by decide +kernel
theorem dX2_takeSign_17 : decode cX2_takeSign 17 = .ok (.putfield 19, 3) := by decide +kernel
theorem dX2_takeSign_20 : decode cX2_takeSign 20 = .ok (.iconst 1, 1) := by decide +kernel
theorem dX2_takeSign_21 : decode cX2_takeSign 21 = .ok (.ireturn, 1) := by decide +kernel
theorem dX2_takeReader_0 : decode cX2_takeReader 0 = .ok (.aload_n 0, 1) := by decide +kernel
theorem dX2_takeReader_1 : decode cX2_takeReader 1 = .ok (.iconst 5, 1) := by decide +kernel
theorem dX2_takeReader_2 : decode cX2_takeReader 2 = .ok (.invokevirtual 68, 3) := by decide +kernel
theorem dX2_takeReader_5 : decode cX2_takeReader 5 = .ok (.ireturn, 1) := by decide +kernel
theorem dX2_takeDigit_0 : decode cX2_takeDigit 0 = .ok (.aload_n 0, 1) := by decide +kernel
theorem dX2_takeDigit_1 : decode cX2_takeDigit 1 = .ok (.invokevirtual 52, 3) := by decide +kernel
theorem dX2_takeDigit_4 : decode cX2_takeDigit 4 = .ok (.bipush 48, 2) := by decide +kernel
theorem dX2_takeDigit_6 : decode cX2_takeDigit 6 = .ok (.isub, 1) := by decide +kernel
theorem dX2_takeDigit_7 : decode cX2_takeDigit 7 = .ok (.istore_n 2, 1) := by decide +kernel
theorem dX2_takeDigit_8 : decode cX2_takeDigit 8 = .ok (.iload_n 2, 1) := by decide +kernel
theorem dX2_takeDigit_9 : decode cX2_takeDigit 9 = .ok (.ifCond .lt 8, 3) := by decide +kernel
theorem dX2_takeDigit_12 : decode cX2_takeDigit 12 = .ok (.iload_n 2, 1) := by decide +kernel
theorem dX2_takeDigit_13 : decode cX2_takeDigit 13 = .ok (.iload_n 1, 1) := by decide +kernel
theorem dX2_takeDigit_14 : decode cX2_takeDigit 14 = .ok (.if_icmp .le 6, 3) := by decide +kernel
theorem dX2_takeDigit_17 : decode cX2_takeDigit 17 = .ok (.bipush (-6), 2) := by decide +kernel
theorem dX2_takeDigit_19 : decode cX2_takeDigit 19 = .ok (.ireturn, 1) := by decide +kernel
theorem dX2_takeDigit_20 : decode cX2_takeDigit 20 = .ok (.aload_n 0, 1) := by decide +kernel
theorem dX2_takeDigit_21 : decode cX2_takeDigit 21 = .ok (.dup, 1) := by decide +kernel
theorem dX2_takeDigit_22 : decode cX2_takeDigit 22 = .ok (.getfield 19, 3) := by decide +kernel
theorem dX2_takeDigit_25 : decode cX2_takeDigit 25 = .ok (.iconst 1, 1) := by decide +kernel
theorem dX2_takeDigit_26 : decode cX2_takeDigit 26 = .ok (.iadd, 1) := by decide +kernel
theorem dX2_takeDigit_27 : decode cX2_takeDigit 27 = .ok (.putfield 19, 3) := by decide +kernel
theorem dX2_takeDigit_30 : decode cX2_takeDigit 30 = .ok (.iload_n 2, 1) := by decide +kernel
theorem dX2_takeDigit_31 : decode cX2_takeDigit 31 = .ok (.ireturn, 1) := by decide +kernel
theorem dX2_takeNumber_0 : decode cX2_takeNumber 0 = .ok (.aload_n 0, 1) := by decide +kernel
theorem dX2_takeNumber_1 : decode cX2_takeNumber 1 = .ok (.bipush 9, 2) := by decide +kernel
theorem dX2_takeNumber_3 : decode cX2_takeNumber 3 = .ok (.invokevirtual 68, 3) := by decide +kernel
theorem dX2_takeNumber_6 : decode cX2_takeNumber 6 = .ok (.istore_n 1, 1) := by decide +kernel
theorem dX2_takeNumber_7 : decode cX2_takeNumber 7 = .ok (.iload_n 1, 1) := by decide +kernel
theorem dX2_takeNumber_8 : decode cX2_takeNumber 8 = .ok (.ifCond .gt 5, 3) := by decide +kernel
theorem dX2_takeNumber_11 : decode cX2_takeNumber 11 = .ok (.iload_n 1, 1) := by decide +kernel
theorem dX2_takeNumber_12 : decode cX2_takeNumber 12 = .ok (.ireturn, 1) := by decide +kernel
theorem dX2_takeNumber_13 : decode cX2_takeNumber 13 = .ok (.iconst 1, 1) := by decide +kernel
theorem dX2_takeNumber_14 : decode cX2_takeNumber 14 = .ok (.istore_n 2, 1) := by decide +kernel
theorem dX2_takeNumber_15 : decode cX2_takeNumber 15 = .ok (.iload_n 2, 1) := by decide +kernel
theorem dX2_takeNumber_16 : decode cX2_takeNumber 16 = .ok (.iconst 3, 1) := by decide +kernel
theorem dX2_takeNumber_17 : decode cX2_takeNumber 17 = .ok (.if_icmp .ge 31, 3) := by decide +kernel
theorem dX2_takeNumber_20 : decode cX2_takeNumber 20 = .ok (.aload_n 0, 1) := by decide +kernel
theorem dX2_takeNumber_21 : decode cX2_takeNumber 21 = .ok (.bipush 9, 2) := by decide +kernel
theorem dX2_takeNumber_23 : decode cX2_takeNumber 23 = .ok (.invokevirtual 68, 3) := by decide +kernel
theorem dX2_takeNumber_26 : decode cX2_takeNumber 26 = .ok (.istore_n 3, 1) := by decide +kernel
theorem dX2_takeNumber_27 : decode cX2_takeNumber 27 = .ok (.iload_n 3, 1) := by decide +kernel
theorem dX2_takeNumber_28 : decode cX2_takeNumber 28 = .ok (.bipush (-6), 2) := by decide +kernel
theorem dX2_takeNumber_30 : decode cX2_takeNumber 30 = .ok (.if_icmp .ne 5, 3) := by decide +kernel
theorem dX2_takeNumber_33 : decode cX2_takeNumber 33 = .ok (.iload_n 1, 1) := by decide +kernel
theorem dX2_takeNumber_34 : decode cX2_takeNumber 34 = .ok (.ireturn, 1) := by decide +kernel
theorem dX2_takeNumber_35 : decode cX2_takeNumber 35 = .ok (.bipush 10, 2) := by decide +kernel
theorem dX2_takeNumber_37 : decode cX2_takeNumber 37 = .ok (.iload_n 1, 1) := by decide +kernel
theorem dX2_takeNumber_38 : decode cX2_takeNumber 38 = .ok (.imul, 1) := by decide +kernel
theorem dX2_takeNumber_39 : decode cX2_takeNumber 39 = .ok (.iload_n 3, 1) := by decide +kernel
theorem dX2_takeNumber_40 : decode cX2_takeNumber 40 = .ok (.iadd, 1) := by decide +kernel
theorem dX2_takeNumber_41 : decode cX2_takeNumber 41 = .ok (.istore_n 1, 1) := by decide +kernel
theorem dX2_takeNumber_42 : decode cX2_takeNumber 42 = .ok (.iinc 2 1, 3) := by decide +kernel
theorem dX2_takeNumber_45 : decode cX2_takeNumber 45 = .ok (.goto (-30), 3) := by decide +kernel
theorem dX2_takeNumber_48 : decode cX2_takeNumber 48 = .ok (.iload_n 1, 1) := by decide +kernel
theorem dX2_takeNumber_49 : decode cX2_takeNumber 49 = .ok (.ireturn, 1) := by decide +kernel
theorem dX3_init_0 : decode cX3_init 0 = .ok (.aload_n 0, 1) := by decide +kernel
theorem dX3_init_1 : decode cX3_init 1 = .ok (.invokespecial 1, 3) := by decide +kernel
theorem dX3_init_4 : decode cX3_init 4 = .ok (.aload_n 0, 1) := by decide +kernel
theorem dX3_init_5 : decode cX3_init 5 = .ok (.iconst 0, 1) := by decide +kernel
theorem dX3_init_6 : decode cX3_init 6 = .ok (.putfield 7, 3) := by decide +kernel
theorem dX3_init_9 : decode cX3_init 9 = .ok (.aload_n 0, 1) := by decide +kernel
theorem dX3_init_10 : decode cX3_init 10 = .ok (.iconst 0, 1) := by decide +kernel
theorem dX3_init_11 : decode cX3_init 11 = .ok (.putfield 13, 3) := by decide +kernel
theorem dX3_init_14 : decode cX3_init 14 = .ok (.aload_n 0, 1) := by decide +kernel
theorem dX3_init_15 : decode cX3_init 15 = .ok (.iconst 0, 1) := by decide +kernel
theorem dX3_init_16 : decode cX3_init 16 = .ok (.putfield 16, 3) := by decide +kernel
theorem dX3_init_19 : decode cX3_init 19 = .ok (.aload_n 0, 1) := by decide +kernel
theorem dX3_init_20 : decode cX3_init 20 = .ok (.new 19, 3) := by decide +kernel
theorem dX3_init_23 : decode cX3_init 23 = .ok (.dup, 1) := by decide +kernel
theorem dX3_init_24 : decode cX3_init 24 = .ok (.invokespecial 21, 3) := by decide +kernel
theorem dX3_init_27 : decode cX3_init 27 = .ok (.putfield 22, 3) := by decide +kernel
theorem dX3_init_30 : decode cX3_init 30 = .ok (.aload_n 0, 1) := by decide +kernel
theorem dX3_init_31 : decode cX3_init 31 = .ok (.new 19, 3) := by decide +kernel
theorem dX3_init_34 : decode cX3_init 34 = .ok (.dup, 1) := by decide +kernel
theorem dX3_init_35 : decode cX3_init 35 = .ok (.invokespecial 21, 3) := by decide +kernel
theorem dX3_init_38 : decode cX3_init 38 = .ok (.putfield 26, 3) := by decide +kernel
theorem dX3_init_41 : decode cX3_init 41 = .ok (.return_, 1) := by decide +kernel
theorem dX3_copyFrom_0 : decode cX3_copyFrom 0 = .ok (.aload_n 0, 1) := by decide +kernel
theorem dX3_copyFrom_1 : decode cX3_copyFrom 1 = .ok (.aload_n 1, 1) := by decide +kernel
theorem dX3_copyFrom_2 : decode cX3_copyFrom 2 = .ok (.getfield 7, 3) := by decide +kernel
theorem dX3_copyFrom_5 : decode cX3_copyFrom 5 = .ok (.putfield 7, 3) := by decide +kernel
theorem dX3_copyFrom_8 : decode cX3_copyFrom 8 = .ok (.aload_n 0, 1) := by decide +kernel
theorem dX3_copyFrom_9 : decode cX3_copyFrom 9 = .ok (.aload_n 1, 1) := by decide +kernel
theorem dX3_copyFrom_10 : decode cX3_copyFrom 10 = .ok (.getfield 13, 3) := by decide +kernel
theorem dX3_copyFrom_13 : decode cX3_copyFrom 13 = .ok (.putfield 13, 3) := by decide +kernel
theorem dX3_copyFrom_16 : decode cX3_copyFrom 16 = .ok (.aload_n 0, 1) := by decide +kernel
theorem dX3_copyFrom_17 : decode cX3_copyFrom 17 = .ok (.aload_n 1, 1) := by decide +kernel
theorem dX3_copyFrom_18 : decode cX3_copyFrom 18 = .ok (.getfield 16, 3) := by decide +kernel
theorem dX3_copyFrom_21 : decode cX3_copyFrom 21 = .ok (.putfield 16, 3) := by decide +kernel
theorem dX3_copyFrom_24 : decode cX3_copyFrom 24 = .ok (.aload_n 0, 1) := by decide +kernel
theorem dX3_copyFrom_25 : decode cX3_copyFrom 25 = .ok (.getfield 22, 3) := by decide +kernel
theorem dX3_copyFrom_28 : decode cX3_copyFrom 28 = .ok (.aload_n 1, 1) := by decide +kernel
theorem dX3_copyFrom_29 : decode cX3_copyFrom 29 = .ok (.getfield 22, 3) := by decide +kernel
theorem dX3_copyFrom_32 : decode cX3_copyFrom 32 = .ok (.invokevirtual 29, 3) := by decide +kernel
theorem dX3_copyFrom_35 : decode cX3_copyFrom 35 = .ok (.aload_n 0, 1) := by decide +kernel
theorem dX3_copyFrom_36 : decode cX3_copyFrom 36 = .ok (.getfield 26, 3) := by decide +kernel
theorem dX3_copyFrom_39 : decode cX3_copyFrom 39 = .ok (.aload_n 1, 1) := by decide +kernel
theorem dX3_copyFrom_40 : decode cX3_copyFrom 40 = .ok (.getfield 26, 3) := by decide +kernel
theorem dX3_copyFrom_43 : decode cX3_copyFrom 43 = .ok (.invokevirtual 29, 3) := by decide +kernel
theorem dX3_copyFrom_46 : decode cX3_copyFrom 46 = .ok (.return_, 1) := by decide +kernel
theorem dX3_startOver_0 : decode cX3_startOver 0 = .ok (.aload_n 0, 1) := by decide +kernel
theorem dX3_startOver_1 : decode cX3_startOver 1 = .ok (.iconst 0, 1) := by decide +kernel
theorem dX3_startOver_2 : decode cX3_startOver 2 = .ok (.putfield 7, 3) := by decide +kernel
theorem dX3_startOver_5 : decode cX3_startOver 5 = .ok (.aload_n 0, 1) := by decide +kernel
theorem dX3_startOver_6 : decode cX3_startOver 6 = .ok (.getfield 22, 3) := by decide +kernel
theorem dX3_startOver_9 : decode cX3_startOver 9 = .ok (.invokevirtual 33, 3) := by decide +kernel
theorem dX3_startOver_12 : decode cX3_startOver 12 = .ok (.aload_n 0, 1) := by decide +kernel
theorem dX3_startOver_13 : decode cX3_startOver 13 = .ok (.invokevirtual 36, 3) := by decide +kernel
theorem dX3_startOver_16 : decode cX3_startOver 16 = .ok (.return_, 1) := by decide +kernel
theorem dX3_keepPlace_0 : decode cX3_keepPlace 0 = .ok (.aload_n 0, 1) := by decide +kernel
theorem dX3_keepPlace_1 : decode cX3_keepPlace 1 = .ok (.aload_n 0, 1) := by decide +kernel
theorem dX3_keepPlace_2 : decode cX3_keepPlace 2 = .ok (.getfield 7, 3) := by decide +kernel
theorem dX3_keepPlace_5 : decode cX3_keepPlace 5 = .ok (.putfield 13, 3) := by decide +kernel
theorem dX3_keepPlace_8 : decode cX3_keepPlace 8 = .ok (.aload_n 0, 1) := by decide +kernel
theorem dX3_keepPlace_9 : decode cX3_keepPlace 9 = .ok (.getfield 26, 3) := by decide +kernel
theorem dX3_keepPlace_12 : decode cX3_keepPlace 12 = .ok (.aload_n 0, 1) := by decide +kernel
theorem dX3_keepPlace_13 : decode cX3_keepPlace 13 = .ok (.getfield 22, 3) := by decide +kernel
theorem dX3_keepPlace_16 : decode cX3_keepPlace 16 = .ok (.invokevirtual 29, 3) := by decide +kernel
theorem dX3_keepPlace_19 : decode cX3_keepPlace 19 = .ok (.return_, 1) := by decide +kernel
theorem dX3_returnToConfirmed_0 : decode cX3_returnToConfirmed 0 = .ok (.aload_n 0, 1) := by decide +kernel
theorem dX3_returnToConfirmed_1 : decode cX3_returnToConfirmed 1 = .ok (.aload_n 0, 1) := by decide +kernel
theorem dX3_returnToConfirmed_2 : decode cX3_returnToConfirmed 2 = .ok (.getfield 13, 3) := by decide +kernel
theorem dX3_returnToConfirmed_5 : decode cX3_returnToConfirmed 5 = .ok (.putfield 7, 3) := by decide +kernel
theorem dX3_returnToConfirmed_8 : decode cX3_returnToConfirmed 8 = .ok (.aload_n 0, 1) := by decide +kernel
theorem dX3_returnToConfirmed_9 : decode cX3_returnToConfirmed 9 = .ok (.getfield 22, 3) := by decide +kernel
theorem dX3_returnToConfirmed_12 : decode cX3_returnToConfirmed 12 = .ok (.aload_n 0, 1) := by decide +kernel
theorem dX3_returnToConfirmed_13 : decode cX3_returnToConfirmed 13 = .ok (.getfield 26, 3) := by decide +kernel
theorem dX3_returnToConfirmed_16 : decode cX3_returnToConfirmed 16 = .ok (.invokevirtual 29, 3) := by decide +kernel
theorem dX3_returnToConfirmed_19 : decode cX3_returnToConfirmed 19 = .ok (.return_, 1) := by decide +kernel
theorem dX3_takeOver_0 : decode cX3_takeOver 0 = .ok (.aload_n 0, 1) := by decide +kernel
theorem dX3_takeOver_1 : decode cX3_takeOver 1 = .ok (.aload_n 1, 1) := by decide +kernel
theorem dX3_takeOver_2 : decode cX3_takeOver 2 = .ok (.getfield 39, 3) := by decide +kernel
theorem dX3_takeOver_5 : decode cX3_takeOver 5 = .ok (.putfield 7, 3) := by decide +kernel
theorem dX3_takeOver_8 : decode cX3_takeOver 8 = .ok (.aload_n 0, 1) := by decide +kernel
theorem dX3_takeOver_9 : decode cX3_takeOver 9 = .ok (.getfield 22, 3) := by decide +kernel
theorem dX3_takeOver_12 : decode cX3_takeOver 12 = .ok (.aload_n 1, 1) := by decide +kernel
theorem dX3_takeOver_13 : decode cX3_takeOver 13 = .ok (.getfield 44, 3) := by decide +kernel
theorem dX3_takeOver_16 : decode cX3_takeOver 16 = .ok (.invokevirtual 29, 3) := by decide +kernel
theorem dX3_takeOver_19 : decode cX3_takeOver 19 = .ok (.aload_n 0, 1) := by decide +kernel
theorem dX3_takeOver_20 : decode cX3_takeOver 20 = .ok (.invokevirtual 36, 3) := by decide +kernel
theorem dX3_takeOver_23 : decode cX3_takeOver 23 = .ok (.return_, 1) := by decide +kernel
theorem dX3_readOn_0 : decode cX3_readOn 0 = .ok (.aload_n 1, 1) := by decide +kernel
theorem dX3_readOn_1 : decode cX3_readOn 1 = .ok (.aload_n 0, 1) := by decide +kernel
theorem dX3_readOn_2 : decode cX3_readOn 2 = .ok (.getfield 7, 3) := by decide +kernel
theorem dX3_readOn_5 : decode cX3_readOn 5 = .ok (.invokevirtual 47, 3) := by decide +kernel
theorem dX3_readOn_8 : decode cX3_readOn 8 = .ok (.istore_n 3, 1) := by decide +kernel
theorem dX3_readOn_9 : decode cX3_readOn 9 = .ok (.iload_n 2, 1) := by decide +kernel
theorem dX3_readOn_10 : decode cX3_readOn 10 = .ok (.aload_n 1, 1) := by decide +kernel
theorem dX3_readOn_11 : decode cX3_readOn 11 = .ok (.getfield 53, 3) := by decide +kernel
theorem dX3_readOn_14 : decode cX3_readOn 14 = .ok (.iload_n 3, 1) := by decide +kernel
theorem dX3_readOn_15 : decode cX3_readOn 15 = .ok (.isub, 1) := by decide +kernel
theorem dX3_readOn_16 : decode cX3_readOn 16 = .ok (.invokestatic 56, 3) := by decide +kernel
theorem dX3_readOn_19 : decode cX3_readOn 19 = .ok (.istore 4, 2) := by decide +kernel
theorem dX3_readOn_21 : decode cX3_readOn 21 = .ok (.iload_n 3, 1) := by decide +kernel
theorem dX3_readOn_22 : decode cX3_readOn 22 = .ok (.istore 5, 2) := by decide +kernel
theorem dX3_readOn_24 : decode cX3_readOn 24 = .ok (.iload 5, 2) := by decide +kernel
theorem dX3_readOn_26 : decode cX3_readOn 26 = .ok (.iload_n 3, 1) := by decide +kernel
theorem dX3_readOn_27 : decode cX3_readOn 27 = .ok (.iload 4, 2) := by decide +kernel
theorem dX3_readOn_29 : decode cX3_readOn 29 = .ok (.iadd, 1) := by decide +kernel
theorem dX3_readOn_30 : decode cX3_readOn 30 = .ok (.if_icmp .ge 40, 3) := by decide +kernel
theorem dX3_readOn_33 : decode cX3_readOn 33 = .ok (.aload_n 0, 1) := by decide +kernel
theorem dX3_readOn_34 : decode cX3_readOn 34 = .ok (.getfield 22, 3) := by decide +kernel
theorem dX3_readOn_37 : decode cX3_readOn 37 = .ok (.aload_n 1, 1) := by decide +kernel
theorem dX3_readOn_38 : decode cX3_readOn 38 = .ok (.iload 5, 2) := by decide +kernel
theorem dX3_readOn_40 : decode cX3_readOn 40 = .ok (.invokevirtual 62, 3) := by decide +kernel
theorem dX3_readOn_43 : decode cX3_readOn 43 = .ok (.aload_n 1, 1) := by decide +kernel
theorem dX3_readOn_44 : decode cX3_readOn 44 = .ok (.iload 5, 2) := by decide +kernel
theorem dX3_readOn_46 : decode cX3_readOn 46 = .ok (.invokevirtual 65, 3) := by decide +kernel
theorem dX3_readOn_49 : decode cX3_readOn 49 = .ok (.invokevirtual 68, 3) := by decide +kernel
theorem dX3_readOn_52 : decode cX3_readOn 52 = .ok (.aload_n 0, 1) := by decide +kernel
theorem dX3_readOn_53 : decode cX3_readOn 53 = .ok (.aload_n 1, 1) := by decide +kernel
theorem dX3_readOn_54 : decode cX3_readOn 54 = .ok (.iload 5, 2) := by decide +kernel
theorem dX3_readOn_56 : decode cX3_readOn 56 = .ok (.invokevirtual 72, 3) := by decide +kernel
theorem dX3_readOn_59 : decode cX3_readOn 59 = .ok (.iconst 1, 1) := by decide +kernel
theorem dX3_readOn_60 : decode cX3_readOn 60 = .ok (.iadd, 1) := by decide +kernel
theorem dX3_readOn_61 : decode cX3_readOn 61 = .ok (.putfield 7, 3) := by decide +kernel
theorem dX3_readOn_64 : decode cX3_readOn 64 = .ok (.iinc 5 1, 3) := by decide +kernel
theorem dX3_readOn_67 : decode cX3_readOn 67 = .ok (.goto (-43), 3) := by decide +kernel
theorem dX3_readOn_70 : decode cX3_readOn 70 = .ok (.aload_n 0, 1) := by decide +kernel
theorem dX3_readOn_71 : decode cX3_readOn 71 = .ok (.dup, 1) := by decide +kernel
theorem dX3_readOn_72 : decode cX3_readOn 72 = .ok (.getfield 16, 3) := by decide +kernel
theorem dX3_readOn_75 : decode cX3_readOn 75 = .ok (.iload 4, 2) := by decide +kernel
theorem dX3_readOn_77 : decode cX3_readOn 77 = .ok (.iadd, 1) := by decide +kernel
theorem dX3_readOn_78 : decode cX3_readOn 78 = .ok (.putfield 16, 3) := by decide +kernel
theorem dX3_readOn_81 : decode cX3_readOn 81 = .ok (.iload 4, 2) := by decide +kernel
theorem dX3_readOn_83 : decode cX3_readOn 83 = .ok (.ireturn, 1) := by decide +kernel
theorem dX4_init_0 : decode cX4_init 0 = .ok (.aload_n 0, 1) := by decide +kernel
theorem dX4_init_1 : decode cX4_init 1 = .ok (.invokespecial 1, 3) := by decide +kernel
theorem dX4_init_4 : decode cX4_init 4 = .ok (.aload_n 0, 1) := by decide +kernel
theorem dX4_init_5 : decode cX4_init 5 = .ok (.iconst 0, 1) := by decide +kernel
theorem dX4_init_6 : decode cX4_init 6 = .ok (.putfield 7, 3) := by decide +kernel
theorem dX4_init_9 : decode cX4_init 9 = .ok (.aload_n 0, 1) := by decide +kernel
theorem dX4_init_10 : decode cX4_init 10 = .ok (.new 13, 3) := by decide +kernel
theorem dX4_init_13 : decode cX4_init 13 = .ok (.dup, 1) := by decide +kernel
theorem dX4_init_14 : decode cX4_init 14 = .ok (.invokespecial 15, 3) := by decide +kernel
theorem dX4_init_17 : decode cX4_init 17 = .ok (.putfield 16, 3) := by decide +kernel
theorem dX4_init_20 : decode cX4_init 20 = .ok (.return_, 1) := by decide +kernel
theorem dX5_init_0 : decode cX5_init 0 = .ok (.aload_n 0, 1) := by decide +kernel
theorem dX5_init_1 : decode cX5_init 1 = .ok (.invokespecial 1, 3) := by decide +kernel
theorem dX5_init_4 : decode cX5_init 4 = .ok (.aload_n 0, 1) := by decide +kernel
theorem dX5_init_5 : decode cX5_init 5 = .ok (.iconst 0, 1) := by decide +kernel
theorem dX5_init_6 : decode cX5_init 6 = .ok (.putfield 7, 3) := by decide +kernel
theorem dX5_init_9 : decode cX5_init 9 = .ok (.aload_n 0, 1) := by decide +kernel
theorem dX5_init_10 : decode cX5_init 10 = .ok (.new 13, 3) := by decide +kernel
theorem dX5_init_13 : decode cX5_init 13 = .ok (.dup, 1) := by decide +kernel
theorem dX5_init_14 : decode cX5_init 14 = .ok (.invokespecial 15, 3) := by decide +kernel
theorem dX5_init_17 : decode cX5_init 17 = .ok (.putfield 16, 3) := by decide +kernel
theorem dX5_init_20 : decode cX5_init 20 = .ok (.return_, 1) := by decide +kernel
theorem dX5_copyFrom_0 : decode cX5_copyFrom 0 = .ok (.aload_n 0, 1) := by decide +kernel
theorem dX5_copyFrom_1 : decode cX5_copyFrom 1 = .ok (.aload_n 1, 1) := by decide +kernel
theorem dX5_copyFrom_2 : decode cX5_copyFrom 2 = .ok (.getfield 7, 3) := by decide +kernel
theorem dX5_copyFrom_5 : decode cX5_copyFrom 5 = .ok (.putfield 7, 3) := by decide +kernel
theorem dX5_copyFrom_8 : decode cX5_copyFrom 8 = .ok (.aload_n 0, 1) := by decide +kernel
theorem dX5_copyFrom_9 : decode cX5_copyFrom 9 = .ok (.getfield 16, 3) := by decide +kernel
theorem dX5_copyFrom_12 : decode cX5_copyFrom 12 = .ok (.aload_n 1, 1) := by decide +kernel
theorem dX5_copyFrom_13 : decode cX5_copyFrom 13 = .ok (.getfield 16, 3) := by decide +kernel
theorem dX5_copyFrom_16 : decode cX5_copyFrom 16 = .ok (.invokevirtual 20, 3) := by decide +kernel
theorem dX5_copyFrom_19 : decode cX5_copyFrom 19 = .ok (.return_, 1) := by decide +kernel
theorem dX6_init_0 : decode cX6_init 0 = .ok (.aload_n 0, 1) := by decide +kernel
theorem dX6_init_1 : decode cX6_init 1 = .ok (.invokespecial 3, 3) := by decide +kernel
theorem dX6_init_4 : decode cX6_init 4 = .ok (.aload_n 0, 1) := by decide +kernel
theorem dX6_init_5 : decode cX6_init 5 = .ok (.iconst 5, 1) := by decide +kernel
theorem dX6_init_6 : decode cX6_init 6 = .ok (.putfield 9, 3) := by decide +kernel
theorem dX6_init_9 : decode cX6_init 9 = .ok (.aload_n 0, 1) := by decide +kernel
theorem dX6_init_10 : decode cX6_init 10 = .ok (.bipush 30, 2) := by decide +kernel
theorem dX6_init_12 : decode cX6_init 12 = .ok (.putfield 15, 3) := by decide +kernel
theorem dX6_init_15 : decode cX6_init 15 = .ok (.aload_n 0, 1) := by decide +kernel
theorem dX6_init_16 : decode cX6_init 16 = .ok (.iconst 0, 1) := by decide +kernel
theorem dX6_init_17 : decode cX6_init 17 = .ok (.putfield 18, 3) := by decide +kernel
theorem dX6_init_20 : decode cX6_init 20 = .ok (.aload_n 0, 1) := by decide +kernel
theorem dX6_init_21 : decode cX6_init 21 = .ok (.iconst 0, 1) := by decide +kernel
theorem dX6_init_22 : decode cX6_init 22 = .ok (.putfield 21, 3) := by decide +kernel
theorem dX6_init_25 : decode cX6_init 25 = .ok (.aload_n 0, 1) := by decide +kernel
theorem dX6_init_26 : decode cX6_init 26 = .ok (.iconst 0, 1) := by decide +kernel
theorem dX6_init_27 : decode cX6_init 27 = .ok (.putfield 24, 3) := by decide +kernel
theorem dX6_init_30 : decode cX6_init 30 = .ok (.aload_n 0, 1) := by decide +kernel
theorem dX6_init_31 : decode cX6_init 31 = .ok (.new 27, 3) := by decide +kernel
theorem dX6_init_34 : decode cX6_init 34 = .ok (.dup, 1) := by decide +kernel
theorem dX6_init_35 : decode cX6_init 35 = .ok (.invokespecial 29, 3) := by decide +kernel
theorem dX6_init_38 : decode cX6_init 38 = .ok (.putfield 30, 3) := by decide +kernel
theorem dX6_init_41 : decode cX6_init 41 = .ok (.aload_n 0, 1) := by decide +kernel
theorem dX6_init_42 : decode cX6_init 42 = .ok (.new 34, 3) := by decide +kernel
theorem dX6_init_45 : decode cX6_init 45 = .ok (.dup, 1) := by decide +kernel
theorem dX6_init_46 : decode cX6_init 46 = .ok (.invokespecial 36, 3) := by decide +kernel
theorem dX6_init_49 : decode cX6_init 49 = .ok (.putfield 37, 3) := by decide +kernel
theorem dX6_init_52 : decode cX6_init 52 = .ok (.aload_n 0, 1) := by decide +kernel
theorem dX6_init_53 : decode cX6_init 53 = .ok (.bipush 6, 2) := by decide +kernel
theorem dX6_init_55 : decode cX6_init 55 = .ok (.anewarray 41, 3) := by decide +kernel
theorem dX6_init_58 : decode cX6_init 58 = .ok (.putfield 43, 3) := by decide +kernel
theorem dX6_init_61 : decode cX6_init 61 = .ok (.aload_n 0, 1) := by decide +kernel
theorem dX6_init_62 : decode cX6_init 62 = .ok (.iconst 4, 1) := by decide +kernel
theorem dX6_init_63 : decode cX6_init 63 = .ok (.anewarray 47, 3) := by decide +kernel
theorem dX6_init_66 : decode cX6_init 66 = .ok (.putfield 49, 3) := by decide +kernel
theorem dX6_init_69 : decode cX6_init 69 = .ok (.iconst 0, 1) := by decide +kernel
theorem dX6_init_70 : decode cX6_init 70 = .ok (.istore_n 1, 1) := by decide +kernel
theorem dX6_init_71 : decode cX6_init 71 = .ok (.iload_n 1, 1) := by decide +kernel
theorem dX6_init_72 : decode cX6_init 72 = .ok (.aload_n 0, 1) := by decide +kernel
theorem dX6_init_73 : decode cX6_init 73 = .ok (.getfield 43, 3) := by decide +kernel
theorem dX6_init_76 : decode cX6_init 76 = .ok (.arraylength, 1) := by decide +kernel
theorem dX6_init_77 : decode cX6_init 77 = .ok (.if_icmp .ge 22, 3) := by decide +kernel
theorem dX6_init_80 : decode cX6_init 80 = .ok (.aload_n 0, 1) := by decide +kernel
theorem dX6_init_81 : decode cX6_init 81 = .ok (.getfield 43, 3) := by decide +kernel
theorem dX6_init_84 : decode cX6_init 84 = .ok (.iload_n 1, 1) := by decide +kernel
theorem dX6_init_85 : decode cX6_init 85 = .ok (.new 41, 3) := by decide +kernel
theorem dX6_init_88 : decode cX6_init 88 = .ok (.dup, 1) := by decide +kernel
theorem dX6_init_89 : decode cX6_init 89 = .ok (.invokespecial 53, 3) := by decide +kernel
theorem dX6_init_92 : decode cX6_init 92 = .ok (.aastore, 1) := by decide +kernel
theorem dX6_init_93 : decode cX6_init 93 = .ok (.iinc 1 1, 3) := by decide +kernel
theorem dX6_init_96 : decode cX6_init 96 = .ok (.goto (-25), 3) := by decide +kernel
theorem dX6_init_99 : decode cX6_init 99 = .ok (.iconst 0, 1) := by decide +kernel
theorem dX6_init_100 : decode cX6_init 100 = .ok (.istore_n 1, 1) := by decide +kernel
theorem dX6_init_101 : decode cX6_init 101 = .ok (.iload_n 1, 1) := by decide +kernel
theorem dX6_init_102 : decode cX6_init 102 = .ok (.aload_n 0, 1) := by decide +kernel
theorem dX6_init_103 : decode cX6_init 103 = .ok (.getfield 49, 3) := by decide +kernel
theorem dX6_init_106 : decode cX6_init 106 = .ok (.arraylength, 1) := by decide +kernel
theorem dX6_init_107 : decode cX6_init 107 = .ok (.if_icmp .ge 22, 3) := by decide +kernel
theorem dX6_init_110 : decode cX6_init 110 = .ok (.aload_n 0, 1) := by decide +kernel
theorem dX6_init_111 : decode cX6_init 111 = .ok (.getfield 49, 3) := by decide +kernel
theorem dX6_init_114 : decode cX6_init 114 = .ok (.iload_n 1, 1) := by decide +kernel
theorem dX6_init_115 : decode cX6_init 115 = .ok (.new 47, 3) := by decide +kernel
theorem dX6_init_118 : decode cX6_init 118 = .ok (.dup, 1) := by decide +kernel
theorem dX6_init_119 : decode cX6_init 119 = .ok (.invokespecial 54, 3) := by decide +kernel
theorem dX6_init_122 : decode cX6_init 122 = .ok (.aastore, 1) := by decide +kernel
theorem dX6_init_123 : decode cX6_init 123 = .ok (.iinc 1 1, 3) := by decide +kernel
theorem dX6_init_126 : decode cX6_init 126 = .ok (.goto (-25), 3) := by decide +kernel
theorem dX6_init_129 : decode cX6_init 129 = .ok (.return_, 1) := by decide +kernel
theorem dX6_copyFrom_0 : decode cX6_copyFrom 0 = .ok (.aload_n 0, 1) := by decide +kernel
theorem dX6_copyFrom_1 : decode cX6_copyFrom 1 = .ok (.aload_n 1, 1) := by decide +kernel
theorem dX6_copyFrom_2 : decode cX6_copyFrom 2 = .ok (.getfield 9, 3) := by decide +kernel
theorem dX6_copyFrom_5 : decode cX6_copyFrom 5 = .ok (.putfield 9, 3) := by decide +kernel
theorem dX6_copyFrom_8 : decode cX6_copyFrom 8 = .ok (.aload_n 0, 1) := by decide +kernel
theorem dX6_copyFrom_9 : decode cX6_copyFrom 9 = .ok (.aload_n 1, 1) := by decide +kernel
theorem dX6_copyFrom_10 : decode cX6_copyFrom 10 = .ok (.getfield 15, 3) := by decide +kernel
theorem dX6_copyFrom_13 : decode cX6_copyFrom 13 = .ok (.putfield 15, 3) := by decide +kernel
theorem dX6_copyFrom_16 : decode cX6_copyFrom 16 = .ok (.aload_n 0, 1) := by decide +kernel
theorem dX6_copyFrom_17 : decode cX6_copyFrom 17 = .ok (.aload_n 1, 1) := by decide +kernel
theorem dX6_copyFrom_18 : decode cX6_copyFrom 18 = .ok (.getfield 18, 3) := by decide +kernel
theorem dX6_copyFrom_21 : decode cX6_copyFrom 21 = .ok (.putfield 18, 3) := by decide +kernel
theorem dX6_copyFrom_24 : decode cX6_copyFrom 24 = .ok (.aload_n 0, 1) := by decide +kernel
theorem dX6_copyFrom_25 : decode cX6_copyFrom 25 = .ok (.aload_n 1, 1) := by decide +kernel
theorem dX6_copyFrom_26 : decode cX6_copyFrom 26 = .ok (.getfield 21, 3) := by decide +kernel
theorem dX6_copyFrom_29 : decode cX6_copyFrom 29 = .ok (.putfield 21, 3) := by decide +kernel
theorem dX6_copyFrom_32 : decode cX6_copyFrom 32 = .ok (.aload_n 0, 1) := by decide +kernel
theorem dX6_copyFrom_33 : decode cX6_copyFrom 33 = .ok (.aload_n 1, 1) := by decide +kernel
theorem dX6_copyFrom_34 : decode cX6_copyFrom 34 = .ok (.getfield 24, 3) := by decide +kernel
theorem dX6_copyFrom_37 : decode cX6_copyFrom 37 = .ok (.putfield 24, 3) := by decide +kernel
theorem dX6_copyFrom_40 : decode cX6_copyFrom 40 = .ok (.aload_n 0, 1) := by decide +kernel
theorem dX6_copyFrom_41 : decode cX6_copyFrom 41 = .ok (.getfield 30, 3) := by decide +kernel
theorem dX6_copyFrom_44 : decode cX6_copyFrom 44 = .ok (.aload_n 1, 1) := by decide +kernel
theorem dX6_copyFrom_45 : decode cX6_copyFrom 45 = .ok (.getfield 30, 3) := by decide +kernel
theorem dX6_copyFrom_48 : decode cX6_copyFrom 48 = .ok (.invokevirtual 55, 3) := by decide +kernel
theorem dX6_copyFrom_51 : decode cX6_copyFrom 51 = .ok (.aload_n 0, 1) := by decide +kernel
theorem dX6_copyFrom_52 : decode cX6_copyFrom 52 = .ok (.getfield 37, 3) := by decide +kernel
theorem dX6_copyFrom_55 : decode cX6_copyFrom 55 = .ok (.aload_n 1, 1) := by decide +kernel
theorem dX6_copyFrom_56 : decode cX6_copyFrom 56 = .ok (.getfield 37, 3) := by decide +kernel
theorem dX6_copyFrom_59 : decode cX6_copyFrom 59 = .ok (.invokevirtual 59, 3) := by decide +kernel
theorem dX6_copyFrom_62 : decode cX6_copyFrom 62 = .ok (.iconst 0, 1) := by decide +kernel
theorem dX6_copyFrom_63 : decode cX6_copyFrom 63 = .ok (.istore_n 2, 1) := by decide +kernel
theorem dX6_copyFrom_64 : decode cX6_copyFrom 64 = .ok (.iload_n 2, 1) := by decide +kernel
theorem dX6_copyFrom_65 : decode cX6_copyFrom 65 = .ok (.aload_n 0, 1) := by decide +kernel
theorem dX6_copyFrom_66 : decode cX6_copyFrom 66 = .ok (.getfield 21, 3) := by decide +kernel
theorem dX6_copyFrom_69 : decode cX6_copyFrom 69 = .ok (.if_icmp .ge 37, 3) := by decide +kernel
theorem dX6_copyFrom_72 : decode cX6_copyFrom 72 = .ok (.aload_n 0, 1) := by decide +kernel
theorem dX6_copyFrom_73 : decode cX6_copyFrom 73 = .ok (.iload_n 2, 1) := by decide +kernel
theorem dX6_copyFrom_74 : decode cX6_copyFrom 74 = .ok (.invokevirtual 62, 3) := by decide +kernel
theorem dX6_copyFrom_77 : decode cX6_copyFrom 77 = .ok (.astore_n 3, 1) := by decide +kernel
theorem dX6_copyFrom_78 : decode cX6_copyFrom 78 = .ok (.aload_n 1, 1) := by decide +kernel
theorem dX6_copyFrom_79 : decode cX6_copyFrom 79 = .ok (.iload_n 2, 1) := by decide +kernel
theorem dX6_copyFrom_80 : decode cX6_copyFrom 80 = .ok (.invokevirtual 62, 3) := by decide +kernel
theorem dX6_copyFrom_83 : decode cX6_copyFrom 83 = .ok (.astore 4, 2) := by decide +kernel
theorem dX6_copyFrom_85 : decode cX6_copyFrom 85 = .ok (.aload_n 3, 1) := by decide +kernel
theorem dX6_copyFrom_86 : decode cX6_copyFrom 86 = .ok (.ifnull 14, 3) := by decide +kernel
theorem dX6_copyFrom_89 : decode cX6_copyFrom 89 = .ok (.aload 4, 2) := by decide +kernel
theorem dX6_copyFrom_91 : decode cX6_copyFrom 91 = .ok (.ifnull 9, 3) := by decide +kernel
theorem dX6_copyFrom_94 : decode cX6_copyFrom 94 = .ok (.aload_n 3, 1) := by decide +kernel
theorem dX6_copyFrom_95 : decode cX6_copyFrom 95 = .ok (.aload 4, 2) := by decide +kernel
theorem dX6_copyFrom_97 : decode cX6_copyFrom 97 = .ok (.invokevirtual 66, 3) := by decide +kernel
theorem dX6_copyFrom_100 : decode cX6_copyFrom 100 = .ok (.iinc 2 1, 3) := by decide +kernel
theorem dX6_copyFrom_103 : decode cX6_copyFrom 103 = .ok (.goto (-39), 3) := by decide +kernel
theorem dX6_copyFrom_106 : decode cX6_copyFrom 106 = .ok (.iconst 0, 1) := by decide +kernel
theorem dX6_copyFrom_107 : decode cX6_copyFrom 107 = .ok (.istore_n 2, 1) := by decide +kernel
theorem dX6_copyFrom_108 : decode cX6_copyFrom 108 = .ok (.iload_n 2, 1) := by decide +kernel
theorem dX6_copyFrom_109 : decode cX6_copyFrom 109 = .ok (.aload_n 0, 1) := by decide +kernel
theorem dX6_copyFrom_110 : decode cX6_copyFrom 110 = .ok (.getfield 24, 3) := by decide +kernel
theorem dX6_copyFrom_113 : decode cX6_copyFrom 113 = .ok (.if_icmp .ge 22, 3) := by decide +kernel
theorem dX6_copyFrom_116 : decode cX6_copyFrom 116 = .ok (.aload_n 1, 1) := by decide +kernel
theorem dX6_copyFrom_117 : decode cX6_copyFrom 117 = .ok (.iload_n 2, 1) := by decide +kernel
theorem dX6_copyFrom_118 : decode cX6_copyFrom 118 = .ok (.invokevirtual 69, 3) := by decide +kernel
theorem dX6_copyFrom_121 : decode cX6_copyFrom 121 = .ok (.aload_n 0, 1) := by decide +kernel
theorem dX6_copyFrom_122 : decode cX6_copyFrom 122 = .ok (.iload_n 2, 1) := by decide +kernel
theorem dX6_copyFrom_123 : decode cX6_copyFrom 123 = .ok (.invokevirtual 69, 3) := by decide +kernel
theorem dX6_copyFrom_126 : decode cX6_copyFrom 126 = .ok (.invokestatic 73, 3) := by decide +kernel
theorem dX6_copyFrom_129 : decode cX6_copyFrom 129 = .ok (.iinc 2 1, 3) := by decide +kernel
theorem dX6_copyFrom_132 : decode cX6_copyFrom 132 = .ok (.goto (-24), 3) := by decide +kernel
theorem dX6_copyFrom_135 : decode cX6_copyFrom 135 = .ok (.return_, 1) := by decide +kernel
theorem dX6_copySnapshot_0 : decode cX6_copySnapshot 0 = .ok (.aload_n 0, 1) := by decide +kernel
theorem dX6_copySnapshot_1 : decode cX6_copySnapshot 1 = .ok (.ifnull 12, 3) := by decide +kernel
theorem dX6_copySnapshot_4 : decode cX6_copySnapshot 4 = .ok (.aload_n 1, 1) := by decide +kernel
theorem dX6_copySnapshot_5 : decode cX6_copySnapshot 5 = .ok (.ifnull 8, 3) := by decide +kernel
theorem dX6_copySnapshot_8 : decode cX6_copySnapshot 8 = .ok (.aload_n 1, 1) := by decide +kernel
theorem dX6_copySnapshot_9 : decode cX6_copySnapshot 9 = .ok (.aload_n 0, 1) := by decide +kernel
theorem dX6_copySnapshot_10 : decode cX6_copySnapshot 10 = .ok (.invokevirtual 77, 3) := by decide +kernel
theorem dX6_copySnapshot_13 : decode cX6_copySnapshot 13 = .ok (.return_, 1) := by decide +kernel
theorem dX6_readerAt_0 : decode cX6_readerAt 0 = .ok (.iload_n 1, 1) := by decide +kernel
theorem dX6_readerAt_1 : decode cX6_readerAt 1 = .ok (.ifCond .lt 20, 3) := by decide +kernel
theorem dX6_readerAt_4 : decode cX6_readerAt 4 = .ok (.iload_n 1, 1) := by decide +kernel
theorem dX6_readerAt_5 : decode cX6_readerAt 5 = .ok (.aload_n 0, 1) := by decide +kernel
theorem dX6_readerAt_6 : decode cX6_readerAt 6 = .ok (.getfield 21, 3) := by decide +kernel
theorem dX6_readerAt_9 : decode cX6_readerAt 9 = .ok (.if_icmp .ge 12, 3) := by decide +kernel
theorem dX6_readerAt_12 : decode cX6_readerAt 12 = .ok (.iload_n 1, 1) := by decide +kernel
theorem dX6_readerAt_13 : decode cX6_readerAt 13 = .ok (.aload_n 0, 1) := by decide +kernel
theorem dX6_readerAt_14 : decode cX6_readerAt 14 = .ok (.getfield 43, 3) := by decide +kernel
theorem dX6_readerAt_17 : decode cX6_readerAt 17 = .ok (.arraylength, 1) := by decide +kernel
theorem dX6_readerAt_18 : decode cX6_readerAt 18 = .ok (.if_icmp .lt 7, 3) := by decide +kernel
theorem dX6_readerAt_21 : decode cX6_readerAt 21 = .ok (.aconst_null, 1) := by decide +kernel
theorem dX6_readerAt_22 : decode cX6_readerAt 22 = .ok (.goto 9, 3) := by decide +kernel
theorem dX6_readerAt_25 : decode cX6_readerAt 25 = .ok (.aload_n 0, 1) := by decide +kernel
theorem dX6_readerAt_26 : decode cX6_readerAt 26 = .ok (.getfield 43, 3) := by decide +kernel
theorem dX6_readerAt_29 : decode cX6_readerAt 29 = .ok (.iload_n 1, 1) := by decide +kernel
theorem dX6_readerAt_30 : decode cX6_readerAt 30 = .ok (.aaload, 1) := by decide +kernel
theorem dX6_readerAt_31 : decode cX6_readerAt 31 = .ok (.areturn, 1) := by decide +kernel
theorem dX6_snapshotAt_0 : decode cX6_snapshotAt 0 = .ok (.iload_n 1, 1) := by decide +kernel
theorem dX6_snapshotAt_1 : decode cX6_snapshotAt 1 = .ok (.ifCond .lt 20, 3) := by decide +kernel
theorem dX6_snapshotAt_4 : decode cX6_snapshotAt 4 = .ok (.iload_n 1, 1) := by decide +kernel
theorem dX6_snapshotAt_5 : decode cX6_snapshotAt 5 = .ok (.aload_n 0, 1) := by decide +kernel
theorem dX6_snapshotAt_6 : decode cX6_snapshotAt 6 = .ok (.getfield 24, 3) := by decide +kernel
theorem dX6_snapshotAt_9 : decode cX6_snapshotAt 9 = .ok (.if_icmp .ge 12, 3) := by decide +kernel
theorem dX6_snapshotAt_12 : decode cX6_snapshotAt 12 = .ok (.iload_n 1, 1) := by decide +kernel
theorem dX6_snapshotAt_13 : decode cX6_snapshotAt 13 = .ok (.aload_n 0, 1) := by decide +kernel
theorem dX6_snapshotAt_14 : decode cX6_snapshotAt 14 = .ok (.getfield 49, 3) := by decide +kernel
theorem dX6_snapshotAt_17 : decode cX6_snapshotAt 17 = .ok (.arraylength, 1) := by decide +kernel
theorem dX6_snapshotAt_18 : decode cX6_snapshotAt 18 = .ok (.if_icmp .lt 7, 3) := by decide +kernel
theorem dX6_snapshotAt_21 : decode cX6_snapshotAt 21 = .ok (.aconst_null, 1) := by decide +kernel
theorem dX6_snapshotAt_22 : decode cX6_snapshotAt 22 = .ok (.goto 9, 3) := by decide +kernel
theorem dX6_snapshotAt_25 : decode cX6_snapshotAt 25 = .ok (.aload_n 0, 1) := by decide +kernel
theorem dX6_snapshotAt_26 : decode cX6_snapshotAt 26 = .ok (.getfield 49, 3) := by decide +kernel
theorem dX6_snapshotAt_29 : decode cX6_snapshotAt 29 = .ok (.iload_n 1, 1) := by decide +kernel
theorem dX6_snapshotAt_30 : decode cX6_snapshotAt 30 = .ok (.aaload, 1) := by decide +kernel
theorem dX6_snapshotAt_31 : decode cX6_snapshotAt 31 = .ok (.areturn, 1) := by decide +kernel
theorem dX6_turnSetting_0 : decode cX6_turnSetting 0 = .ok (.iload_n 1, 1) := by decide +kernel
theorem dX6_turnSetting_1 : decode cX6_turnSetting 1 = .ok (.ifCond .ne 27, 3) := by decide +kernel
theorem dX6_turnSetting_4 : decode cX6_turnSetting 4 = .ok (.iload_n 2, 1) := by decide +kernel
theorem dX6_turnSetting_5 : decode cX6_turnSetting 5 = .ok (.iconst 1, 1) := by decide +kernel
theorem dX6_turnSetting_6 : decode cX6_turnSetting 6 = .ok (.if_icmp .lt 22, 3) := by decide +kernel
theorem dX6_turnSetting_9 : decode cX6_turnSetting 9 = .ok (.iload_n 2, 1) := by decide +kernel
theorem dX6_turnSetting_10 : decode cX6_turnSetting 10 = .ok (.bipush 20, 2) := by decide +kernel
theorem dX6_turnSetting_12 : decode cX6_turnSetting 12 = .ok (.if_icmp .gt 16, 3) := by decide +kernel
theorem dX6_turnSetting_15 : decode cX6_turnSetting 15 = .ok (.aload_n 0, 1) := by decide +kernel
theorem dX6_turnSetting_16 : decode cX6_turnSetting 16 = .ok (.getfield 9, 3) := by decide +kernel
theorem dX6_turnSetting_19 : decode cX6_turnSetting 19 = .ok (.istore_n 3, 1) := by decide +kernel
theorem dX6_turnSetting_20 : decode cX6_turnSetting 20 = .ok (.aload_n 0, 1) := by decide +kernel
theorem dX6_turnSetting_21 : decode cX6_turnSetting 21 = .ok (.iload_n 2, 1) := by decide +kernel
theorem dX6_turnSetting_22 : decode cX6_turnSetting 22 = .ok (.putfield 9, 3) := by decide +kernel
theorem dX6_turnSetting_25 : decode cX6_turnSetting 25 = .ok (.goto 31, 3) := by decide +kernel
theorem dX6_turnSetting_28 : decode cX6_turnSetting 28 = .ok (.iload_n 1, 1) := by decide +kernel
theorem dX6_turnSetting_29 : decode cX6_turnSetting 29 = .ok (.iconst 1, 1) := by decide +kernel
theorem dX6_turnSetting_30 : decode cX6_turnSetting 30 = .ok (.if_icmp .ne 23, 3) := by decide +kernel
theorem dX6_turnSetting_33 : decode cX6_turnSetting 33 = .ok (.iload_n 2, 1) := by decide +kernel
theorem dX6_turnSetting_34 : decode cX6_turnSetting 34 = .ok (.invokestatic 80, 3) := by decide +kernel
theorem dX6_turnSetting_37 : decode cX6_turnSetting 37 = .ok (.ifCond .eq 16, 3) := by decide +kernel
theorem dX6_turnSetting_40 : decode cX6_turnSetting 40 = .ok (.aload_n 0, 1) := by decide +kernel
theorem dX6_turnSetting_41 : decode cX6_turnSetting 41 = .ok (.getfield 15, 3) := by decide +kernel
theorem dX6_turnSetting_44 : decode cX6_turnSetting 44 = .ok (.istore_n 3, 1) := by decide +kernel
theorem dX6_turnSetting_45 : decode cX6_turnSetting 45 = .ok (.aload_n 0, 1) := by decide +kernel
theorem dX6_turnSetting_46 : decode cX6_turnSetting 46 = .ok (.iload_n 2, 1) := by decide +kernel
theorem dX6_turnSetting_47 : decode cX6_turnSetting 47 = .ok (.putfield 15, 3) := by decide +kernel
theorem dX6_turnSetting_50 : decode cX6_turnSetting 50 = .ok (.goto 6, 3) := by decide +kernel
theorem dX6_turnSetting_53 : decode cX6_turnSetting 53 = .ok (.bipush (-2), 2) := by decide +kernel
theorem dX6_turnSetting_55 : decode cX6_turnSetting 55 = .ok (.istore_n 3, 1) := by decide +kernel
theorem dX6_turnSetting_56 : decode cX6_turnSetting 56 = .ok (.iload_n 3, 1) := by decide +kernel
theorem dX6_turnSetting_57 : decode cX6_turnSetting 57 = .ok (.ireturn, 1) := by decide +kernel
theorem dX6_setKey_0 : decode cX6_setKey 0 = .ok (.iload_n 1, 1) := by decide +kernel
theorem dX6_setKey_1 : decode cX6_setKey 1 = .ok (.invokestatic 84, 3) := by decide +kernel
theorem dX6_setKey_4 : decode cX6_setKey 4 = .ok (.ifCond .ne 5, 3) := by decide +kernel
theorem dX6_setKey_7 : decode cX6_setKey 7 = .ok (.iconst (-1), 1) := by decide +kernel
theorem dX6_setKey_8 : decode cX6_setKey 8 = .ok (.ireturn, 1) := by decide +kernel
theorem dX6_setKey_9 : decode cX6_setKey 9 = .ok (.iload_n 2, 1) := by decide +kernel
theorem dX6_setKey_10 : decode cX6_setKey 10 = .ok (.invokestatic 80, 3) := by decide +kernel
theorem dX6_setKey_13 : decode cX6_setKey 13 = .ok (.ifCond .ne 6, 3) := by decide +kernel
theorem dX6_setKey_16 : decode cX6_setKey 16 = .ok (.bipush (-2), 2) := by decide +kernel
theorem dX6_setKey_18 : decode cX6_setKey 18 = .ok (.ireturn, 1) := by decide +kernel
theorem dX6_setKey_19 : decode cX6_setKey 19 = .ok (.aload_n 0, 1) := by decide +kernel
theorem dX6_setKey_20 : decode cX6_setKey 20 = .ok (.getfield 37, 3) := by decide +kernel
theorem dX6_setKey_23 : decode cX6_setKey 23 = .ok (.invokevirtual 87, 3) := by decide +kernel
theorem dX6_setKey_26 : decode cX6_setKey 26 = .ok (.ifCond .eq 6, 3) := by decide +kernel
theorem dX6_setKey_29 : decode cX6_setKey 29 = .ok (.bipush (-4), 2) := by decide +kernel
theorem dX6_setKey_31 : decode cX6_setKey 31 = .ok (.ireturn, 1) := by decide +kernel
theorem dX6_setKey_32 : decode cX6_setKey 32 = .ok (.aload_n 0, 1) := by decide +kernel
theorem dX6_setKey_33 : decode cX6_setKey 33 = .ok (.getfield 30, 3) := by decide +kernel
theorem dX6_setKey_36 : decode cX6_setKey 36 = .ok (.iload_n 1, 1) := by decide +kernel
theorem dX6_setKey_37 : decode cX6_setKey 37 = .ok (.iload_n 2, 1) := by decide +kernel
theorem dX6_setKey_38 : decode cX6_setKey 38 = .ok (.invokevirtual 91, 3) := by decide +kernel
theorem dX6_setKey_41 : decode cX6_setKey 41 = .ok (.aload_n 0, 1) := by decide +kernel
theorem dX6_setKey_42 : decode cX6_setKey 42 = .ok (.getfield 37, 3) := by decide +kernel
theorem dX6_setKey_45 : decode cX6_setKey 45 = .ok (.iload_n 1, 1) := by decide +kernel
theorem dX6_setKey_46 : decode cX6_setKey 46 = .ok (.iload_n 2, 1) := by decide +kernel
theorem dX6_setKey_47 : decode cX6_setKey 47 = .ok (.aload_n 0, 1) := by decide +kernel
theorem dX6_setKey_48 : decode cX6_setKey 48 = .ok (.getfield 18, 3) := by decide +kernel
theorem dX6_setKey_51 : decode cX6_setKey 51 = .ok (.invokevirtual 95, 3) := by decide +kernel
theorem dX6_setKey_54 : decode cX6_setKey 54 = .ok (.ireturn, 1) := by decide +kernel
theorem dX6_removeKey_0 : decode cX6_removeKey 0 = .ok (.iload_n 1, 1) := by decide +kernel
theorem dX6_removeKey_1 : decode cX6_removeKey 1 = .ok (.invokestatic 84, 3) := by decide +kernel
theorem dX6_removeKey_4 : decode cX6_removeKey 4 = .ok (.ifCond .ne 5, 3) := by decide +kernel
theorem dX6_removeKey_7 : decode cX6_removeKey 7 = .ok (.iconst (-1), 1) := by decide +kernel
theorem dX6_removeKey_8 : decode cX6_removeKey 8 = .ok (.ireturn, 1) := by decide +kernel
theorem dX6_removeKey_9 : decode cX6_removeKey 9 = .ok (.aload_n 0, 1) := by decide +kernel
theorem dX6_removeKey_10 : decode cX6_removeKey 10 = .ok (.getfield 37, 3) := by decide +kernel
theorem dX6_removeKey_13 : decode cX6_removeKey 13 = .ok (.invokevirtual 87, 3) := by decide +kernel
theorem dX6_removeKey_16 : decode cX6_removeKey 16 = .ok (.ifCond .eq 6, 3) := by decide +kernel
theorem dX6_removeKey_19 : decode cX6_removeKey 19 = .ok (.bipush (-4), 2) := by decide +kernel
theorem dX6_removeKey_21 : decode cX6_removeKey 21 = .ok (.ireturn, 1) := by decide +kernel
theorem dX6_removeKey_22 : decode cX6_removeKey 22 = .ok (.aload_n 0, 1) := by decide +kernel
theorem dX6_removeKey_23 : decode cX6_removeKey 23 = .ok (.getfield 30, 3) := by decide +kernel
theorem dX6_removeKey_26 : decode cX6_removeKey 26 = .ok (.iload_n 1, 1) := by decide +kernel
theorem dX6_removeKey_27 : decode cX6_removeKey 27 = .ok (.invokevirtual 99, 3) := by decide +kernel
theorem dX6_removeKey_30 : decode cX6_removeKey 30 = .ok (.bipush (-6), 2) := by decide +kernel
theorem dX6_removeKey_32 : decode cX6_removeKey 32 = .ok (.if_icmp .ne 6, 3) := by decide +kernel
theorem dX6_removeKey_35 : decode cX6_removeKey 35 = .ok (.bipush (-5), 2) := by decide +kernel
theorem dX6_removeKey_37 : decode cX6_removeKey 37 = .ok (.ireturn, 1) := by decide +kernel
theorem dX6_removeKey_38 : decode cX6_removeKey 38 = .ok (.aload_n 0, 1) := by decide +kernel
theorem dX6_removeKey_39 : decode cX6_removeKey 39 = .ok (.getfield 30, 3) := by decide +kernel
theorem dX6_removeKey_42 : decode cX6_removeKey 42 = .ok (.iload_n 1, 1) := by decide +kernel
theorem dX6_removeKey_43 : decode cX6_removeKey 43 = .ok (.bipush (-6), 2) := by decide +kernel
theorem dX6_removeKey_45 : decode cX6_removeKey 45 = .ok (.invokevirtual 91, 3) := by decide +kernel
theorem dX6_removeKey_48 : decode cX6_removeKey 48 = .ok (.aload_n 0, 1) := by decide +kernel
theorem dX6_removeKey_49 : decode cX6_removeKey 49 = .ok (.getfield 37, 3) := by decide +kernel
theorem dX6_removeKey_52 : decode cX6_removeKey 52 = .ok (.iload_n 1, 1) := by decide +kernel
theorem dX6_removeKey_53 : decode cX6_removeKey 53 = .ok (.bipush (-6), 2) := by decide +kernel
theorem dX6_removeKey_55 : decode cX6_removeKey 55 = .ok (.aload_n 0, 1) := by decide +kernel
theorem dX6_removeKey_56 : decode cX6_removeKey 56 = .ok (.getfield 18, 3) := by decide +kernel
theorem dX6_removeKey_59 : decode cX6_removeKey 59 = .ok (.invokevirtual 95, 3) := by decide +kernel
theorem dX6_removeKey_62 : decode cX6_removeKey 62 = .ok (.ireturn, 1) := by decide +kernel
theorem dX6_letPass_0 : decode cX6_letPass 0 = .ok (.iload_n 1, 1) := by decide +kernel
theorem dX6_letPass_1 : decode cX6_letPass 1 = .ok (.iconst 1, 1) := by decide +kernel
theorem dX6_letPass_2 : decode cX6_letPass 2 = .ok (.if_icmp .lt 10, 3) := by decide +kernel
theorem dX6_letPass_5 : decode cX6_letPass 5 = .ok (.iload_n 1, 1) := by decide +kernel
theorem dX6_letPass_6 : decode cX6_letPass 6 = .ok (.invokestatic 80, 3) := by decide +kernel
theorem dX6_letPass_9 : decode cX6_letPass 9 = .ok (.ifCond .ne 6, 3) := by decide +kernel
theorem dX6_letPass_12 : decode cX6_letPass 12 = .ok (.bipush (-2), 2) := by decide +kernel
theorem dX6_letPass_14 : decode cX6_letPass 14 = .ok (.ireturn, 1) := by decide +kernel
theorem dX6_letPass_15 : decode cX6_letPass 15 = .ok (.aload_n 0, 1) := by decide +kernel
theorem dX6_letPass_16 : decode cX6_letPass 16 = .ok (.getfield 18, 3) := by decide +kernel
theorem dX6_letPass_19 : decode cX6_letPass 19 = .ok (.iload_n 1, 1) := by decide +kernel
theorem dX6_letPass_20 : decode cX6_letPass 20 = .ok (.iadd, 1) := by decide +kernel
theorem dX6_letPass_21 : decode cX6_letPass 21 = .ok (.ldc 103, 2) := by decide +kernel
theorem dX6_letPass_23 : decode cX6_letPass 23 = .ok (.if_icmp .le 6, 3) := by decide +kernel
theorem dX6_letPass_26 : decode cX6_letPass 26 = .ok (.bipush (-4), 2) := by decide +kernel
theorem dX6_letPass_28 : decode cX6_letPass 28 = .ok (.ireturn, 1) := by decide +kernel
theorem dX6_letPass_29 : decode cX6_letPass 29 = .ok (.aload_n 0, 1) := by decide +kernel
theorem dX6_letPass_30 : decode cX6_letPass 30 = .ok (.dup, 1) := by decide +kernel
theorem dX6_letPass_31 : decode cX6_letPass 31 = .ok (.getfield 18, 3) := by decide +kernel
theorem dX6_letPass_34 : decode cX6_letPass 34 = .ok (.iload_n 1, 1) := by decide +kernel
theorem dX6_letPass_35 : decode cX6_letPass 35 = .ok (.iadd, 1) := by decide +kernel
theorem dX6_letPass_36 : decode cX6_letPass 36 = .ok (.putfield 18, 3) := by decide +kernel
theorem dX6_letPass_39 : decode cX6_letPass 39 = .ok (.aload_n 0, 1) := by decide +kernel
theorem dX6_letPass_40 : decode cX6_letPass 40 = .ok (.getfield 18, 3) := by decide +kernel
theorem dX6_letPass_43 : decode cX6_letPass 43 = .ok (.ireturn, 1) := by decide +kernel
theorem dX6_thinFeed_0 : decode cX6_thinFeed 0 = .ok (.aload_n 0, 1) := by decide +kernel
theorem dX6_thinFeed_1 : decode cX6_thinFeed 1 = .ok (.getfield 37, 3) := by decide +kernel
theorem dX6_thinFeed_4 : decode cX6_thinFeed 4 = .ok (.aload_n 0, 1) := by decide +kernel
theorem dX6_thinFeed_5 : decode cX6_thinFeed 5 = .ok (.getfield 37, 3) := by decide +kernel
theorem dX6_thinFeed_8 : decode cX6_thinFeed 8 = .ok (.aload_n 0, 1) := by decide +kernel
theorem dX6_thinFeed_9 : decode cX6_thinFeed 9 = .ok (.getfield 9, 3) := by decide +kernel
theorem dX6_thinFeed_12 : decode cX6_thinFeed 12 = .ok (.aload_n 0, 1) := by decide +kernel
theorem dX6_thinFeed_13 : decode cX6_thinFeed 13 = .ok (.getfield 15, 3) := by decide +kernel
theorem dX6_thinFeed_16 : decode cX6_thinFeed 16 = .ok (.aload_n 0, 1) := by decide +kernel
theorem dX6_thinFeed_17 : decode cX6_thinFeed 17 = .ok (.getfield 18, 3) := by decide +kernel
theorem dX6_thinFeed_20 : decode cX6_thinFeed 20 = .ok (.invokevirtual 104, 3) := by decide +kernel
theorem dX6_thinFeed_23 : decode cX6_thinFeed 23 = .ok (.putfield 107, 3) := by decide +kernel
theorem dX6_thinFeed_26 : decode cX6_thinFeed 26 = .ok (.aload_n 0, 1) := by decide +kernel
theorem dX6_thinFeed_27 : decode cX6_thinFeed 27 = .ok (.getfield 37, 3) := by decide +kernel
theorem dX6_thinFeed_30 : decode cX6_thinFeed 30 = .ok (.aload_n 0, 1) := by decide +kernel
theorem dX6_thinFeed_31 : decode cX6_thinFeed 31 = .ok (.getfield 9, 3) := by decide +kernel
theorem dX6_thinFeed_34 : decode cX6_thinFeed 34 = .ok (.aload_n 0, 1) := by decide +kernel
theorem dX6_thinFeed_35 : decode cX6_thinFeed 35 = .ok (.getfield 15, 3) := by decide +kernel
theorem dX6_thinFeed_38 : decode cX6_thinFeed 38 = .ok (.aload_n 0, 1) := by decide +kernel
theorem dX6_thinFeed_39 : decode cX6_thinFeed 39 = .ok (.getfield 18, 3) := by decide +kernel
theorem dX6_thinFeed_42 : decode cX6_thinFeed 42 = .ok (.invokevirtual 110, 3) := by decide +kernel
theorem dX6_thinFeed_45 : decode cX6_thinFeed 45 = .ok (.ireturn, 1) := by decide +kernel
theorem dX6_makeSnapshot_0 : decode cX6_makeSnapshot 0 = .ok (.aload_n 0, 1) := by decide +kernel
theorem dX6_makeSnapshot_1 : decode cX6_makeSnapshot 1 = .ok (.getfield 24, 3) := by decide +kernel
theorem dX6_makeSnapshot_4 : decode cX6_makeSnapshot 4 = .ok (.iconst 4, 1) := by decide +kernel
theorem dX6_makeSnapshot_5 : decode cX6_makeSnapshot 5 = .ok (.if_icmp .ge 13, 3) := by decide +kernel
theorem dX6_makeSnapshot_8 : decode cX6_makeSnapshot 8 = .ok (.aload_n 0, 1) := by decide +kernel
theorem dX6_makeSnapshot_9 : decode cX6_makeSnapshot 9 = .ok (.dup, 1) := by decide +kernel
theorem dX6_makeSnapshot_10 : decode cX6_makeSnapshot 10 = .ok (.getfield 24, 3) := by decide +kernel
theorem dX6_makeSnapshot_13 : decode cX6_makeSnapshot 13 = .ok (.iconst 1, 1) := by decide +kernel
theorem dX6_makeSnapshot_14 : decode cX6_makeSnapshot 14 = .ok (.iadd, 1) := by decide +kernel
theorem dX6_makeSnapshot_15 : decode cX6_makeSnapshot 15 = .ok (.putfield 24, 3) := by decide +kernel
theorem dX6_makeSnapshot_18 : decode cX6_makeSnapshot 18 = .ok (.aload_n 0, 1) := by decide +kernel
theorem dX6_makeSnapshot_19 : decode cX6_makeSnapshot 19 = .ok (.getfield 24, 3) := by decide +kernel
theorem dX6_makeSnapshot_22 : decode cX6_makeSnapshot 22 = .ok (.iconst 1, 1) := by decide +kernel
theorem dX6_makeSnapshot_23 : decode cX6_makeSnapshot 23 = .ok (.isub, 1) := by decide +kernel
theorem dX6_makeSnapshot_24 : decode cX6_makeSnapshot 24 = .ok (.istore_n 1, 1) := by decide +kernel
theorem dX6_makeSnapshot_25 : decode cX6_makeSnapshot 25 = .ok (.iload_n 1, 1) := by decide +kernel
theorem dX6_makeSnapshot_26 : decode cX6_makeSnapshot 26 = .ok (.ifCond .le 24, 3) := by decide +kernel
theorem dX6_makeSnapshot_29 : decode cX6_makeSnapshot 29 = .ok (.aload_n 0, 1) := by decide +kernel
theorem dX6_makeSnapshot_30 : decode cX6_makeSnapshot 30 = .ok (.iload_n 1, 1) := by decide +kernel
theorem dX6_makeSnapshot_31 : decode cX6_makeSnapshot 31 = .ok (.iconst 1, 1) := by decide +kernel
theorem dX6_makeSnapshot_32 : decode cX6_makeSnapshot 32 = .ok (.isub, 1) := by decide +kernel
theorem dX6_makeSnapshot_33 : decode cX6_makeSnapshot 33 = .ok (.invokevirtual 69, 3) := by decide +kernel
theorem dX6_makeSnapshot_36 : decode cX6_makeSnapshot 36 = .ok (.aload_n 0, 1) := by decide +kernel
theorem dX6_makeSnapshot_37 : decode cX6_makeSnapshot 37 = .ok (.iload_n 1, 1) := by decide +kernel
theorem dX6_makeSnapshot_38 : decode cX6_makeSnapshot 38 = .ok (.invokevirtual 69, 3) := by decide +kernel
theorem dX6_makeSnapshot_41 : decode cX6_makeSnapshot 41 = .ok (.invokestatic 73, 3) := by decide +kernel
theorem dX6_makeSnapshot_44 : decode cX6_makeSnapshot 44 = .ok (.iinc 1 (-1), 3) := by decide +kernel
theorem dX6_makeSnapshot_47 : decode cX6_makeSnapshot 47 = .ok (.goto (-22), 3) := by decide +kernel
theorem dX6_makeSnapshot_50 : decode cX6_makeSnapshot 50 = .ok (.aload_n 0, 1) := by decide +kernel
theorem dX6_makeSnapshot_51 : decode cX6_makeSnapshot 51 = .ok (.iconst 0, 1) := by decide +kernel
theorem dX6_makeSnapshot_52 : decode cX6_makeSnapshot 52 = .ok (.invokevirtual 69, 3) := by decide +kernel
theorem dX6_makeSnapshot_55 : decode cX6_makeSnapshot 55 = .ok (.astore_n 1, 1) := by decide +kernel
theorem dX6_makeSnapshot_56 : decode cX6_makeSnapshot 56 = .ok (.aload_n 1, 1) := by decide +kernel
theorem dX6_makeSnapshot_57 : decode cX6_makeSnapshot 57 = .ok (.ifnull 25, 3) := by decide +kernel
theorem dX6_makeSnapshot_60 : decode cX6_makeSnapshot 60 = .ok (.aload_n 1, 1) := by decide +kernel
theorem dX6_makeSnapshot_61 : decode cX6_makeSnapshot 61 = .ok (.aload_n 0, 1) := by decide +kernel
theorem dX6_makeSnapshot_62 : decode cX6_makeSnapshot 62 = .ok (.getfield 37, 3) := by decide +kernel
theorem dX6_makeSnapshot_65 : decode cX6_makeSnapshot 65 = .ok (.getfield 113, 3) := by decide +kernel
theorem dX6_makeSnapshot_68 : decode cX6_makeSnapshot 68 = .ok (.putfield 116, 3) := by decide +kernel
theorem dX6_makeSnapshot_71 : decode cX6_makeSnapshot 71 = .ok (.aload_n 1, 1) := by decide +kernel
theorem dX6_makeSnapshot_72 : decode cX6_makeSnapshot 72 = .ok (.getfield 119, 3) := by decide +kernel
theorem dX6_makeSnapshot_75 : decode cX6_makeSnapshot 75 = .ok (.aload_n 0, 1) := by decide +kernel
theorem dX6_makeSnapshot_76 : decode cX6_makeSnapshot 76 = .ok (.getfield 30, 3) := by decide +kernel
theorem dX6_makeSnapshot_79 : decode cX6_makeSnapshot 79 = .ok (.invokevirtual 55, 3) := by decide +kernel
theorem dX6_makeSnapshot_82 : decode cX6_makeSnapshot 82 = .ok (.aload_n 0, 1) := by decide +kernel
theorem dX6_makeSnapshot_83 : decode cX6_makeSnapshot 83 = .ok (.getfield 37, 3) := by decide +kernel
theorem dX6_makeSnapshot_86 : decode cX6_makeSnapshot 86 = .ok (.getfield 113, 3) := by decide +kernel
theorem dX6_makeSnapshot_89 : decode cX6_makeSnapshot 89 = .ok (.ireturn, 1) := by decide +kernel
theorem dX6_addReader_0 : decode cX6_addReader 0 = .ok (.aload_n 0, 1) := by decide +kernel
theorem dX6_addReader_1 : decode cX6_addReader 1 = .ok (.getfield 21, 3) := by decide +kernel
theorem dX6_addReader_4 : decode cX6_addReader 4 = .ok (.bipush 6, 2) := by decide +kernel
theorem dX6_addReader_6 : decode cX6_addReader 6 = .ok (.if_icmp .lt 6, 3) := by decide +kernel
theorem dX6_addReader_9 : decode cX6_addReader 9 = .ok (.bipush (-4), 2) := by decide +kernel
theorem dX6_addReader_11 : decode cX6_addReader 11 = .ok (.ireturn, 1) := by decide +kernel
theorem dX6_addReader_12 : decode cX6_addReader 12 = .ok (.aload_n 0, 1) := by decide +kernel
theorem dX6_addReader_13 : decode cX6_addReader 13 = .ok (.getfield 21, 3) := by decide +kernel
theorem dX6_addReader_16 : decode cX6_addReader 16 = .ok (.istore_n 1, 1) := by decide +kernel
theorem dX6_addReader_17 : decode cX6_addReader 17 = .ok (.aload_n 0, 1) := by decide +kernel
theorem dX6_addReader_18 : decode cX6_addReader 18 = .ok (.dup, 1) := by decide +kernel
theorem dX6_addReader_19 : decode cX6_addReader 19 = .ok (.getfield 21, 3) := by decide +kernel
theorem dX6_addReader_22 : decode cX6_addReader 22 = .ok (.iconst 1, 1) := by decide +kernel
theorem dX6_addReader_23 : decode cX6_addReader 23 = .ok (.iadd, 1) := by decide +kernel
theorem dX6_addReader_24 : decode cX6_addReader 24 = .ok (.putfield 21, 3) := by decide +kernel
theorem dX6_addReader_27 : decode cX6_addReader 27 = .ok (.aload_n 0, 1) := by decide +kernel
theorem dX6_addReader_28 : decode cX6_addReader 28 = .ok (.iload_n 1, 1) := by decide +kernel
theorem dX6_addReader_29 : decode cX6_addReader 29 = .ok (.invokevirtual 62, 3) := by decide +kernel
theorem dX6_addReader_32 : decode cX6_addReader 32 = .ok (.astore_n 2, 1) := by decide +kernel
theorem dX6_addReader_33 : decode cX6_addReader 33 = .ok (.aload_n 2, 1) := by decide +kernel
theorem dX6_addReader_34 : decode cX6_addReader 34 = .ok (.ifnull 12, 3) := by decide +kernel
theorem dX6_addReader_37 : decode cX6_addReader 37 = .ok (.aload_n 2, 1) := by decide +kernel
theorem dX6_addReader_38 : decode cX6_addReader 38 = .ok (.invokevirtual 120, 3) := by decide +kernel
theorem dX6_addReader_41 : decode cX6_addReader 41 = .ok (.aload_n 2, 1) := by decide +kernel
theorem dX6_addReader_42 : decode cX6_addReader 42 = .ok (.iconst 0, 1) := by decide +kernel
theorem dX6_addReader_43 : decode cX6_addReader 43 = .ok (.putfield 123, 3) := by decide +kernel
theorem dX6_addReader_46 : decode cX6_addReader 46 = .ok (.iload_n 1, 1) := by decide +kernel
theorem dX6_addReader_47 : decode cX6_addReader 47 = .ok (.ireturn, 1) := by decide +kernel
theorem dX6_letRead_0 : decode cX6_letRead 0 = .ok (.aload_n 0, 1) := by decide +kernel
theorem dX6_letRead_1 : decode cX6_letRead 1 = .ok (.iload_n 1, 1) := by decide +kernel
theorem dX6_letRead_2 : decode cX6_letRead 2 = .ok (.invokevirtual 62, 3) := by decide +kernel
theorem dX6_letRead_5 : decode cX6_letRead 5 = .ok (.astore_n 3, 1) := by decide +kernel
theorem dX6_letRead_6 : decode cX6_letRead 6 = .ok (.aload_n 3, 1) := by decide +kernel
theorem dX6_letRead_7 : decode cX6_letRead 7 = .ok (.ifnonnull 5, 3) := by decide +kernel
theorem dX6_letRead_10 : decode cX6_letRead 10 = .ok (.iconst (-1), 1) := by decide +kernel
theorem dX6_letRead_11 : decode cX6_letRead 11 = .ok (.ireturn, 1) := by decide +kernel
theorem dX6_letRead_12 : decode cX6_letRead 12 = .ok (.iload_n 2, 1) := by decide +kernel
theorem dX6_letRead_13 : decode cX6_letRead 13 = .ok (.iconst 1, 1) := by decide +kernel
theorem dX6_letRead_14 : decode cX6_letRead 14 = .ok (.if_icmp .lt 9, 3) := by decide +kernel
theorem dX6_letRead_17 : decode cX6_letRead 17 = .ok (.iload_n 2, 1) := by decide +kernel
theorem dX6_letRead_18 : decode cX6_letRead 18 = .ok (.bipush 99, 2) := by decide +kernel
theorem dX6_letRead_20 : decode cX6_letRead 20 = .ok (.if_icmp .le 6, 3) := by decide +kernel
theorem dX6_letRead_23 : decode cX6_letRead 23 = .ok (.bipush (-2), 2) := by decide +kernel
theorem dX6_letRead_25 : decode cX6_letRead 25 = .ok (.ireturn, 1) := by decide +kernel
theorem dX6_letRead_26 : decode cX6_letRead 26 = .ok (.aload_n 3, 1) := by decide +kernel
theorem dX6_letRead_27 : decode cX6_letRead 27 = .ok (.getfield 126, 3) := by decide +kernel
theorem dX6_letRead_30 : decode cX6_letRead 30 = .ok (.aload_n 0, 1) := by decide +kernel
theorem dX6_letRead_31 : decode cX6_letRead 31 = .ok (.getfield 37, 3) := by decide +kernel
theorem dX6_letRead_34 : decode cX6_letRead 34 = .ok (.getfield 107, 3) := by decide +kernel
theorem dX6_letRead_37 : decode cX6_letRead 37 = .ok (.invokestatic 129, 3) := by decide +kernel
theorem dX6_letRead_40 : decode cX6_letRead 40 = .ok (.ifCond .eq 6, 3) := by decide +kernel
theorem dX6_letRead_43 : decode cX6_letRead 43 = .ok (.bipush (-5), 2) := by decide +kernel
theorem dX6_letRead_45 : decode cX6_letRead 45 = .ok (.ireturn, 1) := by decide +kernel
theorem dX6_letRead_46 : decode cX6_letRead 46 = .ok (.aload_n 3, 1) := by decide +kernel
theorem dX6_letRead_47 : decode cX6_letRead 47 = .ok (.aload_n 0, 1) := by decide +kernel
theorem dX6_letRead_48 : decode cX6_letRead 48 = .ok (.getfield 37, 3) := by decide +kernel
theorem dX6_letRead_51 : decode cX6_letRead 51 = .ok (.iload_n 2, 1) := by decide +kernel
theorem dX6_letRead_52 : decode cX6_letRead 52 = .ok (.invokevirtual 133, 3) := by decide +kernel
theorem dX6_letRead_55 : decode cX6_letRead 55 = .ok (.ireturn, 1) := by decide +kernel
theorem dX6_letConfirm_0 : decode cX6_letConfirm 0 = .ok (.aload_n 0, 1) := by decide +kernel
theorem dX6_letConfirm_1 : decode cX6_letConfirm 1 = .ok (.iload_n 1, 1) := by decide +kernel
theorem dX6_letConfirm_2 : decode cX6_letConfirm 2 = .ok (.invokevirtual 62, 3) := by decide +kernel
theorem dX6_letConfirm_5 : decode cX6_letConfirm 5 = .ok (.astore_n 2, 1) := by decide +kernel
theorem dX6_letConfirm_6 : decode cX6_letConfirm 6 = .ok (.aload_n 2, 1) := by decide +kernel
theorem dX6_letConfirm_7 : decode cX6_letConfirm 7 = .ok (.ifnonnull 5, 3) := by decide +kernel
theorem dX6_letConfirm_10 : decode cX6_letConfirm 10 = .ok (.iconst (-1), 1) := by decide +kernel
theorem dX6_letConfirm_11 : decode cX6_letConfirm 11 = .ok (.ireturn, 1) := by decide +kernel
theorem dX6_letConfirm_12 : decode cX6_letConfirm 12 = .ok (.aload_n 2, 1) := by decide +kernel
theorem dX6_letConfirm_13 : decode cX6_letConfirm 13 = .ok (.invokevirtual 137, 3) := by decide +kernel
theorem dX6_letConfirm_16 : decode cX6_letConfirm 16 = .ok (.aload_n 2, 1) := by decide +kernel
theorem dX6_letConfirm_17 : decode cX6_letConfirm 17 = .ok (.getfield 126, 3) := by decide +kernel
theorem dX6_letConfirm_20 : decode cX6_letConfirm 20 = .ok (.ireturn, 1) := by decide +kernel
theorem dX6_letGoBack_0 : decode cX6_letGoBack 0 = .ok (.aload_n 0, 1) := by decide +kernel
theorem dX6_letGoBack_1 : decode cX6_letGoBack 1 = .ok (.iload_n 1, 1) := by decide +kernel
theorem dX6_letGoBack_2 : decode cX6_letGoBack 2 = .ok (.invokevirtual 62, 3) := by decide +kernel
theorem dX6_letGoBack_5 : decode cX6_letGoBack 5 = .ok (.astore_n 2, 1) := by decide +kernel
theorem dX6_letGoBack_6 : decode cX6_letGoBack 6 = .ok (.aload_n 2, 1) := by decide +kernel
theorem dX6_letGoBack_7 : decode cX6_letGoBack 7 = .ok (.ifnonnull 5, 3) := by decide +kernel
theorem dX6_letGoBack_10 : decode cX6_letGoBack 10 = .ok (.iconst (-1), 1) := by decide +kernel
theorem dX6_letGoBack_11 : decode cX6_letGoBack 11 = .ok (.ireturn, 1) := by decide +kernel
theorem dX6_letGoBack_12 : decode cX6_letGoBack 12 = .ok (.aload_n 2, 1) := by decide +kernel
theorem dX6_letGoBack_13 : decode cX6_letGoBack 13 = .ok (.invokevirtual 140, 3) := by decide +kernel
theorem dX6_letGoBack_16 : decode cX6_letGoBack 16 = .ok (.aload_n 2, 1) := by decide +kernel
theorem dX6_letGoBack_17 : decode cX6_letGoBack 17 = .ok (.getfield 126, 3) := by decide +kernel
theorem dX6_letGoBack_20 : decode cX6_letGoBack 20 = .ok (.ireturn, 1) := by decide +kernel
theorem dX6_letBeginAnew_0 : decode cX6_letBeginAnew 0 = .ok (.aload_n 0, 1) := by decide +kernel
theorem dX6_letBeginAnew_1 : decode cX6_letBeginAnew 1 = .ok (.iload_n 1, 1) := by decide +kernel
theorem dX6_letBeginAnew_2 : decode cX6_letBeginAnew 2 = .ok (.invokevirtual 62, 3) := by decide +kernel
theorem dX6_letBeginAnew_5 : decode cX6_letBeginAnew 5 = .ok (.astore_n 2, 1) := by decide +kernel
theorem dX6_letBeginAnew_6 : decode cX6_letBeginAnew 6 = .ok (.aload_n 2, 1) := by decide +kernel
theorem dX6_letBeginAnew_7 : decode cX6_letBeginAnew 7 = .ok (.ifnonnull 5, 3) := by decide +kernel
theorem dX6_letBeginAnew_10 : decode cX6_letBeginAnew 10 = .ok (.iconst (-1), 1) := by decide +kernel
theorem dX6_letBeginAnew_11 : decode cX6_letBeginAnew 11 = .ok (.ireturn, 1) := by decide +kernel
theorem dX6_letBeginAnew_12 : decode cX6_letBeginAnew 12 = .ok (.aload_n 2, 1) := by decide +kernel
theorem dX6_letBeginAnew_13 : decode cX6_letBeginAnew 13 = .ok (.invokevirtual 120, 3) := by decide +kernel
theorem dX6_letBeginAnew_16 : decode cX6_letBeginAnew 16 = .ok (.aload_n 0, 1) := by decide +kernel
theorem dX6_letBeginAnew_17 : decode cX6_letBeginAnew 17 = .ok (.getfield 37, 3) := by decide +kernel
theorem dX6_letBeginAnew_20 : decode cX6_letBeginAnew 20 = .ok (.aload_n 2, 1) := by decide +kernel
theorem dX6_letBeginAnew_21 : decode cX6_letBeginAnew 21 = .ok (.getfield 126, 3) := by decide +kernel
theorem dX6_letBeginAnew_24 : decode cX6_letBeginAnew 24 = .ok (.invokevirtual 143, 3) := by decide +kernel
theorem dX6_letBeginAnew_27 : decode cX6_letBeginAnew 27 = .ok (.ireturn, 1) := by decide +kernel
theorem dX6_letLoad_0 : decode cX6_letLoad 0 = .ok (.aload_n 0, 1) := by decide +kernel
theorem dX6_letLoad_1 : decode cX6_letLoad 1 = .ok (.iload_n 1, 1) := by decide +kernel
theorem dX6_letLoad_2 : decode cX6_letLoad 2 = .ok (.invokevirtual 62, 3) := by decide +kernel
theorem dX6_letLoad_5 : decode cX6_letLoad 5 = .ok (.astore_n 3, 1) := by decide +kernel
theorem dX6_letLoad_6 : decode cX6_letLoad 6 = .ok (.aload_n 0, 1) := by decide +kernel
theorem dX6_letLoad_7 : decode cX6_letLoad 7 = .ok (.iload_n 2, 1) := by decide +kernel
theorem dX6_letLoad_8 : decode cX6_letLoad 8 = .ok (.invokevirtual 69, 3) := by decide +kernel
theorem dX6_letLoad_11 : decode cX6_letLoad 11 = .ok (.astore 4, 2) := by decide +kernel
theorem dX6_letLoad_13 : decode cX6_letLoad 13 = .ok (.aload_n 3, 1) := by decide +kernel
theorem dX6_letLoad_14 : decode cX6_letLoad 14 = .ok (.ifnull 8, 3) := by decide +kernel
theorem dX6_letLoad_17 : decode cX6_letLoad 17 = .ok (.aload 4, 2) := by decide +kernel
theorem dX6_letLoad_19 : decode cX6_letLoad 19 = .ok (.ifnonnull 5, 3) := by decide +kernel
theorem dX6_letLoad_22 : decode cX6_letLoad 22 = .ok (.iconst (-1), 1) := by decide +kernel
theorem dX6_letLoad_23 : decode cX6_letLoad 23 = .ok (.ireturn, 1) := by decide +kernel
theorem dX6_letLoad_24 : decode cX6_letLoad 24 = .ok (.aload 4, 2) := by decide +kernel
theorem dX6_letLoad_26 : decode cX6_letLoad 26 = .ok (.getfield 116, 3) := by decide +kernel
theorem dX6_letLoad_29 : decode cX6_letLoad 29 = .ok (.aload_n 0, 1) := by decide +kernel
theorem dX6_letLoad_30 : decode cX6_letLoad 30 = .ok (.getfield 37, 3) := by decide +kernel
theorem dX6_letLoad_33 : decode cX6_letLoad 33 = .ok (.getfield 107, 3) := by decide +kernel
theorem dX6_letLoad_36 : decode cX6_letLoad 36 = .ok (.invokestatic 129, 3) := by decide +kernel
theorem dX6_letLoad_39 : decode cX6_letLoad 39 = .ok (.ifCond .eq 6, 3) := by decide +kernel
theorem dX6_letLoad_42 : decode cX6_letLoad 42 = .ok (.bipush (-5), 2) := by decide +kernel
theorem dX6_letLoad_44 : decode cX6_letLoad 44 = .ok (.ireturn, 1) := by decide +kernel
theorem dX6_letLoad_45 : decode cX6_letLoad 45 = .ok (.aload_n 3, 1) := by decide +kernel
theorem dX6_letLoad_46 : decode cX6_letLoad 46 = .ok (.aload 4, 2) := by decide +kernel
theorem dX6_letLoad_48 : decode cX6_letLoad 48 = .ok (.invokevirtual 146, 3) := by decide +kernel
theorem dX6_letLoad_51 : decode cX6_letLoad 51 = .ok (.aload_n 3, 1) := by decide +kernel
theorem dX6_letLoad_52 : decode cX6_letLoad 52 = .ok (.getfield 126, 3) := by decide +kernel
theorem dX6_letLoad_55 : decode cX6_letLoad 55 = .ok (.ireturn, 1) := by decide +kernel
theorem dX6_lateBelow_0 : decode cX6_lateBelow 0 = .ok (.iconst 0, 1) := by decide +kernel
theorem dX6_lateBelow_1 : decode cX6_lateBelow 1 = .ok (.istore_n 2, 1) := by decide +kernel
theorem dX6_lateBelow_2 : decode cX6_lateBelow 2 = .ok (.iconst 0, 1) := by decide +kernel
theorem dX6_lateBelow_3 : decode cX6_lateBelow 3 = .ok (.istore_n 3, 1) := by decide +kernel
theorem dX6_lateBelow_4 : decode cX6_lateBelow 4 = .ok (.iload_n 3, 1) := by decide +kernel
theorem dX6_lateBelow_5 : decode cX6_lateBelow 5 = .ok (.aload_n 0, 1) := by decide +kernel
theorem dX6_lateBelow_6 : decode cX6_lateBelow 6 = .ok (.getfield 21, 3) := by decide +kernel
theorem dX6_lateBelow_9 : decode cX6_lateBelow 9 = .ok (.if_icmp .ge 39, 3) := by decide +kernel
theorem dX6_lateBelow_12 : decode cX6_lateBelow 12 = .ok (.aload_n 0, 1) := by decide +kernel
theorem dX6_lateBelow_13 : decode cX6_lateBelow 13 = .ok (.iload_n 3, 1) := by decide +kernel
theorem dX6_lateBelow_14 : decode cX6_lateBelow 14 = .ok (.invokevirtual 62, 3) := by decide +kernel
theorem dX6_lateBelow_17 : decode cX6_lateBelow 17 = .ok (.astore 4, 2) := by decide +kernel
theorem dX6_lateBelow_19 : decode cX6_lateBelow 19 = .ok (.aload 4, 2) := by decide +kernel
theorem dX6_lateBelow_21 : decode cX6_lateBelow 21 = .ok (.ifnull 21, 3) := by decide +kernel
theorem dX6_lateBelow_24 : decode cX6_lateBelow 24 = .ok (.aload 4, 2) := by decide +kernel
theorem dX6_lateBelow_26 : decode cX6_lateBelow 26 = .ok (.getfield 126, 3) := by decide +kernel
theorem dX6_lateBelow_29 : decode cX6_lateBelow 29 = .ok (.iload_n 1, 1) := by decide +kernel
theorem dX6_lateBelow_30 : decode cX6_lateBelow 30 = .ok (.invokestatic 129, 3) := by decide +kernel
theorem dX6_lateBelow_33 : decode cX6_lateBelow 33 = .ok (.ifCond .eq 9, 3) := by decide +kernel
theorem dX6_lateBelow_36 : decode cX6_lateBelow 36 = .ok (.iload_n 2, 1) := by decide +kernel
theorem dX6_lateBelow_37 : decode cX6_lateBelow 37 = .ok (.iconst 1, 1) := by decide +kernel
theorem dX6_lateBelow_38 : decode cX6_lateBelow 38 = .ok (.iload_n 3, 1) := by decide +kernel
theorem dX6_lateBelow_39 : decode cX6_lateBelow 39 = .ok (.ishl, 1) := by decide +kernel
theorem dX6_lateBelow_40 : decode cX6_lateBelow 40 = .ok (.ior, 1) := by decide +kernel
theorem dX6_lateBelow_41 : decode cX6_lateBelow 41 = .ok (.istore_n 2, 1) := by decide +kernel
theorem dX6_lateBelow_42 : decode cX6_lateBelow 42 = .ok (.iinc 3 1, 3) := by decide +kernel
theorem dX6_lateBelow_45 : decode cX6_lateBelow 45 = .ok (.goto (-41), 3) := by decide +kernel
theorem dX6_lateBelow_48 : decode cX6_lateBelow 48 = .ok (.iload_n 2, 1) := by decide +kernel
theorem dX6_lateBelow_49 : decode cX6_lateBelow 49 = .ok (.ireturn, 1) := by decide +kernel
theorem dX6_entriesOnWay_0 : decode cX6_entriesOnWay 0 = .ok (.iload_n 2, 1) := by decide +kernel
theorem dX6_entriesOnWay_1 : decode cX6_entriesOnWay 1 = .ok (.iconst 5, 1) := by decide +kernel
theorem dX6_entriesOnWay_2 : decode cX6_entriesOnWay 2 = .ok (.if_icmp .ne 11, 3) := by decide +kernel
theorem dX6_entriesOnWay_5 : decode cX6_entriesOnWay 5 = .ok (.aload_n 0, 1) := by decide +kernel
theorem dX6_entriesOnWay_6 : decode cX6_entriesOnWay 6 = .ok (.getfield 37, 3) := by decide +kernel
theorem dX6_entriesOnWay_9 : decode cX6_entriesOnWay 9 = .ok (.getfield 149, 3) := by decide +kernel
theorem dX6_entriesOnWay_12 : decode cX6_entriesOnWay 12 = .ok (.ireturn, 1) := by decide +kernel
theorem dX6_entriesOnWay_13 : decode cX6_entriesOnWay 13 = .ok (.iload_n 2, 1) := by decide +kernel
theorem dX6_entriesOnWay_14 : decode cX6_entriesOnWay 14 = .ok (.ifCond .ne 12, 3) := by decide +kernel
theorem dX6_entriesOnWay_17 : decode cX6_entriesOnWay 17 = .ok (.aload_n 0, 1) := by decide +kernel
theorem dX6_entriesOnWay_18 : decode cX6_entriesOnWay 18 = .ok (.aload_n 1, 1) := by decide +kernel
theorem dX6_entriesOnWay_19 : decode cX6_entriesOnWay 19 = .ok (.getfield 126, 3) := by decide +kernel
theorem dX6_entriesOnWay_22 : decode cX6_entriesOnWay 22 = .ok (.invokevirtual 152, 3) := by decide +kernel
theorem dX6_entriesOnWay_25 : decode cX6_entriesOnWay 25 = .ok (.ireturn, 1) := by decide +kernel
theorem dX6_entriesOnWay_26 : decode cX6_entriesOnWay 26 = .ok (.aload_n 0, 1) := by decide +kernel
theorem dX6_entriesOnWay_27 : decode cX6_entriesOnWay 27 = .ok (.iload_n 2, 1) := by decide +kernel
theorem dX6_entriesOnWay_28 : decode cX6_entriesOnWay 28 = .ok (.iconst 1, 1) := by decide +kernel
theorem dX6_entriesOnWay_29 : decode cX6_entriesOnWay 29 = .ok (.isub, 1) := by decide +kernel
theorem dX6_entriesOnWay_30 : decode cX6_entriesOnWay 30 = .ok (.invokevirtual 69, 3) := by decide +kernel
theorem dX6_entriesOnWay_33 : decode cX6_entriesOnWay 33 = .ok (.astore_n 3, 1) := by decide +kernel
theorem dX6_entriesOnWay_34 : decode cX6_entriesOnWay 34 = .ok (.aload_n 3, 1) := by decide +kernel
theorem dX6_entriesOnWay_35 : decode cX6_entriesOnWay 35 = .ok (.ifnonnull 8, 3) := by decide +kernel
theorem dX6_entriesOnWay_38 : decode cX6_entriesOnWay 38 = .ok (.bipush (-6), 2) := by decide +kernel
theorem dX6_entriesOnWay_40 : decode cX6_entriesOnWay 40 = .ok (.goto 11, 3) := by decide +kernel
theorem dX6_entriesOnWay_43 : decode cX6_entriesOnWay 43 = .ok (.aload_n 0, 1) := by decide +kernel
theorem dX6_entriesOnWay_44 : decode cX6_entriesOnWay 44 = .ok (.aload_n 3, 1) := by decide +kernel
theorem dX6_entriesOnWay_45 : decode cX6_entriesOnWay 45 = .ok (.getfield 116, 3) := by decide +kernel
theorem dX6_entriesOnWay_48 : decode cX6_entriesOnWay 48 = .ok (.invokevirtual 152, 3) := by decide +kernel
theorem dX6_entriesOnWay_51 : decode cX6_entriesOnWay 51 = .ok (.ireturn, 1) := by decide +kernel
theorem dX6_aheadUnlessLate_0 : decode cX6_aheadUnlessLate 0 = .ok (.iload_n 1, 1) := by decide +kernel
theorem dX6_aheadUnlessLate_1 : decode cX6_aheadUnlessLate 1 = .ok (.aload_n 0, 1) := by decide +kernel
theorem dX6_aheadUnlessLate_2 : decode cX6_aheadUnlessLate 2 = .ok (.getfield 37, 3) := by decide +kernel
theorem dX6_aheadUnlessLate_5 : decode cX6_aheadUnlessLate 5 = .ok (.getfield 107, 3) := by decide +kernel
theorem dX6_aheadUnlessLate_8 : decode cX6_aheadUnlessLate 8 = .ok (.invokestatic 129, 3) := by decide +kernel
theorem dX6_aheadUnlessLate_11 : decode cX6_aheadUnlessLate 11 = .ok (.ifCond .eq 8, 3) := by decide +kernel
theorem dX6_aheadUnlessLate_14 : decode cX6_aheadUnlessLate 14 = .ok (.bipush (-6), 2) := by decide +kernel
theorem dX6_aheadUnlessLate_16 : decode cX6_aheadUnlessLate 16 = .ok (.goto 11, 3) := by decide +kernel
theorem dX6_aheadUnlessLate_19 : decode cX6_aheadUnlessLate 19 = .ok (.aload_n 0, 1) := by decide +kernel
theorem dX6_aheadUnlessLate_20 : decode cX6_aheadUnlessLate 20 = .ok (.getfield 37, 3) := by decide +kernel
theorem dX6_aheadUnlessLate_23 : decode cX6_aheadUnlessLate 23 = .ok (.iload_n 1, 1) := by decide +kernel
theorem dX6_aheadUnlessLate_24 : decode cX6_aheadUnlessLate 24 = .ok (.invokevirtual 143, 3) := by decide +kernel
theorem dX6_aheadUnlessLate_27 : decode cX6_aheadUnlessLate 27 = .ok (.ireturn, 1) := by decide +kernel
theorem dX6_shortestWay_0 : decode cX6_shortestWay 0 = .ok (.iconst 5, 1) := by decide +kernel
theorem dX6_shortestWay_1 : decode cX6_shortestWay 1 = .ok (.istore_n 2, 1) := by decide +kernel
theorem dX6_shortestWay_2 : decode cX6_shortestWay 2 = .ok (.aload_n 0, 1) := by decide +kernel
theorem dX6_shortestWay_3 : decode cX6_shortestWay 3 = .ok (.aload_n 1, 1) := by decide +kernel
theorem dX6_shortestWay_4 : decode cX6_shortestWay 4 = .ok (.iload_n 2, 1) := by decide +kernel
theorem dX6_shortestWay_5 : decode cX6_shortestWay 5 = .ok (.invokevirtual 155, 3) := by decide +kernel
theorem dX6_shortestWay_8 : decode cX6_shortestWay 8 = .ok (.istore_n 3, 1) := by decide +kernel
theorem dX6_shortestWay_9 : decode cX6_shortestWay 9 = .ok (.iconst 4, 1) := by decide +kernel
theorem dX6_shortestWay_10 : decode cX6_shortestWay 10 = .ok (.istore 4, 2) := by decide +kernel
theorem dX6_shortestWay_12 : decode cX6_shortestWay 12 = .ok (.iload 4, 2) := by decide +kernel
theorem dX6_shortestWay_14 : decode cX6_shortestWay 14 = .ok (.ifCond .lt 37, 3) := by decide +kernel
theorem dX6_shortestWay_17 : decode cX6_shortestWay 17 = .ok (.aload_n 0, 1) := by decide +kernel
theorem dX6_shortestWay_18 : decode cX6_shortestWay 18 = .ok (.aload_n 1, 1) := by decide +kernel
theorem dX6_shortestWay_19 : decode cX6_shortestWay 19 = .ok (.iload 4, 2) := by decide +kernel
theorem dX6_shortestWay_21 : decode cX6_shortestWay 21 = .ok (.invokevirtual 155, 3) := by decide +kernel
theorem dX6_shortestWay_24 : decode cX6_shortestWay 24 = .ok (.istore 5, 2) := by decide +kernel
theorem dX6_shortestWay_26 : decode cX6_shortestWay 26 = .ok (.iload 5, 2) := by decide +kernel
theorem dX6_shortestWay_28 : decode cX6_shortestWay 28 = .ok (.bipush (-6), 2) := by decide +kernel
theorem dX6_shortestWay_30 : decode cX6_shortestWay 30 = .ok (.if_icmp .eq 15, 3) := by decide +kernel
theorem dX6_shortestWay_33 : decode cX6_shortestWay 33 = .ok (.iload 5, 2) := by decide +kernel
theorem dX6_shortestWay_35 : decode cX6_shortestWay 35 = .ok (.iload_n 3, 1) := by decide +kernel
theorem dX6_shortestWay_36 : decode cX6_shortestWay 36 = .ok (.if_icmp .gt 9, 3) := by decide +kernel
theorem dX6_shortestWay_39 : decode cX6_shortestWay 39 = .ok (.iload 4, 2) := by decide +kernel
theorem dX6_shortestWay_41 : decode cX6_shortestWay 41 = .ok (.istore_n 2, 1) := by decide +kernel
theorem dX6_shortestWay_42 : decode cX6_shortestWay 42 = .ok (.iload 5, 2) := by decide +kernel
theorem dX6_shortestWay_44 : decode cX6_shortestWay 44 = .ok (.istore_n 3, 1) := by decide +kernel
theorem dX6_shortestWay_45 : decode cX6_shortestWay 45 = .ok (.iinc 4 (-1), 3) := by decide +kernel
theorem dX6_shortestWay_48 : decode cX6_shortestWay 48 = .ok (.goto (-36), 3) := by decide +kernel
theorem dX6_shortestWay_51 : decode cX6_shortestWay 51 = .ok (.iload_n 2, 1) := by decide +kernel
theorem dX6_shortestWay_52 : decode cX6_shortestWay 52 = .ok (.ireturn, 1) := by decide +kernel
theorem dX7_init_0 : decode cX7_init 0 = .ok (.aload_n 0, 1) := by decide +kernel
theorem dX7_init_1 : decode cX7_init 1 = .ok (.invokespecial 3, 3) := by decide +kernel
theorem dX7_init_4 : decode cX7_init 4 = .ok (.aload_n 0, 1) := by decide +kernel
theorem dX7_init_5 : decode cX7_init 5 = .ok (.bipush 12, 2) := by decide +kernel
theorem dX7_init_7 : decode cX7_init 7 = .ok (.newarray .int, 2) := by decide +kernel
theorem dX7_init_9 : decode cX7_init 9 = .ok (.putfield 9, 3) := by decide +kernel
theorem dX7_init_12 : decode cX7_init 12 = .ok (.aload_n 0, 1) := by decide +kernel
theorem dX7_init_13 : decode cX7_init 13 = .ok (.invokevirtual 15, 3) := by decide +kernel
theorem dX7_init_16 : decode cX7_init 16 = .ok (.return_, 1) := by decide +kernel
theorem dX7_clear_0 : decode cX7_clear 0 = .ok (.iconst 0, 1) := by decide +kernel
theorem dX7_clear_1 : decode cX7_clear 1 = .ok (.istore_n 1, 1) := by decide +kernel
theorem dX7_clear_2 : decode cX7_clear 2 = .ok (.iload_n 1, 1) := by decide +kernel
theorem dX7_clear_3 : decode cX7_clear 3 = .ok (.bipush 12, 2) := by decide +kernel
theorem dX7_clear_5 : decode cX7_clear 5 = .ok (.if_icmp .ge 19, 3) := by decide +kernel
theorem dX7_clear_8 : decode cX7_clear 8 = .ok (.aload_n 0, 1) := by decide +kernel
theorem dX7_clear_9 : decode cX7_clear 9 = .ok (.getfield 9, 3) := by decide +kernel
theorem dX7_clear_12 : decode cX7_clear 12 = .ok (.iload_n 1, 1) := by decide +kernel
theorem dX7_clear_13 : decode cX7_clear 13 = .ok (.bipush (-6), 2) := by decide +kernel
theorem dX7_clear_15 : decode cX7_clear 15 = .ok (.invokestatic 18, 3) := by decide +kernel
theorem dX7_clear_18 : decode cX7_clear 18 = .ok (.iinc 1 1, 3) := by decide +kernel
theorem dX7_clear_21 : decode cX7_clear 21 = .ok (.goto (-19), 3) := by decide +kernel
theorem dX7_clear_24 : decode cX7_clear 24 = .ok (.return_, 1) := by decide +kernel
theorem dX7_copyFrom_0 : decode cX7_copyFrom 0 = .ok (.aload_n 1, 1) := by decide +kernel
theorem dX7_copyFrom_1 : decode cX7_copyFrom 1 = .ok (.getfield 9, 3) := by decide +kernel
theorem dX7_copyFrom_4 : decode cX7_copyFrom 4 = .ok (.aload_n 0, 1) := by decide +kernel
theorem dX7_copyFrom_5 : decode cX7_copyFrom 5 = .ok (.getfield 9, 3) := by decide +kernel
theorem dX7_copyFrom_8 : decode cX7_copyFrom 8 = .ok (.invokestatic 22, 3) := by decide +kernel
theorem dX7_copyFrom_11 : decode cX7_copyFrom 11 = .ok (.return_, 1) := by decide +kernel
theorem dX7_of_0 : decode cX7_of 0 = .ok (.aload_n 0, 1) := by decide +kernel
theorem dX7_of_1 : decode cX7_of 1 = .ok (.getfield 9, 3) := by decide +kernel
theorem dX7_of_4 : decode cX7_of 4 = .ok (.iload_n 1, 1) := by decide +kernel
theorem dX7_of_5 : decode cX7_of 5 = .ok (.invokestatic 26, 3) := by decide +kernel
theorem dX7_of_8 : decode cX7_of 8 = .ok (.ireturn, 1) := by decide +kernel
theorem dX7_change_0 : decode cX7_change 0 = .ok (.aload_n 0, 1) := by decide +kernel
theorem dX7_change_1 : decode cX7_change 1 = .ok (.getfield 9, 3) := by decide +kernel
theorem dX7_change_4 : decode cX7_change 4 = .ok (.iload_n 1, 1) := by decide +kernel
theorem dX7_change_5 : decode cX7_change 5 = .ok (.iload_n 2, 1) := by decide +kernel
theorem dX7_change_6 : decode cX7_change 6 = .ok (.invokestatic 18, 3) := by decide +kernel
theorem dX7_change_9 : decode cX7_change 9 = .ok (.return_, 1) := by decide +kernel
theorem dX7_howMany_0 : decode cX7_howMany 0 = .ok (.iconst 0, 1) := by decide +kernel
theorem dX7_howMany_1 : decode cX7_howMany 1 = .ok (.istore_n 1, 1) := by decide +kernel
theorem dX7_howMany_2 : decode cX7_howMany 2 = .ok (.iconst 0, 1) := by decide +kernel
theorem dX7_howMany_3 : decode cX7_howMany 3 = .ok (.istore_n 2, 1) := by decide +kernel
theorem dX7_howMany_4 : decode cX7_howMany 4 = .ok (.iload_n 2, 1) := by decide +kernel
theorem dX7_howMany_5 : decode cX7_howMany 5 = .ok (.bipush 12, 2) := by decide +kernel
theorem dX7_howMany_7 : decode cX7_howMany 7 = .ok (.if_icmp .ge 22, 3) := by decide +kernel
theorem dX7_howMany_10 : decode cX7_howMany 10 = .ok (.aload_n 0, 1) := by decide +kernel
theorem dX7_howMany_11 : decode cX7_howMany 11 = .ok (.iload_n 2, 1) := by decide +kernel
theorem dX7_howMany_12 : decode cX7_howMany 12 = .ok (.invokevirtual 30, 3) := by decide +kernel
theorem dX7_howMany_15 : decode cX7_howMany 15 = .ok (.bipush (-6), 2) := by decide +kernel
theorem dX7_howMany_17 : decode cX7_howMany 17 = .ok (.if_icmp .eq 6, 3) := by decide +kernel
theorem dX7_howMany_20 : decode cX7_howMany 20 = .ok (.iinc 1 1, 3) := by decide +kernel
theorem dX7_howMany_23 : decode cX7_howMany 23 = .ok (.iinc 2 1, 3) := by decide +kernel
theorem dX7_howMany_26 : decode cX7_howMany 26 = .ok (.goto (-22), 3) := by decide +kernel
theorem dX7_howMany_29 : decode cX7_howMany 29 = .ok (.iload_n 1, 1) := by decide +kernel
theorem dX7_howMany_30 : decode cX7_howMany 30 = .ok (.ireturn, 1) := by decide +kernel
theorem dX7_differingFrom_0 : decode cX7_differingFrom 0 = .ok (.iconst 0, 1) := by decide +kernel
theorem dX7_differingFrom_1 : decode cX7_differingFrom 1 = .ok (.istore_n 2, 1) := by decide +kernel
theorem dX7_differingFrom_2 : decode cX7_differingFrom 2 = .ok (.iconst 0, 1) := by decide +kernel
theorem dX7_differingFrom_3 : decode cX7_differingFrom 3 = .ok (.istore_n 3, 1) := by decide +kernel
theorem dX7_differingFrom_4 : decode cX7_differingFrom 4 = .ok (.iload_n 3, 1) := by decide +kernel
theorem dX7_differingFrom_5 : decode cX7_differingFrom 5 = .ok (.bipush 12, 2) := by decide +kernel
theorem dX7_differingFrom_7 : decode cX7_differingFrom 7 = .ok (.if_icmp .ge 28, 3) := by decide +kernel
theorem dX7_differingFrom_10 : decode cX7_differingFrom 10 = .ok (.aload_n 0, 1) := by decide +kernel
theorem dX7_differingFrom_11 : decode cX7_differingFrom 11 = .ok (.iload_n 3, 1) := by decide +kernel
theorem dX7_differingFrom_12 : decode cX7_differingFrom 12 = .ok (.invokevirtual 30, 3) := by decide +kernel
theorem dX7_differingFrom_15 : decode cX7_differingFrom 15 = .ok (.aload_n 1, 1) := by decide +kernel
theorem dX7_differingFrom_16 : decode cX7_differingFrom 16 = .ok (.iload_n 3, 1) := by decide +kernel
theorem dX7_differingFrom_17 : decode cX7_differingFrom 17 = .ok (.invokevirtual 30, 3) := by decide +kernel
theorem dX7_differingFrom_20 : decode cX7_differingFrom 20 = .ok (.if_icmp .eq 9, 3) := by decide +kernel
theorem dX7_differingFrom_23 : decode cX7_differingFrom 23 = .ok (.iload_n 2, 1) := by decide +kernel
theorem dX7_differingFrom_24 : decode cX7_differingFrom 24 = .ok (.iconst 1, 1) := by decide +kernel
theorem dX7_differingFrom_25 : decode cX7_differingFrom 25 = .ok (.iload_n 3, 1) := by decide +kernel
theorem dX7_differingFrom_26 : decode cX7_differingFrom 26 = .ok (.ishl, 1) := by decide +kernel
theorem dX7_differingFrom_27 : decode cX7_differingFrom 27 = .ok (.ior, 1) := by decide +kernel
theorem dX7_differingFrom_28 : decode cX7_differingFrom 28 = .ok (.istore_n 2, 1) := by decide +kernel
theorem dX7_differingFrom_29 : decode cX7_differingFrom 29 = .ok (.iinc 3 1, 3) := by decide +kernel
theorem dX7_differingFrom_32 : decode cX7_differingFrom 32 = .ok (.goto (-28), 3) := by decide +kernel
theorem dX7_differingFrom_35 : decode cX7_differingFrom 35 = .ok (.iload_n 2, 1) := by decide +kernel
theorem dX7_differingFrom_36 : decode cX7_differingFrom 36 = .ok (.ireturn, 1) := by decide +kernel
theorem dX8_init_0 : decode cX8_init 0 = .ok (.aload_n 0, 1) := by decide +kernel
theorem dX8_init_1 : decode cX8_init 1 = .ok (.invokespecial 1, 3) := by decide +kernel
theorem dX8_init_4 : decode cX8_init 4 = .ok (.aload_n 0, 1) := by decide +kernel
theorem dX8_init_5 : decode cX8_init 5 = .ok (.new 7, 3) := by decide +kernel
theorem dX8_init_8 : decode cX8_init 8 = .ok (.dup, 1) := by decide +kernel
theorem dX8_init_9 : decode cX8_init 9 = .ok (.invokespecial 9, 3) := by decide +kernel
theorem dX8_init_12 : decode cX8_init 12 = .ok (.putfield 10, 3) := by decide +kernel
theorem dX8_init_15 : decode cX8_init 15 = .ok (.aload_n 0, 1) := by decide +kernel
theorem dX8_init_16 : decode cX8_init 16 = .ok (.new 16, 3) := by decide +kernel
theorem dX8_init_19 : decode cX8_init 19 = .ok (.dup, 1) := by decide +kernel
theorem dX8_init_20 : decode cX8_init 20 = .ok (.invokespecial 18, 3) := by decide +kernel
theorem dX8_init_23 : decode cX8_init 23 = .ok (.putfield 19, 3) := by decide +kernel
theorem dX8_init_26 : decode cX8_init 26 = .ok (.aload_n 0, 1) := by decide +kernel
theorem dX8_init_27 : decode cX8_init 27 = .ok (.new 23, 3) := by decide +kernel
theorem dX8_init_30 : decode cX8_init 30 = .ok (.dup, 1) := by decide +kernel
theorem dX8_init_31 : decode cX8_init 31 = .ok (.invokespecial 25, 3) := by decide +kernel
theorem dX8_init_34 : decode cX8_init 34 = .ok (.putfield 26, 3) := by decide +kernel
theorem dX8_init_37 : decode cX8_init 37 = .ok (.aload_n 0, 1) := by decide +kernel
theorem dX8_init_38 : decode cX8_init 38 = .ok (.iconst 2, 1) := by decide +kernel
theorem dX8_init_39 : decode cX8_init 39 = .ok (.anewarray 30, 3) := by decide +kernel
theorem dX8_init_42 : decode cX8_init 42 = .ok (.putfield 32, 3) := by decide +kernel
theorem dX8_init_45 : decode cX8_init 45 = .ok (.iconst 0, 1) := by decide +kernel
theorem dX8_init_46 : decode cX8_init 46 = .ok (.istore_n 1, 1) := by decide +kernel
theorem dX8_init_47 : decode cX8_init 47 = .ok (.iload_n 1, 1) := by decide +kernel
theorem dX8_init_48 : decode cX8_init 48 = .ok (.aload_n 0, 1) := by decide +kernel
theorem dX8_init_49 : decode cX8_init 49 = .ok (.getfield 32, 3) := by decide +kernel
theorem dX8_init_52 : decode cX8_init 52 = .ok (.arraylength, 1) := by decide +kernel
theorem dX8_init_53 : decode cX8_init 53 = .ok (.if_icmp .ge 22, 3) := by decide +kernel
theorem dX8_init_56 : decode cX8_init 56 = .ok (.aload_n 0, 1) := by decide +kernel
theorem dX8_init_57 : decode cX8_init 57 = .ok (.getfield 32, 3) := by decide +kernel
theorem dX8_init_60 : decode cX8_init 60 = .ok (.iload_n 1, 1) := by decide +kernel
theorem dX8_init_61 : decode cX8_init 61 = .ok (.new 30, 3) := by decide +kernel
theorem dX8_init_64 : decode cX8_init 64 = .ok (.dup, 1) := by decide +kernel
theorem dX8_init_65 : decode cX8_init 65 = .ok (.invokespecial 36, 3) := by decide +kernel
theorem dX8_init_68 : decode cX8_init 68 = .ok (.aastore, 1) := by decide +kernel
theorem dX8_init_69 : decode cX8_init 69 = .ok (.iinc 1 1, 3) := by decide +kernel
theorem dX8_init_72 : decode cX8_init 72 = .ok (.goto (-25), 3) := by decide +kernel
theorem dX8_init_75 : decode cX8_init 75 = .ok (.return_, 1) := by decide +kernel
theorem dX8_turn_0 : decode cX8_turn 0 = .ok (.aload_n 0, 1) := by decide +kernel
theorem dX8_turn_1 : decode cX8_turn 1 = .ok (.getfield 19, 3) := by decide +kernel
theorem dX8_turn_4 : decode cX8_turn 4 = .ok (.aload_n 0, 1) := by decide +kernel
theorem dX8_turn_5 : decode cX8_turn 5 = .ok (.getfield 10, 3) := by decide +kernel
theorem dX8_turn_8 : decode cX8_turn 8 = .ok (.invokevirtual 37, 3) := by decide +kernel
theorem dX8_turn_11 : decode cX8_turn 11 = .ok (.aload_n 0, 1) := by decide +kernel
theorem dX8_turn_12 : decode cX8_turn 12 = .ok (.getfield 19, 3) := by decide +kernel
theorem dX8_turn_15 : decode cX8_turn 15 = .ok (.aload_n 0, 1) := by decide +kernel
theorem dX8_turn_16 : decode cX8_turn 16 = .ok (.getfield 10, 3) := by decide +kernel
theorem dX8_turn_19 : decode cX8_turn 19 = .ok (.iload_n 1, 1) := by decide +kernel
theorem dX8_turn_20 : decode cX8_turn 20 = .ok (.iload_n 2, 1) := by decide +kernel
theorem dX8_turn_21 : decode cX8_turn 21 = .ok (.invokevirtual 41, 3) := by decide +kernel
theorem dX8_turn_24 : decode cX8_turn 24 = .ok (.invokevirtual 45, 3) := by decide +kernel
theorem dX8_turn_27 : decode cX8_turn 27 = .ok (.ireturn, 1) := by decide +kernel
theorem dX8_set_0 : decode cX8_set 0 = .ok (.aload_n 0, 1) := by decide +kernel
theorem dX8_set_1 : decode cX8_set 1 = .ok (.getfield 19, 3) := by decide +kernel
theorem dX8_set_4 : decode cX8_set 4 = .ok (.aload_n 0, 1) := by decide +kernel
theorem dX8_set_5 : decode cX8_set 5 = .ok (.getfield 10, 3) := by decide +kernel
theorem dX8_set_8 : decode cX8_set 8 = .ok (.invokevirtual 37, 3) := by decide +kernel
theorem dX8_set_11 : decode cX8_set 11 = .ok (.aload_n 0, 1) := by decide +kernel
theorem dX8_set_12 : decode cX8_set 12 = .ok (.getfield 19, 3) := by decide +kernel
theorem dX8_set_15 : decode cX8_set 15 = .ok (.aload_n 0, 1) := by decide +kernel
theorem dX8_set_16 : decode cX8_set 16 = .ok (.getfield 10, 3) := by decide +kernel
theorem dX8_set_19 : decode cX8_set 19 = .ok (.iload_n 1, 1) := by decide +kernel
theorem dX8_set_20 : decode cX8_set 20 = .ok (.iload_n 2, 1) := by decide +kernel
theorem dX8_set_21 : decode cX8_set 21 = .ok (.invokevirtual 49, 3) := by decide +kernel
theorem dX8_set_24 : decode cX8_set 24 = .ok (.invokevirtual 45, 3) := by decide +kernel
theorem dX8_set_27 : decode cX8_set 27 = .ok (.ireturn, 1) := by decide +kernel
theorem dX8_remove_0 : decode cX8_remove 0 = .ok (.aload_n 0, 1) := by decide +kernel
theorem dX8_remove_1 : decode cX8_remove 1 = .ok (.getfield 19, 3) := by decide +kernel
theorem dX8_remove_4 : decode cX8_remove 4 = .ok (.aload_n 0, 1) := by decide +kernel
theorem dX8_remove_5 : decode cX8_remove 5 = .ok (.getfield 10, 3) := by decide +kernel
theorem dX8_remove_8 : decode cX8_remove 8 = .ok (.invokevirtual 37, 3) := by decide +kernel
theorem dX8_remove_11 : decode cX8_remove 11 = .ok (.aload_n 0, 1) := by decide +kernel
theorem dX8_remove_12 : decode cX8_remove 12 = .ok (.getfield 19, 3) := by decide +kernel
theorem dX8_remove_15 : decode cX8_remove 15 = .ok (.aload_n 0, 1) := by decide +kernel
theorem dX8_remove_16 : decode cX8_remove 16 = .ok (.getfield 10, 3) := by decide +kernel
theorem dX8_remove_19 : decode cX8_remove 19 = .ok (.iload_n 1, 1) := by decide +kernel
theorem dX8_remove_20 : decode cX8_remove 20 = .ok (.invokevirtual 52, 3) := by decide +kernel
theorem dX8_remove_23 : decode cX8_remove 23 = .ok (.invokevirtual 45, 3) := by decide +kernel
theorem dX8_remove_26 : decode cX8_remove 26 = .ok (.ireturn, 1) := by decide +kernel
theorem dX8_pass_0 : decode cX8_pass 0 = .ok (.aload_n 0, 1) := by decide +kernel
theorem dX8_pass_1 : decode cX8_pass 1 = .ok (.getfield 19, 3) := by decide +kernel
theorem dX8_pass_4 : decode cX8_pass 4 = .ok (.aload_n 0, 1) := by decide +kernel
theorem dX8_pass_5 : decode cX8_pass 5 = .ok (.getfield 10, 3) := by decide +kernel
theorem dX8_pass_8 : decode cX8_pass 8 = .ok (.invokevirtual 37, 3) := by decide +kernel
theorem dX8_pass_11 : decode cX8_pass 11 = .ok (.aload_n 0, 1) := by decide +kernel
theorem dX8_pass_12 : decode cX8_pass 12 = .ok (.getfield 19, 3) := by decide +kernel
theorem dX8_pass_15 : decode cX8_pass 15 = .ok (.aload_n 0, 1) := by decide +kernel
theorem dX8_pass_16 : decode cX8_pass 16 = .ok (.getfield 10, 3) := by decide +kernel
theorem dX8_pass_19 : decode cX8_pass 19 = .ok (.iload_n 1, 1) := by decide +kernel
theorem dX8_pass_20 : decode cX8_pass 20 = .ok (.invokevirtual 55, 3) := by decide +kernel
theorem dX8_pass_23 : decode cX8_pass 23 = .ok (.invokevirtual 45, 3) := by decide +kernel
theorem dX8_pass_26 : decode cX8_pass 26 = .ok (.ireturn, 1) := by decide +kernel
theorem dX8_thin_0 : decode cX8_thin 0 = .ok (.aload_n 0, 1) := by decide +kernel
theorem dX8_thin_1 : decode cX8_thin 1 = .ok (.getfield 19, 3) := by decide +kernel
theorem dX8_thin_4 : decode cX8_thin 4 = .ok (.aload_n 0, 1) := by decide +kernel
theorem dX8_thin_5 : decode cX8_thin 5 = .ok (.getfield 10, 3) := by decide +kernel
theorem dX8_thin_8 : decode cX8_thin 8 = .ok (.invokevirtual 37, 3) := by decide +kernel
theorem dX8_thin_11 : decode cX8_thin 11 = .ok (.aload_n 0, 1) := by decide +kernel
theorem dX8_thin_12 : decode cX8_thin 12 = .ok (.getfield 19, 3) := by decide +kernel
theorem dX8_thin_15 : decode cX8_thin 15 = .ok (.aload_n 0, 1) := by decide +kernel
theorem dX8_thin_16 : decode cX8_thin 16 = .ok (.getfield 10, 3) := by decide +kernel
theorem dX8_thin_19 : decode cX8_thin 19 = .ok (.invokevirtual 58, 3) := by decide +kernel
theorem dX8_thin_22 : decode cX8_thin 22 = .ok (.invokevirtual 45, 3) := by decide +kernel
theorem dX8_thin_25 : decode cX8_thin 25 = .ok (.ireturn, 1) := by decide +kernel
theorem dX8_snapshot_0 : decode cX8_snapshot 0 = .ok (.aload_n 0, 1) := by decide +kernel
theorem dX8_snapshot_1 : decode cX8_snapshot 1 = .ok (.getfield 19, 3) := by decide +kernel
theorem dX8_snapshot_4 : decode cX8_snapshot 4 = .ok (.aload_n 0, 1) := by decide +kernel
theorem dX8_snapshot_5 : decode cX8_snapshot 5 = .ok (.getfield 10, 3) := by decide +kernel
theorem dX8_snapshot_8 : decode cX8_snapshot 8 = .ok (.invokevirtual 37, 3) := by decide +kernel
theorem dX8_snapshot_11 : decode cX8_snapshot 11 = .ok (.aload_n 0, 1) := by decide +kernel
theorem dX8_snapshot_12 : decode cX8_snapshot 12 = .ok (.getfield 19, 3) := by decide +kernel
theorem dX8_snapshot_15 : decode cX8_snapshot 15 = .ok (.aload_n 0, 1) := by decide +kernel
theorem dX8_snapshot_16 : decode cX8_snapshot 16 = .ok (.getfield 10, 3) := by decide +kernel
theorem dX8_snapshot_19 : decode cX8_snapshot 19 = .ok (.invokevirtual 62, 3) := by decide +kernel
theorem dX8_snapshot_22 : decode cX8_snapshot 22 = .ok (.invokevirtual 45, 3) := by decide +kernel
theorem dX8_snapshot_25 : decode cX8_snapshot 25 = .ok (.ireturn, 1) := by decide +kernel
theorem dX8_reader_0 : decode cX8_reader 0 = .ok (.aload_n 0, 1) := by decide +kernel
theorem dX8_reader_1 : decode cX8_reader 1 = .ok (.getfield 19, 3) := by decide +kernel
theorem dX8_reader_4 : decode cX8_reader 4 = .ok (.aload_n 0, 1) := by decide +kernel
theorem dX8_reader_5 : decode cX8_reader 5 = .ok (.getfield 10, 3) := by decide +kernel
theorem dX8_reader_8 : decode cX8_reader 8 = .ok (.invokevirtual 37, 3) := by decide +kernel
theorem dX8_reader_11 : decode cX8_reader 11 = .ok (.aload_n 0, 1) := by decide +kernel
theorem dX8_reader_12 : decode cX8_reader 12 = .ok (.getfield 19, 3) := by decide +kernel
theorem dX8_reader_15 : decode cX8_reader 15 = .ok (.aload_n 0, 1) := by decide +kernel
theorem dX8_reader_16 : decode cX8_reader 16 = .ok (.getfield 10, 3) := by decide +kernel
theorem dX8_reader_19 : decode cX8_reader 19 = .ok (.invokevirtual 65, 3) := by decide +kernel
theorem dX8_reader_22 : decode cX8_reader 22 = .ok (.invokevirtual 45, 3) := by decide +kernel
theorem dX8_reader_25 : decode cX8_reader 25 = .ok (.ireturn, 1) := by decide +kernel
theorem dX8_read_0 : decode cX8_read 0 = .ok (.aload_n 0, 1) := by decide +kernel
theorem dX8_read_1 : decode cX8_read 1 = .ok (.getfield 19, 3) := by decide +kernel
theorem dX8_read_4 : decode cX8_read 4 = .ok (.aload_n 0, 1) := by decide +kernel
theorem dX8_read_5 : decode cX8_read 5 = .ok (.getfield 10, 3) := by decide +kernel
theorem dX8_read_8 : decode cX8_read 8 = .ok (.invokevirtual 37, 3) := by decide +kernel
theorem dX8_read_11 : decode cX8_read 11 = .ok (.aload_n 0, 1) := by decide +kernel
theorem dX8_read_12 : decode cX8_read 12 = .ok (.getfield 19, 3) := by decide +kernel
theorem dX8_read_15 : decode cX8_read 15 = .ok (.aload_n 0, 1) := by decide +kernel
theorem dX8_read_16 : decode cX8_read 16 = .ok (.getfield 10, 3) := by decide +kernel
theorem dX8_read_19 : decode cX8_read 19 = .ok (.iload_n 1, 1) := by decide +kernel
theorem dX8_read_20 : decode cX8_read 20 = .ok (.iload_n 2, 1) := by decide +kernel
theorem dX8_read_21 : decode cX8_read 21 = .ok (.invokevirtual 68, 3) := by decide +kernel
theorem dX8_read_24 : decode cX8_read 24 = .ok (.invokevirtual 45, 3) := by decide +kernel
theorem dX8_read_27 : decode cX8_read 27 = .ok (.ireturn, 1) := by decide +kernel
theorem dX8_confirm_0 : decode cX8_confirm 0 = .ok (.aload_n 0, 1) := by decide +kernel
theorem dX8_confirm_1 : decode cX8_confirm 1 = .ok (.getfield 19, 3) := by decide +kernel
theorem dX8_confirm_4 : decode cX8_confirm 4 = .ok (.aload_n 0, 1) := by decide +kernel
theorem dX8_confirm_5 : decode cX8_confirm 5 = .ok (.getfield 10, 3) := by decide +kernel
theorem dX8_confirm_8 : decode cX8_confirm 8 = .ok (.invokevirtual 37, 3) := by decide +kernel
theorem dX8_confirm_11 : decode cX8_confirm 11 = .ok (.aload_n 0, 1) := by decide +kernel
theorem dX8_confirm_12 : decode cX8_confirm 12 = .ok (.getfield 19, 3) := by decide +kernel
theorem dX8_confirm_15 : decode cX8_confirm 15 = .ok (.aload_n 0, 1) := by decide +kernel
theorem dX8_confirm_16 : decode cX8_confirm 16 = .ok (.getfield 10, 3) := by decide +kernel
theorem dX8_confirm_19 : decode cX8_confirm 19 = .ok (.iload_n 1, 1) := by decide +kernel
theorem dX8_confirm_20 : decode cX8_confirm 20 = .ok (.invokevirtual 71, 3) := by decide +kernel
theorem dX8_confirm_23 : decode cX8_confirm 23 = .ok (.invokevirtual 45, 3) := by decide +kernel
theorem dX8_confirm_26 : decode cX8_confirm 26 = .ok (.ireturn, 1) := by decide +kernel
theorem dX8_goBack_0 : decode cX8_goBack 0 = .ok (.aload_n 0, 1) := by decide +kernel
theorem dX8_goBack_1 : decode cX8_goBack 1 = .ok (.getfield 19, 3) := by decide +kernel
theorem dX8_goBack_4 : decode cX8_goBack 4 = .ok (.aload_n 0, 1) := by decide +kernel
theorem dX8_goBack_5 : decode cX8_goBack 5 = .ok (.getfield 10, 3) := by decide +kernel
theorem dX8_goBack_8 : decode cX8_goBack 8 = .ok (.invokevirtual 37, 3) := by decide +kernel
theorem dX8_goBack_11 : decode cX8_goBack 11 = .ok (.aload_n 0, 1) := by decide +kernel
theorem dX8_goBack_12 : decode cX8_goBack 12 = .ok (.getfield 19, 3) := by decide +kernel
theorem dX8_goBack_15 : decode cX8_goBack 15 = .ok (.aload_n 0, 1) := by decide +kernel
theorem dX8_goBack_16 : decode cX8_goBack 16 = .ok (.getfield 10, 3) := by decide +kernel
theorem dX8_goBack_19 : decode cX8_goBack 19 = .ok (.iload_n 1, 1) := by decide +kernel
theorem dX8_goBack_20 : decode cX8_goBack 20 = .ok (.invokevirtual 74, 3) := by decide +kernel
theorem dX8_goBack_23 : decode cX8_goBack 23 = .ok (.invokevirtual 45, 3) := by decide +kernel
theorem dX8_goBack_26 : decode cX8_goBack 26 = .ok (.ireturn, 1) := by decide +kernel
theorem dX8_beginAnew_0 : decode cX8_beginAnew 0 = .ok (.aload_n 0, 1) := by decide +kernel
theorem dX8_beginAnew_1 : decode cX8_beginAnew 1 = .ok (.getfield 19, 3) := by decide +kernel
theorem dX8_beginAnew_4 : decode cX8_beginAnew 4 = .ok (.aload_n 0, 1) := by decide +kernel
theorem dX8_beginAnew_5 : decode cX8_beginAnew 5 = .ok (.getfield 10, 3) := by decide +kernel
theorem dX8_beginAnew_8 : decode cX8_beginAnew 8 = .ok (.invokevirtual 37, 3) := by decide +kernel
theorem dX8_beginAnew_11 : decode cX8_beginAnew 11 = .ok (.aload_n 0, 1) := by decide +kernel
theorem dX8_beginAnew_12 : decode cX8_beginAnew 12 = .ok (.getfield 19, 3) := by decide +kernel
theorem dX8_beginAnew_15 : decode cX8_beginAnew 15 = .ok (.aload_n 0, 1) := by decide +kernel
theorem dX8_beginAnew_16 : decode cX8_beginAnew 16 = .ok (.getfield 10, 3) := by decide +kernel
theorem dX8_beginAnew_19 : decode cX8_beginAnew 19 = .ok (.iload_n 1, 1) := by decide +kernel
theorem dX8_beginAnew_20 : decode cX8_beginAnew 20 = .ok (.invokevirtual 77, 3) := by decide +kernel
theorem dX8_beginAnew_23 : decode cX8_beginAnew 23 = .ok (.invokevirtual 45, 3) := by decide +kernel
theorem dX8_beginAnew_26 : decode cX8_beginAnew 26 = .ok (.ireturn, 1) := by decide +kernel
theorem dX8_load_0 : decode cX8_load 0 = .ok (.aload_n 0, 1) := by decide +kernel
theorem dX8_load_1 : decode cX8_load 1 = .ok (.getfield 19, 3) := by decide +kernel
theorem dX8_load_4 : decode cX8_load 4 = .ok (.aload_n 0, 1) := by decide +kernel
theorem dX8_load_5 : decode cX8_load 5 = .ok (.getfield 10, 3) := by decide +kernel
theorem dX8_load_8 : decode cX8_load 8 = .ok (.invokevirtual 37, 3) := by decide +kernel
theorem dX8_load_11 : decode cX8_load 11 = .ok (.aload_n 0, 1) := by decide +kernel
theorem dX8_load_12 : decode cX8_load 12 = .ok (.getfield 19, 3) := by decide +kernel
theorem dX8_load_15 : decode cX8_load 15 = .ok (.aload_n 0, 1) := by decide +kernel
theorem dX8_load_16 : decode cX8_load 16 = .ok (.getfield 10, 3) := by decide +kernel
theorem dX8_load_19 : decode cX8_load 19 = .ok (.iload_n 1, 1) := by decide +kernel
theorem dX8_load_20 : decode cX8_load 20 = .ok (.iload_n 2, 1) := by decide +kernel
theorem dX8_load_21 : decode cX8_load 21 = .ok (.invokevirtual 80, 3) := by decide +kernel
theorem dX8_load_24 : decode cX8_load 24 = .ok (.invokevirtual 45, 3) := by decide +kernel
theorem dX8_load_27 : decode cX8_load 27 = .ok (.ireturn, 1) := by decide +kernel
theorem dX8_table_0 : decode cX8_table 0 = .ok (.iload_n 1, 1) := by decide +kernel
theorem dX8_table_1 : decode cX8_table 1 = .ok (.invokestatic 83, 3) := by decide +kernel
theorem dX8_table_4 : decode cX8_table 4 = .ok (.ifCond .eq 17, 3) := by decide +kernel
theorem dX8_table_7 : decode cX8_table 7 = .ok (.aload_n 0, 1) := by decide +kernel
theorem dX8_table_8 : decode cX8_table 8 = .ok (.getfield 10, 3) := by decide +kernel
theorem dX8_table_11 : decode cX8_table 11 = .ok (.getfield 87, 3) := by decide +kernel
theorem dX8_table_14 : decode cX8_table 14 = .ok (.iload_n 1, 1) := by decide +kernel
theorem dX8_table_15 : decode cX8_table 15 = .ok (.invokevirtual 91, 3) := by decide +kernel
theorem dX8_table_18 : decode cX8_table 18 = .ok (.goto 4, 3) := by decide +kernel
theorem dX8_table_21 : decode cX8_table 21 = .ok (.iconst (-1), 1) := by decide +kernel
theorem dX8_table_22 : decode cX8_table 22 = .ok (.ireturn, 1) := by decide +kernel
theorem dX8_view_0 : decode cX8_view 0 = .ok (.aload_n 0, 1) := by decide +kernel
theorem dX8_view_1 : decode cX8_view 1 = .ok (.getfield 10, 3) := by decide +kernel
theorem dX8_view_4 : decode cX8_view 4 = .ok (.iload_n 1, 1) := by decide +kernel
theorem dX8_view_5 : decode cX8_view 5 = .ok (.invokevirtual 96, 3) := by decide +kernel
theorem dX8_view_8 : decode cX8_view 8 = .ok (.astore_n 3, 1) := by decide +kernel
theorem dX8_view_9 : decode cX8_view 9 = .ok (.aload_n 3, 1) := by decide +kernel
theorem dX8_view_10 : decode cX8_view 10 = .ok (.ifnull 10, 3) := by decide +kernel
theorem dX8_view_13 : decode cX8_view 13 = .ok (.iload_n 2, 1) := by decide +kernel
theorem dX8_view_14 : decode cX8_view 14 = .ok (.invokestatic 83, 3) := by decide +kernel
theorem dX8_view_17 : decode cX8_view 17 = .ok (.ifCond .ne 5, 3) := by decide +kernel
theorem dX8_view_20 : decode cX8_view 20 = .ok (.iconst (-1), 1) := by decide +kernel
theorem dX8_view_21 : decode cX8_view 21 = .ok (.ireturn, 1) := by decide +kernel
theorem dX8_view_22 : decode cX8_view 22 = .ok (.aload_n 3, 1) := by decide +kernel
theorem dX8_view_23 : decode cX8_view 23 = .ok (.getfield 100, 3) := by decide +kernel
theorem dX8_view_26 : decode cX8_view 26 = .ok (.iload_n 2, 1) := by decide +kernel
theorem dX8_view_27 : decode cX8_view 27 = .ok (.invokevirtual 91, 3) := by decide +kernel
theorem dX8_view_30 : decode cX8_view 30 = .ok (.ireturn, 1) := by decide +kernel
theorem dX8_entry_0 : decode cX8_entry 0 = .ok (.aload_n 0, 1) := by decide +kernel
theorem dX8_entry_1 : decode cX8_entry 1 = .ok (.getfield 10, 3) := by decide +kernel
theorem dX8_entry_4 : decode cX8_entry 4 = .ok (.getfield 105, 3) := by decide +kernel
theorem dX8_entry_7 : decode cX8_entry 7 = .ok (.astore_n 3, 1) := by decide +kernel
theorem dX8_entry_8 : decode cX8_entry 8 = .ok (.iload_n 1, 1) := by decide +kernel
theorem dX8_entry_9 : decode cX8_entry 9 = .ok (.ifCond .lt 11, 3) := by decide +kernel
theorem dX8_entry_12 : decode cX8_entry 12 = .ok (.iload_n 1, 1) := by decide +kernel
theorem dX8_entry_13 : decode cX8_entry 13 = .ok (.aload_n 3, 1) := by decide +kernel
theorem dX8_entry_14 : decode cX8_entry 14 = .ok (.getfield 109, 3) := by decide +kernel
theorem dX8_entry_17 : decode cX8_entry 17 = .ok (.if_icmp .lt 5, 3) := by decide +kernel
theorem dX8_entry_20 : decode cX8_entry 20 = .ok (.iconst (-1), 1) := by decide +kernel
theorem dX8_entry_21 : decode cX8_entry 21 = .ok (.ireturn, 1) := by decide +kernel
theorem dX8_entry_22 : decode cX8_entry 22 = .ok (.iload_n 2, 1) := by decide +kernel
theorem dX8_entry_23 : decode cX8_entry 23 = .ok (.tableswitch 86 0 5 #[37, 43, 49, 55, 61, 70], 37) := by decide +kernel
theorem dX8_entry_60 : decode cX8_entry 60 = .ok (.aload_n 3, 1) := by decide +kernel
theorem dX8_entry_61 : decode cX8_entry 61 = .ok (.iload_n 1, 1) := by decide +kernel
theorem dX8_entry_62 : decode cX8_entry 62 = .ok (.invokevirtual 115, 3) := by decide +kernel
theorem dX8_entry_65 : decode cX8_entry 65 = .ok (.ireturn, 1) := by decide +kernel
theorem dX8_entry_66 : decode cX8_entry 66 = .ok (.aload_n 3, 1) := by decide +kernel
theorem dX8_entry_67 : decode cX8_entry 67 = .ok (.iload_n 1, 1) := by decide +kernel
theorem dX8_entry_68 : decode cX8_entry 68 = .ok (.invokevirtual 118, 3) := by decide +kernel
theorem dX8_entry_71 : decode cX8_entry 71 = .ok (.ireturn, 1) := by decide +kernel
theorem dX8_entry_72 : decode cX8_entry 72 = .ok (.aload_n 3, 1) := by decide +kernel
theorem dX8_entry_73 : decode cX8_entry 73 = .ok (.iload_n 1, 1) := by decide +kernel
theorem dX8_entry_74 : decode cX8_entry 74 = .ok (.invokevirtual 121, 3) := by decide +kernel
theorem dX8_entry_77 : decode cX8_entry 77 = .ok (.ireturn, 1) := by decide +kernel
theorem dX8_entry_78 : decode cX8_entry 78 = .ok (.aload_n 3, 1) := by decide +kernel
theorem dX8_entry_79 : decode cX8_entry 79 = .ok (.iload_n 1, 1) := by decide +kernel
theorem dX8_entry_80 : decode cX8_entry 80 = .ok (.invokevirtual 124, 3) := by decide +kernel
theorem dX8_entry_83 : decode cX8_entry 83 = .ok (.ireturn, 1) := by decide +kernel
theorem dX8_entry_84 : decode cX8_entry 84 = .ok (.aload_n 3, 1) := by decide +kernel
theorem dX8_entry_85 : decode cX8_entry 85 = .ok (.iload_n 1, 1) := by decide +kernel
theorem dX8_entry_86 : decode cX8_entry 86 = .ok (.invokevirtual 127, 3) := by decide +kernel
theorem dX8_entry_89 : decode cX8_entry 89 = .ok (.invokestatic 130, 3) := by decide +kernel
theorem dX8_entry_92 : decode cX8_entry 92 = .ok (.ireturn, 1) := by decide +kernel
theorem dX8_entry_93 : decode cX8_entry 93 = .ok (.aload_n 3, 1) := by decide +kernel
theorem dX8_entry_94 : decode cX8_entry 94 = .ok (.iload_n 1, 1) := by decide +kernel
theorem dX8_entry_95 : decode cX8_entry 95 = .ok (.aload_n 0, 1) := by decide +kernel
theorem dX8_entry_96 : decode cX8_entry 96 = .ok (.getfield 10, 3) := by decide +kernel
theorem dX8_entry_99 : decode cX8_entry 99 = .ok (.getfield 134, 3) := by decide +kernel
theorem dX8_entry_102 : decode cX8_entry 102 = .ok (.invokevirtual 137, 3) := by decide +kernel
theorem dX8_entry_105 : decode cX8_entry 105 = .ok (.invokestatic 130, 3) := by decide +kernel
theorem dX8_entry_108 : decode cX8_entry 108 = .ok (.ireturn, 1) := by decide +kernel
theorem dX8_entry_109 : decode cX8_entry 109 = .ok (.bipush (-2), 2) := by decide +kernel
theorem dX8_entry_111 : decode cX8_entry 111 = .ok (.ireturn, 1) := by decide +kernel
theorem dX8_ofReader_0 : decode cX8_ofReader 0 = .ok (.aload_n 0, 1) := by decide +kernel
theorem dX8_ofReader_1 : decode cX8_ofReader 1 = .ok (.getfield 10, 3) := by decide +kernel
theorem dX8_ofReader_4 : decode cX8_ofReader 4 = .ok (.iload_n 1, 1) := by decide +kernel
theorem dX8_ofReader_5 : decode cX8_ofReader 5 = .ok (.invokevirtual 96, 3) := by decide +kernel
theorem dX8_ofReader_8 : decode cX8_ofReader 8 = .ok (.astore_n 3, 1) := by decide +kernel
theorem dX8_ofReader_9 : decode cX8_ofReader 9 = .ok (.aload_n 3, 1) := by decide +kernel
theorem dX8_ofReader_10 : decode cX8_ofReader 10 = .ok (.ifnonnull 5, 3) := by decide +kernel
theorem dX8_ofReader_13 : decode cX8_ofReader 13 = .ok (.iconst (-1), 1) := by decide +kernel
theorem dX8_ofReader_14 : decode cX8_ofReader 14 = .ok (.ireturn, 1) := by decide +kernel
theorem dX8_ofReader_15 : decode cX8_ofReader 15 = .ok (.iload_n 2, 1) := by decide +kernel
theorem dX8_ofReader_16 : decode cX8_ofReader 16 = .ok (.tableswitch 125 0 6 #[44, 49, 54, 69, 90, 95, 110], 44) := by decide +kernel
theorem dX8_ofReader_60 : decode cX8_ofReader 60 = .ok (.aload_n 3, 1) := by decide +kernel
theorem dX8_ofReader_61 : decode cX8_ofReader 61 = .ok (.getfield 141, 3) := by decide +kernel
theorem dX8_ofReader_64 : decode cX8_ofReader 64 = .ok (.ireturn, 1) := by decide +kernel
theorem dX8_ofReader_65 : decode cX8_ofReader 65 = .ok (.aload_n 3, 1) := by decide +kernel
theorem dX8_ofReader_66 : decode cX8_ofReader 66 = .ok (.getfield 144, 3) := by decide +kernel
theorem dX8_ofReader_69 : decode cX8_ofReader 69 = .ok (.ireturn, 1) := by decide +kernel
theorem dX8_ofReader_70 : decode cX8_ofReader 70 = .ok (.aload_n 0, 1) := by decide +kernel
theorem dX8_ofReader_71 : decode cX8_ofReader 71 = .ok (.getfield 10, 3) := by decide +kernel
theorem dX8_ofReader_74 : decode cX8_ofReader 74 = .ok (.getfield 105, 3) := by decide +kernel
theorem dX8_ofReader_77 : decode cX8_ofReader 77 = .ok (.aload_n 3, 1) := by decide +kernel
theorem dX8_ofReader_78 : decode cX8_ofReader 78 = .ok (.getfield 141, 3) := by decide +kernel
theorem dX8_ofReader_81 : decode cX8_ofReader 81 = .ok (.invokevirtual 147, 3) := by decide +kernel
theorem dX8_ofReader_84 : decode cX8_ofReader 84 = .ok (.ireturn, 1) := by decide +kernel
theorem dX8_ofReader_85 : decode cX8_ofReader 85 = .ok (.aload_n 3, 1) := by decide +kernel
theorem dX8_ofReader_86 : decode cX8_ofReader 86 = .ok (.getfield 141, 3) := by decide +kernel
theorem dX8_ofReader_89 : decode cX8_ofReader 89 = .ok (.aload_n 0, 1) := by decide +kernel
theorem dX8_ofReader_90 : decode cX8_ofReader 90 = .ok (.getfield 10, 3) := by decide +kernel
theorem dX8_ofReader_93 : decode cX8_ofReader 93 = .ok (.getfield 105, 3) := by decide +kernel
theorem dX8_ofReader_96 : decode cX8_ofReader 96 = .ok (.getfield 150, 3) := by decide +kernel
theorem dX8_ofReader_99 : decode cX8_ofReader 99 = .ok (.invokestatic 153, 3) := by decide +kernel
theorem dX8_ofReader_102 : decode cX8_ofReader 102 = .ok (.invokestatic 130, 3) := by decide +kernel
theorem dX8_ofReader_105 : decode cX8_ofReader 105 = .ok (.ireturn, 1) := by decide +kernel
theorem dX8_ofReader_106 : decode cX8_ofReader 106 = .ok (.aload_n 3, 1) := by decide +kernel
theorem dX8_ofReader_107 : decode cX8_ofReader 107 = .ok (.getfield 156, 3) := by decide +kernel
theorem dX8_ofReader_110 : decode cX8_ofReader 110 = .ok (.ireturn, 1) := by decide +kernel
theorem dX8_ofReader_111 : decode cX8_ofReader 111 = .ok (.aload_n 3, 1) := by decide +kernel
theorem dX8_ofReader_112 : decode cX8_ofReader 112 = .ok (.getfield 100, 3) := by decide +kernel
theorem dX8_ofReader_115 : decode cX8_ofReader 115 = .ok (.aload_n 0, 1) := by decide +kernel
theorem dX8_ofReader_116 : decode cX8_ofReader 116 = .ok (.getfield 10, 3) := by decide +kernel
theorem dX8_ofReader_119 : decode cX8_ofReader 119 = .ok (.getfield 87, 3) := by decide +kernel
theorem dX8_ofReader_122 : decode cX8_ofReader 122 = .ok (.invokevirtual 159, 3) := by decide +kernel
theorem dX8_ofReader_125 : decode cX8_ofReader 125 = .ok (.ireturn, 1) := by decide +kernel
theorem dX8_ofReader_126 : decode cX8_ofReader 126 = .ok (.aload_n 3, 1) := by decide +kernel
theorem dX8_ofReader_127 : decode cX8_ofReader 127 = .ok (.getfield 163, 3) := by decide +kernel
theorem dX8_ofReader_130 : decode cX8_ofReader 130 = .ok (.aload_n 0, 1) := by decide +kernel
theorem dX8_ofReader_131 : decode cX8_ofReader 131 = .ok (.getfield 10, 3) := by decide +kernel
theorem dX8_ofReader_134 : decode cX8_ofReader 134 = .ok (.getfield 87, 3) := by decide +kernel
theorem dX8_ofReader_137 : decode cX8_ofReader 137 = .ok (.invokevirtual 159, 3) := by decide +kernel
theorem dX8_ofReader_140 : decode cX8_ofReader 140 = .ok (.ireturn, 1) := by decide +kernel
theorem dX8_ofReader_141 : decode cX8_ofReader 141 = .ok (.bipush (-2), 2) := by decide +kernel
theorem dX8_ofReader_143 : decode cX8_ofReader 143 = .ok (.ireturn, 1) := by decide +kernel
theorem dX8_ofSnapshot_0 : decode cX8_ofSnapshot 0 = .ok (.aload_n 0, 1) := by decide +kernel
theorem dX8_ofSnapshot_1 : decode cX8_ofSnapshot 1 = .ok (.getfield 10, 3) := by decide +kernel
theorem dX8_ofSnapshot_4 : decode cX8_ofSnapshot 4 = .ok (.iload_n 1, 1) := by decide +kernel
theorem dX8_ofSnapshot_5 : decode cX8_ofSnapshot 5 = .ok (.invokevirtual 166, 3) := by decide +kernel
theorem dX8_ofSnapshot_8 : decode cX8_ofSnapshot 8 = .ok (.astore_n 3, 1) := by decide +kernel
theorem dX8_ofSnapshot_9 : decode cX8_ofSnapshot 9 = .ok (.aload_n 3, 1) := by decide +kernel
theorem dX8_ofSnapshot_10 : decode cX8_ofSnapshot 10 = .ok (.ifnonnull 5, 3) := by decide +kernel
theorem dX8_ofSnapshot_13 : decode cX8_ofSnapshot 13 = .ok (.iconst (-1), 1) := by decide +kernel
theorem dX8_ofSnapshot_14 : decode cX8_ofSnapshot 14 = .ok (.ireturn, 1) := by decide +kernel
theorem dX8_ofSnapshot_15 : decode cX8_ofSnapshot 15 = .ok (.iload_n 2, 1) := by decide +kernel
theorem dX8_ofSnapshot_16 : decode cX8_ofSnapshot 16 = .ok (.tableswitch 56 0 2 #[28, 33, 41], 28) := by decide +kernel
theorem dX8_ofSnapshot_44 : decode cX8_ofSnapshot 44 = .ok (.aload_n 3, 1) := by decide +kernel
theorem dX8_ofSnapshot_45 : decode cX8_ofSnapshot 45 = .ok (.getfield 170, 3) := by decide +kernel
theorem dX8_ofSnapshot_48 : decode cX8_ofSnapshot 48 = .ok (.ireturn, 1) := by decide +kernel
theorem dX8_ofSnapshot_49 : decode cX8_ofSnapshot 49 = .ok (.aload_n 3, 1) := by decide +kernel
theorem dX8_ofSnapshot_50 : decode cX8_ofSnapshot 50 = .ok (.getfield 175, 3) := by decide +kernel
theorem dX8_ofSnapshot_53 : decode cX8_ofSnapshot 53 = .ok (.invokevirtual 176, 3) := by decide +kernel
theorem dX8_ofSnapshot_56 : decode cX8_ofSnapshot 56 = .ok (.ireturn, 1) := by decide +kernel
theorem dX8_ofSnapshot_57 : decode cX8_ofSnapshot 57 = .ok (.aload_n 0, 1) := by decide +kernel
theorem dX8_ofSnapshot_58 : decode cX8_ofSnapshot 58 = .ok (.getfield 10, 3) := by decide +kernel
theorem dX8_ofSnapshot_61 : decode cX8_ofSnapshot 61 = .ok (.getfield 105, 3) := by decide +kernel
theorem dX8_ofSnapshot_64 : decode cX8_ofSnapshot 64 = .ok (.aload_n 3, 1) := by decide +kernel
theorem dX8_ofSnapshot_65 : decode cX8_ofSnapshot 65 = .ok (.getfield 170, 3) := by decide +kernel
theorem dX8_ofSnapshot_68 : decode cX8_ofSnapshot 68 = .ok (.invokevirtual 147, 3) := by decide +kernel
theorem dX8_ofSnapshot_71 : decode cX8_ofSnapshot 71 = .ok (.ireturn, 1) := by decide +kernel
theorem dX8_ofSnapshot_72 : decode cX8_ofSnapshot 72 = .ok (.bipush (-2), 2) := by decide +kernel
theorem dX8_ofSnapshot_74 : decode cX8_ofSnapshot 74 = .ok (.ireturn, 1) := by decide +kernel
theorem dX8_count_0 : decode cX8_count 0 = .ok (.iload_n 1, 1) := by decide +kernel
theorem dX8_count_1 : decode cX8_count 1 = .ok (.tableswitch 196 0 12 #[67, 78, 89, 100, 108, 119, 130, 138, 156, 164, 172, 180, 188], 67) := by decide +kernel
theorem dX8_count_68 : decode cX8_count 68 = .ok (.aload_n 0, 1) := by decide +kernel
theorem dX8_count_69 : decode cX8_count 69 = .ok (.getfield 10, 3) := by decide +kernel
theorem dX8_count_72 : decode cX8_count 72 = .ok (.getfield 105, 3) := by decide +kernel
theorem dX8_count_75 : decode cX8_count 75 = .ok (.getfield 109, 3) := by decide +kernel
theorem dX8_count_78 : decode cX8_count 78 = .ok (.ireturn, 1) := by decide +kernel
theorem dX8_count_79 : decode cX8_count 79 = .ok (.aload_n 0, 1) := by decide +kernel
theorem dX8_count_80 : decode cX8_count 80 = .ok (.getfield 10, 3) := by decide +kernel
theorem dX8_count_83 : decode cX8_count 83 = .ok (.getfield 105, 3) := by decide +kernel
theorem dX8_count_86 : decode cX8_count 86 = .ok (.getfield 179, 3) := by decide +kernel
theorem dX8_count_89 : decode cX8_count 89 = .ok (.ireturn, 1) := by decide +kernel
theorem dX8_count_90 : decode cX8_count 90 = .ok (.aload_n 0, 1) := by decide +kernel
theorem dX8_count_91 : decode cX8_count 91 = .ok (.getfield 10, 3) := by decide +kernel
theorem dX8_count_94 : decode cX8_count 94 = .ok (.getfield 87, 3) := by decide +kernel
theorem dX8_count_97 : decode cX8_count 97 = .ok (.invokevirtual 176, 3) := by decide +kernel
theorem dX8_count_100 : decode cX8_count 100 = .ok (.ireturn, 1) := by decide +kernel
theorem dX8_count_101 : decode cX8_count 101 = .ok (.aload_n 0, 1) := by decide +kernel
theorem dX8_count_102 : decode cX8_count 102 = .ok (.getfield 10, 3) := by decide +kernel
theorem dX8_count_105 : decode cX8_count 105 = .ok (.getfield 182, 3) := by decide +kernel
theorem dX8_count_108 : decode cX8_count 108 = .ok (.ireturn, 1) := by decide +kernel
theorem dX8_count_109 : decode cX8_count 109 = .ok (.aload_n 0, 1) := by decide +kernel
theorem dX8_count_110 : decode cX8_count 110 = .ok (.getfield 10, 3) := by decide +kernel
theorem dX8_count_113 : decode cX8_count 113 = .ok (.getfield 105, 3) := by decide +kernel
theorem dX8_count_116 : decode cX8_count 116 = .ok (.getfield 150, 3) := by decide +kernel
theorem dX8_count_119 : decode cX8_count 119 = .ok (.ireturn, 1) := by decide +kernel
theorem dX8_count_120 : decode cX8_count 120 = .ok (.aload_n 0, 1) := by decide +kernel
theorem dX8_count_121 : decode cX8_count 121 = .ok (.getfield 10, 3) := by decide +kernel
theorem dX8_count_124 : decode cX8_count 124 = .ok (.getfield 105, 3) := by decide +kernel
theorem dX8_count_127 : decode cX8_count 127 = .ok (.getfield 185, 3) := by decide +kernel
theorem dX8_count_130 : decode cX8_count 130 = .ok (.ireturn, 1) := by decide +kernel
theorem dX8_count_131 : decode cX8_count 131 = .ok (.aload_n 0, 1) := by decide +kernel
theorem dX8_count_132 : decode cX8_count 132 = .ok (.getfield 10, 3) := by decide +kernel
theorem dX8_count_135 : decode cX8_count 135 = .ok (.getfield 188, 3) := by decide +kernel
theorem dX8_count_138 : decode cX8_count 138 = .ok (.ireturn, 1) := by decide +kernel
theorem dX8_count_139 : decode cX8_count 139 = .ok (.aload_n 0, 1) := by decide +kernel
theorem dX8_count_140 : decode cX8_count 140 = .ok (.getfield 10, 3) := by decide +kernel
theorem dX8_count_143 : decode cX8_count 143 = .ok (.aload_n 0, 1) := by decide +kernel
theorem dX8_count_144 : decode cX8_count 144 = .ok (.getfield 10, 3) := by decide +kernel
theorem dX8_count_147 : decode cX8_count 147 = .ok (.getfield 105, 3) := by decide +kernel
theorem dX8_count_150 : decode cX8_count 150 = .ok (.getfield 150, 3) := by decide +kernel
theorem dX8_count_153 : decode cX8_count 153 = .ok (.invokevirtual 191, 3) := by decide +kernel
theorem dX8_count_156 : decode cX8_count 156 = .ok (.ireturn, 1) := by decide +kernel
theorem dX8_count_157 : decode cX8_count 157 = .ok (.aload_n 0, 1) := by decide +kernel
theorem dX8_count_158 : decode cX8_count 158 = .ok (.getfield 10, 3) := by decide +kernel
theorem dX8_count_161 : decode cX8_count 161 = .ok (.getfield 194, 3) := by decide +kernel
theorem dX8_count_164 : decode cX8_count 164 = .ok (.ireturn, 1) := by decide +kernel
theorem dX8_count_165 : decode cX8_count 165 = .ok (.aload_n 0, 1) := by decide +kernel
theorem dX8_count_166 : decode cX8_count 166 = .ok (.getfield 10, 3) := by decide +kernel
theorem dX8_count_169 : decode cX8_count 169 = .ok (.getfield 134, 3) := by decide +kernel
theorem dX8_count_172 : decode cX8_count 172 = .ok (.ireturn, 1) := by decide +kernel
theorem dX8_count_173 : decode cX8_count 173 = .ok (.aload_n 0, 1) := by decide +kernel
theorem dX8_count_174 : decode cX8_count 174 = .ok (.getfield 10, 3) := by decide +kernel
theorem dX8_count_177 : decode cX8_count 177 = .ok (.getfield 197, 3) := by decide +kernel
theorem dX8_count_180 : decode cX8_count 180 = .ok (.ireturn, 1) := by decide +kernel
theorem dX8_count_181 : decode cX8_count 181 = .ok (.aload_n 0, 1) := by decide +kernel
theorem dX8_count_182 : decode cX8_count 182 = .ok (.getfield 26, 3) := by decide +kernel
theorem dX8_count_185 : decode cX8_count 185 = .ok (.getfield 200, 3) := by decide +kernel
theorem dX8_count_188 : decode cX8_count 188 = .ok (.ireturn, 1) := by decide +kernel
theorem dX8_count_189 : decode cX8_count 189 = .ok (.aload_n 0, 1) := by decide +kernel
theorem dX8_count_190 : decode cX8_count 190 = .ok (.getfield 19, 3) := by decide +kernel
theorem dX8_count_193 : decode cX8_count 193 = .ok (.getfield 203, 3) := by decide +kernel
theorem dX8_count_196 : decode cX8_count 196 = .ok (.ireturn, 1) := by decide +kernel
theorem dX8_count_197 : decode cX8_count 197 = .ok (.bipush (-2), 2) := by decide +kernel
theorem dX8_count_199 : decode cX8_count 199 = .ok (.ireturn, 1) := by decide +kernel
theorem dX8_leftIn_0 : decode cX8_leftIn 0 = .ok (.iload_n 1, 1) := by decide +kernel
theorem dX8_leftIn_1 : decode cX8_leftIn 1 = .ok (.invokestatic 204, 3) := by decide +kernel
theorem dX8_leftIn_4 : decode cX8_leftIn 4 = .ok (.ifCond .ne 6, 3) := by decide +kernel
theorem dX8_leftIn_7 : decode cX8_leftIn 7 = .ok (.bipush (-2), 2) := by decide +kernel
theorem dX8_leftIn_9 : decode cX8_leftIn 9 = .ok (.ireturn, 1) := by decide +kernel
theorem dX8_leftIn_10 : decode cX8_leftIn 10 = .ok (.aload_n 0, 1) := by decide +kernel
theorem dX8_leftIn_11 : decode cX8_leftIn 11 = .ok (.getfield 10, 3) := by decide +kernel
theorem dX8_leftIn_14 : decode cX8_leftIn 14 = .ok (.getfield 105, 3) := by decide +kernel
theorem dX8_leftIn_17 : decode cX8_leftIn 17 = .ok (.aload_n 0, 1) := by decide +kernel
theorem dX8_leftIn_18 : decode cX8_leftIn 18 = .ok (.getfield 10, 3) := by decide +kernel
theorem dX8_leftIn_21 : decode cX8_leftIn 21 = .ok (.getfield 134, 3) := by decide +kernel
theorem dX8_leftIn_24 : decode cX8_leftIn 24 = .ok (.aload_n 0, 1) := by decide +kernel
theorem dX8_leftIn_25 : decode cX8_leftIn 25 = .ok (.getfield 10, 3) := by decide +kernel
theorem dX8_leftIn_28 : decode cX8_leftIn 28 = .ok (.getfield 197, 3) := by decide +kernel
theorem dX8_leftIn_31 : decode cX8_leftIn 31 = .ok (.aload_n 0, 1) := by decide +kernel
theorem dX8_leftIn_32 : decode cX8_leftIn 32 = .ok (.getfield 10, 3) := by decide +kernel
theorem dX8_leftIn_35 : decode cX8_leftIn 35 = .ok (.getfield 182, 3) := by decide +kernel
theorem dX8_leftIn_38 : decode cX8_leftIn 38 = .ok (.iload_n 1, 1) := by decide +kernel
theorem dX8_leftIn_39 : decode cX8_leftIn 39 = .ok (.iadd, 1) := by decide +kernel
theorem dX8_leftIn_40 : decode cX8_leftIn 40 = .ok (.invokevirtual 207, 3) := by decide +kernel
theorem dX8_leftIn_43 : decode cX8_leftIn 43 = .ok (.ireturn, 1) := by decide +kernel
theorem dX8_lateIn_0 : decode cX8_lateIn 0 = .ok (.iload_n 1, 1) := by decide +kernel
theorem dX8_lateIn_1 : decode cX8_lateIn 1 = .ok (.invokestatic 204, 3) := by decide +kernel
theorem dX8_lateIn_4 : decode cX8_lateIn 4 = .ok (.ifCond .ne 6, 3) := by decide +kernel
theorem dX8_lateIn_7 : decode cX8_lateIn 7 = .ok (.bipush (-2), 2) := by decide +kernel
theorem dX8_lateIn_9 : decode cX8_lateIn 9 = .ok (.ireturn, 1) := by decide +kernel
theorem dX8_lateIn_10 : decode cX8_lateIn 10 = .ok (.aload_n 0, 1) := by decide +kernel
theorem dX8_lateIn_11 : decode cX8_lateIn 11 = .ok (.getfield 10, 3) := by decide +kernel
theorem dX8_lateIn_14 : decode cX8_lateIn 14 = .ok (.aload_n 0, 1) := by decide +kernel
theorem dX8_lateIn_15 : decode cX8_lateIn 15 = .ok (.getfield 10, 3) := by decide +kernel
theorem dX8_lateIn_18 : decode cX8_lateIn 18 = .ok (.getfield 105, 3) := by decide +kernel
theorem dX8_lateIn_21 : decode cX8_lateIn 21 = .ok (.aload_n 0, 1) := by decide +kernel
theorem dX8_lateIn_22 : decode cX8_lateIn 22 = .ok (.getfield 10, 3) := by decide +kernel
theorem dX8_lateIn_25 : decode cX8_lateIn 25 = .ok (.getfield 134, 3) := by decide +kernel
theorem dX8_lateIn_28 : decode cX8_lateIn 28 = .ok (.aload_n 0, 1) := by decide +kernel
theorem dX8_lateIn_29 : decode cX8_lateIn 29 = .ok (.getfield 10, 3) := by decide +kernel
theorem dX8_lateIn_32 : decode cX8_lateIn 32 = .ok (.getfield 197, 3) := by decide +kernel
theorem dX8_lateIn_35 : decode cX8_lateIn 35 = .ok (.aload_n 0, 1) := by decide +kernel
theorem dX8_lateIn_36 : decode cX8_lateIn 36 = .ok (.getfield 10, 3) := by decide +kernel
theorem dX8_lateIn_39 : decode cX8_lateIn 39 = .ok (.getfield 182, 3) := by decide +kernel
theorem dX8_lateIn_42 : decode cX8_lateIn 42 = .ok (.iload_n 1, 1) := by decide +kernel
theorem dX8_lateIn_43 : decode cX8_lateIn 43 = .ok (.iadd, 1) := by decide +kernel
theorem dX8_lateIn_44 : decode cX8_lateIn 44 = .ok (.invokevirtual 211, 3) := by decide +kernel
theorem dX8_lateIn_47 : decode cX8_lateIn 47 = .ok (.invokevirtual 191, 3) := by decide +kernel
theorem dX8_lateIn_50 : decode cX8_lateIn 50 = .ok (.ireturn, 1) := by decide +kernel
theorem dX8_shortest_0 : decode cX8_shortest 0 = .ok (.aload_n 0, 1) := by decide +kernel
theorem dX8_shortest_1 : decode cX8_shortest 1 = .ok (.getfield 10, 3) := by decide +kernel
theorem dX8_shortest_4 : decode cX8_shortest 4 = .ok (.iload_n 1, 1) := by decide +kernel
theorem dX8_shortest_5 : decode cX8_shortest 5 = .ok (.invokevirtual 96, 3) := by decide +kernel
theorem dX8_shortest_8 : decode cX8_shortest 8 = .ok (.astore_n 3, 1) := by decide +kernel
theorem dX8_shortest_9 : decode cX8_shortest 9 = .ok (.aload_n 3, 1) := by decide +kernel
theorem dX8_shortest_10 : decode cX8_shortest 10 = .ok (.ifnonnull 5, 3) := by decide +kernel
theorem dX8_shortest_13 : decode cX8_shortest 13 = .ok (.iconst (-1), 1) := by decide +kernel
theorem dX8_shortest_14 : decode cX8_shortest 14 = .ok (.ireturn, 1) := by decide +kernel
theorem dX8_shortest_15 : decode cX8_shortest 15 = .ok (.iload_n 2, 1) := by decide +kernel
theorem dX8_shortest_16 : decode cX8_shortest 16 = .ok (.ifCond .lt 8, 3) := by decide +kernel
theorem dX8_shortest_19 : decode cX8_shortest 19 = .ok (.iload_n 2, 1) := by decide +kernel
theorem dX8_shortest_20 : decode cX8_shortest 20 = .ok (.iconst 1, 1) := by decide +kernel
theorem dX8_shortest_21 : decode cX8_shortest 21 = .ok (.if_icmp .le 6, 3) := by decide +kernel
theorem dX8_shortest_24 : decode cX8_shortest 24 = .ok (.bipush (-2), 2) := by decide +kernel
theorem dX8_shortest_26 : decode cX8_shortest 26 = .ok (.ireturn, 1) := by decide +kernel
theorem dX8_shortest_27 : decode cX8_shortest 27 = .ok (.aload_n 0, 1) := by decide +kernel
theorem dX8_shortest_28 : decode cX8_shortest 28 = .ok (.getfield 10, 3) := by decide +kernel
theorem dX8_shortest_31 : decode cX8_shortest 31 = .ok (.aload_n 3, 1) := by decide +kernel
theorem dX8_shortest_32 : decode cX8_shortest 32 = .ok (.invokevirtual 214, 3) := by decide +kernel
theorem dX8_shortest_35 : decode cX8_shortest 35 = .ok (.istore 4, 2) := by decide +kernel
theorem dX8_shortest_37 : decode cX8_shortest 37 = .ok (.iload_n 2, 1) := by decide +kernel
theorem dX8_shortest_38 : decode cX8_shortest 38 = .ok (.ifCond .ne 8, 3) := by decide +kernel
theorem dX8_shortest_41 : decode cX8_shortest 41 = .ok (.iload 4, 2) := by decide +kernel
theorem dX8_shortest_43 : decode cX8_shortest 43 = .ok (.goto 13, 3) := by decide +kernel
theorem dX8_shortest_46 : decode cX8_shortest 46 = .ok (.aload_n 0, 1) := by decide +kernel
theorem dX8_shortest_47 : decode cX8_shortest 47 = .ok (.getfield 10, 3) := by decide +kernel
theorem dX8_shortest_50 : decode cX8_shortest 50 = .ok (.aload_n 3, 1) := by decide +kernel
theorem dX8_shortest_51 : decode cX8_shortest 51 = .ok (.iload 4, 2) := by decide +kernel
theorem dX8_shortest_53 : decode cX8_shortest 53 = .ok (.invokevirtual 218, 3) := by decide +kernel
theorem dX8_shortest_56 : decode cX8_shortest 56 = .ok (.ireturn, 1) := by decide +kernel
theorem dX8_gentlest_0 : decode cX8_gentlest 0 = .ok (.iconst 1, 1) := by decide +kernel
theorem dX8_gentlest_1 : decode cX8_gentlest 1 = .ok (.istore_n 1, 1) := by decide +kernel
theorem dX8_gentlest_2 : decode cX8_gentlest 2 = .ok (.aload_n 0, 1) := by decide +kernel
theorem dX8_gentlest_3 : decode cX8_gentlest 3 = .ok (.getfield 10, 3) := by decide +kernel
theorem dX8_gentlest_6 : decode cX8_gentlest 6 = .ok (.getfield 105, 3) := by decide +kernel
theorem dX8_gentlest_9 : decode cX8_gentlest 9 = .ok (.iload_n 1, 1) := by decide +kernel
theorem dX8_gentlest_10 : decode cX8_gentlest 10 = .ok (.aload_n 0, 1) := by decide +kernel
theorem dX8_gentlest_11 : decode cX8_gentlest 11 = .ok (.getfield 10, 3) := by decide +kernel
theorem dX8_gentlest_14 : decode cX8_gentlest 14 = .ok (.getfield 197, 3) := by decide +kernel
theorem dX8_gentlest_17 : decode cX8_gentlest 17 = .ok (.aload_n 0, 1) := by decide +kernel
theorem dX8_gentlest_18 : decode cX8_gentlest 18 = .ok (.getfield 10, 3) := by decide +kernel
theorem dX8_gentlest_21 : decode cX8_gentlest 21 = .ok (.getfield 182, 3) := by decide +kernel
theorem dX8_gentlest_24 : decode cX8_gentlest 24 = .ok (.invokevirtual 207, 3) := by decide +kernel
theorem dX8_gentlest_27 : decode cX8_gentlest 27 = .ok (.istore_n 2, 1) := by decide +kernel
theorem dX8_gentlest_28 : decode cX8_gentlest 28 = .ok (.iconst 2, 1) := by decide +kernel
theorem dX8_gentlest_29 : decode cX8_gentlest 29 = .ok (.istore_n 3, 1) := by decide +kernel
theorem dX8_gentlest_30 : decode cX8_gentlest 30 = .ok (.iload_n 3, 1) := by decide +kernel
theorem dX8_gentlest_31 : decode cX8_gentlest 31 = .ok (.bipush 20, 2) := by decide +kernel
theorem dX8_gentlest_33 : decode cX8_gentlest 33 = .ok (.if_icmp .gt 47, 3) := by decide +kernel
theorem dX8_gentlest_36 : decode cX8_gentlest 36 = .ok (.aload_n 0, 1) := by decide +kernel
theorem dX8_gentlest_37 : decode cX8_gentlest 37 = .ok (.getfield 10, 3) := by decide +kernel
theorem dX8_gentlest_40 : decode cX8_gentlest 40 = .ok (.getfield 105, 3) := by decide +kernel
theorem dX8_gentlest_43 : decode cX8_gentlest 43 = .ok (.iload_n 3, 1) := by decide +kernel
theorem dX8_gentlest_44 : decode cX8_gentlest 44 = .ok (.aload_n 0, 1) := by decide +kernel
theorem dX8_gentlest_45 : decode cX8_gentlest 45 = .ok (.getfield 10, 3) := by decide +kernel
theorem dX8_gentlest_48 : decode cX8_gentlest 48 = .ok (.getfield 197, 3) := by decide +kernel
theorem dX8_gentlest_51 : decode cX8_gentlest 51 = .ok (.aload_n 0, 1) := by decide +kernel
theorem dX8_gentlest_52 : decode cX8_gentlest 52 = .ok (.getfield 10, 3) := by decide +kernel
theorem dX8_gentlest_55 : decode cX8_gentlest 55 = .ok (.getfield 182, 3) := by decide +kernel
theorem dX8_gentlest_58 : decode cX8_gentlest 58 = .ok (.invokevirtual 207, 3) := by decide +kernel
theorem dX8_gentlest_61 : decode cX8_gentlest 61 = .ok (.istore 4, 2) := by decide +kernel
theorem dX8_gentlest_63 : decode cX8_gentlest 63 = .ok (.iload 4, 2) := by decide +kernel
theorem dX8_gentlest_65 : decode cX8_gentlest 65 = .ok (.iload_n 2, 1) := by decide +kernel
theorem dX8_gentlest_66 : decode cX8_gentlest 66 = .ok (.if_icmp .le 8, 3) := by decide +kernel
theorem dX8_gentlest_69 : decode cX8_gentlest 69 = .ok (.iload_n 3, 1) := by decide +kernel
theorem dX8_gentlest_70 : decode cX8_gentlest 70 = .ok (.istore_n 1, 1) := by decide +kernel
theorem dX8_gentlest_71 : decode cX8_gentlest 71 = .ok (.iload 4, 2) := by decide +kernel
theorem dX8_gentlest_73 : decode cX8_gentlest 73 = .ok (.istore_n 2, 1) := by decide +kernel
theorem dX8_gentlest_74 : decode cX8_gentlest 74 = .ok (.iinc 3 1, 3) := by decide +kernel
theorem dX8_gentlest_77 : decode cX8_gentlest 77 = .ok (.goto (-47), 3) := by decide +kernel
theorem dX8_gentlest_80 : decode cX8_gentlest 80 = .ok (.iload_n 1, 1) := by decide +kernel
theorem dX8_gentlest_81 : decode cX8_gentlest 81 = .ok (.ireturn, 1) := by decide +kernel
theorem dX8_put_0 : decode cX8_put 0 = .ok (.aload_n 0, 1) := by decide +kernel
theorem dX8_put_1 : decode cX8_put 1 = .ok (.getfield 26, 3) := by decide +kernel
theorem dX8_put_4 : decode cX8_put 4 = .ok (.lload_n 1, 1) := by decide +kernel
theorem dX8_put_5 : decode cX8_put 5 = .ok (.invokevirtual 222, 3) := by decide +kernel
theorem dX8_put_8 : decode cX8_put 8 = .ok (.ireturn, 1) := by decide +kernel
theorem dX8_wipe_0 : decode cX8_wipe 0 = .ok (.aload_n 0, 1) := by decide +kernel
theorem dX8_wipe_1 : decode cX8_wipe 1 = .ok (.getfield 26, 3) := by decide +kernel
theorem dX8_wipe_4 : decode cX8_wipe 4 = .ok (.invokevirtual 226, 3) := by decide +kernel
theorem dX8_wipe_7 : decode cX8_wipe 7 = .ok (.ireturn, 1) := by decide +kernel
theorem dX8_fault_0 : decode cX8_fault 0 = .ok (.aload_n 0, 1) := by decide +kernel
theorem dX8_fault_1 : decode cX8_fault 1 = .ok (.getfield 26, 3) := by decide +kernel
theorem dX8_fault_4 : decode cX8_fault 4 = .ok (.invokevirtual 229, 3) := by decide +kernel
theorem dX8_fault_7 : decode cX8_fault 7 = .ok (.ireturn, 1) := by decide +kernel
theorem dX8_carryOut_0 : decode cX8_carryOut 0 = .ok (.aload_n 0, 1) := by decide +kernel
theorem dX8_carryOut_1 : decode cX8_carryOut 1 = .ok (.getfield 26, 3) := by decide +kernel
theorem dX8_carryOut_4 : decode cX8_carryOut 4 = .ok (.invokevirtual 229, 3) := by decide +kernel
theorem dX8_carryOut_7 : decode cX8_carryOut 7 = .ok (.bipush (-6), 2) := by decide +kernel
theorem dX8_carryOut_9 : decode cX8_carryOut 9 = .ok (.if_icmp .eq 6, 3) := by decide +kernel
theorem dX8_carryOut_12 : decode cX8_carryOut 12 = .ok (.bipush (-3), 2) := by decide +kernel
theorem dX8_carryOut_14 : decode cX8_carryOut 14 = .ok (.ireturn, 1) := by decide +kernel
theorem dX8_carryOut_15 : decode cX8_carryOut 15 = .ok (.aload_n 0, 1) := by decide +kernel
theorem dX8_carryOut_16 : decode cX8_carryOut 16 = .ok (.getfield 19, 3) := by decide +kernel
theorem dX8_carryOut_19 : decode cX8_carryOut 19 = .ok (.aload_n 0, 1) := by decide +kernel
theorem dX8_carryOut_20 : decode cX8_carryOut 20 = .ok (.getfield 10, 3) := by decide +kernel
theorem dX8_carryOut_23 : decode cX8_carryOut 23 = .ok (.invokevirtual 37, 3) := by decide +kernel
theorem dX8_carryOut_26 : decode cX8_carryOut 26 = .ok (.iconst 0, 1) := by decide +kernel
theorem dX8_carryOut_27 : decode cX8_carryOut 27 = .ok (.istore_n 1, 1) := by decide +kernel
theorem dX8_carryOut_28 : decode cX8_carryOut 28 = .ok (.aload_n 0, 1) := by decide +kernel
theorem dX8_carryOut_29 : decode cX8_carryOut 29 = .ok (.getfield 26, 3) := by decide +kernel
theorem dX8_carryOut_32 : decode cX8_carryOut 32 = .ok (.invokevirtual 232, 3) := by decide +kernel
theorem dX8_carryOut_35 : decode cX8_carryOut 35 = .ok (.iload_n 1, 1) := by decide +kernel
theorem dX8_carryOut_36 : decode cX8_carryOut 36 = .ok (.bipush 80, 2) := by decide +kernel
theorem dX8_carryOut_38 : decode cX8_carryOut 38 = .ok (.if_icmp .ge 36, 3) := by decide +kernel
theorem dX8_carryOut_41 : decode cX8_carryOut 41 = .ok (.aload_n 0, 1) := by decide +kernel
theorem dX8_carryOut_42 : decode cX8_carryOut 42 = .ok (.getfield 26, 3) := by decide +kernel
theorem dX8_carryOut_45 : decode cX8_carryOut 45 = .ok (.invokevirtual 235, 3) := by decide +kernel
theorem dX8_carryOut_48 : decode cX8_carryOut 48 = .ok (.ifCond .eq 26, 3) := by decide +kernel
theorem dX8_carryOut_51 : decode cX8_carryOut 51 = .ok (.aload_n 0, 1) := by decide +kernel
theorem dX8_carryOut_52 : decode cX8_carryOut 52 = .ok (.invokevirtual 239, 3) := by decide +kernel
theorem dX8_carryOut_55 : decode cX8_carryOut 55 = .ok (.ifCond .lt 19, 3) := by decide +kernel
theorem dX8_carryOut_58 : decode cX8_carryOut 58 = .ok (.iinc 1 1, 3) := by decide +kernel
theorem dX8_carryOut_61 : decode cX8_carryOut 61 = .ok (.aload_n 0, 1) := by decide +kernel
theorem dX8_carryOut_62 : decode cX8_carryOut 62 = .ok (.getfield 26, 3) := by decide +kernel
theorem dX8_carryOut_65 : decode cX8_carryOut 65 = .ok (.bipush 59, 2) := by decide +kernel
theorem dX8_carryOut_67 : decode cX8_carryOut 67 = .ok (.invokevirtual 242, 3) := by decide +kernel
theorem dX8_carryOut_70 : decode cX8_carryOut 70 = .ok (.pop, 1) := by decide +kernel
theorem dX8_carryOut_71 : decode cX8_carryOut 71 = .ok (.goto (-36), 3) := by decide +kernel
theorem dX8_carryOut_74 : decode cX8_carryOut 74 = .ok (.aload_n 0, 1) := by decide +kernel
theorem dX8_carryOut_75 : decode cX8_carryOut 75 = .ok (.getfield 26, 3) := by decide +kernel
theorem dX8_carryOut_78 : decode cX8_carryOut 78 = .ok (.invokevirtual 226, 3) := by decide +kernel
theorem dX8_carryOut_81 : decode cX8_carryOut 81 = .ok (.pop, 1) := by decide +kernel
theorem dX8_carryOut_82 : decode cX8_carryOut 82 = .ok (.aload_n 0, 1) := by decide +kernel
theorem dX8_carryOut_83 : decode cX8_carryOut 83 = .ok (.getfield 19, 3) := by decide +kernel
theorem dX8_carryOut_86 : decode cX8_carryOut 86 = .ok (.iload_n 1, 1) := by decide +kernel
theorem dX8_carryOut_87 : decode cX8_carryOut 87 = .ok (.invokevirtual 45, 3) := by decide +kernel
theorem dX8_carryOut_90 : decode cX8_carryOut 90 = .ok (.ireturn, 1) := by decide +kernel
theorem dX8_carryOutOrder_0 : decode cX8_carryOutOrder 0 = .ok (.aload_n 0, 1) := by decide +kernel
theorem dX8_carryOutOrder_1 : decode cX8_carryOutOrder 1 = .ok (.getfield 26, 3) := by decide +kernel
theorem dX8_carryOutOrder_4 : decode cX8_carryOutOrder 4 = .ok (.getfield 245, 3) := by decide +kernel
theorem dX8_carryOutOrder_7 : decode cX8_carryOutOrder 7 = .ok (.tableswitch 255 98 120 #[210, 195, 255, 255, 255, 255, 157, 255, 255, 255, 233, 255, 165, 255, 105, 255, 173, 225, 142, 255, 255, 255, 127], 105) := by decide +kernel
theorem dX8_carryOutOrder_112 : decode cX8_carryOutOrder 112 = .ok (.aload_n 0, 1) := by decide +kernel
theorem dX8_carryOutOrder_113 : decode cX8_carryOutOrder 113 = .ok (.getfield 10, 3) := by decide +kernel
theorem dX8_carryOutOrder_116 : decode cX8_carryOutOrder 116 = .ok (.aload_n 0, 1) := by decide +kernel
theorem dX8_carryOutOrder_117 : decode cX8_carryOutOrder 117 = .ok (.getfield 26, 3) := by decide +kernel
theorem dX8_carryOutOrder_120 : decode cX8_carryOutOrder 120 = .ok (.getfield 248, 3) := by decide +kernel
theorem dX8_carryOutOrder_123 : decode cX8_carryOutOrder 123 = .ok (.aload_n 0, 1) := by decide +kernel
theorem dX8_carryOutOrder_124 : decode cX8_carryOutOrder 124 = .ok (.getfield 26, 3) := by decide +kernel
theorem dX8_carryOutOrder_127 : decode cX8_carryOutOrder 127 = .ok (.getfield 251, 3) := by decide +kernel
theorem dX8_carryOutOrder_130 : decode cX8_carryOutOrder 130 = .ok (.invokevirtual 49, 3) := by decide +kernel
theorem dX8_carryOutOrder_133 : decode cX8_carryOutOrder 133 = .ok (.ireturn, 1) := by decide +kernel
theorem dX8_carryOutOrder_134 : decode cX8_carryOutOrder 134 = .ok (.aload_n 0, 1) := by decide +kernel
theorem dX8_carryOutOrder_135 : decode cX8_carryOutOrder 135 = .ok (.getfield 10, 3) := by decide +kernel
theorem dX8_carryOutOrder_138 : decode cX8_carryOutOrder 138 = .ok (.aload_n 0, 1) := by decide +kernel
theorem dX8_carryOutOrder_139 : decode cX8_carryOutOrder 139 = .ok (.getfield 26, 3) := by decide +kernel
theorem dX8_carryOutOrder_142 : decode cX8_carryOutOrder 142 = .ok (.getfield 248, 3) := by decide +kernel
theorem dX8_carryOutOrder_145 : decode cX8_carryOutOrder 145 = .ok (.invokevirtual 52, 3) := by decide +kernel
theorem dX8_carryOutOrder_148 : decode cX8_carryOutOrder 148 = .ok (.ireturn, 1) := by decide +kernel
theorem dX8_carryOutOrder_149 : decode cX8_carryOutOrder 149 = .ok (.aload_n 0, 1) := by decide +kernel
theorem dX8_carryOutOrder_150 : decode cX8_carryOutOrder 150 = .ok (.getfield 10, 3) := by decide +kernel
theorem dX8_carryOutOrder_153 : decode cX8_carryOutOrder 153 = .ok (.aload_n 0, 1) := by decide +kernel
theorem dX8_carryOutOrder_154 : decode cX8_carryOutOrder 154 = .ok (.getfield 26, 3) := by decide +kernel
theorem dX8_carryOutOrder_157 : decode cX8_carryOutOrder 157 = .ok (.getfield 248, 3) := by decide +kernel
theorem dX8_carryOutOrder_160 : decode cX8_carryOutOrder 160 = .ok (.invokevirtual 55, 3) := by decide +kernel
theorem dX8_carryOutOrder_163 : decode cX8_carryOutOrder 163 = .ok (.ireturn, 1) := by decide +kernel
theorem dX8_carryOutOrder_164 : decode cX8_carryOutOrder 164 = .ok (.aload_n 0, 1) := by decide +kernel
theorem dX8_carryOutOrder_165 : decode cX8_carryOutOrder 165 = .ok (.getfield 10, 3) := by decide +kernel
theorem dX8_carryOutOrder_168 : decode cX8_carryOutOrder 168 = .ok (.invokevirtual 58, 3) := by decide +kernel
theorem dX8_carryOutOrder_171 : decode cX8_carryOutOrder 171 = .ok (.ireturn, 1) := by decide +kernel
theorem dX8_carryOutOrder_172 : decode cX8_carryOutOrder 172 = .ok (.aload_n 0, 1) := by decide +kernel
theorem dX8_carryOutOrder_173 : decode cX8_carryOutOrder 173 = .ok (.getfield 10, 3) := by decide +kernel
theorem dX8_carryOutOrder_176 : decode cX8_carryOutOrder 176 = .ok (.invokevirtual 65, 3) := by decide +kernel
theorem dX8_carryOutOrder_179 : decode cX8_carryOutOrder 179 = .ok (.ireturn, 1) := by decide +kernel
theorem dX8_carryOutOrder_180 : decode cX8_carryOutOrder 180 = .ok (.aload_n 0, 1) := by decide +kernel
theorem dX8_carryOutOrder_181 : decode cX8_carryOutOrder 181 = .ok (.getfield 10, 3) := by decide +kernel
theorem dX8_carryOutOrder_184 : decode cX8_carryOutOrder 184 = .ok (.aload_n 0, 1) := by decide +kernel
theorem dX8_carryOutOrder_185 : decode cX8_carryOutOrder 185 = .ok (.getfield 26, 3) := by decide +kernel
theorem dX8_carryOutOrder_188 : decode cX8_carryOutOrder 188 = .ok (.getfield 248, 3) := by decide +kernel
theorem dX8_carryOutOrder_191 : decode cX8_carryOutOrder 191 = .ok (.aload_n 0, 1) := by decide +kernel
theorem dX8_carryOutOrder_192 : decode cX8_carryOutOrder 192 = .ok (.getfield 26, 3) := by decide +kernel
theorem dX8_carryOutOrder_195 : decode cX8_carryOutOrder 195 = .ok (.getfield 251, 3) := by decide +kernel
theorem dX8_carryOutOrder_198 : decode cX8_carryOutOrder 198 = .ok (.invokevirtual 68, 3) := by decide +kernel
theorem dX8_carryOutOrder_201 : decode cX8_carryOutOrder 201 = .ok (.ireturn, 1) := by decide +kernel
theorem dX8_carryOutOrder_202 : decode cX8_carryOutOrder 202 = .ok (.aload_n 0, 1) := by decide +kernel
theorem dX8_carryOutOrder_203 : decode cX8_carryOutOrder 203 = .ok (.getfield 10, 3) := by decide +kernel
theorem dX8_carryOutOrder_206 : decode cX8_carryOutOrder 206 = .ok (.aload_n 0, 1) := by decide +kernel
theorem dX8_carryOutOrder_207 : decode cX8_carryOutOrder 207 = .ok (.getfield 26, 3) := by decide +kernel
theorem dX8_carryOutOrder_210 : decode cX8_carryOutOrder 210 = .ok (.getfield 248, 3) := by decide +kernel
theorem dX8_carryOutOrder_213 : decode cX8_carryOutOrder 213 = .ok (.invokevirtual 71, 3) := by decide +kernel
theorem dX8_carryOutOrder_216 : decode cX8_carryOutOrder 216 = .ok (.ireturn, 1) := by decide +kernel
theorem dX8_carryOutOrder_217 : decode cX8_carryOutOrder 217 = .ok (.aload_n 0, 1) := by decide +kernel
theorem dX8_carryOutOrder_218 : decode cX8_carryOutOrder 218 = .ok (.getfield 10, 3) := by decide +kernel
theorem dX8_carryOutOrder_221 : decode cX8_carryOutOrder 221 = .ok (.aload_n 0, 1) := by decide +kernel
theorem dX8_carryOutOrder_222 : decode cX8_carryOutOrder 222 = .ok (.getfield 26, 3) := by decide +kernel
theorem dX8_carryOutOrder_225 : decode cX8_carryOutOrder 225 = .ok (.getfield 248, 3) := by decide +kernel
theorem dX8_carryOutOrder_228 : decode cX8_carryOutOrder 228 = .ok (.invokevirtual 74, 3) := by decide +kernel
theorem dX8_carryOutOrder_231 : decode cX8_carryOutOrder 231 = .ok (.ireturn, 1) := by decide +kernel
theorem dX8_carryOutOrder_232 : decode cX8_carryOutOrder 232 = .ok (.aload_n 0, 1) := by decide +kernel
theorem dX8_carryOutOrder_233 : decode cX8_carryOutOrder 233 = .ok (.getfield 10, 3) := by decide +kernel
theorem dX8_carryOutOrder_236 : decode cX8_carryOutOrder 236 = .ok (.invokevirtual 62, 3) := by decide +kernel
theorem dX8_carryOutOrder_239 : decode cX8_carryOutOrder 239 = .ok (.ireturn, 1) := by decide +kernel
theorem dX8_carryOutOrder_240 : decode cX8_carryOutOrder 240 = .ok (.aload_n 0, 1) := by decide +kernel
theorem dX8_carryOutOrder_241 : decode cX8_carryOutOrder 241 = .ok (.getfield 10, 3) := by decide +kernel
theorem dX8_carryOutOrder_244 : decode cX8_carryOutOrder 244 = .ok (.aload_n 0, 1) := by decide +kernel
theorem dX8_carryOutOrder_245 : decode cX8_carryOutOrder 245 = .ok (.getfield 26, 3) := by decide +kernel
theorem dX8_carryOutOrder_248 : decode cX8_carryOutOrder 248 = .ok (.getfield 248, 3) := by decide +kernel
theorem dX8_carryOutOrder_251 : decode cX8_carryOutOrder 251 = .ok (.aload_n 0, 1) := by decide +kernel
theorem dX8_carryOutOrder_252 : decode cX8_carryOutOrder 252 = .ok (.getfield 26, 3) := by decide +kernel
theorem dX8_carryOutOrder_255 : decode cX8_carryOutOrder 255 = .ok (.getfield 251, 3) := by decide +kernel
theorem dX8_carryOutOrder_258 : decode cX8_carryOutOrder 258 = .ok (.invokevirtual 80, 3) := by decide +kernel
theorem dX8_carryOutOrder_261 : decode cX8_carryOutOrder 261 = .ok (.ireturn, 1) := by decide +kernel
theorem dX8_carryOutOrder_262 : decode cX8_carryOutOrder 262 = .ok (.bipush (-3), 2) := by decide +kernel
theorem dX8_carryOutOrder_264 : decode cX8_carryOutOrder 264 = .ok (.ireturn, 1) := by decide +kernel
theorem dX8_undo_0 : decode cX8_undo 0 = .ok (.aload_n 0, 1) := by decide +kernel
theorem dX8_undo_1 : decode cX8_undo 1 = .ok (.getfield 19, 3) := by decide +kernel
theorem dX8_undo_4 : decode cX8_undo 4 = .ok (.aload_n 0, 1) := by decide +kernel
theorem dX8_undo_5 : decode cX8_undo 5 = .ok (.getfield 10, 3) := by decide +kernel
theorem dX8_undo_8 : decode cX8_undo 8 = .ok (.invokevirtual 254, 3) := by decide +kernel
theorem dX8_undo_11 : decode cX8_undo 11 = .ok (.ireturn, 1) := by decide +kernel
theorem dX8_save_0 : decode cX8_save 0 = .ok (.aload_n 0, 1) := by decide +kernel
theorem dX8_save_1 : decode cX8_save 1 = .ok (.iload_n 1, 1) := by decide +kernel
theorem dX8_save_2 : decode cX8_save 2 = .ok (.invokevirtual 258, 3) := by decide +kernel
theorem dX8_save_5 : decode cX8_save 5 = .ok (.astore_n 2, 1) := by decide +kernel
theorem dX8_save_6 : decode cX8_save 6 = .ok (.aload_n 2, 1) := by decide +kernel
theorem dX8_save_7 : decode cX8_save 7 = .ok (.ifnonnull 6, 3) := by decide +kernel
theorem dX8_save_10 : decode cX8_save 10 = .ok (.bipush (-2), 2) := by decide +kernel
theorem dX8_save_12 : decode cX8_save 12 = .ok (.ireturn, 1) := by decide +kernel
theorem dX8_save_13 : decode cX8_save 13 = .ok (.aload_n 2, 1) := by decide +kernel
theorem dX8_save_14 : decode cX8_save 14 = .ok (.getfield 262, 3) := by decide +kernel
theorem dX8_save_17 : decode cX8_save 17 = .ok (.aload_n 0, 1) := by decide +kernel
theorem dX8_save_18 : decode cX8_save 18 = .ok (.getfield 10, 3) := by decide +kernel
theorem dX8_save_21 : decode cX8_save 21 = .ok (.invokevirtual 265, 3) := by decide +kernel
theorem dX8_save_24 : decode cX8_save 24 = .ok (.aload_n 2, 1) := by decide +kernel
theorem dX8_save_25 : decode cX8_save 25 = .ok (.iconst 1, 1) := by decide +kernel
theorem dX8_save_26 : decode cX8_save 26 = .ok (.putfield 268, 3) := by decide +kernel
theorem dX8_save_29 : decode cX8_save 29 = .ok (.aload_n 0, 1) := by decide +kernel
theorem dX8_save_30 : decode cX8_save 30 = .ok (.getfield 10, 3) := by decide +kernel
theorem dX8_save_33 : decode cX8_save 33 = .ok (.getfield 105, 3) := by decide +kernel
theorem dX8_save_36 : decode cX8_save 36 = .ok (.getfield 109, 3) := by decide +kernel
theorem dX8_save_39 : decode cX8_save 39 = .ok (.ireturn, 1) := by decide +kernel
theorem dX8_restore_0 : decode cX8_restore 0 = .ok (.aload_n 0, 1) := by decide +kernel
theorem dX8_restore_1 : decode cX8_restore 1 = .ok (.iload_n 1, 1) := by decide +kernel
theorem dX8_restore_2 : decode cX8_restore 2 = .ok (.invokevirtual 258, 3) := by decide +kernel
theorem dX8_restore_5 : decode cX8_restore 5 = .ok (.astore_n 2, 1) := by decide +kernel
theorem dX8_restore_6 : decode cX8_restore 6 = .ok (.aload_n 2, 1) := by decide +kernel
theorem dX8_restore_7 : decode cX8_restore 7 = .ok (.ifnonnull 6, 3) := by decide +kernel
theorem dX8_restore_10 : decode cX8_restore 10 = .ok (.bipush (-2), 2) := by decide +kernel
theorem dX8_restore_12 : decode cX8_restore 12 = .ok (.ireturn, 1) := by decide +kernel
theorem dX8_restore_13 : decode cX8_restore 13 = .ok (.aload_n 2, 1) := by decide +kernel
theorem dX8_restore_14 : decode cX8_restore 14 = .ok (.getfield 268, 3) := by decide +kernel
theorem dX8_restore_17 : decode cX8_restore 17 = .ok (.ifCond .ne 6, 3) := by decide +kernel
theorem dX8_restore_20 : decode cX8_restore 20 = .ok (.bipush (-5), 2) := by decide +kernel
theorem dX8_restore_22 : decode cX8_restore 22 = .ok (.ireturn, 1) := by decide +kernel
theorem dX8_restore_23 : decode cX8_restore 23 = .ok (.aload_n 0, 1) := by decide +kernel
theorem dX8_restore_24 : decode cX8_restore 24 = .ok (.getfield 19, 3) := by decide +kernel
theorem dX8_restore_27 : decode cX8_restore 27 = .ok (.aload_n 0, 1) := by decide +kernel
theorem dX8_restore_28 : decode cX8_restore 28 = .ok (.getfield 10, 3) := by decide +kernel
theorem dX8_restore_31 : decode cX8_restore 31 = .ok (.invokevirtual 37, 3) := by decide +kernel
theorem dX8_restore_34 : decode cX8_restore 34 = .ok (.aload_n 0, 1) := by decide +kernel
theorem dX8_restore_35 : decode cX8_restore 35 = .ok (.getfield 10, 3) := by decide +kernel
theorem dX8_restore_38 : decode cX8_restore 38 = .ok (.aload_n 2, 1) := by decide +kernel
theorem dX8_restore_39 : decode cX8_restore 39 = .ok (.getfield 262, 3) := by decide +kernel
theorem dX8_restore_42 : decode cX8_restore 42 = .ok (.invokevirtual 265, 3) := by decide +kernel
theorem dX8_restore_45 : decode cX8_restore 45 = .ok (.aload_n 0, 1) := by decide +kernel
theorem dX8_restore_46 : decode cX8_restore 46 = .ok (.getfield 19, 3) := by decide +kernel
theorem dX8_restore_49 : decode cX8_restore 49 = .ok (.aload_n 0, 1) := by decide +kernel
theorem dX8_restore_50 : decode cX8_restore 50 = .ok (.getfield 10, 3) := by decide +kernel
theorem dX8_restore_53 : decode cX8_restore 53 = .ok (.getfield 105, 3) := by decide +kernel
theorem dX8_restore_56 : decode cX8_restore 56 = .ok (.getfield 109, 3) := by decide +kernel
theorem dX8_restore_59 : decode cX8_restore 59 = .ok (.invokevirtual 45, 3) := by decide +kernel
theorem dX8_restore_62 : decode cX8_restore 62 = .ok (.ireturn, 1) := by decide +kernel
theorem dX8_slotAt_0 : decode cX8_slotAt 0 = .ok (.iload_n 1, 1) := by decide +kernel
theorem dX8_slotAt_1 : decode cX8_slotAt 1 = .ok (.ifCond .lt 12, 3) := by decide +kernel
theorem dX8_slotAt_4 : decode cX8_slotAt 4 = .ok (.iload_n 1, 1) := by decide +kernel
theorem dX8_slotAt_5 : decode cX8_slotAt 5 = .ok (.aload_n 0, 1) := by decide +kernel
theorem dX8_slotAt_6 : decode cX8_slotAt 6 = .ok (.getfield 32, 3) := by decide +kernel
theorem dX8_slotAt_9 : decode cX8_slotAt 9 = .ok (.arraylength, 1) := by decide +kernel
theorem dX8_slotAt_10 : decode cX8_slotAt 10 = .ok (.if_icmp .lt 7, 3) := by decide +kernel
theorem dX8_slotAt_13 : decode cX8_slotAt 13 = .ok (.aconst_null, 1) := by decide +kernel
theorem dX8_slotAt_14 : decode cX8_slotAt 14 = .ok (.goto 9, 3) := by decide +kernel
theorem dX8_slotAt_17 : decode cX8_slotAt 17 = .ok (.aload_n 0, 1) := by decide +kernel
theorem dX8_slotAt_18 : decode cX8_slotAt 18 = .ok (.getfield 32, 3) := by decide +kernel
theorem dX8_slotAt_21 : decode cX8_slotAt 21 = .ok (.iload_n 1, 1) := by decide +kernel
theorem dX8_slotAt_22 : decode cX8_slotAt 22 = .ok (.aaload, 1) := by decide +kernel
theorem dX8_slotAt_23 : decode cX8_slotAt 23 = .ok (.areturn, 1) := by decide +kernel
theorem dX8_isKey_0 : decode cX8_isKey 0 = .ok (.iload_n 0, 1) := by decide +kernel
theorem dX8_isKey_1 : decode cX8_isKey 1 = .ok (.ifCond .lt 13, 3) := by decide +kernel
theorem dX8_isKey_4 : decode cX8_isKey 4 = .ok (.iload_n 0, 1) := by decide +kernel
theorem dX8_isKey_5 : decode cX8_isKey 5 = .ok (.bipush 12, 2) := by decide +kernel
theorem dX8_isKey_7 : decode cX8_isKey 7 = .ok (.if_icmp .ge 7, 3) := by decide +kernel
theorem dX8_isKey_10 : decode cX8_isKey 10 = .ok (.iconst 1, 1) := by decide +kernel
theorem dX8_isKey_11 : decode cX8_isKey 11 = .ok (.goto 4, 3) := by decide +kernel
theorem dX8_isKey_14 : decode cX8_isKey 14 = .ok (.iconst 0, 1) := by decide +kernel
theorem dX8_isKey_15 : decode cX8_isKey 15 = .ok (.ireturn, 1) := by decide +kernel
theorem dX8_isNumber_0 : decode cX8_isNumber 0 = .ok (.iload_n 0, 1) := by decide +kernel
theorem dX8_isNumber_1 : decode cX8_isNumber 1 = .ok (.ifCond .lt 14, 3) := by decide +kernel
theorem dX8_isNumber_4 : decode cX8_isNumber 4 = .ok (.iload_n 0, 1) := by decide +kernel
theorem dX8_isNumber_5 : decode cX8_isNumber 5 = .ok (.sipush 999, 3) := by decide +kernel
theorem dX8_isNumber_8 : decode cX8_isNumber 8 = .ok (.if_icmp .gt 7, 3) := by decide +kernel
theorem dX8_isNumber_11 : decode cX8_isNumber 11 = .ok (.iconst 1, 1) := by decide +kernel
theorem dX8_isNumber_12 : decode cX8_isNumber 12 = .ok (.goto 4, 3) := by decide +kernel
theorem dX8_isNumber_15 : decode cX8_isNumber 15 = .ok (.iconst 0, 1) := by decide +kernel
theorem dX8_isNumber_16 : decode cX8_isNumber 16 = .ok (.ireturn, 1) := by decide +kernel
theorem dX8_isLate_0 : decode cX8_isLate 0 = .ok (.iload_n 0, 1) := by decide +kernel
theorem dX8_isLate_1 : decode cX8_isLate 1 = .ok (.ifCond .le 12, 3) := by decide +kernel
theorem dX8_isLate_4 : decode cX8_isLate 4 = .ok (.iload_n 0, 1) := by decide +kernel
theorem dX8_isLate_5 : decode cX8_isLate 5 = .ok (.iload_n 1, 1) := by decide +kernel
theorem dX8_isLate_6 : decode cX8_isLate 6 = .ok (.if_icmp .ge 7, 3) := by decide +kernel
theorem dX8_isLate_9 : decode cX8_isLate 9 = .ok (.iconst 1, 1) := by decide +kernel
theorem dX8_isLate_10 : decode cX8_isLate 10 = .ok (.goto 4, 3) := by decide +kernel
theorem dX8_isLate_13 : decode cX8_isLate 13 = .ok (.iconst 0, 1) := by decide +kernel
theorem dX8_isLate_14 : decode cX8_isLate 14 = .ok (.ireturn, 1) := by decide +kernel
theorem dX8_oneIf_0 : decode cX8_oneIf 0 = .ok (.iload_n 0, 1) := by decide +kernel
theorem dX8_oneIf_1 : decode cX8_oneIf 1 = .ok (.ifCond .eq 7, 3) := by decide +kernel
theorem dX8_oneIf_4 : decode cX8_oneIf 4 = .ok (.iconst 1, 1) := by decide +kernel
theorem dX8_oneIf_5 : decode cX8_oneIf 5 = .ok (.goto 4, 3) := by decide +kernel
theorem dX8_oneIf_8 : decode cX8_oneIf 8 = .ok (.iconst 0, 1) := by decide +kernel
theorem dX8_oneIf_9 : decode cX8_oneIf 9 = .ok (.ireturn, 1) := by decide +kernel
theorem dX8_at_0 : decode cX8_at 0 = .ok (.iload_n 1, 1) := by decide +kernel
theorem dX8_at_1 : decode cX8_at 1 = .ok (.ifCond .lt 9, 3) := by decide +kernel
theorem dX8_at_4 : decode cX8_at 4 = .ok (.iload_n 1, 1) := by decide +kernel
theorem dX8_at_5 : decode cX8_at 5 = .ok (.aload_n 0, 1) := by decide +kernel
theorem dX8_at_6 : decode cX8_at 6 = .ok (.arraylength, 1) := by decide +kernel
theorem dX8_at_7 : decode cX8_at 7 = .ok (.if_icmp .lt 5, 3) := by decide +kernel
theorem dX8_at_10 : decode cX8_at 10 = .ok (.iconst 0, 1) := by decide +kernel
theorem dX8_at_11 : decode cX8_at 11 = .ok (.ireturn, 1) := by decide +kernel
theorem dX8_at_12 : decode cX8_at 12 = .ok (.aload_n 0, 1) := by decide +kernel
theorem dX8_at_13 : decode cX8_at 13 = .ok (.iload_n 1, 1) := by decide +kernel
theorem dX8_at_14 : decode cX8_at 14 = .ok (.iaload, 1) := by decide +kernel
theorem dX8_at_15 : decode cX8_at 15 = .ok (.ireturn, 1) := by decide +kernel
theorem dX8_layAt_0 : decode cX8_layAt 0 = .ok (.iload_n 1, 1) := by decide +kernel
theorem dX8_layAt_1 : decode cX8_layAt 1 = .ok (.ifCond .lt 13, 3) := by decide +kernel
theorem dX8_layAt_4 : decode cX8_layAt 4 = .ok (.iload_n 1, 1) := by decide +kernel
theorem dX8_layAt_5 : decode cX8_layAt 5 = .ok (.aload_n 0, 1) := by decide +kernel
theorem dX8_layAt_6 : decode cX8_layAt 6 = .ok (.arraylength, 1) := by decide +kernel
theorem dX8_layAt_7 : decode cX8_layAt 7 = .ok (.if_icmp .ge 7, 3) := by decide +kernel
theorem dX8_layAt_10 : decode cX8_layAt 10 = .ok (.aload_n 0, 1) := by decide +kernel
theorem dX8_layAt_11 : decode cX8_layAt 11 = .ok (.iload_n 1, 1) := by decide +kernel
theorem dX8_layAt_12 : decode cX8_layAt 12 = .ok (.iload_n 2, 1) := by decide +kernel
theorem dX8_layAt_13 : decode cX8_layAt 13 = .ok (.iastore, 1) := by decide +kernel
theorem dX8_layAt_14 : decode cX8_layAt 14 = .ok (.return_, 1) := by decide +kernel
theorem dX8_copyRow_0 : decode cX8_copyRow 0 = .ok (.iconst 0, 1) := by decide +kernel
theorem dX8_copyRow_1 : decode cX8_copyRow 1 = .ok (.istore_n 2, 1) := by decide +kernel
theorem dX8_copyRow_2 : decode cX8_copyRow 2 = .ok (.iload_n 2, 1) := by decide +kernel
theorem dX8_copyRow_3 : decode cX8_copyRow 3 = .ok (.aload_n 0, 1) := by decide +kernel
theorem dX8_copyRow_4 : decode cX8_copyRow 4 = .ok (.arraylength, 1) := by decide +kernel
theorem dX8_copyRow_5 : decode cX8_copyRow 5 = .ok (.if_icmp .ge 21, 3) := by decide +kernel
theorem dX8_copyRow_8 : decode cX8_copyRow 8 = .ok (.iload_n 2, 1) := by decide +kernel
theorem dX8_copyRow_9 : decode cX8_copyRow 9 = .ok (.aload_n 1, 1) := by decide +kernel
theorem dX8_copyRow_10 : decode cX8_copyRow 10 = .ok (.arraylength, 1) := by decide +kernel
theorem dX8_copyRow_11 : decode cX8_copyRow 11 = .ok (.if_icmp .ge 15, 3) := by decide +kernel
theorem dX8_copyRow_14 : decode cX8_copyRow 14 = .ok (.aload_n 1, 1) := by decide +kernel
theorem dX8_copyRow_15 : decode cX8_copyRow 15 = .ok (.iload_n 2, 1) := by decide +kernel
theorem dX8_copyRow_16 : decode cX8_copyRow 16 = .ok (.aload_n 0, 1) := by decide +kernel
theorem dX8_copyRow_17 : decode cX8_copyRow 17 = .ok (.iload_n 2, 1) := by decide +kernel
theorem dX8_copyRow_18 : decode cX8_copyRow 18 = .ok (.iaload, 1) := by decide +kernel
theorem dX8_copyRow_19 : decode cX8_copyRow 19 = .ok (.iastore, 1) := by decide +kernel
theorem dX8_copyRow_20 : decode cX8_copyRow 20 = .ok (.iinc 2 1, 3) := by decide +kernel
theorem dX8_copyRow_23 : decode cX8_copyRow 23 = .ok (.goto (-21), 3) := by decide +kernel
theorem dX8_copyRow_26 : decode cX8_copyRow 26 = .ok (.return_, 1) := by decide +kernel
end
section
theorem dX9_init_0 : decode cX9_init 0 = .ok (.aload_n 0, 1) := by decide +kernel
theorem dX9_init_1 : decode cX9_init 1 = .ok (.invokespecial 1, 3) := by decide +kernel
theorem dX9_init_4 : decode cX9_init 4 = .ok (.aload_n 0, 1) := by decide +kernel
theorem dX9_init_5 : decode cX9_init 5 = .ok (.sipush 475, 3) := by decide +kernel
theorem dX9_init_8 : decode cX9_init 8 = .ok (.newarray .int, 2) := by decide +kernel
theorem dX9_init_10 : decode cX9_init 10 = .ok (.putfield 7, 3) := by decide +kernel
theorem dX9_init_13 : decode cX9_init 13 = .ok (.aload_n 0, 1) := by decide +kernel
theorem dX9_init_14 : decode cX9_init 14 = .ok (.sipush 475, 3) := by decide +kernel
theorem dX9_init_17 : decode cX9_init 17 = .ok (.newarray .int, 2) := by decide +kernel
theorem dX9_init_19 : decode cX9_init 19 = .ok (.putfield 13, 3) := by decide +kernel
theorem dX9_init_22 : decode cX9_init 22 = .ok (.aload_n 0, 1) := by decide +kernel
theorem dX9_init_23 : decode cX9_init 23 = .ok (.sipush 2850, 3) := by decide +kernel
theorem dX9_init_26 : decode cX9_init 26 = .ok (.newarray .int, 2) := by decide +kernel
theorem dX9_init_28 : decode cX9_init 28 = .ok (.putfield 16, 3) := by decide +kernel
theorem dX9_init_31 : decode cX9_init 31 = .ok (.aload_n 0, 1) := by decide +kernel
theorem dX9_init_32 : decode cX9_init 32 = .ok (.sipush 950, 3) := by decide +kernel
theorem dX9_init_35 : decode cX9_init 35 = .ok (.newarray .int, 2) := by decide +kernel
theorem dX9_init_37 : decode cX9_init 37 = .ok (.putfield 19, 3) := by decide +kernel
theorem dX9_init_40 : decode cX9_init 40 = .ok (.aload_n 0, 1) := by decide +kernel
theorem dX9_init_41 : decode cX9_init 41 = .ok (.iconst 2, 1) := by decide +kernel
theorem dX9_init_42 : decode cX9_init 42 = .ok (.newarray .boolean, 2) := by decide +kernel
theorem dX9_init_44 : decode cX9_init 44 = .ok (.putfield 22, 3) := by decide +kernel
theorem dX9_init_47 : decode cX9_init 47 = .ok (.aload_n 0, 1) := by decide +kernel
theorem dX9_init_48 : decode cX9_init 48 = .ok (.bipush 80, 2) := by decide +kernel
theorem dX9_init_50 : decode cX9_init 50 = .ok (.newarray .int, 2) := by decide +kernel
theorem dX9_init_52 : decode cX9_init 52 = .ok (.putfield 26, 3) := by decide +kernel
theorem dX9_init_55 : decode cX9_init 55 = .ok (.aload_n 0, 1) := by decide +kernel
theorem dX9_init_56 : decode cX9_init 56 = .ok (.bipush 123, 2) := by decide +kernel
theorem dX9_init_58 : decode cX9_init 58 = .ok (.newarray .int, 2) := by decide +kernel
theorem dX9_init_60 : decode cX9_init 60 = .ok (.putfield 29, 3) := by decide +kernel
theorem dX9_init_63 : decode cX9_init 63 = .ok (.aload_n 0, 1) := by decide +kernel
theorem dX9_init_64 : decode cX9_init 64 = .ok (.getfield 7, 3) := by decide +kernel
theorem dX9_init_67 : decode cX9_init 67 = .ok (.iconst 0, 1) := by decide +kernel
theorem dX9_init_68 : decode cX9_init 68 = .ok (.iconst 5, 1) := by decide +kernel
theorem dX9_init_69 : decode cX9_init 69 = .ok (.iastore, 1) := by decide +kernel
theorem dX9_init_70 : decode cX9_init 70 = .ok (.aload_n 0, 1) := by decide +kernel
theorem dX9_init_71 : decode cX9_init 71 = .ok (.getfield 7, 3) := by decide +kernel
theorem dX9_init_74 : decode cX9_init 74 = .ok (.iconst 1, 1) := by decide +kernel
theorem dX9_init_75 : decode cX9_init 75 = .ok (.bipush 30, 2) := by decide +kernel
theorem dX9_init_77 : decode cX9_init 77 = .ok (.iastore, 1) := by decide +kernel
theorem dX9_init_78 : decode cX9_init 78 = .ok (.iconst 0, 1) := by decide +kernel
theorem dX9_init_79 : decode cX9_init 79 = .ok (.istore_n 1, 1) := by decide +kernel
theorem dX9_init_80 : decode cX9_init 80 = .ok (.iload_n 1, 1) := by decide +kernel
theorem dX9_init_81 : decode cX9_init 81 = .ok (.bipush 12, 2) := by decide +kernel
theorem dX9_init_83 : decode cX9_init 83 = .ok (.if_icmp .ge 20, 3) := by decide +kernel
theorem dX9_init_86 : decode cX9_init 86 = .ok (.aload_n 0, 1) := by decide +kernel
theorem dX9_init_87 : decode cX9_init 87 = .ok (.getfield 7, 3) := by decide +kernel
theorem dX9_init_90 : decode cX9_init 90 = .ok (.bipush 9, 2) := by decide +kernel
theorem dX9_init_92 : decode cX9_init 92 = .ok (.iload_n 1, 1) := by decide +kernel
theorem dX9_init_93 : decode cX9_init 93 = .ok (.iadd, 1) := by decide +kernel
theorem dX9_init_94 : decode cX9_init 94 = .ok (.bipush (-6), 2) := by decide +kernel
theorem dX9_init_96 : decode cX9_init 96 = .ok (.iastore, 1) := by decide +kernel
theorem dX9_init_97 : decode cX9_init 97 = .ok (.iinc 1 1, 3) := by decide +kernel
theorem dX9_init_100 : decode cX9_init 100 = .ok (.goto (-20), 3) := by decide +kernel
theorem dX9_init_103 : decode cX9_init 103 = .ok (.return_, 1) := by decide +kernel
theorem dX9_in_0 : decode cX9_in 0 = .ok (.iload_n 0, 1) := by decide +kernel
theorem dX9_in_1 : decode cX9_in 1 = .ok (.iload_n 1, 1) := by decide +kernel
theorem dX9_in_2 : decode cX9_in 2 = .ok (.if_icmp .lt 12, 3) := by decide +kernel
theorem dX9_in_5 : decode cX9_in 5 = .ok (.iload_n 0, 1) := by decide +kernel
theorem dX9_in_6 : decode cX9_in 6 = .ok (.iload_n 2, 1) := by decide +kernel
theorem dX9_in_7 : decode cX9_in 7 = .ok (.if_icmp .gt 7, 3) := by decide +kernel
theorem dX9_in_10 : decode cX9_in 10 = .ok (.iconst 1, 1) := by decide +kernel
theorem dX9_in_11 : decode cX9_in 11 = .ok (.goto 4, 3) := by decide +kernel
theorem dX9_in_14 : decode cX9_in 14 = .ok (.iconst 0, 1) := by decide +kernel
theorem dX9_in_15 : decode cX9_in 15 = .ok (.ireturn, 1) := by decide +kernel
theorem dX9_isKey_0 : decode cX9_isKey 0 = .ok (.iload_n 0, 1) := by decide +kernel
theorem dX9_isKey_1 : decode cX9_isKey 1 = .ok (.iconst 0, 1) := by decide +kernel
theorem dX9_isKey_2 : decode cX9_isKey 2 = .ok (.bipush 11, 2) := by decide +kernel
theorem dX9_isKey_4 : decode cX9_isKey 4 = .ok (.invokestatic 32, 3) := by decide +kernel
theorem dX9_isKey_7 : decode cX9_isKey 7 = .ok (.ireturn, 1) := by decide +kernel
theorem dX9_isReader_0 : decode cX9_isReader 0 = .ok (.iload_n 1, 1) := by decide +kernel
theorem dX9_isReader_1 : decode cX9_isReader 1 = .ok (.iconst 0, 1) := by decide +kernel
theorem dX9_isReader_2 : decode cX9_isReader 2 = .ok (.aload_n 0, 1) := by decide +kernel
theorem dX9_isReader_3 : decode cX9_isReader 3 = .ok (.getfield 7, 3) := by decide +kernel
theorem dX9_isReader_6 : decode cX9_isReader 6 = .ok (.bipush 7, 2) := by decide +kernel
theorem dX9_isReader_8 : decode cX9_isReader 8 = .ok (.iaload, 1) := by decide +kernel
theorem dX9_isReader_9 : decode cX9_isReader 9 = .ok (.iconst 1, 1) := by decide +kernel
theorem dX9_isReader_10 : decode cX9_isReader 10 = .ok (.isub, 1) := by decide +kernel
theorem dX9_isReader_11 : decode cX9_isReader 11 = .ok (.invokestatic 32, 3) := by decide +kernel
theorem dX9_isReader_14 : decode cX9_isReader 14 = .ok (.ireturn, 1) := by decide +kernel
theorem dX9_isShot_0 : decode cX9_isShot 0 = .ok (.iload_n 1, 1) := by decide +kernel
theorem dX9_isShot_1 : decode cX9_isShot 1 = .ok (.iconst 0, 1) := by decide +kernel
theorem dX9_isShot_2 : decode cX9_isShot 2 = .ok (.aload_n 0, 1) := by decide +kernel
theorem dX9_isShot_3 : decode cX9_isShot 3 = .ok (.getfield 7, 3) := by decide +kernel
theorem dX9_isShot_6 : decode cX9_isShot 6 = .ok (.bipush 8, 2) := by decide +kernel
theorem dX9_isShot_8 : decode cX9_isShot 8 = .ok (.iaload, 1) := by decide +kernel
theorem dX9_isShot_9 : decode cX9_isShot 9 = .ok (.iconst 1, 1) := by decide +kernel
theorem dX9_isShot_10 : decode cX9_isShot 10 = .ok (.isub, 1) := by decide +kernel
theorem dX9_isShot_11 : decode cX9_isShot 11 = .ok (.invokestatic 32, 3) := by decide +kernel
theorem dX9_isShot_14 : decode cX9_isShot 14 = .ok (.ireturn, 1) := by decide +kernel
theorem dX9_row_0 : decode cX9_row 0 = .ok (.sipush 261, 3) := by decide +kernel
theorem dX9_row_3 : decode cX9_row 3 = .ok (.bipush 27, 2) := by decide +kernel
theorem dX9_row_5 : decode cX9_row 5 = .ok (.iload_n 0, 1) := by decide +kernel
theorem dX9_row_6 : decode cX9_row 6 = .ok (.imul, 1) := by decide +kernel
theorem dX9_row_7 : decode cX9_row 7 = .ok (.iadd, 1) := by decide +kernel
theorem dX9_row_8 : decode cX9_row 8 = .ok (.ireturn, 1) := by decide +kernel
theorem dX9_lays_0 : decode cX9_lays 0 = .ok (.iconst 0, 1) := by decide +kernel
theorem dX9_lays_1 : decode cX9_lays 1 = .ok (.istore 4, 2) := by decide +kernel
theorem dX9_lays_3 : decode cX9_lays 3 = .ok (.iload 4, 2) := by decide +kernel
theorem dX9_lays_5 : decode cX9_lays 5 = .ok (.sipush 475, 3) := by decide +kernel
theorem dX9_lays_8 : decode cX9_lays 8 = .ok (.if_icmp .ge 21, 3) := by decide +kernel
theorem dX9_lays_11 : decode cX9_lays 11 = .ok (.aload_n 2, 1) := by decide +kernel
theorem dX9_lays_12 : decode cX9_lays 12 = .ok (.iload_n 3, 1) := by decide +kernel
theorem dX9_lays_13 : decode cX9_lays 13 = .ok (.iload 4, 2) := by decide +kernel
theorem dX9_lays_15 : decode cX9_lays 15 = .ok (.iadd, 1) := by decide +kernel
theorem dX9_lays_16 : decode cX9_lays 16 = .ok (.aload_n 0, 1) := by decide +kernel
theorem dX9_lays_17 : decode cX9_lays 17 = .ok (.iload_n 1, 1) := by decide +kernel
theorem dX9_lays_18 : decode cX9_lays 18 = .ok (.iload 4, 2) := by decide +kernel
theorem dX9_lays_20 : decode cX9_lays 20 = .ok (.iadd, 1) := by decide +kernel
theorem dX9_lays_21 : decode cX9_lays 21 = .ok (.iaload, 1) := by decide +kernel
theorem dX9_lays_22 : decode cX9_lays 22 = .ok (.iastore, 1) := by decide +kernel
theorem dX9_lays_23 : decode cX9_lays 23 = .ok (.iinc 4 1, 3) := by decide +kernel
theorem dX9_lays_26 : decode cX9_lays 26 = .ok (.goto (-23), 3) := by decide +kernel
theorem dX9_lays_29 : decode cX9_lays 29 = .ok (.return_, 1) := by decide +kernel
theorem dX9_records_0 : decode cX9_records 0 = .ok (.aload_n 0, 1) := by decide +kernel
theorem dX9_records_1 : decode cX9_records 1 = .ok (.getfield 36, 3) := by decide +kernel
theorem dX9_records_4 : decode cX9_records 4 = .ok (.bipush 6, 2) := by decide +kernel
theorem dX9_records_6 : decode cX9_records 6 = .ok (.if_icmp .ne 44, 3) := by decide +kernel
theorem dX9_records_9 : decode cX9_records 9 = .ok (.iconst 0, 1) := by decide +kernel
theorem dX9_records_10 : decode cX9_records 10 = .ok (.istore_n 1, 1) := by decide +kernel
theorem dX9_records_11 : decode cX9_records 11 = .ok (.iload_n 1, 1) := by decide +kernel
theorem dX9_records_12 : decode cX9_records 12 = .ok (.sipush 2375, 3) := by decide +kernel
theorem dX9_records_15 : decode cX9_records 15 = .ok (.if_icmp .ge 25, 3) := by decide +kernel
theorem dX9_records_18 : decode cX9_records 18 = .ok (.aload_n 0, 1) := by decide +kernel
theorem dX9_records_19 : decode cX9_records 19 = .ok (.getfield 16, 3) := by decide +kernel
theorem dX9_records_22 : decode cX9_records 22 = .ok (.iload_n 1, 1) := by decide +kernel
theorem dX9_records_23 : decode cX9_records 23 = .ok (.aload_n 0, 1) := by decide +kernel
theorem dX9_records_24 : decode cX9_records 24 = .ok (.getfield 16, 3) := by decide +kernel
theorem dX9_records_27 : decode cX9_records 27 = .ok (.iload_n 1, 1) := by decide +kernel
theorem dX9_records_28 : decode cX9_records 28 = .ok (.sipush 475, 3) := by decide +kernel
theorem dX9_records_31 : decode cX9_records 31 = .ok (.iadd, 1) := by decide +kernel
theorem dX9_records_32 : decode cX9_records 32 = .ok (.iaload, 1) := by decide +kernel
theorem dX9_records_33 : decode cX9_records 33 = .ok (.iastore, 1) := by decide +kernel
theorem dX9_records_34 : decode cX9_records 34 = .ok (.iinc 1 1, 3) := by decide +kernel
theorem dX9_records_37 : decode cX9_records 37 = .ok (.goto (-26), 3) := by decide +kernel
theorem dX9_records_40 : decode cX9_records 40 = .ok (.aload_n 0, 1) := by decide +kernel
theorem dX9_records_41 : decode cX9_records 41 = .ok (.dup, 1) := by decide +kernel
theorem dX9_records_42 : decode cX9_records 42 = .ok (.getfield 36, 3) := by decide +kernel
theorem dX9_records_45 : decode cX9_records 45 = .ok (.iconst 1, 1) := by decide +kernel
theorem dX9_records_46 : decode cX9_records 46 = .ok (.isub, 1) := by decide +kernel
theorem dX9_records_47 : decode cX9_records 47 = .ok (.putfield 36, 3) := by decide +kernel
theorem dX9_records_50 : decode cX9_records 50 = .ok (.aload_n 0, 1) := by decide +kernel
theorem dX9_records_51 : decode cX9_records 51 = .ok (.getfield 7, 3) := by decide +kernel
theorem dX9_records_54 : decode cX9_records 54 = .ok (.iconst 0, 1) := by decide +kernel
theorem dX9_records_55 : decode cX9_records 55 = .ok (.aload_n 0, 1) := by decide +kernel
theorem dX9_records_56 : decode cX9_records 56 = .ok (.getfield 16, 3) := by decide +kernel
theorem dX9_records_59 : decode cX9_records 59 = .ok (.sipush 475, 3) := by decide +kernel
theorem dX9_records_62 : decode cX9_records 62 = .ok (.aload_n 0, 1) := by decide +kernel
theorem dX9_records_63 : decode cX9_records 63 = .ok (.getfield 36, 3) := by decide +kernel
theorem dX9_records_66 : decode cX9_records 66 = .ok (.imul, 1) := by decide +kernel
theorem dX9_records_67 : decode cX9_records 67 = .ok (.invokestatic 40, 3) := by decide +kernel
theorem dX9_records_70 : decode cX9_records 70 = .ok (.aload_n 0, 1) := by decide +kernel
theorem dX9_records_71 : decode cX9_records 71 = .ok (.dup, 1) := by decide +kernel
theorem dX9_records_72 : decode cX9_records 72 = .ok (.getfield 36, 3) := by decide +kernel
theorem dX9_records_75 : decode cX9_records 75 = .ok (.iconst 1, 1) := by decide +kernel
theorem dX9_records_76 : decode cX9_records 76 = .ok (.iadd, 1) := by decide +kernel
theorem dX9_records_77 : decode cX9_records 77 = .ok (.putfield 36, 3) := by decide +kernel
theorem dX9_records_80 : decode cX9_records 80 = .ok (.return_, 1) := by decide +kernel
theorem dX9_undo_0 : decode cX9_undo 0 = .ok (.aload_n 0, 1) := by decide +kernel
theorem dX9_undo_1 : decode cX9_undo 1 = .ok (.getfield 36, 3) := by decide +kernel
theorem dX9_undo_4 : decode cX9_undo 4 = .ok (.ifCond .ne 6, 3) := by decide +kernel
theorem dX9_undo_7 : decode cX9_undo 7 = .ok (.bipush (-5), 2) := by decide +kernel
theorem dX9_undo_9 : decode cX9_undo 9 = .ok (.ireturn, 1) := by decide +kernel
theorem dX9_undo_10 : decode cX9_undo 10 = .ok (.aload_n 0, 1) := by decide +kernel
theorem dX9_undo_11 : decode cX9_undo 11 = .ok (.dup, 1) := by decide +kernel
theorem dX9_undo_12 : decode cX9_undo 12 = .ok (.getfield 36, 3) := by decide +kernel
theorem dX9_undo_15 : decode cX9_undo 15 = .ok (.iconst 1, 1) := by decide +kernel
theorem dX9_undo_16 : decode cX9_undo 16 = .ok (.isub, 1) := by decide +kernel
theorem dX9_undo_17 : decode cX9_undo 17 = .ok (.putfield 36, 3) := by decide +kernel
theorem dX9_undo_20 : decode cX9_undo 20 = .ok (.aload_n 0, 1) := by decide +kernel
theorem dX9_undo_21 : decode cX9_undo 21 = .ok (.getfield 16, 3) := by decide +kernel
theorem dX9_undo_24 : decode cX9_undo 24 = .ok (.sipush 475, 3) := by decide +kernel
theorem dX9_undo_27 : decode cX9_undo 27 = .ok (.aload_n 0, 1) := by decide +kernel
theorem dX9_undo_28 : decode cX9_undo 28 = .ok (.getfield 36, 3) := by decide +kernel
theorem dX9_undo_31 : decode cX9_undo 31 = .ok (.imul, 1) := by decide +kernel
theorem dX9_undo_32 : decode cX9_undo 32 = .ok (.aload_n 0, 1) := by decide +kernel
theorem dX9_undo_33 : decode cX9_undo 33 = .ok (.getfield 7, 3) := by decide +kernel
theorem dX9_undo_36 : decode cX9_undo 36 = .ok (.iconst 0, 1) := by decide +kernel
theorem dX9_undo_37 : decode cX9_undo 37 = .ok (.invokestatic 40, 3) := by decide +kernel
theorem dX9_undo_40 : decode cX9_undo 40 = .ok (.aload_n 0, 1) := by decide +kernel
theorem dX9_undo_41 : decode cX9_undo 41 = .ok (.getfield 36, 3) := by decide +kernel
theorem dX9_undo_44 : decode cX9_undo 44 = .ok (.ireturn, 1) := by decide +kernel
theorem dX9_save_0 : decode cX9_save 0 = .ok (.iload_n 1, 1) := by decide +kernel
theorem dX9_save_1 : decode cX9_save 1 = .ok (.iconst 0, 1) := by decide +kernel
theorem dX9_save_2 : decode cX9_save 2 = .ok (.iconst 1, 1) := by decide +kernel
theorem dX9_save_3 : decode cX9_save 3 = .ok (.invokestatic 32, 3) := by decide +kernel
theorem dX9_save_6 : decode cX9_save 6 = .ok (.ifCond .ne 6, 3) := by decide +kernel
theorem dX9_save_9 : decode cX9_save 9 = .ok (.bipush (-2), 2) := by decide +kernel
theorem dX9_save_11 : decode cX9_save 11 = .ok (.ireturn, 1) := by decide +kernel
theorem dX9_save_12 : decode cX9_save 12 = .ok (.aload_n 0, 1) := by decide +kernel
theorem dX9_save_13 : decode cX9_save 13 = .ok (.getfield 7, 3) := by decide +kernel
theorem dX9_save_16 : decode cX9_save 16 = .ok (.iconst 0, 1) := by decide +kernel
theorem dX9_save_17 : decode cX9_save 17 = .ok (.aload_n 0, 1) := by decide +kernel
theorem dX9_save_18 : decode cX9_save 18 = .ok (.getfield 19, 3) := by decide +kernel
theorem dX9_save_21 : decode cX9_save 21 = .ok (.sipush 475, 3) := by decide +kernel
theorem dX9_save_24 : decode cX9_save 24 = .ok (.iload_n 1, 1) := by decide +kernel
theorem dX9_save_25 : decode cX9_save 25 = .ok (.imul, 1) := by decide +kernel
theorem dX9_save_26 : decode cX9_save 26 = .ok (.invokestatic 40, 3) := by decide +kernel
theorem dX9_save_29 : decode cX9_save 29 = .ok (.aload_n 0, 1) := by decide +kernel
theorem dX9_save_30 : decode cX9_save 30 = .ok (.getfield 22, 3) := by decide +kernel
theorem dX9_save_33 : decode cX9_save 33 = .ok (.iload_n 1, 1) := by decide +kernel
theorem dX9_save_34 : decode cX9_save 34 = .ok (.iconst 1, 1) := by decide +kernel
theorem dX9_save_35 : decode cX9_save 35 = .ok (.bastore, 1) := by decide +kernel
theorem dX9_save_36 : decode cX9_save 36 = .ok (.aload_n 0, 1) := by decide +kernel
theorem dX9_save_37 : decode cX9_save 37 = .ok (.getfield 7, 3) := by decide +kernel
theorem dX9_save_40 : decode cX9_save 40 = .ok (.bipush 6, 2) := by decide +kernel
theorem dX9_save_42 : decode cX9_save 42 = .ok (.iaload, 1) := by decide +kernel
theorem dX9_save_43 : decode cX9_save 43 = .ok (.ireturn, 1) := by decide +kernel
theorem dX9_restore_0 : decode cX9_restore 0 = .ok (.iload_n 1, 1) := by decide +kernel
theorem dX9_restore_1 : decode cX9_restore 1 = .ok (.iconst 0, 1) := by decide +kernel
theorem dX9_restore_2 : decode cX9_restore 2 = .ok (.iconst 1, 1) := by decide +kernel
theorem dX9_restore_3 : decode cX9_restore 3 = .ok (.invokestatic 32, 3) := by decide +kernel
theorem dX9_restore_6 : decode cX9_restore 6 = .ok (.ifCond .ne 6, 3) := by decide +kernel
theorem dX9_restore_9 : decode cX9_restore 9 = .ok (.bipush (-2), 2) := by decide +kernel
theorem dX9_restore_11 : decode cX9_restore 11 = .ok (.ireturn, 1) := by decide +kernel
theorem dX9_restore_12 : decode cX9_restore 12 = .ok (.aload_n 0, 1) := by decide +kernel
theorem dX9_restore_13 : decode cX9_restore 13 = .ok (.getfield 22, 3) := by decide +kernel
theorem dX9_restore_16 : decode cX9_restore 16 = .ok (.iload_n 1, 1) := by decide +kernel
theorem dX9_restore_17 : decode cX9_restore 17 = .ok (.baload, 1) := by decide +kernel
theorem dX9_restore_18 : decode cX9_restore 18 = .ok (.ifCond .ne 6, 3) := by decide +kernel
theorem dX9_restore_21 : decode cX9_restore 21 = .ok (.bipush (-5), 2) := by decide +kernel
theorem dX9_restore_23 : decode cX9_restore 23 = .ok (.ireturn, 1) := by decide +kernel
theorem dX9_restore_24 : decode cX9_restore 24 = .ok (.aload_n 0, 1) := by decide +kernel
theorem dX9_restore_25 : decode cX9_restore 25 = .ok (.invokevirtual 44, 3) := by decide +kernel
theorem dX9_restore_28 : decode cX9_restore 28 = .ok (.aload_n 0, 1) := by decide +kernel
theorem dX9_restore_29 : decode cX9_restore 29 = .ok (.getfield 19, 3) := by decide +kernel
theorem dX9_restore_32 : decode cX9_restore 32 = .ok (.sipush 475, 3) := by decide +kernel
theorem dX9_restore_35 : decode cX9_restore 35 = .ok (.iload_n 1, 1) := by decide +kernel
theorem dX9_restore_36 : decode cX9_restore 36 = .ok (.imul, 1) := by decide +kernel
theorem dX9_restore_37 : decode cX9_restore 37 = .ok (.aload_n 0, 1) := by decide +kernel
theorem dX9_restore_38 : decode cX9_restore 38 = .ok (.getfield 7, 3) := by decide +kernel
theorem dX9_restore_41 : decode cX9_restore 41 = .ok (.iconst 0, 1) := by decide +kernel
theorem dX9_restore_42 : decode cX9_restore 42 = .ok (.invokestatic 40, 3) := by decide +kernel
theorem dX9_restore_45 : decode cX9_restore 45 = .ok (.aload_n 0, 1) := by decide +kernel
theorem dX9_restore_46 : decode cX9_restore 46 = .ok (.getfield 7, 3) := by decide +kernel
theorem dX9_restore_49 : decode cX9_restore 49 = .ok (.bipush 6, 2) := by decide +kernel
theorem dX9_restore_51 : decode cX9_restore 51 = .ok (.iaload, 1) := by decide +kernel
theorem dX9_restore_52 : decode cX9_restore 52 = .ok (.ireturn, 1) := by decide +kernel
theorem dX9_of_0 : decode cX9_of 0 = .ok (.aload_n 0, 1) := by decide +kernel
theorem dX9_of_1 : decode cX9_of 1 = .ok (.bipush 21, 2) := by decide +kernel
theorem dX9_of_3 : decode cX9_of 3 = .ok (.iconst 4, 1) := by decide +kernel
theorem dX9_of_4 : decode cX9_of 4 = .ok (.iload_n 1, 1) := by decide +kernel
theorem dX9_of_5 : decode cX9_of 5 = .ok (.imul, 1) := by decide +kernel
theorem dX9_of_6 : decode cX9_of 6 = .ok (.iadd, 1) := by decide +kernel
theorem dX9_of_7 : decode cX9_of 7 = .ok (.iload_n 2, 1) := by decide +kernel
theorem dX9_of_8 : decode cX9_of 8 = .ok (.iadd, 1) := by decide +kernel
theorem dX9_of_9 : decode cX9_of 9 = .ok (.iaload, 1) := by decide +kernel
theorem dX9_of_10 : decode cX9_of 10 = .ok (.ireturn, 1) := by decide +kernel
theorem dX9_isClosed_0 : decode cX9_isClosed 0 = .ok (.aload_n 0, 1) := by decide +kernel
theorem dX9_isClosed_1 : decode cX9_isClosed 1 = .ok (.iload_n 1, 1) := by decide +kernel
theorem dX9_isClosed_2 : decode cX9_isClosed 2 = .ok (.iconst 0, 1) := by decide +kernel
theorem dX9_isClosed_3 : decode cX9_isClosed 3 = .ok (.invokestatic 47, 3) := by decide +kernel
theorem dX9_isClosed_6 : decode cX9_isClosed 6 = .ok (.aload_n 0, 1) := by decide +kernel
theorem dX9_isClosed_7 : decode cX9_isClosed 7 = .ok (.iconst 0, 1) := by decide +kernel
theorem dX9_isClosed_8 : decode cX9_isClosed 8 = .ok (.iaload, 1) := by decide +kernel
theorem dX9_isClosed_9 : decode cX9_isClosed 9 = .ok (.idiv, 1) := by decide +kernel
theorem dX9_isClosed_10 : decode cX9_isClosed 10 = .ok (.aload_n 0, 1) := by decide +kernel
theorem dX9_isClosed_11 : decode cX9_isClosed 11 = .ok (.iconst 3, 1) := by decide +kernel
theorem dX9_isClosed_12 : decode cX9_isClosed 12 = .ok (.iaload, 1) := by decide +kernel
theorem dX9_isClosed_13 : decode cX9_isClosed 13 = .ok (.aload_n 0, 1) := by decide +kernel
theorem dX9_isClosed_14 : decode cX9_isClosed 14 = .ok (.iconst 0, 1) := by decide +kernel
theorem dX9_isClosed_15 : decode cX9_isClosed 15 = .ok (.iaload, 1) := by decide +kernel
theorem dX9_isClosed_16 : decode cX9_isClosed 16 = .ok (.idiv, 1) := by decide +kernel
theorem dX9_isClosed_17 : decode cX9_isClosed 17 = .ok (.if_icmp .eq 7, 3) := by decide +kernel
theorem dX9_isClosed_20 : decode cX9_isClosed 20 = .ok (.iconst 1, 1) := by decide +kernel
theorem dX9_isClosed_21 : decode cX9_isClosed 21 = .ok (.goto 4, 3) := by decide +kernel
theorem dX9_isClosed_24 : decode cX9_isClosed 24 = .ok (.iconst 0, 1) := by decide +kernel
theorem dX9_isClosed_25 : decode cX9_isClosed 25 = .ok (.ireturn, 1) := by decide +kernel
theorem dX9_isLast_0 : decode cX9_isLast 0 = .ok (.iload_n 1, 1) := by decide +kernel
theorem dX9_isLast_1 : decode cX9_isLast 1 = .ok (.iconst 1, 1) := by decide +kernel
theorem dX9_isLast_2 : decode cX9_isLast 2 = .ok (.iadd, 1) := by decide +kernel
theorem dX9_isLast_3 : decode cX9_isLast 3 = .ok (.istore_n 2, 1) := by decide +kernel
theorem dX9_isLast_4 : decode cX9_isLast 4 = .ok (.iload_n 2, 1) := by decide +kernel
theorem dX9_isLast_5 : decode cX9_isLast 5 = .ok (.aload_n 0, 1) := by decide +kernel
theorem dX9_isLast_6 : decode cX9_isLast 6 = .ok (.bipush 6, 2) := by decide +kernel
theorem dX9_isLast_8 : decode cX9_isLast 8 = .ok (.iaload, 1) := by decide +kernel
theorem dX9_isLast_9 : decode cX9_isLast 9 = .ok (.if_icmp .ge 26, 3) := by decide +kernel
theorem dX9_isLast_12 : decode cX9_isLast 12 = .ok (.aload_n 0, 1) := by decide +kernel
theorem dX9_isLast_13 : decode cX9_isLast 13 = .ok (.iload_n 2, 1) := by decide +kernel
theorem dX9_isLast_14 : decode cX9_isLast 14 = .ok (.iconst 1, 1) := by decide +kernel
theorem dX9_isLast_15 : decode cX9_isLast 15 = .ok (.invokestatic 47, 3) := by decide +kernel
theorem dX9_isLast_18 : decode cX9_isLast 18 = .ok (.aload_n 0, 1) := by decide +kernel
theorem dX9_isLast_19 : decode cX9_isLast 19 = .ok (.iload_n 1, 1) := by decide +kernel
theorem dX9_isLast_20 : decode cX9_isLast 20 = .ok (.iconst 1, 1) := by decide +kernel
theorem dX9_isLast_21 : decode cX9_isLast 21 = .ok (.invokestatic 47, 3) := by decide +kernel
theorem dX9_isLast_24 : decode cX9_isLast 24 = .ok (.if_icmp .ne 5, 3) := by decide +kernel
theorem dX9_isLast_27 : decode cX9_isLast 27 = .ok (.iconst 0, 1) := by decide +kernel
theorem dX9_isLast_28 : decode cX9_isLast 28 = .ok (.ireturn, 1) := by decide +kernel
theorem dX9_isLast_29 : decode cX9_isLast 29 = .ok (.iinc 2 1, 3) := by decide +kernel
theorem dX9_isLast_32 : decode cX9_isLast 32 = .ok (.goto (-28), 3) := by decide +kernel
theorem dX9_isLast_35 : decode cX9_isLast 35 = .ok (.iconst 1, 1) := by decide +kernel
theorem dX9_isLast_36 : decode cX9_isLast 36 = .ok (.ireturn, 1) := by decide +kernel
theorem dX9_goes_0 : decode cX9_goes 0 = .ok (.aload_n 0, 1) := by decide +kernel
theorem dX9_goes_1 : decode cX9_goes 1 = .ok (.bipush 6, 2) := by decide +kernel
theorem dX9_goes_3 : decode cX9_goes 3 = .ok (.dup2, 1) := by decide +kernel
theorem dX9_goes_4 : decode cX9_goes 4 = .ok (.iaload, 1) := by decide +kernel
theorem dX9_goes_5 : decode cX9_goes 5 = .ok (.iconst 1, 1) := by decide +kernel
theorem dX9_goes_6 : decode cX9_goes 6 = .ok (.isub, 1) := by decide +kernel
theorem dX9_goes_7 : decode cX9_goes 7 = .ok (.iastore, 1) := by decide +kernel
theorem dX9_goes_8 : decode cX9_goes 8 = .ok (.aload_n 0, 1) := by decide +kernel
theorem dX9_goes_9 : decode cX9_goes 9 = .ok (.iconst 5, 1) := by decide +kernel
theorem dX9_goes_10 : decode cX9_goes 10 = .ok (.dup2, 1) := by decide +kernel
theorem dX9_goes_11 : decode cX9_goes 11 = .ok (.iaload, 1) := by decide +kernel
theorem dX9_goes_12 : decode cX9_goes 12 = .ok (.iconst 1, 1) := by decide +kernel
theorem dX9_goes_13 : decode cX9_goes 13 = .ok (.iadd, 1) := by decide +kernel
theorem dX9_goes_14 : decode cX9_goes 14 = .ok (.iastore, 1) := by decide +kernel
theorem dX9_goes_15 : decode cX9_goes 15 = .ok (.bipush 21, 2) := by decide +kernel
theorem dX9_goes_17 : decode cX9_goes 17 = .ok (.iconst 4, 1) := by decide +kernel
theorem dX9_goes_18 : decode cX9_goes 18 = .ok (.iload_n 1, 1) := by decide +kernel
theorem dX9_goes_19 : decode cX9_goes 19 = .ok (.imul, 1) := by decide +kernel
theorem dX9_goes_20 : decode cX9_goes 20 = .ok (.iadd, 1) := by decide +kernel
theorem dX9_goes_21 : decode cX9_goes 21 = .ok (.istore_n 2, 1) := by decide +kernel
theorem dX9_goes_22 : decode cX9_goes 22 = .ok (.iload_n 2, 1) := by decide +kernel
theorem dX9_goes_23 : decode cX9_goes 23 = .ok (.bipush 21, 2) := by decide +kernel
theorem dX9_goes_25 : decode cX9_goes 25 = .ok (.iconst 4, 1) := by decide +kernel
theorem dX9_goes_26 : decode cX9_goes 26 = .ok (.aload_n 0, 1) := by decide +kernel
theorem dX9_goes_27 : decode cX9_goes 27 = .ok (.bipush 6, 2) := by decide +kernel
theorem dX9_goes_29 : decode cX9_goes 29 = .ok (.iaload, 1) := by decide +kernel
theorem dX9_goes_30 : decode cX9_goes 30 = .ok (.imul, 1) := by decide +kernel
theorem dX9_goes_31 : decode cX9_goes 31 = .ok (.iadd, 1) := by decide +kernel
theorem dX9_goes_32 : decode cX9_goes 32 = .ok (.if_icmp .ge 17, 3) := by decide +kernel
theorem dX9_goes_35 : decode cX9_goes 35 = .ok (.aload_n 0, 1) := by decide +kernel
theorem dX9_goes_36 : decode cX9_goes 36 = .ok (.iload_n 2, 1) := by decide +kernel
theorem dX9_goes_37 : decode cX9_goes 37 = .ok (.aload_n 0, 1) := by decide +kernel
theorem dX9_goes_38 : decode cX9_goes 38 = .ok (.iload_n 2, 1) := by decide +kernel
theorem dX9_goes_39 : decode cX9_goes 39 = .ok (.iconst 4, 1) := by decide +kernel
theorem dX9_goes_40 : decode cX9_goes 40 = .ok (.iadd, 1) := by decide +kernel
theorem dX9_goes_41 : decode cX9_goes 41 = .ok (.iaload, 1) := by decide +kernel
theorem dX9_goes_42 : decode cX9_goes 42 = .ok (.iastore, 1) := by decide +kernel
theorem dX9_goes_43 : decode cX9_goes 43 = .ok (.iinc 2 1, 3) := by decide +kernel
theorem dX9_goes_46 : decode cX9_goes 46 = .ok (.goto (-24), 3) := by decide +kernel
theorem dX9_goes_49 : decode cX9_goes 49 = .ok (.return_, 1) := by decide +kernel
theorem dX9_thins_0 : decode cX9_thins 0 = .ok (.aload_n 0, 1) := by decide +kernel
theorem dX9_thins_1 : decode cX9_thins 1 = .ok (.bipush 6, 2) := by decide +kernel
theorem dX9_thins_3 : decode cX9_thins 3 = .ok (.iaload, 1) := by decide +kernel
theorem dX9_thins_4 : decode cX9_thins 4 = .ok (.istore_n 1, 1) := by decide +kernel
theorem dX9_thins_5 : decode cX9_thins 5 = .ok (.iload_n 1, 1) := by decide +kernel
theorem dX9_thins_6 : decode cX9_thins 6 = .ok (.iconst 1, 1) := by decide +kernel
theorem dX9_thins_7 : decode cX9_thins 7 = .ok (.isub, 1) := by decide +kernel
theorem dX9_thins_8 : decode cX9_thins 8 = .ok (.istore_n 2, 1) := by decide +kernel
theorem dX9_thins_9 : decode cX9_thins 9 = .ok (.iload_n 2, 1) := by decide +kernel
theorem dX9_thins_10 : decode cX9_thins 10 = .ok (.ifCond .lt 30, 3) := by decide +kernel
theorem dX9_thins_13 : decode cX9_thins 13 = .ok (.aload_n 0, 1) := by decide +kernel
theorem dX9_thins_14 : decode cX9_thins 14 = .ok (.iload_n 2, 1) := by decide +kernel
theorem dX9_thins_15 : decode cX9_thins 15 = .ok (.invokestatic 51, 3) := by decide +kernel
theorem dX9_thins_18 : decode cX9_thins 18 = .ok (.ifCond .eq 16, 3) := by decide +kernel
theorem dX9_thins_21 : decode cX9_thins 21 = .ok (.aload_n 0, 1) := by decide +kernel
theorem dX9_thins_22 : decode cX9_thins 22 = .ok (.iload_n 2, 1) := by decide +kernel
theorem dX9_thins_23 : decode cX9_thins 23 = .ok (.invokestatic 55, 3) := by decide +kernel
theorem dX9_thins_26 : decode cX9_thins 26 = .ok (.ifCond .ne 8, 3) := by decide +kernel
theorem dX9_thins_29 : decode cX9_thins 29 = .ok (.aload_n 0, 1) := by decide +kernel
theorem dX9_thins_30 : decode cX9_thins 30 = .ok (.iload_n 2, 1) := by decide +kernel
theorem dX9_thins_31 : decode cX9_thins 31 = .ok (.invokestatic 58, 3) := by decide +kernel
theorem dX9_thins_34 : decode cX9_thins 34 = .ok (.iinc 2 (-1), 3) := by decide +kernel
theorem dX9_thins_37 : decode cX9_thins 37 = .ok (.goto (-28), 3) := by decide +kernel
theorem dX9_thins_40 : decode cX9_thins 40 = .ok (.aload_n 0, 1) := by decide +kernel
theorem dX9_thins_41 : decode cX9_thins 41 = .ok (.bipush 6, 2) := by decide +kernel
theorem dX9_thins_43 : decode cX9_thins 43 = .ok (.iaload, 1) := by decide +kernel
theorem dX9_thins_44 : decode cX9_thins 44 = .ok (.iconst 1, 1) := by decide +kernel
theorem dX9_thins_45 : decode cX9_thins 45 = .ok (.isub, 1) := by decide +kernel
theorem dX9_thins_46 : decode cX9_thins 46 = .ok (.istore_n 2, 1) := by decide +kernel
theorem dX9_thins_47 : decode cX9_thins 47 = .ok (.iload_n 2, 1) := by decide +kernel
theorem dX9_thins_48 : decode cX9_thins 48 = .ok (.ifCond .lt 80, 3) := by decide +kernel
theorem dX9_thins_51 : decode cX9_thins 51 = .ok (.aload_n 0, 1) := by decide +kernel
theorem dX9_thins_52 : decode cX9_thins 52 = .ok (.iload_n 2, 1) := by decide +kernel
theorem dX9_thins_53 : decode cX9_thins 53 = .ok (.invokestatic 51, 3) := by decide +kernel
theorem dX9_thins_56 : decode cX9_thins 56 = .ok (.ifCond .eq 66, 3) := by decide +kernel
theorem dX9_thins_59 : decode cX9_thins 59 = .ok (.aload_n 0, 1) := by decide +kernel
theorem dX9_thins_60 : decode cX9_thins 60 = .ok (.iload_n 2, 1) := by decide +kernel
theorem dX9_thins_61 : decode cX9_thins 61 = .ok (.iconst 2, 1) := by decide +kernel
theorem dX9_thins_62 : decode cX9_thins 62 = .ok (.invokestatic 47, 3) := by decide +kernel
theorem dX9_thins_65 : decode cX9_thins 65 = .ok (.bipush (-6), 2) := by decide +kernel
theorem dX9_thins_67 : decode cX9_thins 67 = .ok (.if_icmp .ne 55, 3) := by decide +kernel
theorem dX9_thins_70 : decode cX9_thins 70 = .ok (.aload_n 0, 1) := by decide +kernel
theorem dX9_thins_71 : decode cX9_thins 71 = .ok (.iconst 2, 1) := by decide +kernel
theorem dX9_thins_72 : decode cX9_thins 72 = .ok (.iaload, 1) := by decide +kernel
theorem dX9_thins_73 : decode cX9_thins 73 = .ok (.aload_n 0, 1) := by decide +kernel
theorem dX9_thins_74 : decode cX9_thins 74 = .ok (.iload_n 2, 1) := by decide +kernel
theorem dX9_thins_75 : decode cX9_thins 75 = .ok (.iconst 3, 1) := by decide +kernel
theorem dX9_thins_76 : decode cX9_thins 76 = .ok (.invokestatic 47, 3) := by decide +kernel
theorem dX9_thins_79 : decode cX9_thins 79 = .ok (.isub, 1) := by decide +kernel
theorem dX9_thins_80 : decode cX9_thins 80 = .ok (.aload_n 0, 1) := by decide +kernel
theorem dX9_thins_81 : decode cX9_thins 81 = .ok (.iconst 1, 1) := by decide +kernel
theorem dX9_thins_82 : decode cX9_thins 82 = .ok (.iaload, 1) := by decide +kernel
theorem dX9_thins_83 : decode cX9_thins 83 = .ok (.if_icmp .le 39, 3) := by decide +kernel
theorem dX9_thins_86 : decode cX9_thins 86 = .ok (.aload_n 0, 1) := by decide +kernel
theorem dX9_thins_87 : decode cX9_thins 87 = .ok (.iconst 4, 1) := by decide +kernel
theorem dX9_thins_88 : decode cX9_thins 88 = .ok (.aload_n 0, 1) := by decide +kernel
theorem dX9_thins_89 : decode cX9_thins 89 = .ok (.iload_n 2, 1) := by decide +kernel
theorem dX9_thins_90 : decode cX9_thins 90 = .ok (.iconst 0, 1) := by decide +kernel
theorem dX9_thins_91 : decode cX9_thins 91 = .ok (.invokestatic 47, 3) := by decide +kernel
theorem dX9_thins_94 : decode cX9_thins 94 = .ok (.iconst 1, 1) := by decide +kernel
theorem dX9_thins_95 : decode cX9_thins 95 = .ok (.iadd, 1) := by decide +kernel
theorem dX9_thins_96 : decode cX9_thins 96 = .ok (.aload_n 0, 1) := by decide +kernel
theorem dX9_thins_97 : decode cX9_thins 97 = .ok (.iconst 4, 1) := by decide +kernel
theorem dX9_thins_98 : decode cX9_thins 98 = .ok (.iaload, 1) := by decide +kernel
theorem dX9_thins_99 : decode cX9_thins 99 = .ok (.if_icmp .le 14, 3) := by decide +kernel
theorem dX9_thins_102 : decode cX9_thins 102 = .ok (.aload_n 0, 1) := by decide +kernel
theorem dX9_thins_103 : decode cX9_thins 103 = .ok (.iload_n 2, 1) := by decide +kernel
theorem dX9_thins_104 : decode cX9_thins 104 = .ok (.iconst 0, 1) := by decide +kernel
theorem dX9_thins_105 : decode cX9_thins 105 = .ok (.invokestatic 47, 3) := by decide +kernel
theorem dX9_thins_108 : decode cX9_thins 108 = .ok (.iconst 1, 1) := by decide +kernel
theorem dX9_thins_109 : decode cX9_thins 109 = .ok (.iadd, 1) := by decide +kernel
theorem dX9_thins_110 : decode cX9_thins 110 = .ok (.goto 6, 3) := by decide +kernel
theorem dX9_thins_113 : decode cX9_thins 113 = .ok (.aload_n 0, 1) := by decide +kernel
theorem dX9_thins_114 : decode cX9_thins 114 = .ok (.iconst 4, 1) := by decide +kernel
theorem dX9_thins_115 : decode cX9_thins 115 = .ok (.iaload, 1) := by decide +kernel
theorem dX9_thins_116 : decode cX9_thins 116 = .ok (.iastore, 1) := by decide +kernel
theorem dX9_thins_117 : decode cX9_thins 117 = .ok (.aload_n 0, 1) := by decide +kernel
theorem dX9_thins_118 : decode cX9_thins 118 = .ok (.iload_n 2, 1) := by decide +kernel
theorem dX9_thins_119 : decode cX9_thins 119 = .ok (.invokestatic 58, 3) := by decide +kernel
theorem dX9_thins_122 : decode cX9_thins 122 = .ok (.iinc 2 (-1), 3) := by decide +kernel
theorem dX9_thins_125 : decode cX9_thins 125 = .ok (.goto (-78), 3) := by decide +kernel
theorem dX9_thins_128 : decode cX9_thins 128 = .ok (.iload_n 1, 1) := by decide +kernel
theorem dX9_thins_129 : decode cX9_thins 129 = .ok (.aload_n 0, 1) := by decide +kernel
theorem dX9_thins_130 : decode cX9_thins 130 = .ok (.bipush 6, 2) := by decide +kernel
theorem dX9_thins_132 : decode cX9_thins 132 = .ok (.iaload, 1) := by decide +kernel
theorem dX9_thins_133 : decode cX9_thins 133 = .ok (.isub, 1) := by decide +kernel
theorem dX9_thins_134 : decode cX9_thins 134 = .ok (.ireturn, 1) := by decide +kernel
theorem dX9_isLatePlace_0 : decode cX9_isLatePlace 0 = .ok (.iload_n 1, 1) := by decide +kernel
theorem dX9_isLatePlace_1 : decode cX9_isLatePlace 1 = .ok (.ifCond .le 14, 3) := by decide +kernel
theorem dX9_isLatePlace_4 : decode cX9_isLatePlace 4 = .ok (.iload_n 1, 1) := by decide +kernel
theorem dX9_isLatePlace_5 : decode cX9_isLatePlace 5 = .ok (.aload_n 0, 1) := by decide +kernel
theorem dX9_isLatePlace_6 : decode cX9_isLatePlace 6 = .ok (.iconst 4, 1) := by decide +kernel
theorem dX9_isLatePlace_7 : decode cX9_isLatePlace 7 = .ok (.iaload, 1) := by decide +kernel
theorem dX9_isLatePlace_8 : decode cX9_isLatePlace 8 = .ok (.if_icmp .ge 7, 3) := by decide +kernel
theorem dX9_isLatePlace_11 : decode cX9_isLatePlace 11 = .ok (.iconst 1, 1) := by decide +kernel
theorem dX9_isLatePlace_12 : decode cX9_isLatePlace 12 = .ok (.goto 4, 3) := by decide +kernel
theorem dX9_isLatePlace_15 : decode cX9_isLatePlace 15 = .ok (.iconst 0, 1) := by decide +kernel
theorem dX9_isLatePlace_16 : decode cX9_isLatePlace 16 = .ok (.ireturn, 1) := by decide +kernel
theorem dX9_isLate_0 : decode cX9_isLate 0 = .ok (.aload_n 0, 1) := by decide +kernel
theorem dX9_isLate_1 : decode cX9_isLate 1 = .ok (.aload_n 0, 1) := by decide +kernel
theorem dX9_isLate_2 : decode cX9_isLate 2 = .ok (.iload_n 1, 1) := by decide +kernel
theorem dX9_isLate_3 : decode cX9_isLate 3 = .ok (.invokestatic 62, 3) := by decide +kernel
theorem dX9_isLate_6 : decode cX9_isLate 6 = .ok (.iaload, 1) := by decide +kernel
theorem dX9_isLate_7 : decode cX9_isLate 7 = .ok (.invokestatic 66, 3) := by decide +kernel
theorem dX9_isLate_10 : decode cX9_isLate 10 = .ok (.ireturn, 1) := by decide +kernel
theorem dX9_lateOnes_0 : decode cX9_lateOnes 0 = .ok (.iconst 0, 1) := by decide +kernel
theorem dX9_lateOnes_1 : decode cX9_lateOnes 1 = .ok (.istore_n 1, 1) := by decide +kernel
theorem dX9_lateOnes_2 : decode cX9_lateOnes 2 = .ok (.iconst 0, 1) := by decide +kernel
theorem dX9_lateOnes_3 : decode cX9_lateOnes 3 = .ok (.istore_n 2, 1) := by decide +kernel
theorem dX9_lateOnes_4 : decode cX9_lateOnes 4 = .ok (.iload_n 2, 1) := by decide +kernel
theorem dX9_lateOnes_5 : decode cX9_lateOnes 5 = .ok (.aload_n 0, 1) := by decide +kernel
theorem dX9_lateOnes_6 : decode cX9_lateOnes 6 = .ok (.bipush 7, 2) := by decide +kernel
theorem dX9_lateOnes_8 : decode cX9_lateOnes 8 = .ok (.iaload, 1) := by decide +kernel
theorem dX9_lateOnes_9 : decode cX9_lateOnes 9 = .ok (.if_icmp .ge 27, 3) := by decide +kernel
theorem dX9_lateOnes_12 : decode cX9_lateOnes 12 = .ok (.iload_n 1, 1) := by decide +kernel
theorem dX9_lateOnes_13 : decode cX9_lateOnes 13 = .ok (.aload_n 0, 1) := by decide +kernel
theorem dX9_lateOnes_14 : decode cX9_lateOnes 14 = .ok (.iload_n 2, 1) := by decide +kernel
theorem dX9_lateOnes_15 : decode cX9_lateOnes 15 = .ok (.invokestatic 69, 3) := by decide +kernel
theorem dX9_lateOnes_18 : decode cX9_lateOnes 18 = .ok (.ifCond .eq 9, 3) := by decide +kernel
theorem dX9_lateOnes_21 : decode cX9_lateOnes 21 = .ok (.iconst 1, 1) := by decide +kernel
theorem dX9_lateOnes_22 : decode cX9_lateOnes 22 = .ok (.iload_n 2, 1) := by decide +kernel
theorem dX9_lateOnes_23 : decode cX9_lateOnes 23 = .ok (.ishl, 1) := by decide +kernel
theorem dX9_lateOnes_24 : decode cX9_lateOnes 24 = .ok (.goto 4, 3) := by decide +kernel
theorem dX9_lateOnes_27 : decode cX9_lateOnes 27 = .ok (.iconst 0, 1) := by decide +kernel
theorem dX9_lateOnes_28 : decode cX9_lateOnes 28 = .ok (.ior, 1) := by decide +kernel
theorem dX9_lateOnes_29 : decode cX9_lateOnes 29 = .ok (.istore_n 1, 1) := by decide +kernel
theorem dX9_lateOnes_30 : decode cX9_lateOnes 30 = .ok (.iinc 2 1, 3) := by decide +kernel
theorem dX9_lateOnes_33 : decode cX9_lateOnes 33 = .ok (.goto (-29), 3) := by decide +kernel
theorem dX9_lateOnes_36 : decode cX9_lateOnes 36 = .ok (.iload_n 1, 1) := by decide +kernel
theorem dX9_lateOnes_37 : decode cX9_lateOnes 37 = .ok (.ireturn, 1) := by decide +kernel
theorem dX9_ahead_0 : decode cX9_ahead 0 = .ok (.iconst 0, 1) := by decide +kernel
theorem dX9_ahead_1 : decode cX9_ahead 1 = .ok (.istore_n 2, 1) := by decide +kernel
theorem dX9_ahead_2 : decode cX9_ahead 2 = .ok (.iconst 0, 1) := by decide +kernel
theorem dX9_ahead_3 : decode cX9_ahead 3 = .ok (.istore_n 3, 1) := by decide +kernel
theorem dX9_ahead_4 : decode cX9_ahead 4 = .ok (.iload_n 3, 1) := by decide +kernel
theorem dX9_ahead_5 : decode cX9_ahead 5 = .ok (.aload_n 0, 1) := by decide +kernel
theorem dX9_ahead_6 : decode cX9_ahead 6 = .ok (.getfield 7, 3) := by decide +kernel
theorem dX9_ahead_9 : decode cX9_ahead 9 = .ok (.bipush 6, 2) := by decide +kernel
theorem dX9_ahead_11 : decode cX9_ahead 11 = .ok (.iaload, 1) := by decide +kernel
theorem dX9_ahead_12 : decode cX9_ahead 12 = .ok (.if_icmp .ge 30, 3) := by decide +kernel
theorem dX9_ahead_15 : decode cX9_ahead 15 = .ok (.iload_n 2, 1) := by decide +kernel
theorem dX9_ahead_16 : decode cX9_ahead 16 = .ok (.aload_n 0, 1) := by decide +kernel
theorem dX9_ahead_17 : decode cX9_ahead 17 = .ok (.getfield 7, 3) := by decide +kernel
theorem dX9_ahead_20 : decode cX9_ahead 20 = .ok (.iload_n 3, 1) := by decide +kernel
theorem dX9_ahead_21 : decode cX9_ahead 21 = .ok (.iconst 0, 1) := by decide +kernel
theorem dX9_ahead_22 : decode cX9_ahead 22 = .ok (.invokestatic 47, 3) := by decide +kernel
theorem dX9_ahead_25 : decode cX9_ahead 25 = .ok (.iload_n 1, 1) := by decide +kernel
theorem dX9_ahead_26 : decode cX9_ahead 26 = .ok (.if_icmp .lt 7, 3) := by decide +kernel
theorem dX9_ahead_29 : decode cX9_ahead 29 = .ok (.iconst 1, 1) := by decide +kernel
theorem dX9_ahead_30 : decode cX9_ahead 30 = .ok (.goto 4, 3) := by decide +kernel
theorem dX9_ahead_33 : decode cX9_ahead 33 = .ok (.iconst 0, 1) := by decide +kernel
theorem dX9_ahead_34 : decode cX9_ahead 34 = .ok (.iadd, 1) := by decide +kernel
theorem dX9_ahead_35 : decode cX9_ahead 35 = .ok (.istore_n 2, 1) := by decide +kernel
theorem dX9_ahead_36 : decode cX9_ahead 36 = .ok (.iinc 3 1, 3) := by decide +kernel
theorem dX9_ahead_39 : decode cX9_ahead 39 = .ok (.goto (-35), 3) := by decide +kernel
theorem dX9_ahead_42 : decode cX9_ahead 42 = .ok (.iload_n 2, 1) := by decide +kernel
theorem dX9_ahead_43 : decode cX9_ahead 43 = .ok (.ireturn, 1) := by decide +kernel
theorem dX9_turn_0 : decode cX9_turn 0 = .ok (.iload_n 1, 1) := by decide +kernel
theorem dX9_turn_1 : decode cX9_turn 1 = .ok (.ifCond .ne 16, 3) := by decide +kernel
theorem dX9_turn_4 : decode cX9_turn 4 = .ok (.iload_n 2, 1) := by decide +kernel
theorem dX9_turn_5 : decode cX9_turn 5 = .ok (.iconst 1, 1) := by decide +kernel
theorem dX9_turn_6 : decode cX9_turn 6 = .ok (.bipush 20, 2) := by decide +kernel
theorem dX9_turn_8 : decode cX9_turn 8 = .ok (.invokestatic 32, 3) := by decide +kernel
theorem dX9_turn_11 : decode cX9_turn 11 = .ok (.ifCond .ne 25, 3) := by decide +kernel
theorem dX9_turn_14 : decode cX9_turn 14 = .ok (.goto 19, 3) := by decide +kernel
theorem dX9_turn_17 : decode cX9_turn 17 = .ok (.iload_n 1, 1) := by decide +kernel
theorem dX9_turn_18 : decode cX9_turn 18 = .ok (.iconst 1, 1) := by decide +kernel
theorem dX9_turn_19 : decode cX9_turn 19 = .ok (.if_icmp .ne 14, 3) := by decide +kernel
theorem dX9_turn_22 : decode cX9_turn 22 = .ok (.iload_n 2, 1) := by decide +kernel
theorem dX9_turn_23 : decode cX9_turn 23 = .ok (.iconst 0, 1) := by decide +kernel
theorem dX9_turn_24 : decode cX9_turn 24 = .ok (.sipush 999, 3) := by decide +kernel
theorem dX9_turn_27 : decode cX9_turn 27 = .ok (.invokestatic 32, 3) := by decide +kernel
theorem dX9_turn_30 : decode cX9_turn 30 = .ok (.ifCond .ne 6, 3) := by decide +kernel
theorem dX9_turn_33 : decode cX9_turn 33 = .ok (.bipush (-2), 2) := by decide +kernel
theorem dX9_turn_35 : decode cX9_turn 35 = .ok (.ireturn, 1) := by decide +kernel
theorem dX9_turn_36 : decode cX9_turn 36 = .ok (.aload_n 0, 1) := by decide +kernel
theorem dX9_turn_37 : decode cX9_turn 37 = .ok (.invokevirtual 44, 3) := by decide +kernel
theorem dX9_turn_40 : decode cX9_turn 40 = .ok (.aload_n 0, 1) := by decide +kernel
theorem dX9_turn_41 : decode cX9_turn 41 = .ok (.getfield 7, 3) := by decide +kernel
theorem dX9_turn_44 : decode cX9_turn 44 = .ok (.iload_n 1, 1) := by decide +kernel
theorem dX9_turn_45 : decode cX9_turn 45 = .ok (.iaload, 1) := by decide +kernel
theorem dX9_turn_46 : decode cX9_turn 46 = .ok (.istore_n 3, 1) := by decide +kernel
theorem dX9_turn_47 : decode cX9_turn 47 = .ok (.aload_n 0, 1) := by decide +kernel
theorem dX9_turn_48 : decode cX9_turn 48 = .ok (.getfield 7, 3) := by decide +kernel
theorem dX9_turn_51 : decode cX9_turn 51 = .ok (.iload_n 1, 1) := by decide +kernel
theorem dX9_turn_52 : decode cX9_turn 52 = .ok (.iload_n 2, 1) := by decide +kernel
theorem dX9_turn_53 : decode cX9_turn 53 = .ok (.iastore, 1) := by decide +kernel
theorem dX9_turn_54 : decode cX9_turn 54 = .ok (.iload_n 3, 1) := by decide +kernel
theorem dX9_turn_55 : decode cX9_turn 55 = .ok (.ireturn, 1) := by decide +kernel
theorem dX9_maySet_0 : decode cX9_maySet 0 = .ok (.iload_n 1, 1) := by decide +kernel
theorem dX9_maySet_1 : decode cX9_maySet 1 = .ok (.invokestatic 72, 3) := by decide +kernel
theorem dX9_maySet_4 : decode cX9_maySet 4 = .ok (.ifCond .ne 5, 3) := by decide +kernel
theorem dX9_maySet_7 : decode cX9_maySet 7 = .ok (.iconst (-1), 1) := by decide +kernel
theorem dX9_maySet_8 : decode cX9_maySet 8 = .ok (.ireturn, 1) := by decide +kernel
theorem dX9_maySet_9 : decode cX9_maySet 9 = .ok (.iload_n 2, 1) := by decide +kernel
theorem dX9_maySet_10 : decode cX9_maySet 10 = .ok (.iconst 0, 1) := by decide +kernel
theorem dX9_maySet_11 : decode cX9_maySet 11 = .ok (.sipush 999, 3) := by decide +kernel
theorem dX9_maySet_14 : decode cX9_maySet 14 = .ok (.invokestatic 32, 3) := by decide +kernel
theorem dX9_maySet_17 : decode cX9_maySet 17 = .ok (.ifCond .ne 8, 3) := by decide +kernel
theorem dX9_maySet_20 : decode cX9_maySet 20 = .ok (.bipush (-2), 2) := by decide +kernel
theorem dX9_maySet_22 : decode cX9_maySet 22 = .ok (.goto 21, 3) := by decide +kernel
theorem dX9_maySet_25 : decode cX9_maySet 25 = .ok (.aload_n 0, 1) := by decide +kernel
theorem dX9_maySet_26 : decode cX9_maySet 26 = .ok (.getfield 7, 3) := by decide +kernel
theorem dX9_maySet_29 : decode cX9_maySet 29 = .ok (.bipush 6, 2) := by decide +kernel
theorem dX9_maySet_31 : decode cX9_maySet 31 = .ok (.iaload, 1) := by decide +kernel
theorem dX9_maySet_32 : decode cX9_maySet 32 = .ok (.bipush 60, 2) := by decide +kernel
theorem dX9_maySet_34 : decode cX9_maySet 34 = .ok (.if_icmp .ne 8, 3) := by decide +kernel
theorem dX9_maySet_37 : decode cX9_maySet 37 = .ok (.bipush (-4), 2) := by decide +kernel
theorem dX9_maySet_39 : decode cX9_maySet 39 = .ok (.goto 4, 3) := by decide +kernel
theorem dX9_maySet_42 : decode cX9_maySet 42 = .ok (.iconst 0, 1) := by decide +kernel
theorem dX9_maySet_43 : decode cX9_maySet 43 = .ok (.ireturn, 1) := by decide +kernel
theorem dX9_sets_0 : decode cX9_sets 0 = .ok (.bipush 21, 2) := by decide +kernel
theorem dX9_sets_2 : decode cX9_sets 2 = .ok (.iconst 4, 1) := by decide +kernel
theorem dX9_sets_3 : decode cX9_sets 3 = .ok (.aload_n 0, 1) := by decide +kernel
theorem dX9_sets_4 : decode cX9_sets 4 = .ok (.getfield 7, 3) := by decide +kernel
theorem dX9_sets_7 : decode cX9_sets 7 = .ok (.bipush 6, 2) := by decide +kernel
theorem dX9_sets_9 : decode cX9_sets 9 = .ok (.iaload, 1) := by decide +kernel
theorem dX9_sets_10 : decode cX9_sets 10 = .ok (.imul, 1) := by decide +kernel
theorem dX9_sets_11 : decode cX9_sets 11 = .ok (.iadd, 1) := by decide +kernel
theorem dX9_sets_12 : decode cX9_sets 12 = .ok (.istore_n 3, 1) := by decide +kernel
theorem dX9_sets_13 : decode cX9_sets 13 = .ok (.aload_n 0, 1) := by decide +kernel
theorem dX9_sets_14 : decode cX9_sets 14 = .ok (.getfield 7, 3) := by decide +kernel
theorem dX9_sets_17 : decode cX9_sets 17 = .ok (.iload_n 3, 1) := by decide +kernel
theorem dX9_sets_18 : decode cX9_sets 18 = .ok (.aload_n 0, 1) := by decide +kernel
theorem dX9_sets_19 : decode cX9_sets 19 = .ok (.getfield 7, 3) := by decide +kernel
theorem dX9_sets_22 : decode cX9_sets 22 = .ok (.iconst 3, 1) := by decide +kernel
theorem dX9_sets_23 : decode cX9_sets 23 = .ok (.iaload, 1) := by decide +kernel
theorem dX9_sets_24 : decode cX9_sets 24 = .ok (.iastore, 1) := by decide +kernel
theorem dX9_sets_25 : decode cX9_sets 25 = .ok (.aload_n 0, 1) := by decide +kernel
theorem dX9_sets_26 : decode cX9_sets 26 = .ok (.getfield 7, 3) := by decide +kernel
theorem dX9_sets_29 : decode cX9_sets 29 = .ok (.iload_n 3, 1) := by decide +kernel
theorem dX9_sets_30 : decode cX9_sets 30 = .ok (.iconst 1, 1) := by decide +kernel
theorem dX9_sets_31 : decode cX9_sets 31 = .ok (.iadd, 1) := by decide +kernel
theorem dX9_sets_32 : decode cX9_sets 32 = .ok (.iload_n 1, 1) := by decide +kernel
theorem dX9_sets_33 : decode cX9_sets 33 = .ok (.iastore, 1) := by decide +kernel
theorem dX9_sets_34 : decode cX9_sets 34 = .ok (.aload_n 0, 1) := by decide +kernel
theorem dX9_sets_35 : decode cX9_sets 35 = .ok (.getfield 7, 3) := by decide +kernel
theorem dX9_sets_38 : decode cX9_sets 38 = .ok (.iload_n 3, 1) := by decide +kernel
theorem dX9_sets_39 : decode cX9_sets 39 = .ok (.iconst 2, 1) := by decide +kernel
theorem dX9_sets_40 : decode cX9_sets 40 = .ok (.iadd, 1) := by decide +kernel
theorem dX9_sets_41 : decode cX9_sets 41 = .ok (.iload_n 2, 1) := by decide +kernel
theorem dX9_sets_42 : decode cX9_sets 42 = .ok (.iastore, 1) := by decide +kernel
theorem dX9_sets_43 : decode cX9_sets 43 = .ok (.aload_n 0, 1) := by decide +kernel
theorem dX9_sets_44 : decode cX9_sets 44 = .ok (.getfield 7, 3) := by decide +kernel
theorem dX9_sets_47 : decode cX9_sets 47 = .ok (.iload_n 3, 1) := by decide +kernel
theorem dX9_sets_48 : decode cX9_sets 48 = .ok (.iconst 3, 1) := by decide +kernel
theorem dX9_sets_49 : decode cX9_sets 49 = .ok (.iadd, 1) := by decide +kernel
theorem dX9_sets_50 : decode cX9_sets 50 = .ok (.aload_n 0, 1) := by decide +kernel
theorem dX9_sets_51 : decode cX9_sets 51 = .ok (.getfield 7, 3) := by decide +kernel
theorem dX9_sets_54 : decode cX9_sets 54 = .ok (.iconst 2, 1) := by decide +kernel
theorem dX9_sets_55 : decode cX9_sets 55 = .ok (.iaload, 1) := by decide +kernel
theorem dX9_sets_56 : decode cX9_sets 56 = .ok (.iastore, 1) := by decide +kernel
theorem dX9_sets_57 : decode cX9_sets 57 = .ok (.aload_n 0, 1) := by decide +kernel
theorem dX9_sets_58 : decode cX9_sets 58 = .ok (.getfield 7, 3) := by decide +kernel
theorem dX9_sets_61 : decode cX9_sets 61 = .ok (.bipush 6, 2) := by decide +kernel
theorem dX9_sets_63 : decode cX9_sets 63 = .ok (.dup2, 1) := by decide +kernel
theorem dX9_sets_64 : decode cX9_sets 64 = .ok (.iaload, 1) := by decide +kernel
theorem dX9_sets_65 : decode cX9_sets 65 = .ok (.iconst 1, 1) := by decide +kernel
theorem dX9_sets_66 : decode cX9_sets 66 = .ok (.iadd, 1) := by decide +kernel
theorem dX9_sets_67 : decode cX9_sets 67 = .ok (.iastore, 1) := by decide +kernel
theorem dX9_sets_68 : decode cX9_sets 68 = .ok (.aload_n 0, 1) := by decide +kernel
theorem dX9_sets_69 : decode cX9_sets 69 = .ok (.getfield 7, 3) := by decide +kernel
theorem dX9_sets_72 : decode cX9_sets 72 = .ok (.bipush 9, 2) := by decide +kernel
theorem dX9_sets_74 : decode cX9_sets 74 = .ok (.iload_n 1, 1) := by decide +kernel
theorem dX9_sets_75 : decode cX9_sets 75 = .ok (.iadd, 1) := by decide +kernel
theorem dX9_sets_76 : decode cX9_sets 76 = .ok (.iload_n 2, 1) := by decide +kernel
theorem dX9_sets_77 : decode cX9_sets 77 = .ok (.iastore, 1) := by decide +kernel
theorem dX9_sets_78 : decode cX9_sets 78 = .ok (.aload_n 0, 1) := by decide +kernel
theorem dX9_sets_79 : decode cX9_sets 79 = .ok (.getfield 7, 3) := by decide +kernel
theorem dX9_sets_82 : decode cX9_sets 82 = .ok (.iconst 3, 1) := by decide +kernel
theorem dX9_sets_83 : decode cX9_sets 83 = .ok (.dup2, 1) := by decide +kernel
theorem dX9_sets_84 : decode cX9_sets 84 = .ok (.iaload, 1) := by decide +kernel
theorem dX9_sets_85 : decode cX9_sets 85 = .ok (.iconst 1, 1) := by decide +kernel
theorem dX9_sets_86 : decode cX9_sets 86 = .ok (.iadd, 1) := by decide +kernel
theorem dX9_sets_87 : decode cX9_sets 87 = .ok (.iastore, 1) := by decide +kernel
theorem dX9_sets_88 : decode cX9_sets 88 = .ok (.aload_n 0, 1) := by decide +kernel
theorem dX9_sets_89 : decode cX9_sets 89 = .ok (.getfield 7, 3) := by decide +kernel
theorem dX9_sets_92 : decode cX9_sets 92 = .ok (.iconst 3, 1) := by decide +kernel
theorem dX9_sets_93 : decode cX9_sets 93 = .ok (.iaload, 1) := by decide +kernel
theorem dX9_sets_94 : decode cX9_sets 94 = .ok (.iconst 1, 1) := by decide +kernel
theorem dX9_sets_95 : decode cX9_sets 95 = .ok (.isub, 1) := by decide +kernel
theorem dX9_sets_96 : decode cX9_sets 96 = .ok (.ireturn, 1) := by decide +kernel
theorem dX9_set_0 : decode cX9_set 0 = .ok (.aload_n 0, 1) := by decide +kernel
theorem dX9_set_1 : decode cX9_set 1 = .ok (.iload_n 1, 1) := by decide +kernel
theorem dX9_set_2 : decode cX9_set 2 = .ok (.iload_n 2, 1) := by decide +kernel
theorem dX9_set_3 : decode cX9_set 3 = .ok (.invokevirtual 76, 3) := by decide +kernel
theorem dX9_set_6 : decode cX9_set 6 = .ok (.istore_n 3, 1) := by decide +kernel
theorem dX9_set_7 : decode cX9_set 7 = .ok (.iload_n 3, 1) := by decide +kernel
theorem dX9_set_8 : decode cX9_set 8 = .ok (.ifCond .eq 5, 3) := by decide +kernel
theorem dX9_set_11 : decode cX9_set 11 = .ok (.iload_n 3, 1) := by decide +kernel
theorem dX9_set_12 : decode cX9_set 12 = .ok (.ireturn, 1) := by decide +kernel
theorem dX9_set_13 : decode cX9_set 13 = .ok (.aload_n 0, 1) := by decide +kernel
theorem dX9_set_14 : decode cX9_set 14 = .ok (.invokevirtual 44, 3) := by decide +kernel
theorem dX9_set_17 : decode cX9_set 17 = .ok (.aload_n 0, 1) := by decide +kernel
theorem dX9_set_18 : decode cX9_set 18 = .ok (.iload_n 1, 1) := by decide +kernel
theorem dX9_set_19 : decode cX9_set 19 = .ok (.iload_n 2, 1) := by decide +kernel
theorem dX9_set_20 : decode cX9_set 20 = .ok (.invokevirtual 80, 3) := by decide +kernel
theorem dX9_set_23 : decode cX9_set 23 = .ok (.ireturn, 1) := by decide +kernel
theorem dX9_mayRemove_0 : decode cX9_mayRemove 0 = .ok (.iload_n 1, 1) := by decide +kernel
theorem dX9_mayRemove_1 : decode cX9_mayRemove 1 = .ok (.invokestatic 72, 3) := by decide +kernel
theorem dX9_mayRemove_4 : decode cX9_mayRemove 4 = .ok (.ifCond .ne 5, 3) := by decide +kernel
theorem dX9_mayRemove_7 : decode cX9_mayRemove 7 = .ok (.iconst (-1), 1) := by decide +kernel
theorem dX9_mayRemove_8 : decode cX9_mayRemove 8 = .ok (.ireturn, 1) := by decide +kernel
theorem dX9_mayRemove_9 : decode cX9_mayRemove 9 = .ok (.aload_n 0, 1) := by decide +kernel
theorem dX9_mayRemove_10 : decode cX9_mayRemove 10 = .ok (.getfield 7, 3) := by decide +kernel
theorem dX9_mayRemove_13 : decode cX9_mayRemove 13 = .ok (.bipush 6, 2) := by decide +kernel
theorem dX9_mayRemove_15 : decode cX9_mayRemove 15 = .ok (.iaload, 1) := by decide +kernel
theorem dX9_mayRemove_16 : decode cX9_mayRemove 16 = .ok (.bipush 60, 2) := by decide +kernel
theorem dX9_mayRemove_18 : decode cX9_mayRemove 18 = .ok (.if_icmp .ne 8, 3) := by decide +kernel
theorem dX9_mayRemove_21 : decode cX9_mayRemove 21 = .ok (.bipush (-4), 2) := by decide +kernel
theorem dX9_mayRemove_23 : decode cX9_mayRemove 23 = .ok (.goto 23, 3) := by decide +kernel
theorem dX9_mayRemove_26 : decode cX9_mayRemove 26 = .ok (.aload_n 0, 1) := by decide +kernel
theorem dX9_mayRemove_27 : decode cX9_mayRemove 27 = .ok (.getfield 7, 3) := by decide +kernel
theorem dX9_mayRemove_30 : decode cX9_mayRemove 30 = .ok (.bipush 9, 2) := by decide +kernel
theorem dX9_mayRemove_32 : decode cX9_mayRemove 32 = .ok (.iload_n 1, 1) := by decide +kernel
theorem dX9_mayRemove_33 : decode cX9_mayRemove 33 = .ok (.iadd, 1) := by decide +kernel
theorem dX9_mayRemove_34 : decode cX9_mayRemove 34 = .ok (.iaload, 1) := by decide +kernel
theorem dX9_mayRemove_35 : decode cX9_mayRemove 35 = .ok (.bipush (-6), 2) := by decide +kernel
theorem dX9_mayRemove_37 : decode cX9_mayRemove 37 = .ok (.if_icmp .ne 8, 3) := by decide +kernel
theorem dX9_mayRemove_40 : decode cX9_mayRemove 40 = .ok (.bipush (-5), 2) := by decide +kernel
theorem dX9_mayRemove_42 : decode cX9_mayRemove 42 = .ok (.goto 4, 3) := by decide +kernel
theorem dX9_mayRemove_45 : decode cX9_mayRemove 45 = .ok (.iconst 0, 1) := by decide +kernel
theorem dX9_mayRemove_46 : decode cX9_mayRemove 46 = .ok (.ireturn, 1) := by decide +kernel
theorem dX9_remove_0 : decode cX9_remove 0 = .ok (.aload_n 0, 1) := by decide +kernel
theorem dX9_remove_1 : decode cX9_remove 1 = .ok (.iload_n 1, 1) := by decide +kernel
theorem dX9_remove_2 : decode cX9_remove 2 = .ok (.invokevirtual 83, 3) := by decide +kernel
theorem dX9_remove_5 : decode cX9_remove 5 = .ok (.istore_n 2, 1) := by decide +kernel
theorem dX9_remove_6 : decode cX9_remove 6 = .ok (.iload_n 2, 1) := by decide +kernel
theorem dX9_remove_7 : decode cX9_remove 7 = .ok (.ifCond .eq 5, 3) := by decide +kernel
theorem dX9_remove_10 : decode cX9_remove 10 = .ok (.iload_n 2, 1) := by decide +kernel
theorem dX9_remove_11 : decode cX9_remove 11 = .ok (.ireturn, 1) := by decide +kernel
theorem dX9_remove_12 : decode cX9_remove 12 = .ok (.aload_n 0, 1) := by decide +kernel
theorem dX9_remove_13 : decode cX9_remove 13 = .ok (.invokevirtual 44, 3) := by decide +kernel
theorem dX9_remove_16 : decode cX9_remove 16 = .ok (.aload_n 0, 1) := by decide +kernel
theorem dX9_remove_17 : decode cX9_remove 17 = .ok (.iload_n 1, 1) := by decide +kernel
theorem dX9_remove_18 : decode cX9_remove 18 = .ok (.bipush (-6), 2) := by decide +kernel
theorem dX9_remove_20 : decode cX9_remove 20 = .ok (.invokevirtual 80, 3) := by decide +kernel
theorem dX9_remove_23 : decode cX9_remove 23 = .ok (.ireturn, 1) := by decide +kernel
theorem dX9_mayPass_0 : decode cX9_mayPass 0 = .ok (.iload_n 1, 1) := by decide +kernel
theorem dX9_mayPass_1 : decode cX9_mayPass 1 = .ok (.iconst 1, 1) := by decide +kernel
theorem dX9_mayPass_2 : decode cX9_mayPass 2 = .ok (.sipush 999, 3) := by decide +kernel
theorem dX9_mayPass_5 : decode cX9_mayPass 5 = .ok (.invokestatic 32, 3) := by decide +kernel
theorem dX9_mayPass_8 : decode cX9_mayPass 8 = .ok (.ifCond .ne 8, 3) := by decide +kernel
theorem dX9_mayPass_11 : decode cX9_mayPass 11 = .ok (.bipush (-2), 2) := by decide +kernel
theorem dX9_mayPass_13 : decode cX9_mayPass 13 = .ok (.goto 22, 3) := by decide +kernel
theorem dX9_mayPass_16 : decode cX9_mayPass 16 = .ok (.aload_n 0, 1) := by decide +kernel
theorem dX9_mayPass_17 : decode cX9_mayPass 17 = .ok (.getfield 7, 3) := by decide +kernel
theorem dX9_mayPass_20 : decode cX9_mayPass 20 = .ok (.iconst 2, 1) := by decide +kernel
theorem dX9_mayPass_21 : decode cX9_mayPass 21 = .ok (.iaload, 1) := by decide +kernel
theorem dX9_mayPass_22 : decode cX9_mayPass 22 = .ok (.iload_n 1, 1) := by decide +kernel
theorem dX9_mayPass_23 : decode cX9_mayPass 23 = .ok (.iadd, 1) := by decide +kernel
theorem dX9_mayPass_24 : decode cX9_mayPass 24 = .ok (.ldc 86, 2) := by decide +kernel
theorem dX9_mayPass_26 : decode cX9_mayPass 26 = .ok (.if_icmp .le 8, 3) := by decide +kernel
theorem dX9_mayPass_29 : decode cX9_mayPass 29 = .ok (.bipush (-4), 2) := by decide +kernel
theorem dX9_mayPass_31 : decode cX9_mayPass 31 = .ok (.goto 4, 3) := by decide +kernel
theorem dX9_mayPass_34 : decode cX9_mayPass 34 = .ok (.iconst 0, 1) := by decide +kernel
theorem dX9_mayPass_35 : decode cX9_mayPass 35 = .ok (.ireturn, 1) := by decide +kernel
theorem dX9_pass_0 : decode cX9_pass 0 = .ok (.aload_n 0, 1) := by decide +kernel
theorem dX9_pass_1 : decode cX9_pass 1 = .ok (.iload_n 1, 1) := by decide +kernel
theorem dX9_pass_2 : decode cX9_pass 2 = .ok (.invokevirtual 87, 3) := by decide +kernel
theorem dX9_pass_5 : decode cX9_pass 5 = .ok (.istore_n 2, 1) := by decide +kernel
theorem dX9_pass_6 : decode cX9_pass 6 = .ok (.iload_n 2, 1) := by decide +kernel
theorem dX9_pass_7 : decode cX9_pass 7 = .ok (.ifCond .eq 5, 3) := by decide +kernel
theorem dX9_pass_10 : decode cX9_pass 10 = .ok (.iload_n 2, 1) := by decide +kernel
theorem dX9_pass_11 : decode cX9_pass 11 = .ok (.ireturn, 1) := by decide +kernel
theorem dX9_pass_12 : decode cX9_pass 12 = .ok (.aload_n 0, 1) := by decide +kernel
theorem dX9_pass_13 : decode cX9_pass 13 = .ok (.invokevirtual 44, 3) := by decide +kernel
theorem dX9_pass_16 : decode cX9_pass 16 = .ok (.aload_n 0, 1) := by decide +kernel
theorem dX9_pass_17 : decode cX9_pass 17 = .ok (.getfield 7, 3) := by decide +kernel
theorem dX9_pass_20 : decode cX9_pass 20 = .ok (.iconst 2, 1) := by decide +kernel
theorem dX9_pass_21 : decode cX9_pass 21 = .ok (.dup2, 1) := by decide +kernel
theorem dX9_pass_22 : decode cX9_pass 22 = .ok (.iaload, 1) := by decide +kernel
theorem dX9_pass_23 : decode cX9_pass 23 = .ok (.iload_n 1, 1) := by decide +kernel
theorem dX9_pass_24 : decode cX9_pass 24 = .ok (.iadd, 1) := by decide +kernel
theorem dX9_pass_25 : decode cX9_pass 25 = .ok (.iastore, 1) := by decide +kernel
theorem dX9_pass_26 : decode cX9_pass 26 = .ok (.aload_n 0, 1) := by decide +kernel
theorem dX9_pass_27 : decode cX9_pass 27 = .ok (.getfield 7, 3) := by decide +kernel
theorem dX9_pass_30 : decode cX9_pass 30 = .ok (.iconst 2, 1) := by decide +kernel
theorem dX9_pass_31 : decode cX9_pass 31 = .ok (.iaload, 1) := by decide +kernel
theorem dX9_pass_32 : decode cX9_pass 32 = .ok (.ireturn, 1) := by decide +kernel
theorem dX9_thin_0 : decode cX9_thin 0 = .ok (.aload_n 0, 1) := by decide +kernel
theorem dX9_thin_1 : decode cX9_thin 1 = .ok (.invokevirtual 44, 3) := by decide +kernel
theorem dX9_thin_4 : decode cX9_thin 4 = .ok (.aload_n 0, 1) := by decide +kernel
theorem dX9_thin_5 : decode cX9_thin 5 = .ok (.getfield 7, 3) := by decide +kernel
theorem dX9_thin_8 : decode cX9_thin 8 = .ok (.invokestatic 90, 3) := by decide +kernel
theorem dX9_thin_11 : decode cX9_thin 11 = .ok (.ireturn, 1) := by decide +kernel
theorem dX9_shoots_0 : decode cX9_shoots 0 = .ok (.sipush 474, 3) := by decide +kernel
theorem dX9_shoots_3 : decode cX9_shoots 3 = .ok (.istore_n 1, 1) := by decide +kernel
theorem dX9_shoots_4 : decode cX9_shoots 4 = .ok (.iload_n 1, 1) := by decide +kernel
theorem dX9_shoots_5 : decode cX9_shoots 5 = .ok (.sipush 436, 3) := by decide +kernel
theorem dX9_shoots_8 : decode cX9_shoots 8 = .ok (.if_icmp .lt 24, 3) := by decide +kernel
theorem dX9_shoots_11 : decode cX9_shoots 11 = .ok (.aload_n 0, 1) := by decide +kernel
theorem dX9_shoots_12 : decode cX9_shoots 12 = .ok (.getfield 7, 3) := by decide +kernel
theorem dX9_shoots_15 : decode cX9_shoots 15 = .ok (.iload_n 1, 1) := by decide +kernel
theorem dX9_shoots_16 : decode cX9_shoots 16 = .ok (.aload_n 0, 1) := by decide +kernel
theorem dX9_shoots_17 : decode cX9_shoots 17 = .ok (.getfield 7, 3) := by decide +kernel
theorem dX9_shoots_20 : decode cX9_shoots 20 = .ok (.iload_n 1, 1) := by decide +kernel
theorem dX9_shoots_21 : decode cX9_shoots 21 = .ok (.bipush 13, 2) := by decide +kernel
theorem dX9_shoots_23 : decode cX9_shoots 23 = .ok (.isub, 1) := by decide +kernel
theorem dX9_shoots_24 : decode cX9_shoots 24 = .ok (.iaload, 1) := by decide +kernel
theorem dX9_shoots_25 : decode cX9_shoots 25 = .ok (.iastore, 1) := by decide +kernel
theorem dX9_shoots_26 : decode cX9_shoots 26 = .ok (.iinc 1 (-1), 3) := by decide +kernel
theorem dX9_shoots_29 : decode cX9_shoots 29 = .ok (.goto (-25), 3) := by decide +kernel
theorem dX9_shoots_32 : decode cX9_shoots 32 = .ok (.aload_n 0, 1) := by decide +kernel
theorem dX9_shoots_33 : decode cX9_shoots 33 = .ok (.getfield 7, 3) := by decide +kernel
theorem dX9_shoots_36 : decode cX9_shoots 36 = .ok (.sipush 423, 3) := by decide +kernel
theorem dX9_shoots_39 : decode cX9_shoots 39 = .ok (.aload_n 0, 1) := by decide +kernel
theorem dX9_shoots_40 : decode cX9_shoots 40 = .ok (.getfield 7, 3) := by decide +kernel
theorem dX9_shoots_43 : decode cX9_shoots 43 = .ok (.iconst 3, 1) := by decide +kernel
theorem dX9_shoots_44 : decode cX9_shoots 44 = .ok (.iaload, 1) := by decide +kernel
theorem dX9_shoots_45 : decode cX9_shoots 45 = .ok (.iastore, 1) := by decide +kernel
theorem dX9_shoots_46 : decode cX9_shoots 46 = .ok (.iconst 0, 1) := by decide +kernel
theorem dX9_shoots_47 : decode cX9_shoots 47 = .ok (.istore_n 1, 1) := by decide +kernel
theorem dX9_shoots_48 : decode cX9_shoots 48 = .ok (.iload_n 1, 1) := by decide +kernel
theorem dX9_shoots_49 : decode cX9_shoots 49 = .ok (.bipush 12, 2) := by decide +kernel
theorem dX9_shoots_51 : decode cX9_shoots 51 = .ok (.if_icmp .ge 28, 3) := by decide +kernel
theorem dX9_shoots_54 : decode cX9_shoots 54 = .ok (.aload_n 0, 1) := by decide +kernel
theorem dX9_shoots_55 : decode cX9_shoots 55 = .ok (.getfield 7, 3) := by decide +kernel
theorem dX9_shoots_58 : decode cX9_shoots 58 = .ok (.sipush 424, 3) := by decide +kernel
theorem dX9_shoots_61 : decode cX9_shoots 61 = .ok (.iload_n 1, 1) := by decide +kernel
theorem dX9_shoots_62 : decode cX9_shoots 62 = .ok (.iadd, 1) := by decide +kernel
theorem dX9_shoots_63 : decode cX9_shoots 63 = .ok (.aload_n 0, 1) := by decide +kernel
theorem dX9_shoots_64 : decode cX9_shoots 64 = .ok (.getfield 7, 3) := by decide +kernel
theorem dX9_shoots_67 : decode cX9_shoots 67 = .ok (.bipush 9, 2) := by decide +kernel
theorem dX9_shoots_69 : decode cX9_shoots 69 = .ok (.iload_n 1, 1) := by decide +kernel
theorem dX9_shoots_70 : decode cX9_shoots 70 = .ok (.iadd, 1) := by decide +kernel
theorem dX9_shoots_71 : decode cX9_shoots 71 = .ok (.iaload, 1) := by decide +kernel
theorem dX9_shoots_72 : decode cX9_shoots 72 = .ok (.iastore, 1) := by decide +kernel
theorem dX9_shoots_73 : decode cX9_shoots 73 = .ok (.iinc 1 1, 3) := by decide +kernel
theorem dX9_shoots_76 : decode cX9_shoots 76 = .ok (.goto (-28), 3) := by decide +kernel
theorem dX9_shoots_79 : decode cX9_shoots 79 = .ok (.aload_n 0, 1) := by decide +kernel
theorem dX9_shoots_80 : decode cX9_shoots 80 = .ok (.getfield 7, 3) := by decide +kernel
theorem dX9_shoots_83 : decode cX9_shoots 83 = .ok (.bipush 8, 2) := by decide +kernel
theorem dX9_shoots_85 : decode cX9_shoots 85 = .ok (.dup2, 1) := by decide +kernel
theorem dX9_shoots_86 : decode cX9_shoots 86 = .ok (.iaload, 1) := by decide +kernel
theorem dX9_shoots_87 : decode cX9_shoots 87 = .ok (.aload_n 0, 1) := by decide +kernel
theorem dX9_shoots_88 : decode cX9_shoots 88 = .ok (.getfield 7, 3) := by decide +kernel
theorem dX9_shoots_91 : decode cX9_shoots 91 = .ok (.bipush 8, 2) := by decide +kernel
theorem dX9_shoots_93 : decode cX9_shoots 93 = .ok (.iaload, 1) := by decide +kernel
theorem dX9_shoots_94 : decode cX9_shoots 94 = .ok (.iconst 4, 1) := by decide +kernel
theorem dX9_shoots_95 : decode cX9_shoots 95 = .ok (.if_icmp .ge 7, 3) := by decide +kernel
theorem dX9_shoots_98 : decode cX9_shoots 98 = .ok (.iconst 1, 1) := by decide +kernel
theorem dX9_shoots_99 : decode cX9_shoots 99 = .ok (.goto 4, 3) := by decide +kernel
theorem dX9_shoots_102 : decode cX9_shoots 102 = .ok (.iconst 0, 1) := by decide +kernel
theorem dX9_shoots_103 : decode cX9_shoots 103 = .ok (.iadd, 1) := by decide +kernel
theorem dX9_shoots_104 : decode cX9_shoots 104 = .ok (.iastore, 1) := by decide +kernel
theorem dX9_shoots_105 : decode cX9_shoots 105 = .ok (.aload_n 0, 1) := by decide +kernel
theorem dX9_shoots_106 : decode cX9_shoots 106 = .ok (.getfield 7, 3) := by decide +kernel
theorem dX9_shoots_109 : decode cX9_shoots 109 = .ok (.iconst 3, 1) := by decide +kernel
theorem dX9_shoots_110 : decode cX9_shoots 110 = .ok (.iaload, 1) := by decide +kernel
theorem dX9_shoots_111 : decode cX9_shoots 111 = .ok (.ireturn, 1) := by decide +kernel
theorem dX9_snapshot_0 : decode cX9_snapshot 0 = .ok (.aload_n 0, 1) := by decide +kernel
theorem dX9_snapshot_1 : decode cX9_snapshot 1 = .ok (.invokevirtual 44, 3) := by decide +kernel
theorem dX9_snapshot_4 : decode cX9_snapshot 4 = .ok (.aload_n 0, 1) := by decide +kernel
theorem dX9_snapshot_5 : decode cX9_snapshot 5 = .ok (.invokevirtual 94, 3) := by decide +kernel
theorem dX9_snapshot_8 : decode cX9_snapshot 8 = .ok (.ireturn, 1) := by decide +kernel
theorem dX9_begins_0 : decode cX9_begins 0 = .ok (.aload_n 0, 1) := by decide +kernel
theorem dX9_begins_1 : decode cX9_begins 1 = .ok (.getfield 7, 3) := by decide +kernel
theorem dX9_begins_4 : decode cX9_begins 4 = .ok (.iload_n 1, 1) := by decide +kernel
theorem dX9_begins_5 : decode cX9_begins 5 = .ok (.invokestatic 62, 3) := by decide +kernel
theorem dX9_begins_8 : decode cX9_begins 8 = .ok (.iload_n 2, 1) := by decide +kernel
theorem dX9_begins_9 : decode cX9_begins 9 = .ok (.iastore, 1) := by decide +kernel
theorem dX9_begins_10 : decode cX9_begins 10 = .ok (.aload_n 0, 1) := by decide +kernel
theorem dX9_begins_11 : decode cX9_begins 11 = .ok (.getfield 7, 3) := by decide +kernel
theorem dX9_begins_14 : decode cX9_begins 14 = .ok (.iload_n 1, 1) := by decide +kernel
theorem dX9_begins_15 : decode cX9_begins 15 = .ok (.invokestatic 62, 3) := by decide +kernel
theorem dX9_begins_18 : decode cX9_begins 18 = .ok (.iconst 1, 1) := by decide +kernel
theorem dX9_begins_19 : decode cX9_begins 19 = .ok (.iadd, 1) := by decide +kernel
theorem dX9_begins_20 : decode cX9_begins 20 = .ok (.iload_n 2, 1) := by decide +kernel
theorem dX9_begins_21 : decode cX9_begins 21 = .ok (.iastore, 1) := by decide +kernel
theorem dX9_begins_22 : decode cX9_begins 22 = .ok (.iconst 0, 1) := by decide +kernel
theorem dX9_begins_23 : decode cX9_begins 23 = .ok (.istore 4, 2) := by decide +kernel
theorem dX9_begins_25 : decode cX9_begins 25 = .ok (.iload 4, 2) := by decide +kernel
theorem dX9_begins_27 : decode cX9_begins 27 = .ok (.bipush 12, 2) := by decide +kernel
theorem dX9_begins_29 : decode cX9_begins 29 = .ok (.if_icmp .ge 62, 3) := by decide +kernel
theorem dX9_begins_32 : decode cX9_begins 32 = .ok (.iload_n 3, 1) := by decide +kernel
theorem dX9_begins_33 : decode cX9_begins 33 = .ok (.ifCond .ge 8, 3) := by decide +kernel
theorem dX9_begins_36 : decode cX9_begins 36 = .ok (.bipush (-6), 2) := by decide +kernel
theorem dX9_begins_38 : decode cX9_begins 38 = .ok (.goto 12, 3) := by decide +kernel
theorem dX9_begins_41 : decode cX9_begins 41 = .ok (.aload_n 0, 1) := by decide +kernel
theorem dX9_begins_42 : decode cX9_begins 42 = .ok (.getfield 7, 3) := by decide +kernel
theorem dX9_begins_45 : decode cX9_begins 45 = .ok (.iload_n 3, 1) := by decide +kernel
theorem dX9_begins_46 : decode cX9_begins 46 = .ok (.iload 4, 2) := by decide +kernel
theorem dX9_begins_48 : decode cX9_begins 48 = .ok (.iadd, 1) := by decide +kernel
theorem dX9_begins_49 : decode cX9_begins 49 = .ok (.iaload, 1) := by decide +kernel
theorem dX9_begins_50 : decode cX9_begins 50 = .ok (.istore 5, 2) := by decide +kernel
theorem dX9_begins_52 : decode cX9_begins 52 = .ok (.aload_n 0, 1) := by decide +kernel
theorem dX9_begins_53 : decode cX9_begins 53 = .ok (.getfield 7, 3) := by decide +kernel
theorem dX9_begins_56 : decode cX9_begins 56 = .ok (.iload_n 1, 1) := by decide +kernel
theorem dX9_begins_57 : decode cX9_begins 57 = .ok (.invokestatic 62, 3) := by decide +kernel
theorem dX9_begins_60 : decode cX9_begins 60 = .ok (.iconst 3, 1) := by decide +kernel
theorem dX9_begins_61 : decode cX9_begins 61 = .ok (.iadd, 1) := by decide +kernel
theorem dX9_begins_62 : decode cX9_begins 62 = .ok (.iload 4, 2) := by decide +kernel
theorem dX9_begins_64 : decode cX9_begins 64 = .ok (.iadd, 1) := by decide +kernel
theorem dX9_begins_65 : decode cX9_begins 65 = .ok (.iload 5, 2) := by decide +kernel
theorem dX9_begins_67 : decode cX9_begins 67 = .ok (.iastore, 1) := by decide +kernel
theorem dX9_begins_68 : decode cX9_begins 68 = .ok (.aload_n 0, 1) := by decide +kernel
theorem dX9_begins_69 : decode cX9_begins 69 = .ok (.getfield 7, 3) := by decide +kernel
theorem dX9_begins_72 : decode cX9_begins 72 = .ok (.iload_n 1, 1) := by decide +kernel
theorem dX9_begins_73 : decode cX9_begins 73 = .ok (.invokestatic 62, 3) := by decide +kernel
theorem dX9_begins_76 : decode cX9_begins 76 = .ok (.bipush 15, 2) := by decide +kernel
theorem dX9_begins_78 : decode cX9_begins 78 = .ok (.iadd, 1) := by decide +kernel
theorem dX9_begins_79 : decode cX9_begins 79 = .ok (.iload 4, 2) := by decide +kernel
theorem dX9_begins_81 : decode cX9_begins 81 = .ok (.iadd, 1) := by decide +kernel
theorem dX9_begins_82 : decode cX9_begins 82 = .ok (.iload 5, 2) := by decide +kernel
theorem dX9_begins_84 : decode cX9_begins 84 = .ok (.iastore, 1) := by decide +kernel
theorem dX9_begins_85 : decode cX9_begins 85 = .ok (.iinc 4 1, 3) := by decide +kernel
theorem dX9_begins_88 : decode cX9_begins 88 = .ok (.goto (-63), 3) := by decide +kernel
theorem dX9_begins_91 : decode cX9_begins 91 = .ok (.iload_n 2, 1) := by decide +kernel
theorem dX9_begins_92 : decode cX9_begins 92 = .ok (.ireturn, 1) := by decide +kernel
theorem dX9_comes_0 : decode cX9_comes 0 = .ok (.aload_n 0, 1) := by decide +kernel
theorem dX9_comes_1 : decode cX9_comes 1 = .ok (.getfield 7, 3) := by decide +kernel
theorem dX9_comes_4 : decode cX9_comes 4 = .ok (.aload_n 0, 1) := by decide +kernel
theorem dX9_comes_5 : decode cX9_comes 5 = .ok (.getfield 7, 3) := by decide +kernel
theorem dX9_comes_8 : decode cX9_comes 8 = .ok (.bipush 7, 2) := by decide +kernel
theorem dX9_comes_10 : decode cX9_comes 10 = .ok (.iaload, 1) := by decide +kernel
theorem dX9_comes_11 : decode cX9_comes 11 = .ok (.invokestatic 62, 3) := by decide +kernel
theorem dX9_comes_14 : decode cX9_comes 14 = .ok (.iconst 2, 1) := by decide +kernel
theorem dX9_comes_15 : decode cX9_comes 15 = .ok (.iadd, 1) := by decide +kernel
theorem dX9_comes_16 : decode cX9_comes 16 = .ok (.iconst 0, 1) := by decide +kernel
theorem dX9_comes_17 : decode cX9_comes 17 = .ok (.iastore, 1) := by decide +kernel
theorem dX9_comes_18 : decode cX9_comes 18 = .ok (.aload_n 0, 1) := by decide +kernel
theorem dX9_comes_19 : decode cX9_comes 19 = .ok (.aload_n 0, 1) := by decide +kernel
theorem dX9_comes_20 : decode cX9_comes 20 = .ok (.getfield 7, 3) := by decide +kernel
theorem dX9_comes_23 : decode cX9_comes 23 = .ok (.bipush 7, 2) := by decide +kernel
theorem dX9_comes_25 : decode cX9_comes 25 = .ok (.iaload, 1) := by decide +kernel
theorem dX9_comes_26 : decode cX9_comes 26 = .ok (.iconst 0, 1) := by decide +kernel
theorem dX9_comes_27 : decode cX9_comes 27 = .ok (.iconst (-1), 1) := by decide +kernel
theorem dX9_comes_28 : decode cX9_comes 28 = .ok (.invokevirtual 98, 3) := by decide +kernel
theorem dX9_comes_31 : decode cX9_comes 31 = .ok (.pop, 1) := by decide +kernel
theorem dX9_comes_32 : decode cX9_comes 32 = .ok (.aload_n 0, 1) := by decide +kernel
theorem dX9_comes_33 : decode cX9_comes 33 = .ok (.getfield 7, 3) := by decide +kernel
theorem dX9_comes_36 : decode cX9_comes 36 = .ok (.bipush 7, 2) := by decide +kernel
theorem dX9_comes_38 : decode cX9_comes 38 = .ok (.dup2, 1) := by decide +kernel
theorem dX9_comes_39 : decode cX9_comes 39 = .ok (.iaload, 1) := by decide +kernel
theorem dX9_comes_40 : decode cX9_comes 40 = .ok (.iconst 1, 1) := by decide +kernel
theorem dX9_comes_41 : decode cX9_comes 41 = .ok (.iadd, 1) := by decide +kernel
theorem dX9_comes_42 : decode cX9_comes 42 = .ok (.iastore, 1) := by decide +kernel
theorem dX9_comes_43 : decode cX9_comes 43 = .ok (.aload_n 0, 1) := by decide +kernel
theorem dX9_comes_44 : decode cX9_comes 44 = .ok (.getfield 7, 3) := by decide +kernel
theorem dX9_comes_47 : decode cX9_comes 47 = .ok (.bipush 7, 2) := by decide +kernel
theorem dX9_comes_49 : decode cX9_comes 49 = .ok (.iaload, 1) := by decide +kernel
theorem dX9_comes_50 : decode cX9_comes 50 = .ok (.iconst 1, 1) := by decide +kernel
theorem dX9_comes_51 : decode cX9_comes 51 = .ok (.isub, 1) := by decide +kernel
theorem dX9_comes_52 : decode cX9_comes 52 = .ok (.ireturn, 1) := by decide +kernel
theorem dX9_reader_0 : decode cX9_reader 0 = .ok (.aload_n 0, 1) := by decide +kernel
theorem dX9_reader_1 : decode cX9_reader 1 = .ok (.getfield 7, 3) := by decide +kernel
theorem dX9_reader_4 : decode cX9_reader 4 = .ok (.bipush 7, 2) := by decide +kernel
theorem dX9_reader_6 : decode cX9_reader 6 = .ok (.iaload, 1) := by decide +kernel
theorem dX9_reader_7 : decode cX9_reader 7 = .ok (.bipush 6, 2) := by decide +kernel
theorem dX9_reader_9 : decode cX9_reader 9 = .ok (.if_icmp .ne 6, 3) := by decide +kernel
theorem dX9_reader_12 : decode cX9_reader 12 = .ok (.bipush (-4), 2) := by decide +kernel
theorem dX9_reader_14 : decode cX9_reader 14 = .ok (.ireturn, 1) := by decide +kernel
theorem dX9_reader_15 : decode cX9_reader 15 = .ok (.aload_n 0, 1) := by decide +kernel
theorem dX9_reader_16 : decode cX9_reader 16 = .ok (.invokevirtual 44, 3) := by decide +kernel
theorem dX9_reader_19 : decode cX9_reader 19 = .ok (.aload_n 0, 1) := by decide +kernel
theorem dX9_reader_20 : decode cX9_reader 20 = .ok (.invokevirtual 102, 3) := by decide +kernel
theorem dX9_reader_23 : decode cX9_reader 23 = .ok (.ireturn, 1) := by decide +kernel
theorem dX9_mayRead_0 : decode cX9_mayRead 0 = .ok (.aload_n 0, 1) := by decide +kernel
theorem dX9_mayRead_1 : decode cX9_mayRead 1 = .ok (.iload_n 1, 1) := by decide +kernel
theorem dX9_mayRead_2 : decode cX9_mayRead 2 = .ok (.invokevirtual 105, 3) := by decide +kernel
theorem dX9_mayRead_5 : decode cX9_mayRead 5 = .ok (.ifCond .ne 5, 3) := by decide +kernel
theorem dX9_mayRead_8 : decode cX9_mayRead 8 = .ok (.iconst (-1), 1) := by decide +kernel
theorem dX9_mayRead_9 : decode cX9_mayRead 9 = .ok (.ireturn, 1) := by decide +kernel
theorem dX9_mayRead_10 : decode cX9_mayRead 10 = .ok (.iload_n 2, 1) := by decide +kernel
theorem dX9_mayRead_11 : decode cX9_mayRead 11 = .ok (.iconst 1, 1) := by decide +kernel
theorem dX9_mayRead_12 : decode cX9_mayRead 12 = .ok (.bipush 99, 2) := by decide +kernel
theorem dX9_mayRead_14 : decode cX9_mayRead 14 = .ok (.invokestatic 32, 3) := by decide +kernel
theorem dX9_mayRead_17 : decode cX9_mayRead 17 = .ok (.ifCond .ne 8, 3) := by decide +kernel
theorem dX9_mayRead_20 : decode cX9_mayRead 20 = .ok (.bipush (-2), 2) := by decide +kernel
theorem dX9_mayRead_22 : decode cX9_mayRead 22 = .ok (.goto 20, 3) := by decide +kernel
theorem dX9_mayRead_25 : decode cX9_mayRead 25 = .ok (.aload_n 0, 1) := by decide +kernel
theorem dX9_mayRead_26 : decode cX9_mayRead 26 = .ok (.getfield 7, 3) := by decide +kernel
theorem dX9_mayRead_29 : decode cX9_mayRead 29 = .ok (.iload_n 1, 1) := by decide +kernel
theorem dX9_mayRead_30 : decode cX9_mayRead 30 = .ok (.invokestatic 69, 3) := by decide +kernel
theorem dX9_mayRead_33 : decode cX9_mayRead 33 = .ok (.ifCond .eq 8, 3) := by decide +kernel
theorem dX9_mayRead_36 : decode cX9_mayRead 36 = .ok (.bipush (-5), 2) := by decide +kernel
theorem dX9_mayRead_38 : decode cX9_mayRead 38 = .ok (.goto 4, 3) := by decide +kernel
theorem dX9_mayRead_41 : decode cX9_mayRead 41 = .ok (.iconst 0, 1) := by decide +kernel
theorem dX9_mayRead_42 : decode cX9_mayRead 42 = .ok (.ireturn, 1) := by decide +kernel
theorem dX9_reads_0 : decode cX9_reads 0 = .ok (.iconst 0, 1) := by decide +kernel
theorem dX9_reads_1 : decode cX9_reads 1 = .ok (.istore_n 3, 1) := by decide +kernel
theorem dX9_reads_2 : decode cX9_reads 2 = .ok (.iconst 0, 1) := by decide +kernel
theorem dX9_reads_3 : decode cX9_reads 3 = .ok (.istore 4, 2) := by decide +kernel
theorem dX9_reads_5 : decode cX9_reads 5 = .ok (.iload 4, 2) := by decide +kernel
theorem dX9_reads_7 : decode cX9_reads 7 = .ok (.aload_n 0, 1) := by decide +kernel
theorem dX9_reads_8 : decode cX9_reads 8 = .ok (.getfield 7, 3) := by decide +kernel
theorem dX9_reads_11 : decode cX9_reads 11 = .ok (.bipush 6, 2) := by decide +kernel
theorem dX9_reads_13 : decode cX9_reads 13 = .ok (.iaload, 1) := by decide +kernel
theorem dX9_reads_14 : decode cX9_reads 14 = .ok (.if_icmp .ge 92, 3) := by decide +kernel
theorem dX9_reads_17 : decode cX9_reads 17 = .ok (.iload_n 3, 1) := by decide +kernel
theorem dX9_reads_18 : decode cX9_reads 18 = .ok (.iload_n 2, 1) := by decide +kernel
theorem dX9_reads_19 : decode cX9_reads 19 = .ok (.if_icmp .ge 87, 3) := by decide +kernel
theorem dX9_reads_22 : decode cX9_reads 22 = .ok (.aload_n 0, 1) := by decide +kernel
theorem dX9_reads_23 : decode cX9_reads 23 = .ok (.getfield 7, 3) := by decide +kernel
theorem dX9_reads_26 : decode cX9_reads 26 = .ok (.iload 4, 2) := by decide +kernel
theorem dX9_reads_28 : decode cX9_reads 28 = .ok (.iconst 0, 1) := by decide +kernel
theorem dX9_reads_29 : decode cX9_reads 29 = .ok (.invokestatic 47, 3) := by decide +kernel
theorem dX9_reads_32 : decode cX9_reads 32 = .ok (.aload_n 0, 1) := by decide +kernel
theorem dX9_reads_33 : decode cX9_reads 33 = .ok (.getfield 7, 3) := by decide +kernel
theorem dX9_reads_36 : decode cX9_reads 36 = .ok (.iload_n 1, 1) := by decide +kernel
theorem dX9_reads_37 : decode cX9_reads 37 = .ok (.invokestatic 62, 3) := by decide +kernel
theorem dX9_reads_40 : decode cX9_reads 40 = .ok (.iaload, 1) := by decide +kernel
theorem dX9_reads_41 : decode cX9_reads 41 = .ok (.if_icmp .lt 59, 3) := by decide +kernel
theorem dX9_reads_44 : decode cX9_reads 44 = .ok (.aload_n 0, 1) := by decide +kernel
theorem dX9_reads_45 : decode cX9_reads 45 = .ok (.getfield 7, 3) := by decide +kernel
theorem dX9_reads_48 : decode cX9_reads 48 = .ok (.iload_n 1, 1) := by decide +kernel
theorem dX9_reads_49 : decode cX9_reads 49 = .ok (.invokestatic 62, 3) := by decide +kernel
theorem dX9_reads_52 : decode cX9_reads 52 = .ok (.iconst 3, 1) := by decide +kernel
theorem dX9_reads_53 : decode cX9_reads 53 = .ok (.iadd, 1) := by decide +kernel
theorem dX9_reads_54 : decode cX9_reads 54 = .ok (.aload_n 0, 1) := by decide +kernel
theorem dX9_reads_55 : decode cX9_reads 55 = .ok (.getfield 7, 3) := by decide +kernel
theorem dX9_reads_58 : decode cX9_reads 58 = .ok (.iload 4, 2) := by decide +kernel
theorem dX9_reads_60 : decode cX9_reads 60 = .ok (.iconst 1, 1) := by decide +kernel
theorem dX9_reads_61 : decode cX9_reads 61 = .ok (.invokestatic 47, 3) := by decide +kernel
theorem dX9_reads_64 : decode cX9_reads 64 = .ok (.iadd, 1) := by decide +kernel
theorem dX9_reads_65 : decode cX9_reads 65 = .ok (.aload_n 0, 1) := by decide +kernel
theorem dX9_reads_66 : decode cX9_reads 66 = .ok (.getfield 7, 3) := by decide +kernel
theorem dX9_reads_69 : decode cX9_reads 69 = .ok (.iload 4, 2) := by decide +kernel
theorem dX9_reads_71 : decode cX9_reads 71 = .ok (.iconst 2, 1) := by decide +kernel
theorem dX9_reads_72 : decode cX9_reads 72 = .ok (.invokestatic 47, 3) := by decide +kernel
theorem dX9_reads_75 : decode cX9_reads 75 = .ok (.iastore, 1) := by decide +kernel
theorem dX9_reads_76 : decode cX9_reads 76 = .ok (.aload_n 0, 1) := by decide +kernel
theorem dX9_reads_77 : decode cX9_reads 77 = .ok (.getfield 7, 3) := by decide +kernel
theorem dX9_reads_80 : decode cX9_reads 80 = .ok (.iload_n 1, 1) := by decide +kernel
theorem dX9_reads_81 : decode cX9_reads 81 = .ok (.invokestatic 62, 3) := by decide +kernel
theorem dX9_reads_84 : decode cX9_reads 84 = .ok (.aload_n 0, 1) := by decide +kernel
theorem dX9_reads_85 : decode cX9_reads 85 = .ok (.getfield 7, 3) := by decide +kernel
theorem dX9_reads_88 : decode cX9_reads 88 = .ok (.iload 4, 2) := by decide +kernel
theorem dX9_reads_90 : decode cX9_reads 90 = .ok (.iconst 0, 1) := by decide +kernel
theorem dX9_reads_91 : decode cX9_reads 91 = .ok (.invokestatic 47, 3) := by decide +kernel
theorem dX9_reads_94 : decode cX9_reads 94 = .ok (.iconst 1, 1) := by decide +kernel
theorem dX9_reads_95 : decode cX9_reads 95 = .ok (.iadd, 1) := by decide +kernel
theorem dX9_reads_96 : decode cX9_reads 96 = .ok (.iastore, 1) := by decide +kernel
theorem dX9_reads_97 : decode cX9_reads 97 = .ok (.iinc 3 1, 3) := by decide +kernel
theorem dX9_reads_100 : decode cX9_reads 100 = .ok (.iinc 4 1, 3) := by decide +kernel
theorem dX9_reads_103 : decode cX9_reads 103 = .ok (.goto (-98), 3) := by decide +kernel
theorem dX9_reads_106 : decode cX9_reads 106 = .ok (.aload_n 0, 1) := by decide +kernel
theorem dX9_reads_107 : decode cX9_reads 107 = .ok (.getfield 7, 3) := by decide +kernel
theorem dX9_reads_110 : decode cX9_reads 110 = .ok (.iload_n 1, 1) := by decide +kernel
theorem dX9_reads_111 : decode cX9_reads 111 = .ok (.invokestatic 62, 3) := by decide +kernel
theorem dX9_reads_114 : decode cX9_reads 114 = .ok (.iconst 2, 1) := by decide +kernel
theorem dX9_reads_115 : decode cX9_reads 115 = .ok (.iadd, 1) := by decide +kernel
theorem dX9_reads_116 : decode cX9_reads 116 = .ok (.dup2, 1) := by decide +kernel
theorem dX9_reads_117 : decode cX9_reads 117 = .ok (.iaload, 1) := by decide +kernel
theorem dX9_reads_118 : decode cX9_reads 118 = .ok (.iload_n 3, 1) := by decide +kernel
theorem dX9_reads_119 : decode cX9_reads 119 = .ok (.iadd, 1) := by decide +kernel
theorem dX9_reads_120 : decode cX9_reads 120 = .ok (.iastore, 1) := by decide +kernel
theorem dX9_reads_121 : decode cX9_reads 121 = .ok (.iload_n 3, 1) := by decide +kernel
theorem dX9_reads_122 : decode cX9_reads 122 = .ok (.ireturn, 1) := by decide +kernel
theorem dX9_read_0 : decode cX9_read 0 = .ok (.aload_n 0, 1) := by decide +kernel
theorem dX9_read_1 : decode cX9_read 1 = .ok (.iload_n 1, 1) := by decide +kernel
theorem dX9_read_2 : decode cX9_read 2 = .ok (.iload_n 2, 1) := by decide +kernel
theorem dX9_read_3 : decode cX9_read 3 = .ok (.invokevirtual 108, 3) := by decide +kernel
theorem dX9_read_6 : decode cX9_read 6 = .ok (.istore_n 3, 1) := by decide +kernel
theorem dX9_read_7 : decode cX9_read 7 = .ok (.iload_n 3, 1) := by decide +kernel
theorem dX9_read_8 : decode cX9_read 8 = .ok (.ifCond .eq 5, 3) := by decide +kernel
theorem dX9_read_11 : decode cX9_read 11 = .ok (.iload_n 3, 1) := by decide +kernel
theorem dX9_read_12 : decode cX9_read 12 = .ok (.ireturn, 1) := by decide +kernel
theorem dX9_read_13 : decode cX9_read 13 = .ok (.aload_n 0, 1) := by decide +kernel
theorem dX9_read_14 : decode cX9_read 14 = .ok (.invokevirtual 44, 3) := by decide +kernel
theorem dX9_read_17 : decode cX9_read 17 = .ok (.aload_n 0, 1) := by decide +kernel
theorem dX9_read_18 : decode cX9_read 18 = .ok (.iload_n 1, 1) := by decide +kernel
theorem dX9_read_19 : decode cX9_read 19 = .ok (.iload_n 2, 1) := by decide +kernel
theorem dX9_read_20 : decode cX9_read 20 = .ok (.invokevirtual 111, 3) := by decide +kernel
theorem dX9_read_23 : decode cX9_read 23 = .ok (.ireturn, 1) := by decide +kernel
theorem dX9_takes_0 : decode cX9_takes 0 = .ok (.iload_n 2, 1) := by decide +kernel
theorem dX9_takes_1 : decode cX9_takes 1 = .ok (.ifCond .eq 7, 3) := by decide +kernel
theorem dX9_takes_4 : decode cX9_takes 4 = .ok (.iconst 3, 1) := by decide +kernel
theorem dX9_takes_5 : decode cX9_takes 5 = .ok (.goto 5, 3) := by decide +kernel
theorem dX9_takes_8 : decode cX9_takes 8 = .ok (.bipush 15, 2) := by decide +kernel
theorem dX9_takes_10 : decode cX9_takes 10 = .ok (.istore_n 3, 1) := by decide +kernel
theorem dX9_takes_11 : decode cX9_takes 11 = .ok (.iload_n 2, 1) := by decide +kernel
theorem dX9_takes_12 : decode cX9_takes 12 = .ok (.ifCond .eq 8, 3) := by decide +kernel
theorem dX9_takes_15 : decode cX9_takes 15 = .ok (.bipush 15, 2) := by decide +kernel
theorem dX9_takes_17 : decode cX9_takes 17 = .ok (.goto 4, 3) := by decide +kernel
theorem dX9_takes_20 : decode cX9_takes 20 = .ok (.iconst 3, 1) := by decide +kernel
theorem dX9_takes_21 : decode cX9_takes 21 = .ok (.istore 4, 2) := by decide +kernel
theorem dX9_takes_23 : decode cX9_takes 23 = .ok (.iconst 0, 1) := by decide +kernel
theorem dX9_takes_24 : decode cX9_takes 24 = .ok (.istore 5, 2) := by decide +kernel
theorem dX9_takes_26 : decode cX9_takes 26 = .ok (.iload 5, 2) := by decide +kernel
theorem dX9_takes_28 : decode cX9_takes 28 = .ok (.bipush 12, 2) := by decide +kernel
theorem dX9_takes_30 : decode cX9_takes 30 = .ok (.if_icmp .ge 38, 3) := by decide +kernel
theorem dX9_takes_33 : decode cX9_takes 33 = .ok (.aload_n 0, 1) := by decide +kernel
theorem dX9_takes_34 : decode cX9_takes 34 = .ok (.getfield 7, 3) := by decide +kernel
theorem dX9_takes_37 : decode cX9_takes 37 = .ok (.iload_n 1, 1) := by decide +kernel
theorem dX9_takes_38 : decode cX9_takes 38 = .ok (.invokestatic 62, 3) := by decide +kernel
theorem dX9_takes_41 : decode cX9_takes 41 = .ok (.iload 4, 2) := by decide +kernel
theorem dX9_takes_43 : decode cX9_takes 43 = .ok (.iadd, 1) := by decide +kernel
theorem dX9_takes_44 : decode cX9_takes 44 = .ok (.iload 5, 2) := by decide +kernel
theorem dX9_takes_46 : decode cX9_takes 46 = .ok (.iadd, 1) := by decide +kernel
theorem dX9_takes_47 : decode cX9_takes 47 = .ok (.aload_n 0, 1) := by decide +kernel
theorem dX9_takes_48 : decode cX9_takes 48 = .ok (.getfield 7, 3) := by decide +kernel
theorem dX9_takes_51 : decode cX9_takes 51 = .ok (.iload_n 1, 1) := by decide +kernel
theorem dX9_takes_52 : decode cX9_takes 52 = .ok (.invokestatic 62, 3) := by decide +kernel
theorem dX9_takes_55 : decode cX9_takes 55 = .ok (.iload_n 3, 1) := by decide +kernel
theorem dX9_takes_56 : decode cX9_takes 56 = .ok (.iadd, 1) := by decide +kernel
theorem dX9_takes_57 : decode cX9_takes 57 = .ok (.iload 5, 2) := by decide +kernel
theorem dX9_takes_59 : decode cX9_takes 59 = .ok (.iadd, 1) := by decide +kernel
theorem dX9_takes_60 : decode cX9_takes 60 = .ok (.iaload, 1) := by decide +kernel
theorem dX9_takes_61 : decode cX9_takes 61 = .ok (.iastore, 1) := by decide +kernel
theorem dX9_takes_62 : decode cX9_takes 62 = .ok (.iinc 5 1, 3) := by decide +kernel
theorem dX9_takes_65 : decode cX9_takes 65 = .ok (.goto (-39), 3) := by decide +kernel
theorem dX9_takes_68 : decode cX9_takes 68 = .ok (.aload_n 0, 1) := by decide +kernel
theorem dX9_takes_69 : decode cX9_takes 69 = .ok (.getfield 7, 3) := by decide +kernel
theorem dX9_takes_72 : decode cX9_takes 72 = .ok (.iload_n 1, 1) := by decide +kernel
theorem dX9_takes_73 : decode cX9_takes 73 = .ok (.invokestatic 62, 3) := by decide +kernel
theorem dX9_takes_76 : decode cX9_takes 76 = .ok (.iload_n 2, 1) := by decide +kernel
theorem dX9_takes_77 : decode cX9_takes 77 = .ok (.ifCond .eq 7, 3) := by decide +kernel
theorem dX9_takes_80 : decode cX9_takes 80 = .ok (.iconst 1, 1) := by decide +kernel
theorem dX9_takes_81 : decode cX9_takes 81 = .ok (.goto 4, 3) := by decide +kernel
theorem dX9_takes_84 : decode cX9_takes 84 = .ok (.iconst 0, 1) := by decide +kernel
theorem dX9_takes_85 : decode cX9_takes 85 = .ok (.iadd, 1) := by decide +kernel
theorem dX9_takes_86 : decode cX9_takes 86 = .ok (.aload_n 0, 1) := by decide +kernel
theorem dX9_takes_87 : decode cX9_takes 87 = .ok (.getfield 7, 3) := by decide +kernel
theorem dX9_takes_90 : decode cX9_takes 90 = .ok (.iload_n 1, 1) := by decide +kernel
theorem dX9_takes_91 : decode cX9_takes 91 = .ok (.invokestatic 62, 3) := by decide +kernel
theorem dX9_takes_94 : decode cX9_takes 94 = .ok (.iload_n 2, 1) := by decide +kernel
theorem dX9_takes_95 : decode cX9_takes 95 = .ok (.ifCond .eq 7, 3) := by decide +kernel
theorem dX9_takes_98 : decode cX9_takes 98 = .ok (.iconst 0, 1) := by decide +kernel
theorem dX9_takes_99 : decode cX9_takes 99 = .ok (.goto 4, 3) := by decide +kernel
theorem dX9_takes_102 : decode cX9_takes 102 = .ok (.iconst 1, 1) := by decide +kernel
theorem dX9_takes_103 : decode cX9_takes 103 = .ok (.iadd, 1) := by decide +kernel
theorem dX9_takes_104 : decode cX9_takes 104 = .ok (.iaload, 1) := by decide +kernel
theorem dX9_takes_105 : decode cX9_takes 105 = .ok (.iastore, 1) := by decide +kernel
theorem dX9_takes_106 : decode cX9_takes 106 = .ok (.aload_n 0, 1) := by decide +kernel
theorem dX9_takes_107 : decode cX9_takes 107 = .ok (.getfield 7, 3) := by decide +kernel
theorem dX9_takes_110 : decode cX9_takes 110 = .ok (.iload_n 1, 1) := by decide +kernel
theorem dX9_takes_111 : decode cX9_takes 111 = .ok (.invokestatic 62, 3) := by decide +kernel
theorem dX9_takes_114 : decode cX9_takes 114 = .ok (.iaload, 1) := by decide +kernel
theorem dX9_takes_115 : decode cX9_takes 115 = .ok (.ireturn, 1) := by decide +kernel
theorem dX9_confirm_0 : decode cX9_confirm 0 = .ok (.aload_n 0, 1) := by decide +kernel
theorem dX9_confirm_1 : decode cX9_confirm 1 = .ok (.iload_n 1, 1) := by decide +kernel
theorem dX9_confirm_2 : decode cX9_confirm 2 = .ok (.invokevirtual 105, 3) := by decide +kernel
theorem dX9_confirm_5 : decode cX9_confirm 5 = .ok (.ifCond .ne 5, 3) := by decide +kernel
theorem dX9_confirm_8 : decode cX9_confirm 8 = .ok (.iconst (-1), 1) := by decide +kernel
theorem dX9_confirm_9 : decode cX9_confirm 9 = .ok (.ireturn, 1) := by decide +kernel
theorem dX9_confirm_10 : decode cX9_confirm 10 = .ok (.aload_n 0, 1) := by decide +kernel
theorem dX9_confirm_11 : decode cX9_confirm 11 = .ok (.invokevirtual 44, 3) := by decide +kernel
theorem dX9_confirm_14 : decode cX9_confirm 14 = .ok (.aload_n 0, 1) := by decide +kernel
theorem dX9_confirm_15 : decode cX9_confirm 15 = .ok (.iload_n 1, 1) := by decide +kernel
theorem dX9_confirm_16 : decode cX9_confirm 16 = .ok (.iconst 1, 1) := by decide +kernel
theorem dX9_confirm_17 : decode cX9_confirm 17 = .ok (.invokevirtual 114, 3) := by decide +kernel
theorem dX9_confirm_20 : decode cX9_confirm 20 = .ok (.ireturn, 1) := by decide +kernel
theorem dX9_goBack_0 : decode cX9_goBack 0 = .ok (.aload_n 0, 1) := by decide +kernel
theorem dX9_goBack_1 : decode cX9_goBack 1 = .ok (.iload_n 1, 1) := by decide +kernel
theorem dX9_goBack_2 : decode cX9_goBack 2 = .ok (.invokevirtual 105, 3) := by decide +kernel
theorem dX9_goBack_5 : decode cX9_goBack 5 = .ok (.ifCond .ne 5, 3) := by decide +kernel
theorem dX9_goBack_8 : decode cX9_goBack 8 = .ok (.iconst (-1), 1) := by decide +kernel
theorem dX9_goBack_9 : decode cX9_goBack 9 = .ok (.ireturn, 1) := by decide +kernel
theorem dX9_goBack_10 : decode cX9_goBack 10 = .ok (.aload_n 0, 1) := by decide +kernel
theorem dX9_goBack_11 : decode cX9_goBack 11 = .ok (.invokevirtual 44, 3) := by decide +kernel
theorem dX9_goBack_14 : decode cX9_goBack 14 = .ok (.aload_n 0, 1) := by decide +kernel
theorem dX9_goBack_15 : decode cX9_goBack 15 = .ok (.iload_n 1, 1) := by decide +kernel
theorem dX9_goBack_16 : decode cX9_goBack 16 = .ok (.iconst 0, 1) := by decide +kernel
theorem dX9_goBack_17 : decode cX9_goBack 17 = .ok (.invokevirtual 114, 3) := by decide +kernel
theorem dX9_goBack_20 : decode cX9_goBack 20 = .ok (.ireturn, 1) := by decide +kernel
theorem dX9_beginAnew_0 : decode cX9_beginAnew 0 = .ok (.aload_n 0, 1) := by decide +kernel
theorem dX9_beginAnew_1 : decode cX9_beginAnew 1 = .ok (.iload_n 1, 1) := by decide +kernel
theorem dX9_beginAnew_2 : decode cX9_beginAnew 2 = .ok (.invokevirtual 105, 3) := by decide +kernel
theorem dX9_beginAnew_5 : decode cX9_beginAnew 5 = .ok (.ifCond .ne 5, 3) := by decide +kernel
theorem dX9_beginAnew_8 : decode cX9_beginAnew 8 = .ok (.iconst (-1), 1) := by decide +kernel
theorem dX9_beginAnew_9 : decode cX9_beginAnew 9 = .ok (.ireturn, 1) := by decide +kernel
theorem dX9_beginAnew_10 : decode cX9_beginAnew 10 = .ok (.aload_n 0, 1) := by decide +kernel
theorem dX9_beginAnew_11 : decode cX9_beginAnew 11 = .ok (.invokevirtual 44, 3) := by decide +kernel
theorem dX9_beginAnew_14 : decode cX9_beginAnew 14 = .ok (.aload_n 0, 1) := by decide +kernel
theorem dX9_beginAnew_15 : decode cX9_beginAnew 15 = .ok (.iload_n 1, 1) := by decide +kernel
theorem dX9_beginAnew_16 : decode cX9_beginAnew 16 = .ok (.iconst 0, 1) := by decide +kernel
theorem dX9_beginAnew_17 : decode cX9_beginAnew 17 = .ok (.iconst (-1), 1) := by decide +kernel
theorem dX9_beginAnew_18 : decode cX9_beginAnew 18 = .ok (.invokevirtual 98, 3) := by decide +kernel
theorem dX9_beginAnew_21 : decode cX9_beginAnew 21 = .ok (.pop, 1) := by decide +kernel
theorem dX9_beginAnew_22 : decode cX9_beginAnew 22 = .ok (.aload_n 0, 1) := by decide +kernel
theorem dX9_beginAnew_23 : decode cX9_beginAnew 23 = .ok (.getfield 7, 3) := by decide +kernel
theorem dX9_beginAnew_26 : decode cX9_beginAnew 26 = .ok (.bipush 6, 2) := by decide +kernel
theorem dX9_beginAnew_28 : decode cX9_beginAnew 28 = .ok (.iaload, 1) := by decide +kernel
theorem dX9_beginAnew_29 : decode cX9_beginAnew 29 = .ok (.ireturn, 1) := by decide +kernel
theorem dX9_mayLoad_0 : decode cX9_mayLoad 0 = .ok (.aload_n 0, 1) := by decide +kernel
theorem dX9_mayLoad_1 : decode cX9_mayLoad 1 = .ok (.iload_n 1, 1) := by decide +kernel
theorem dX9_mayLoad_2 : decode cX9_mayLoad 2 = .ok (.invokevirtual 105, 3) := by decide +kernel
theorem dX9_mayLoad_5 : decode cX9_mayLoad 5 = .ok (.ifCond .eq 11, 3) := by decide +kernel
theorem dX9_mayLoad_8 : decode cX9_mayLoad 8 = .ok (.aload_n 0, 1) := by decide +kernel
theorem dX9_mayLoad_9 : decode cX9_mayLoad 9 = .ok (.iload_n 2, 1) := by decide +kernel
theorem dX9_mayLoad_10 : decode cX9_mayLoad 10 = .ok (.invokevirtual 118, 3) := by decide +kernel
theorem dX9_mayLoad_13 : decode cX9_mayLoad 13 = .ok (.ifCond .ne 5, 3) := by decide +kernel
theorem dX9_mayLoad_16 : decode cX9_mayLoad 16 = .ok (.iconst (-1), 1) := by decide +kernel
theorem dX9_mayLoad_17 : decode cX9_mayLoad 17 = .ok (.ireturn, 1) := by decide +kernel
theorem dX9_mayLoad_18 : decode cX9_mayLoad 18 = .ok (.aload_n 0, 1) := by decide +kernel
theorem dX9_mayLoad_19 : decode cX9_mayLoad 19 = .ok (.getfield 7, 3) := by decide +kernel
theorem dX9_mayLoad_22 : decode cX9_mayLoad 22 = .ok (.aload_n 0, 1) := by decide +kernel
theorem dX9_mayLoad_23 : decode cX9_mayLoad 23 = .ok (.getfield 7, 3) := by decide +kernel
theorem dX9_mayLoad_26 : decode cX9_mayLoad 26 = .ok (.sipush 423, 3) := by decide +kernel
theorem dX9_mayLoad_29 : decode cX9_mayLoad 29 = .ok (.bipush 13, 2) := by decide +kernel
theorem dX9_mayLoad_31 : decode cX9_mayLoad 31 = .ok (.iload_n 2, 1) := by decide +kernel
theorem dX9_mayLoad_32 : decode cX9_mayLoad 32 = .ok (.imul, 1) := by decide +kernel
theorem dX9_mayLoad_33 : decode cX9_mayLoad 33 = .ok (.iadd, 1) := by decide +kernel
theorem dX9_mayLoad_34 : decode cX9_mayLoad 34 = .ok (.iaload, 1) := by decide +kernel
theorem dX9_mayLoad_35 : decode cX9_mayLoad 35 = .ok (.invokestatic 66, 3) := by decide +kernel
theorem dX9_mayLoad_38 : decode cX9_mayLoad 38 = .ok (.ifCond .eq 8, 3) := by decide +kernel
theorem dX9_mayLoad_41 : decode cX9_mayLoad 41 = .ok (.bipush (-5), 2) := by decide +kernel
theorem dX9_mayLoad_43 : decode cX9_mayLoad 43 = .ok (.goto 4, 3) := by decide +kernel
theorem dX9_mayLoad_46 : decode cX9_mayLoad 46 = .ok (.iconst 0, 1) := by decide +kernel
theorem dX9_mayLoad_47 : decode cX9_mayLoad 47 = .ok (.ireturn, 1) := by decide +kernel
theorem dX9_loads_0 : decode cX9_loads 0 = .ok (.sipush 423, 3) := by decide +kernel
theorem dX9_loads_3 : decode cX9_loads 3 = .ok (.bipush 13, 2) := by decide +kernel
theorem dX9_loads_5 : decode cX9_loads 5 = .ok (.iload_n 2, 1) := by decide +kernel
theorem dX9_loads_6 : decode cX9_loads 6 = .ok (.imul, 1) := by decide +kernel
theorem dX9_loads_7 : decode cX9_loads 7 = .ok (.iadd, 1) := by decide +kernel
theorem dX9_loads_8 : decode cX9_loads 8 = .ok (.istore_n 3, 1) := by decide +kernel
theorem dX9_loads_9 : decode cX9_loads 9 = .ok (.aload_n 0, 1) := by decide +kernel
theorem dX9_loads_10 : decode cX9_loads 10 = .ok (.iload_n 1, 1) := by decide +kernel
theorem dX9_loads_11 : decode cX9_loads 11 = .ok (.aload_n 0, 1) := by decide +kernel
theorem dX9_loads_12 : decode cX9_loads 12 = .ok (.getfield 7, 3) := by decide +kernel
theorem dX9_loads_15 : decode cX9_loads 15 = .ok (.iload_n 3, 1) := by decide +kernel
theorem dX9_loads_16 : decode cX9_loads 16 = .ok (.iaload, 1) := by decide +kernel
theorem dX9_loads_17 : decode cX9_loads 17 = .ok (.iload_n 3, 1) := by decide +kernel
theorem dX9_loads_18 : decode cX9_loads 18 = .ok (.iconst 1, 1) := by decide +kernel
theorem dX9_loads_19 : decode cX9_loads 19 = .ok (.iadd, 1) := by decide +kernel
theorem dX9_loads_20 : decode cX9_loads 20 = .ok (.invokevirtual 98, 3) := by decide +kernel
theorem dX9_loads_23 : decode cX9_loads 23 = .ok (.ireturn, 1) := by decide +kernel
theorem dX9_load_0 : decode cX9_load 0 = .ok (.aload_n 0, 1) := by decide +kernel
theorem dX9_load_1 : decode cX9_load 1 = .ok (.iload_n 1, 1) := by decide +kernel
theorem dX9_load_2 : decode cX9_load 2 = .ok (.iload_n 2, 1) := by decide +kernel
theorem dX9_load_3 : decode cX9_load 3 = .ok (.invokevirtual 121, 3) := by decide +kernel
theorem dX9_load_6 : decode cX9_load 6 = .ok (.istore_n 3, 1) := by decide +kernel
theorem dX9_load_7 : decode cX9_load 7 = .ok (.iload_n 3, 1) := by decide +kernel
theorem dX9_load_8 : decode cX9_load 8 = .ok (.ifCond .eq 5, 3) := by decide +kernel
theorem dX9_load_11 : decode cX9_load 11 = .ok (.iload_n 3, 1) := by decide +kernel
theorem dX9_load_12 : decode cX9_load 12 = .ok (.ireturn, 1) := by decide +kernel
theorem dX9_load_13 : decode cX9_load 13 = .ok (.aload_n 0, 1) := by decide +kernel
theorem dX9_load_14 : decode cX9_load 14 = .ok (.invokevirtual 44, 3) := by decide +kernel
theorem dX9_load_17 : decode cX9_load 17 = .ok (.aload_n 0, 1) := by decide +kernel
theorem dX9_load_18 : decode cX9_load 18 = .ok (.iload_n 1, 1) := by decide +kernel
theorem dX9_load_19 : decode cX9_load 19 = .ok (.iload_n 2, 1) := by decide +kernel
theorem dX9_load_20 : decode cX9_load 20 = .ok (.invokevirtual 124, 3) := by decide +kernel
theorem dX9_load_23 : decode cX9_load 23 = .ok (.ireturn, 1) := by decide +kernel
theorem dX9_table_0 : decode cX9_table 0 = .ok (.iload_n 1, 1) := by decide +kernel
theorem dX9_table_1 : decode cX9_table 1 = .ok (.invokestatic 72, 3) := by decide +kernel
theorem dX9_table_4 : decode cX9_table 4 = .ok (.ifCond .eq 15, 3) := by decide +kernel
theorem dX9_table_7 : decode cX9_table 7 = .ok (.aload_n 0, 1) := by decide +kernel
theorem dX9_table_8 : decode cX9_table 8 = .ok (.getfield 7, 3) := by decide +kernel
theorem dX9_table_11 : decode cX9_table 11 = .ok (.bipush 9, 2) := by decide +kernel
theorem dX9_table_13 : decode cX9_table 13 = .ok (.iload_n 1, 1) := by decide +kernel
theorem dX9_table_14 : decode cX9_table 14 = .ok (.iadd, 1) := by decide +kernel
theorem dX9_table_15 : decode cX9_table 15 = .ok (.iaload, 1) := by decide +kernel
theorem dX9_table_16 : decode cX9_table 16 = .ok (.goto 4, 3) := by decide +kernel
theorem dX9_table_19 : decode cX9_table 19 = .ok (.iconst (-1), 1) := by decide +kernel
theorem dX9_table_20 : decode cX9_table 20 = .ok (.ireturn, 1) := by decide +kernel
theorem dX9_view_0 : decode cX9_view 0 = .ok (.aload_n 0, 1) := by decide +kernel
theorem dX9_view_1 : decode cX9_view 1 = .ok (.iload_n 1, 1) := by decide +kernel
theorem dX9_view_2 : decode cX9_view 2 = .ok (.invokevirtual 105, 3) := by decide +kernel
theorem dX9_view_5 : decode cX9_view 5 = .ok (.ifCond .eq 26, 3) := by decide +kernel
theorem dX9_view_8 : decode cX9_view 8 = .ok (.iload_n 2, 1) := by decide +kernel
theorem dX9_view_9 : decode cX9_view 9 = .ok (.invokestatic 72, 3) := by decide +kernel
theorem dX9_view_12 : decode cX9_view 12 = .ok (.ifCond .eq 19, 3) := by decide +kernel
theorem dX9_view_15 : decode cX9_view 15 = .ok (.aload_n 0, 1) := by decide +kernel
theorem dX9_view_16 : decode cX9_view 16 = .ok (.getfield 7, 3) := by decide +kernel
theorem dX9_view_19 : decode cX9_view 19 = .ok (.iload_n 1, 1) := by decide +kernel
theorem dX9_view_20 : decode cX9_view 20 = .ok (.invokestatic 62, 3) := by decide +kernel
theorem dX9_view_23 : decode cX9_view 23 = .ok (.iconst 3, 1) := by decide +kernel
theorem dX9_view_24 : decode cX9_view 24 = .ok (.iadd, 1) := by decide +kernel
theorem dX9_view_25 : decode cX9_view 25 = .ok (.iload_n 2, 1) := by decide +kernel
theorem dX9_view_26 : decode cX9_view 26 = .ok (.iadd, 1) := by decide +kernel
theorem dX9_view_27 : decode cX9_view 27 = .ok (.iaload, 1) := by decide +kernel
theorem dX9_view_28 : decode cX9_view 28 = .ok (.goto 4, 3) := by decide +kernel
theorem dX9_view_31 : decode cX9_view 31 = .ok (.iconst (-1), 1) := by decide +kernel
theorem dX9_view_32 : decode cX9_view 32 = .ok (.ireturn, 1) := by decide +kernel
theorem dX9_entry_0 : decode cX9_entry 0 = .ok (.iload_n 1, 1) := by decide +kernel
theorem dX9_entry_1 : decode cX9_entry 1 = .ok (.iconst 0, 1) := by decide +kernel
theorem dX9_entry_2 : decode cX9_entry 2 = .ok (.aload_n 0, 1) := by decide +kernel
theorem dX9_entry_3 : decode cX9_entry 3 = .ok (.getfield 7, 3) := by decide +kernel
theorem dX9_entry_6 : decode cX9_entry 6 = .ok (.bipush 6, 2) := by decide +kernel
theorem dX9_entry_8 : decode cX9_entry 8 = .ok (.iaload, 1) := by decide +kernel
theorem dX9_entry_9 : decode cX9_entry 9 = .ok (.iconst 1, 1) := by decide +kernel
theorem dX9_entry_10 : decode cX9_entry 10 = .ok (.isub, 1) := by decide +kernel
theorem dX9_entry_11 : decode cX9_entry 11 = .ok (.invokestatic 32, 3) := by decide +kernel
theorem dX9_entry_14 : decode cX9_entry 14 = .ok (.ifCond .ne 5, 3) := by decide +kernel
theorem dX9_entry_17 : decode cX9_entry 17 = .ok (.iconst (-1), 1) := by decide +kernel
theorem dX9_entry_18 : decode cX9_entry 18 = .ok (.ireturn, 1) := by decide +kernel
theorem dX9_entry_19 : decode cX9_entry 19 = .ok (.iload_n 2, 1) := by decide +kernel
theorem dX9_entry_20 : decode cX9_entry 20 = .ok (.iconst 0, 1) := by decide +kernel
theorem dX9_entry_21 : decode cX9_entry 21 = .ok (.iconst 5, 1) := by decide +kernel
theorem dX9_entry_22 : decode cX9_entry 22 = .ok (.invokestatic 32, 3) := by decide +kernel
theorem dX9_entry_25 : decode cX9_entry 25 = .ok (.ifCond .ne 6, 3) := by decide +kernel
theorem dX9_entry_28 : decode cX9_entry 28 = .ok (.bipush (-2), 2) := by decide +kernel
theorem dX9_entry_30 : decode cX9_entry 30 = .ok (.ireturn, 1) := by decide +kernel
theorem dX9_entry_31 : decode cX9_entry 31 = .ok (.iload_n 2, 1) := by decide +kernel
theorem dX9_entry_32 : decode cX9_entry 32 = .ok (.iconst 4, 1) := by decide +kernel
theorem dX9_entry_33 : decode cX9_entry 33 = .ok (.if_icmp .ge 13, 3) := by decide +kernel
theorem dX9_entry_36 : decode cX9_entry 36 = .ok (.aload_n 0, 1) := by decide +kernel
theorem dX9_entry_37 : decode cX9_entry 37 = .ok (.getfield 7, 3) := by decide +kernel
theorem dX9_entry_40 : decode cX9_entry 40 = .ok (.iload_n 1, 1) := by decide +kernel
theorem dX9_entry_41 : decode cX9_entry 41 = .ok (.iload_n 2, 1) := by decide +kernel
theorem dX9_entry_42 : decode cX9_entry 42 = .ok (.invokestatic 47, 3) := by decide +kernel
theorem dX9_entry_45 : decode cX9_entry 45 = .ok (.ireturn, 1) := by decide +kernel
theorem dX9_entry_46 : decode cX9_entry 46 = .ok (.iload_n 2, 1) := by decide +kernel
theorem dX9_entry_47 : decode cX9_entry 47 = .ok (.iconst 4, 1) := by decide +kernel
theorem dX9_entry_48 : decode cX9_entry 48 = .ok (.if_icmp .ne 17, 3) := by decide +kernel
theorem dX9_entry_51 : decode cX9_entry 51 = .ok (.aload_n 0, 1) := by decide +kernel
theorem dX9_entry_52 : decode cX9_entry 52 = .ok (.getfield 7, 3) := by decide +kernel
theorem dX9_entry_55 : decode cX9_entry 55 = .ok (.iload_n 1, 1) := by decide +kernel
theorem dX9_entry_56 : decode cX9_entry 56 = .ok (.invokestatic 55, 3) := by decide +kernel
theorem dX9_entry_59 : decode cX9_entry 59 = .ok (.ifCond .eq 21, 3) := by decide +kernel
theorem dX9_entry_62 : decode cX9_entry 62 = .ok (.goto 14, 3) := by decide +kernel
theorem dX9_entry_65 : decode cX9_entry 65 = .ok (.aload_n 0, 1) := by decide +kernel
theorem dX9_entry_66 : decode cX9_entry 66 = .ok (.getfield 7, 3) := by decide +kernel
theorem dX9_entry_69 : decode cX9_entry 69 = .ok (.iload_n 1, 1) := by decide +kernel
theorem dX9_entry_70 : decode cX9_entry 70 = .ok (.invokestatic 51, 3) := by decide +kernel
theorem dX9_entry_73 : decode cX9_entry 73 = .ok (.ifCond .eq 7, 3) := by decide +kernel
theorem dX9_entry_76 : decode cX9_entry 76 = .ok (.iconst 1, 1) := by decide +kernel
theorem dX9_entry_77 : decode cX9_entry 77 = .ok (.goto 4, 3) := by decide +kernel
theorem dX9_entry_80 : decode cX9_entry 80 = .ok (.iconst 0, 1) := by decide +kernel
theorem dX9_entry_81 : decode cX9_entry 81 = .ok (.ireturn, 1) := by decide +kernel
theorem dX9_unlike_0 : decode cX9_unlike 0 = .ok (.iconst 0, 1) := by decide +kernel
theorem dX9_unlike_1 : decode cX9_unlike 1 = .ok (.istore_n 2, 1) := by decide +kernel
theorem dX9_unlike_2 : decode cX9_unlike 2 = .ok (.iconst 0, 1) := by decide +kernel
theorem dX9_unlike_3 : decode cX9_unlike 3 = .ok (.istore_n 3, 1) := by decide +kernel
theorem dX9_unlike_4 : decode cX9_unlike 4 = .ok (.iload_n 3, 1) := by decide +kernel
theorem dX9_unlike_5 : decode cX9_unlike 5 = .ok (.bipush 12, 2) := by decide +kernel
theorem dX9_unlike_7 : decode cX9_unlike 7 = .ok (.if_icmp .ge 39, 3) := by decide +kernel
theorem dX9_unlike_10 : decode cX9_unlike 10 = .ok (.iload_n 2, 1) := by decide +kernel
theorem dX9_unlike_11 : decode cX9_unlike 11 = .ok (.aload_n 0, 1) := by decide +kernel
theorem dX9_unlike_12 : decode cX9_unlike 12 = .ok (.getfield 7, 3) := by decide +kernel
theorem dX9_unlike_15 : decode cX9_unlike 15 = .ok (.iload_n 1, 1) := by decide +kernel
theorem dX9_unlike_16 : decode cX9_unlike 16 = .ok (.iload_n 3, 1) := by decide +kernel
theorem dX9_unlike_17 : decode cX9_unlike 17 = .ok (.iadd, 1) := by decide +kernel
theorem dX9_unlike_18 : decode cX9_unlike 18 = .ok (.iaload, 1) := by decide +kernel
theorem dX9_unlike_19 : decode cX9_unlike 19 = .ok (.aload_n 0, 1) := by decide +kernel
theorem dX9_unlike_20 : decode cX9_unlike 20 = .ok (.getfield 7, 3) := by decide +kernel
theorem dX9_unlike_23 : decode cX9_unlike 23 = .ok (.bipush 9, 2) := by decide +kernel
theorem dX9_unlike_25 : decode cX9_unlike 25 = .ok (.iload_n 3, 1) := by decide +kernel
theorem dX9_unlike_26 : decode cX9_unlike 26 = .ok (.iadd, 1) := by decide +kernel
theorem dX9_unlike_27 : decode cX9_unlike 27 = .ok (.iaload, 1) := by decide +kernel
theorem dX9_unlike_28 : decode cX9_unlike 28 = .ok (.if_icmp .ne 7, 3) := by decide +kernel
theorem dX9_unlike_31 : decode cX9_unlike 31 = .ok (.iconst 0, 1) := by decide +kernel
theorem dX9_unlike_32 : decode cX9_unlike 32 = .ok (.goto 6, 3) := by decide +kernel
theorem dX9_unlike_35 : decode cX9_unlike 35 = .ok (.iconst 1, 1) := by decide +kernel
theorem dX9_unlike_36 : decode cX9_unlike 36 = .ok (.iload_n 3, 1) := by decide +kernel
theorem dX9_unlike_37 : decode cX9_unlike 37 = .ok (.ishl, 1) := by decide +kernel
theorem dX9_unlike_38 : decode cX9_unlike 38 = .ok (.ior, 1) := by decide +kernel
theorem dX9_unlike_39 : decode cX9_unlike 39 = .ok (.istore_n 2, 1) := by decide +kernel
theorem dX9_unlike_40 : decode cX9_unlike 40 = .ok (.iinc 3 1, 3) := by decide +kernel
theorem dX9_unlike_43 : decode cX9_unlike 43 = .ok (.goto (-39), 3) := by decide +kernel
theorem dX9_unlike_46 : decode cX9_unlike 46 = .ok (.iload_n 2, 1) := by decide +kernel
theorem dX9_unlike_47 : decode cX9_unlike 47 = .ok (.ireturn, 1) := by decide +kernel
theorem dX9_ofReader_0 : decode cX9_ofReader 0 = .ok (.aload_n 0, 1) := by decide +kernel
theorem dX9_ofReader_1 : decode cX9_ofReader 1 = .ok (.iload_n 1, 1) := by decide +kernel
theorem dX9_ofReader_2 : decode cX9_ofReader 2 = .ok (.invokevirtual 105, 3) := by decide +kernel
theorem dX9_ofReader_5 : decode cX9_ofReader 5 = .ok (.ifCond .ne 5, 3) := by decide +kernel
theorem dX9_ofReader_8 : decode cX9_ofReader 8 = .ok (.iconst (-1), 1) := by decide +kernel
theorem dX9_ofReader_9 : decode cX9_ofReader 9 = .ok (.ireturn, 1) := by decide +kernel
theorem dX9_ofReader_10 : decode cX9_ofReader 10 = .ok (.iload_n 2, 1) := by decide +kernel
theorem dX9_ofReader_11 : decode cX9_ofReader 11 = .ok (.iconst 0, 1) := by decide +kernel
theorem dX9_ofReader_12 : decode cX9_ofReader 12 = .ok (.bipush 6, 2) := by decide +kernel
theorem dX9_ofReader_14 : decode cX9_ofReader 14 = .ok (.invokestatic 32, 3) := by decide +kernel
theorem dX9_ofReader_17 : decode cX9_ofReader 17 = .ok (.ifCond .ne 6, 3) := by decide +kernel
theorem dX9_ofReader_20 : decode cX9_ofReader 20 = .ok (.bipush (-2), 2) := by decide +kernel
theorem dX9_ofReader_22 : decode cX9_ofReader 22 = .ok (.ireturn, 1) := by decide +kernel
theorem dX9_ofReader_23 : decode cX9_ofReader 23 = .ok (.iload_n 1, 1) := by decide +kernel
theorem dX9_ofReader_24 : decode cX9_ofReader 24 = .ok (.invokestatic 62, 3) := by decide +kernel
theorem dX9_ofReader_27 : decode cX9_ofReader 27 = .ok (.istore_n 3, 1) := by decide +kernel
theorem dX9_ofReader_28 : decode cX9_ofReader 28 = .ok (.iload_n 2, 1) := by decide +kernel
theorem dX9_ofReader_29 : decode cX9_ofReader 29 = .ok (.iconst 2, 1) := by decide +kernel
theorem dX9_ofReader_30 : decode cX9_ofReader 30 = .ok (.if_icmp .ge 12, 3) := by decide +kernel
theorem dX9_ofReader_33 : decode cX9_ofReader 33 = .ok (.aload_n 0, 1) := by decide +kernel
theorem dX9_ofReader_34 : decode cX9_ofReader 34 = .ok (.getfield 7, 3) := by decide +kernel
theorem dX9_ofReader_37 : decode cX9_ofReader 37 = .ok (.iload_n 3, 1) := by decide +kernel
theorem dX9_ofReader_38 : decode cX9_ofReader 38 = .ok (.iload_n 2, 1) := by decide +kernel
theorem dX9_ofReader_39 : decode cX9_ofReader 39 = .ok (.iadd, 1) := by decide +kernel
theorem dX9_ofReader_40 : decode cX9_ofReader 40 = .ok (.iaload, 1) := by decide +kernel
theorem dX9_ofReader_41 : decode cX9_ofReader 41 = .ok (.ireturn, 1) := by decide +kernel
theorem dX9_ofReader_42 : decode cX9_ofReader 42 = .ok (.iload_n 2, 1) := by decide +kernel
theorem dX9_ofReader_43 : decode cX9_ofReader 43 = .ok (.iconst 5, 1) := by decide +kernel
theorem dX9_ofReader_44 : decode cX9_ofReader 44 = .ok (.if_icmp .ge 54, 3) := by decide +kernel
theorem dX9_ofReader_47 : decode cX9_ofReader 47 = .ok (.iload_n 2, 1) := by decide +kernel
theorem dX9_ofReader_48 : decode cX9_ofReader 48 = .ok (.iconst 2, 1) := by decide +kernel
theorem dX9_ofReader_49 : decode cX9_ofReader 49 = .ok (.if_icmp .ne 16, 3) := by decide +kernel
theorem dX9_ofReader_52 : decode cX9_ofReader 52 = .ok (.aload_n 0, 1) := by decide +kernel
theorem dX9_ofReader_53 : decode cX9_ofReader 53 = .ok (.aload_n 0, 1) := by decide +kernel
theorem dX9_ofReader_54 : decode cX9_ofReader 54 = .ok (.getfield 7, 3) := by decide +kernel
theorem dX9_ofReader_57 : decode cX9_ofReader 57 = .ok (.iload_n 3, 1) := by decide +kernel
theorem dX9_ofReader_58 : decode cX9_ofReader 58 = .ok (.iaload, 1) := by decide +kernel
theorem dX9_ofReader_59 : decode cX9_ofReader 59 = .ok (.invokevirtual 127, 3) := by decide +kernel
theorem dX9_ofReader_62 : decode cX9_ofReader 62 = .ok (.goto 35, 3) := by decide +kernel
theorem dX9_ofReader_65 : decode cX9_ofReader 65 = .ok (.iload_n 2, 1) := by decide +kernel
theorem dX9_ofReader_66 : decode cX9_ofReader 66 = .ok (.iconst 3, 1) := by decide +kernel
theorem dX9_ofReader_67 : decode cX9_ofReader 67 = .ok (.if_icmp .ne 22, 3) := by decide +kernel
theorem dX9_ofReader_70 : decode cX9_ofReader 70 = .ok (.aload_n 0, 1) := by decide +kernel
theorem dX9_ofReader_71 : decode cX9_ofReader 71 = .ok (.getfield 7, 3) := by decide +kernel
theorem dX9_ofReader_74 : decode cX9_ofReader 74 = .ok (.iload_n 1, 1) := by decide +kernel
theorem dX9_ofReader_75 : decode cX9_ofReader 75 = .ok (.invokestatic 69, 3) := by decide +kernel
theorem dX9_ofReader_78 : decode cX9_ofReader 78 = .ok (.ifCond .eq 7, 3) := by decide +kernel
theorem dX9_ofReader_81 : decode cX9_ofReader 81 = .ok (.iconst 1, 1) := by decide +kernel
theorem dX9_ofReader_82 : decode cX9_ofReader 82 = .ok (.goto 15, 3) := by decide +kernel
theorem dX9_ofReader_85 : decode cX9_ofReader 85 = .ok (.iconst 0, 1) := by decide +kernel
theorem dX9_ofReader_86 : decode cX9_ofReader 86 = .ok (.goto 11, 3) := by decide +kernel
theorem dX9_ofReader_89 : decode cX9_ofReader 89 = .ok (.aload_n 0, 1) := by decide +kernel
theorem dX9_ofReader_90 : decode cX9_ofReader 90 = .ok (.getfield 7, 3) := by decide +kernel
theorem dX9_ofReader_93 : decode cX9_ofReader 93 = .ok (.iload_n 3, 1) := by decide +kernel
theorem dX9_ofReader_94 : decode cX9_ofReader 94 = .ok (.iconst 2, 1) := by decide +kernel
theorem dX9_ofReader_95 : decode cX9_ofReader 95 = .ok (.iadd, 1) := by decide +kernel
theorem dX9_ofReader_96 : decode cX9_ofReader 96 = .ok (.iaload, 1) := by decide +kernel
theorem dX9_ofReader_97 : decode cX9_ofReader 97 = .ok (.ireturn, 1) := by decide +kernel
theorem dX9_ofReader_98 : decode cX9_ofReader 98 = .ok (.aload_n 0, 1) := by decide +kernel
theorem dX9_ofReader_99 : decode cX9_ofReader 99 = .ok (.iload_n 3, 1) := by decide +kernel
theorem dX9_ofReader_100 : decode cX9_ofReader 100 = .ok (.iload_n 2, 1) := by decide +kernel
theorem dX9_ofReader_101 : decode cX9_ofReader 101 = .ok (.iconst 5, 1) := by decide +kernel
theorem dX9_ofReader_102 : decode cX9_ofReader 102 = .ok (.if_icmp .ne 7, 3) := by decide +kernel
theorem dX9_ofReader_105 : decode cX9_ofReader 105 = .ok (.iconst 3, 1) := by decide +kernel
theorem dX9_ofReader_106 : decode cX9_ofReader 106 = .ok (.goto 5, 3) := by decide +kernel
theorem dX9_ofReader_109 : decode cX9_ofReader 109 = .ok (.bipush 15, 2) := by decide +kernel
theorem dX9_ofReader_111 : decode cX9_ofReader 111 = .ok (.iadd, 1) := by decide +kernel
theorem dX9_ofReader_112 : decode cX9_ofReader 112 = .ok (.invokevirtual 130, 3) := by decide +kernel
theorem dX9_ofReader_115 : decode cX9_ofReader 115 = .ok (.ireturn, 1) := by decide +kernel
theorem dX9_valued_0 : decode cX9_valued 0 = .ok (.iconst 0, 1) := by decide +kernel
theorem dX9_valued_1 : decode cX9_valued 1 = .ok (.istore_n 2, 1) := by decide +kernel
theorem dX9_valued_2 : decode cX9_valued 2 = .ok (.iconst 0, 1) := by decide +kernel
theorem dX9_valued_3 : decode cX9_valued 3 = .ok (.istore_n 3, 1) := by decide +kernel
theorem dX9_valued_4 : decode cX9_valued 4 = .ok (.iload_n 3, 1) := by decide +kernel
theorem dX9_valued_5 : decode cX9_valued 5 = .ok (.bipush 12, 2) := by decide +kernel
theorem dX9_valued_7 : decode cX9_valued 7 = .ok (.if_icmp .ge 30, 3) := by decide +kernel
theorem dX9_valued_10 : decode cX9_valued 10 = .ok (.iload_n 2, 1) := by decide +kernel
theorem dX9_valued_11 : decode cX9_valued 11 = .ok (.aload_n 0, 1) := by decide +kernel
theorem dX9_valued_12 : decode cX9_valued 12 = .ok (.getfield 7, 3) := by decide +kernel
theorem dX9_valued_15 : decode cX9_valued 15 = .ok (.iload_n 1, 1) := by decide +kernel
theorem dX9_valued_16 : decode cX9_valued 16 = .ok (.iload_n 3, 1) := by decide +kernel
theorem dX9_valued_17 : decode cX9_valued 17 = .ok (.iadd, 1) := by decide +kernel
theorem dX9_valued_18 : decode cX9_valued 18 = .ok (.iaload, 1) := by decide +kernel
theorem dX9_valued_19 : decode cX9_valued 19 = .ok (.bipush (-6), 2) := by decide +kernel
theorem dX9_valued_21 : decode cX9_valued 21 = .ok (.if_icmp .ne 7, 3) := by decide +kernel
theorem dX9_valued_24 : decode cX9_valued 24 = .ok (.iconst 0, 1) := by decide +kernel
theorem dX9_valued_25 : decode cX9_valued 25 = .ok (.goto 4, 3) := by decide +kernel
theorem dX9_valued_28 : decode cX9_valued 28 = .ok (.iconst 1, 1) := by decide +kernel
theorem dX9_valued_29 : decode cX9_valued 29 = .ok (.iadd, 1) := by decide +kernel
theorem dX9_valued_30 : decode cX9_valued 30 = .ok (.istore_n 2, 1) := by decide +kernel
theorem dX9_valued_31 : decode cX9_valued 31 = .ok (.iinc 3 1, 3) := by decide +kernel
theorem dX9_valued_34 : decode cX9_valued 34 = .ok (.goto (-30), 3) := by decide +kernel
theorem dX9_valued_37 : decode cX9_valued 37 = .ok (.iload_n 2, 1) := by decide +kernel
theorem dX9_valued_38 : decode cX9_valued 38 = .ok (.ireturn, 1) := by decide +kernel
theorem dX9_ofSnapshot_0 : decode cX9_ofSnapshot 0 = .ok (.aload_n 0, 1) := by decide +kernel
theorem dX9_ofSnapshot_1 : decode cX9_ofSnapshot 1 = .ok (.iload_n 1, 1) := by decide +kernel
theorem dX9_ofSnapshot_2 : decode cX9_ofSnapshot 2 = .ok (.invokevirtual 118, 3) := by decide +kernel
theorem dX9_ofSnapshot_5 : decode cX9_ofSnapshot 5 = .ok (.ifCond .ne 5, 3) := by decide +kernel
theorem dX9_ofSnapshot_8 : decode cX9_ofSnapshot 8 = .ok (.iconst (-1), 1) := by decide +kernel
theorem dX9_ofSnapshot_9 : decode cX9_ofSnapshot 9 = .ok (.ireturn, 1) := by decide +kernel
theorem dX9_ofSnapshot_10 : decode cX9_ofSnapshot 10 = .ok (.iload_n 2, 1) := by decide +kernel
theorem dX9_ofSnapshot_11 : decode cX9_ofSnapshot 11 = .ok (.iconst 0, 1) := by decide +kernel
theorem dX9_ofSnapshot_12 : decode cX9_ofSnapshot 12 = .ok (.iconst 2, 1) := by decide +kernel
theorem dX9_ofSnapshot_13 : decode cX9_ofSnapshot 13 = .ok (.invokestatic 32, 3) := by decide +kernel
theorem dX9_ofSnapshot_16 : decode cX9_ofSnapshot 16 = .ok (.ifCond .ne 6, 3) := by decide +kernel
theorem dX9_ofSnapshot_19 : decode cX9_ofSnapshot 19 = .ok (.bipush (-2), 2) := by decide +kernel
theorem dX9_ofSnapshot_21 : decode cX9_ofSnapshot 21 = .ok (.ireturn, 1) := by decide +kernel
theorem dX9_ofSnapshot_22 : decode cX9_ofSnapshot 22 = .ok (.sipush 423, 3) := by decide +kernel
theorem dX9_ofSnapshot_25 : decode cX9_ofSnapshot 25 = .ok (.bipush 13, 2) := by decide +kernel
theorem dX9_ofSnapshot_27 : decode cX9_ofSnapshot 27 = .ok (.iload_n 1, 1) := by decide +kernel
theorem dX9_ofSnapshot_28 : decode cX9_ofSnapshot 28 = .ok (.imul, 1) := by decide +kernel
theorem dX9_ofSnapshot_29 : decode cX9_ofSnapshot 29 = .ok (.iadd, 1) := by decide +kernel
theorem dX9_ofSnapshot_30 : decode cX9_ofSnapshot 30 = .ok (.istore_n 3, 1) := by decide +kernel
theorem dX9_ofSnapshot_31 : decode cX9_ofSnapshot 31 = .ok (.iload_n 2, 1) := by decide +kernel
theorem dX9_ofSnapshot_32 : decode cX9_ofSnapshot 32 = .ok (.ifCond .ne 12, 3) := by decide +kernel
theorem dX9_ofSnapshot_35 : decode cX9_ofSnapshot 35 = .ok (.aload_n 0, 1) := by decide +kernel
theorem dX9_ofSnapshot_36 : decode cX9_ofSnapshot 36 = .ok (.getfield 7, 3) := by decide +kernel
theorem dX9_ofSnapshot_39 : decode cX9_ofSnapshot 39 = .ok (.iload_n 3, 1) := by decide +kernel
theorem dX9_ofSnapshot_40 : decode cX9_ofSnapshot 40 = .ok (.iaload, 1) := by decide +kernel
theorem dX9_ofSnapshot_41 : decode cX9_ofSnapshot 41 = .ok (.goto 28, 3) := by decide +kernel
theorem dX9_ofSnapshot_44 : decode cX9_ofSnapshot 44 = .ok (.iload_n 2, 1) := by decide +kernel
theorem dX9_ofSnapshot_45 : decode cX9_ofSnapshot 45 = .ok (.iconst 1, 1) := by decide +kernel
theorem dX9_ofSnapshot_46 : decode cX9_ofSnapshot 46 = .ok (.if_icmp .ne 13, 3) := by decide +kernel
theorem dX9_ofSnapshot_49 : decode cX9_ofSnapshot 49 = .ok (.aload_n 0, 1) := by decide +kernel
theorem dX9_ofSnapshot_50 : decode cX9_ofSnapshot 50 = .ok (.iload_n 3, 1) := by decide +kernel
theorem dX9_ofSnapshot_51 : decode cX9_ofSnapshot 51 = .ok (.iconst 1, 1) := by decide +kernel
theorem dX9_ofSnapshot_52 : decode cX9_ofSnapshot 52 = .ok (.iadd, 1) := by decide +kernel
theorem dX9_ofSnapshot_53 : decode cX9_ofSnapshot 53 = .ok (.invokevirtual 133, 3) := by decide +kernel
theorem dX9_ofSnapshot_56 : decode cX9_ofSnapshot 56 = .ok (.goto 13, 3) := by decide +kernel
theorem dX9_ofSnapshot_59 : decode cX9_ofSnapshot 59 = .ok (.aload_n 0, 1) := by decide +kernel
theorem dX9_ofSnapshot_60 : decode cX9_ofSnapshot 60 = .ok (.aload_n 0, 1) := by decide +kernel
theorem dX9_ofSnapshot_61 : decode cX9_ofSnapshot 61 = .ok (.getfield 7, 3) := by decide +kernel
theorem dX9_ofSnapshot_64 : decode cX9_ofSnapshot 64 = .ok (.iload_n 3, 1) := by decide +kernel
theorem dX9_ofSnapshot_65 : decode cX9_ofSnapshot 65 = .ok (.iaload, 1) := by decide +kernel
theorem dX9_ofSnapshot_66 : decode cX9_ofSnapshot 66 = .ok (.invokevirtual 127, 3) := by decide +kernel
theorem dX9_ofSnapshot_69 : decode cX9_ofSnapshot 69 = .ok (.ireturn, 1) := by decide +kernel
theorem dX9_count_0 : decode cX9_count 0 = .ok (.iload_n 1, 1) := by decide +kernel
theorem dX9_count_1 : decode cX9_count 1 = .ok (.iconst 0, 1) := by decide +kernel
theorem dX9_count_2 : decode cX9_count 2 = .ok (.bipush 12, 2) := by decide +kernel
theorem dX9_count_4 : decode cX9_count 4 = .ok (.invokestatic 32, 3) := by decide +kernel
theorem dX9_count_7 : decode cX9_count 7 = .ok (.ifCond .ne 6, 3) := by decide +kernel
theorem dX9_count_10 : decode cX9_count 10 = .ok (.bipush (-2), 2) := by decide +kernel
theorem dX9_count_12 : decode cX9_count 12 = .ok (.ireturn, 1) := by decide +kernel
theorem dX9_count_13 : decode cX9_count 13 = .ok (.iload_n 1, 1) := by decide +kernel
theorem dX9_count_14 : decode cX9_count 14 = .ok (.iconst 4, 1) := by decide +kernel
theorem dX9_count_15 : decode cX9_count 15 = .ok (.if_icmp .ge 52, 3) := by decide +kernel
theorem dX9_count_18 : decode cX9_count 18 = .ok (.iload_n 1, 1) := by decide +kernel
theorem dX9_count_19 : decode cX9_count 19 = .ok (.ifCond .ne 13, 3) := by decide +kernel
theorem dX9_count_22 : decode cX9_count 22 = .ok (.aload_n 0, 1) := by decide +kernel
theorem dX9_count_23 : decode cX9_count 23 = .ok (.getfield 7, 3) := by decide +kernel
theorem dX9_count_26 : decode cX9_count 26 = .ok (.bipush 6, 2) := by decide +kernel
theorem dX9_count_28 : decode cX9_count 28 = .ok (.iaload, 1) := by decide +kernel
theorem dX9_count_29 : decode cX9_count 29 = .ok (.goto 37, 3) := by decide +kernel
theorem dX9_count_32 : decode cX9_count 32 = .ok (.iload_n 1, 1) := by decide +kernel
theorem dX9_count_33 : decode cX9_count 33 = .ok (.iconst 1, 1) := by decide +kernel
theorem dX9_count_34 : decode cX9_count 34 = .ok (.if_icmp .ne 12, 3) := by decide +kernel
theorem dX9_count_37 : decode cX9_count 37 = .ok (.aload_n 0, 1) := by decide +kernel
theorem dX9_count_38 : decode cX9_count 38 = .ok (.getfield 7, 3) := by decide +kernel
theorem dX9_count_41 : decode cX9_count 41 = .ok (.iconst 3, 1) := by decide +kernel
theorem dX9_count_42 : decode cX9_count 42 = .ok (.iaload, 1) := by decide +kernel
theorem dX9_count_43 : decode cX9_count 43 = .ok (.goto 23, 3) := by decide +kernel
theorem dX9_count_46 : decode cX9_count 46 = .ok (.iload_n 1, 1) := by decide +kernel
theorem dX9_count_47 : decode cX9_count 47 = .ok (.iconst 2, 1) := by decide +kernel
theorem dX9_count_48 : decode cX9_count 48 = .ok (.if_icmp .ne 12, 3) := by decide +kernel
theorem dX9_count_51 : decode cX9_count 51 = .ok (.aload_n 0, 1) := by decide +kernel
theorem dX9_count_52 : decode cX9_count 52 = .ok (.bipush 9, 2) := by decide +kernel
theorem dX9_count_54 : decode cX9_count 54 = .ok (.invokevirtual 133, 3) := by decide +kernel
theorem dX9_count_57 : decode cX9_count 57 = .ok (.goto 9, 3) := by decide +kernel
theorem dX9_count_60 : decode cX9_count 60 = .ok (.aload_n 0, 1) := by decide +kernel
theorem dX9_count_61 : decode cX9_count 61 = .ok (.getfield 7, 3) := by decide +kernel
theorem dX9_count_64 : decode cX9_count 64 = .ok (.iconst 2, 1) := by decide +kernel
theorem dX9_count_65 : decode cX9_count 65 = .ok (.iaload, 1) := by decide +kernel
theorem dX9_count_66 : decode cX9_count 66 = .ok (.ireturn, 1) := by decide +kernel
theorem dX9_count_67 : decode cX9_count 67 = .ok (.iload_n 1, 1) := by decide +kernel
theorem dX9_count_68 : decode cX9_count 68 = .ok (.bipush 9, 2) := by decide +kernel
theorem dX9_count_70 : decode cX9_count 70 = .ok (.if_icmp .ge 71, 3) := by decide +kernel
theorem dX9_count_73 : decode cX9_count 73 = .ok (.iload_n 1, 1) := by decide +kernel
theorem dX9_count_74 : decode cX9_count 74 = .ok (.iconst 4, 1) := by decide +kernel
theorem dX9_count_75 : decode cX9_count 75 = .ok (.if_icmp .ne 12, 3) := by decide +kernel
theorem dX9_count_78 : decode cX9_count 78 = .ok (.aload_n 0, 1) := by decide +kernel
theorem dX9_count_79 : decode cX9_count 79 = .ok (.getfield 7, 3) := by decide +kernel
theorem dX9_count_82 : decode cX9_count 82 = .ok (.iconst 4, 1) := by decide +kernel
theorem dX9_count_83 : decode cX9_count 83 = .ok (.iaload, 1) := by decide +kernel
theorem dX9_count_84 : decode cX9_count 84 = .ok (.goto 56, 3) := by decide +kernel
theorem dX9_count_87 : decode cX9_count 87 = .ok (.iload_n 1, 1) := by decide +kernel
theorem dX9_count_88 : decode cX9_count 88 = .ok (.iconst 5, 1) := by decide +kernel
theorem dX9_count_89 : decode cX9_count 89 = .ok (.if_icmp .ne 12, 3) := by decide +kernel
theorem dX9_count_92 : decode cX9_count 92 = .ok (.aload_n 0, 1) := by decide +kernel
theorem dX9_count_93 : decode cX9_count 93 = .ok (.getfield 7, 3) := by decide +kernel
theorem dX9_count_96 : decode cX9_count 96 = .ok (.iconst 5, 1) := by decide +kernel
theorem dX9_count_97 : decode cX9_count 97 = .ok (.iaload, 1) := by decide +kernel
theorem dX9_count_98 : decode cX9_count 98 = .ok (.goto 42, 3) := by decide +kernel
theorem dX9_count_101 : decode cX9_count 101 = .ok (.iload_n 1, 1) := by decide +kernel
theorem dX9_count_102 : decode cX9_count 102 = .ok (.bipush 6, 2) := by decide +kernel
theorem dX9_count_104 : decode cX9_count 104 = .ok (.if_icmp .ne 13, 3) := by decide +kernel
theorem dX9_count_107 : decode cX9_count 107 = .ok (.aload_n 0, 1) := by decide +kernel
theorem dX9_count_108 : decode cX9_count 108 = .ok (.getfield 7, 3) := by decide +kernel
theorem dX9_count_111 : decode cX9_count 111 = .ok (.bipush 7, 2) := by decide +kernel
theorem dX9_count_113 : decode cX9_count 113 = .ok (.iaload, 1) := by decide +kernel
theorem dX9_count_114 : decode cX9_count 114 = .ok (.goto 26, 3) := by decide +kernel
theorem dX9_count_117 : decode cX9_count 117 = .ok (.iload_n 1, 1) := by decide +kernel
theorem dX9_count_118 : decode cX9_count 118 = .ok (.bipush 7, 2) := by decide +kernel
theorem dX9_count_120 : decode cX9_count 120 = .ok (.if_icmp .ne 13, 3) := by decide +kernel
theorem dX9_count_123 : decode cX9_count 123 = .ok (.aload_n 0, 1) := by decide +kernel
theorem dX9_count_124 : decode cX9_count 124 = .ok (.getfield 7, 3) := by decide +kernel
theorem dX9_count_127 : decode cX9_count 127 = .ok (.invokestatic 136, 3) := by decide +kernel
theorem dX9_count_130 : decode cX9_count 130 = .ok (.goto 10, 3) := by decide +kernel
theorem dX9_count_133 : decode cX9_count 133 = .ok (.aload_n 0, 1) := by decide +kernel
theorem dX9_count_134 : decode cX9_count 134 = .ok (.getfield 7, 3) := by decide +kernel
theorem dX9_count_137 : decode cX9_count 137 = .ok (.bipush 8, 2) := by decide +kernel
theorem dX9_count_139 : decode cX9_count 139 = .ok (.iaload, 1) := by decide +kernel
theorem dX9_count_140 : decode cX9_count 140 = .ok (.ireturn, 1) := by decide +kernel
theorem dX9_count_141 : decode cX9_count 141 = .ok (.iload_n 1, 1) := by decide +kernel
theorem dX9_count_142 : decode cX9_count 142 = .ok (.bipush 11, 2) := by decide +kernel
theorem dX9_count_144 : decode cX9_count 144 = .ok (.if_icmp .ge 15, 3) := by decide +kernel
theorem dX9_count_147 : decode cX9_count 147 = .ok (.aload_n 0, 1) := by decide +kernel
theorem dX9_count_148 : decode cX9_count 148 = .ok (.getfield 7, 3) := by decide +kernel
theorem dX9_count_151 : decode cX9_count 151 = .ok (.iload_n 1, 1) := by decide +kernel
theorem dX9_count_152 : decode cX9_count 152 = .ok (.bipush 9, 2) := by decide +kernel
theorem dX9_count_154 : decode cX9_count 154 = .ok (.isub, 1) := by decide +kernel
theorem dX9_count_155 : decode cX9_count 155 = .ok (.iaload, 1) := by decide +kernel
theorem dX9_count_156 : decode cX9_count 156 = .ok (.goto 20, 3) := by decide +kernel
theorem dX9_count_159 : decode cX9_count 159 = .ok (.iload_n 1, 1) := by decide +kernel
theorem dX9_count_160 : decode cX9_count 160 = .ok (.bipush 11, 2) := by decide +kernel
theorem dX9_count_162 : decode cX9_count 162 = .ok (.if_icmp .ne 10, 3) := by decide +kernel
theorem dX9_count_165 : decode cX9_count 165 = .ok (.aload_n 0, 1) := by decide +kernel
theorem dX9_count_166 : decode cX9_count 166 = .ok (.getfield 139, 3) := by decide +kernel
theorem dX9_count_169 : decode cX9_count 169 = .ok (.goto 7, 3) := by decide +kernel
theorem dX9_count_172 : decode cX9_count 172 = .ok (.aload_n 0, 1) := by decide +kernel
theorem dX9_count_173 : decode cX9_count 173 = .ok (.getfield 36, 3) := by decide +kernel
theorem dX9_count_176 : decode cX9_count 176 = .ok (.ireturn, 1) := by decide +kernel
theorem dX9_thinsThen_0 : decode cX9_thinsThen 0 = .ok (.aload_n 0, 1) := by decide +kernel
theorem dX9_thinsThen_1 : decode cX9_thinsThen 1 = .ok (.getfield 7, 3) := by decide +kernel
theorem dX9_thinsThen_4 : decode cX9_thinsThen 4 = .ok (.iconst 0, 1) := by decide +kernel
theorem dX9_thinsThen_5 : decode cX9_thinsThen 5 = .ok (.aload_n 0, 1) := by decide +kernel
theorem dX9_thinsThen_6 : decode cX9_thinsThen 6 = .ok (.getfield 13, 3) := by decide +kernel
theorem dX9_thinsThen_9 : decode cX9_thinsThen 9 = .ok (.iconst 0, 1) := by decide +kernel
theorem dX9_thinsThen_10 : decode cX9_thinsThen 10 = .ok (.invokestatic 40, 3) := by decide +kernel
theorem dX9_thinsThen_13 : decode cX9_thinsThen 13 = .ok (.aload_n 0, 1) := by decide +kernel
theorem dX9_thinsThen_14 : decode cX9_thinsThen 14 = .ok (.getfield 13, 3) := by decide +kernel
theorem dX9_thinsThen_17 : decode cX9_thinsThen 17 = .ok (.iconst 2, 1) := by decide +kernel
theorem dX9_thinsThen_18 : decode cX9_thinsThen 18 = .ok (.dup2, 1) := by decide +kernel
theorem dX9_thinsThen_19 : decode cX9_thinsThen 19 = .ok (.iaload, 1) := by decide +kernel
theorem dX9_thinsThen_20 : decode cX9_thinsThen 20 = .ok (.iload_n 1, 1) := by decide +kernel
theorem dX9_thinsThen_21 : decode cX9_thinsThen 21 = .ok (.iadd, 1) := by decide +kernel
theorem dX9_thinsThen_22 : decode cX9_thinsThen 22 = .ok (.iastore, 1) := by decide +kernel
theorem dX9_thinsThen_23 : decode cX9_thinsThen 23 = .ok (.aload_n 0, 1) := by decide +kernel
theorem dX9_thinsThen_24 : decode cX9_thinsThen 24 = .ok (.getfield 13, 3) := by decide +kernel
theorem dX9_thinsThen_27 : decode cX9_thinsThen 27 = .ok (.invokestatic 90, 3) := by decide +kernel
theorem dX9_thinsThen_30 : decode cX9_thinsThen 30 = .ok (.pop, 1) := by decide +kernel
theorem dX9_thinsThen_31 : decode cX9_thinsThen 31 = .ok (.return_, 1) := by decide +kernel
theorem dX9_leftIn_0 : decode cX9_leftIn 0 = .ok (.iload_n 1, 1) := by decide +kernel
theorem dX9_leftIn_1 : decode cX9_leftIn 1 = .ok (.iconst 0, 1) := by decide +kernel
theorem dX9_leftIn_2 : decode cX9_leftIn 2 = .ok (.sipush 999, 3) := by decide +kernel
theorem dX9_leftIn_5 : decode cX9_leftIn 5 = .ok (.invokestatic 32, 3) := by decide +kernel
theorem dX9_leftIn_8 : decode cX9_leftIn 8 = .ok (.ifCond .ne 6, 3) := by decide +kernel
theorem dX9_leftIn_11 : decode cX9_leftIn 11 = .ok (.bipush (-2), 2) := by decide +kernel
theorem dX9_leftIn_13 : decode cX9_leftIn 13 = .ok (.ireturn, 1) := by decide +kernel
theorem dX9_leftIn_14 : decode cX9_leftIn 14 = .ok (.aload_n 0, 1) := by decide +kernel
theorem dX9_leftIn_15 : decode cX9_leftIn 15 = .ok (.iload_n 1, 1) := by decide +kernel
theorem dX9_leftIn_16 : decode cX9_leftIn 16 = .ok (.invokevirtual 142, 3) := by decide +kernel
theorem dX9_leftIn_19 : decode cX9_leftIn 19 = .ok (.aload_n 0, 1) := by decide +kernel
theorem dX9_leftIn_20 : decode cX9_leftIn 20 = .ok (.getfield 13, 3) := by decide +kernel
theorem dX9_leftIn_23 : decode cX9_leftIn 23 = .ok (.bipush 6, 2) := by decide +kernel
theorem dX9_leftIn_25 : decode cX9_leftIn 25 = .ok (.iaload, 1) := by decide +kernel
theorem dX9_leftIn_26 : decode cX9_leftIn 26 = .ok (.ireturn, 1) := by decide +kernel
theorem dX9_lateIn_0 : decode cX9_lateIn 0 = .ok (.iload_n 1, 1) := by decide +kernel
theorem dX9_lateIn_1 : decode cX9_lateIn 1 = .ok (.iconst 0, 1) := by decide +kernel
theorem dX9_lateIn_2 : decode cX9_lateIn 2 = .ok (.sipush 999, 3) := by decide +kernel
theorem dX9_lateIn_5 : decode cX9_lateIn 5 = .ok (.invokestatic 32, 3) := by decide +kernel
theorem dX9_lateIn_8 : decode cX9_lateIn 8 = .ok (.ifCond .ne 6, 3) := by decide +kernel
theorem dX9_lateIn_11 : decode cX9_lateIn 11 = .ok (.bipush (-2), 2) := by decide +kernel
theorem dX9_lateIn_13 : decode cX9_lateIn 13 = .ok (.ireturn, 1) := by decide +kernel
theorem dX9_lateIn_14 : decode cX9_lateIn 14 = .ok (.aload_n 0, 1) := by decide +kernel
theorem dX9_lateIn_15 : decode cX9_lateIn 15 = .ok (.iload_n 1, 1) := by decide +kernel
theorem dX9_lateIn_16 : decode cX9_lateIn 16 = .ok (.invokevirtual 142, 3) := by decide +kernel
theorem dX9_lateIn_19 : decode cX9_lateIn 19 = .ok (.aload_n 0, 1) := by decide +kernel
theorem dX9_lateIn_20 : decode cX9_lateIn 20 = .ok (.getfield 13, 3) := by decide +kernel
theorem dX9_lateIn_23 : decode cX9_lateIn 23 = .ok (.invokestatic 136, 3) := by decide +kernel
theorem dX9_lateIn_26 : decode cX9_lateIn 26 = .ok (.ireturn, 1) := by decide +kernel
theorem dX9_shortest_0 : decode cX9_shortest 0 = .ok (.aload_n 0, 1) := by decide +kernel
theorem dX9_shortest_1 : decode cX9_shortest 1 = .ok (.iload_n 1, 1) := by decide +kernel
theorem dX9_shortest_2 : decode cX9_shortest 2 = .ok (.invokevirtual 105, 3) := by decide +kernel
theorem dX9_shortest_5 : decode cX9_shortest 5 = .ok (.ifCond .ne 5, 3) := by decide +kernel
theorem dX9_shortest_8 : decode cX9_shortest 8 = .ok (.iconst (-1), 1) := by decide +kernel
theorem dX9_shortest_9 : decode cX9_shortest 9 = .ok (.ireturn, 1) := by decide +kernel
theorem dX9_shortest_10 : decode cX9_shortest 10 = .ok (.iload_n 2, 1) := by decide +kernel
theorem dX9_shortest_11 : decode cX9_shortest 11 = .ok (.iconst 0, 1) := by decide +kernel
theorem dX9_shortest_12 : decode cX9_shortest 12 = .ok (.iconst 1, 1) := by decide +kernel
theorem dX9_shortest_13 : decode cX9_shortest 13 = .ok (.invokestatic 32, 3) := by decide +kernel
theorem dX9_shortest_16 : decode cX9_shortest 16 = .ok (.ifCond .ne 6, 3) := by decide +kernel
theorem dX9_shortest_19 : decode cX9_shortest 19 = .ok (.bipush (-2), 2) := by decide +kernel
theorem dX9_shortest_21 : decode cX9_shortest 21 = .ok (.ireturn, 1) := by decide +kernel
theorem dX9_shortest_22 : decode cX9_shortest 22 = .ok (.iconst 5, 1) := by decide +kernel
theorem dX9_shortest_23 : decode cX9_shortest 23 = .ok (.istore_n 3, 1) := by decide +kernel
theorem dX9_shortest_24 : decode cX9_shortest 24 = .ok (.aload_n 0, 1) := by decide +kernel
theorem dX9_shortest_25 : decode cX9_shortest 25 = .ok (.getfield 7, 3) := by decide +kernel
theorem dX9_shortest_28 : decode cX9_shortest 28 = .ok (.bipush 6, 2) := by decide +kernel
theorem dX9_shortest_30 : decode cX9_shortest 30 = .ok (.iaload, 1) := by decide +kernel
theorem dX9_shortest_31 : decode cX9_shortest 31 = .ok (.istore 4, 2) := by decide +kernel
theorem dX9_shortest_33 : decode cX9_shortest 33 = .ok (.iconst 4, 1) := by decide +kernel
theorem dX9_shortest_34 : decode cX9_shortest 34 = .ok (.istore 5, 2) := by decide +kernel
theorem dX9_shortest_36 : decode cX9_shortest 36 = .ok (.iload 5, 2) := by decide +kernel
theorem dX9_shortest_38 : decode cX9_shortest 38 = .ok (.ifCond .lt 114, 3) := by decide +kernel
theorem dX9_shortest_41 : decode cX9_shortest 41 = .ok (.iload 5, 2) := by decide +kernel
theorem dX9_shortest_43 : decode cX9_shortest 43 = .ok (.ifCond .ne 22, 3) := by decide +kernel
theorem dX9_shortest_46 : decode cX9_shortest 46 = .ok (.aload_n 0, 1) := by decide +kernel
theorem dX9_shortest_47 : decode cX9_shortest 47 = .ok (.getfield 7, 3) := by decide +kernel
theorem dX9_shortest_50 : decode cX9_shortest 50 = .ok (.iload_n 1, 1) := by decide +kernel
theorem dX9_shortest_51 : decode cX9_shortest 51 = .ok (.invokestatic 69, 3) := by decide +kernel
theorem dX9_shortest_54 : decode cX9_shortest 54 = .ok (.ifCond .ne 7, 3) := by decide +kernel
theorem dX9_shortest_57 : decode cX9_shortest 57 = .ok (.iconst 1, 1) := by decide +kernel
theorem dX9_shortest_58 : decode cX9_shortest 58 = .ok (.goto 24, 3) := by decide +kernel
theorem dX9_shortest_61 : decode cX9_shortest 61 = .ok (.iconst 0, 1) := by decide +kernel
theorem dX9_shortest_62 : decode cX9_shortest 62 = .ok (.goto 20, 3) := by decide +kernel
theorem dX9_shortest_65 : decode cX9_shortest 65 = .ok (.aload_n 0, 1) := by decide +kernel
theorem dX9_shortest_66 : decode cX9_shortest 66 = .ok (.iload_n 1, 1) := by decide +kernel
theorem dX9_shortest_67 : decode cX9_shortest 67 = .ok (.iload 5, 2) := by decide +kernel
theorem dX9_shortest_69 : decode cX9_shortest 69 = .ok (.iconst 1, 1) := by decide +kernel
theorem dX9_shortest_70 : decode cX9_shortest 70 = .ok (.isub, 1) := by decide +kernel
theorem dX9_shortest_71 : decode cX9_shortest 71 = .ok (.invokevirtual 121, 3) := by decide +kernel
theorem dX9_shortest_74 : decode cX9_shortest 74 = .ok (.ifCond .ne 7, 3) := by decide +kernel
theorem dX9_shortest_77 : decode cX9_shortest 77 = .ok (.iconst 1, 1) := by decide +kernel
theorem dX9_shortest_78 : decode cX9_shortest 78 = .ok (.goto 4, 3) := by decide +kernel
theorem dX9_shortest_81 : decode cX9_shortest 81 = .ok (.iconst 0, 1) := by decide +kernel
theorem dX9_shortest_82 : decode cX9_shortest 82 = .ok (.istore 6, 2) := by decide +kernel
theorem dX9_shortest_84 : decode cX9_shortest 84 = .ok (.iload 5, 2) := by decide +kernel
theorem dX9_shortest_86 : decode cX9_shortest 86 = .ok (.ifCond .ne 15, 3) := by decide +kernel
theorem dX9_shortest_89 : decode cX9_shortest 89 = .ok (.aload_n 0, 1) := by decide +kernel
theorem dX9_shortest_90 : decode cX9_shortest 90 = .ok (.getfield 7, 3) := by decide +kernel
theorem dX9_shortest_93 : decode cX9_shortest 93 = .ok (.iload_n 1, 1) := by decide +kernel
theorem dX9_shortest_94 : decode cX9_shortest 94 = .ok (.invokestatic 62, 3) := by decide +kernel
theorem dX9_shortest_97 : decode cX9_shortest 97 = .ok (.iaload, 1) := by decide +kernel
theorem dX9_shortest_98 : decode cX9_shortest 98 = .ok (.goto 19, 3) := by decide +kernel
theorem dX9_shortest_101 : decode cX9_shortest 101 = .ok (.aload_n 0, 1) := by decide +kernel
theorem dX9_shortest_102 : decode cX9_shortest 102 = .ok (.getfield 7, 3) := by decide +kernel
theorem dX9_shortest_105 : decode cX9_shortest 105 = .ok (.sipush 423, 3) := by decide +kernel
theorem dX9_shortest_108 : decode cX9_shortest 108 = .ok (.bipush 13, 2) := by decide +kernel
theorem dX9_shortest_110 : decode cX9_shortest 110 = .ok (.iload 5, 2) := by decide +kernel
theorem dX9_shortest_112 : decode cX9_shortest 112 = .ok (.iconst 1, 1) := by decide +kernel
theorem dX9_shortest_113 : decode cX9_shortest 113 = .ok (.isub, 1) := by decide +kernel
theorem dX9_shortest_114 : decode cX9_shortest 114 = .ok (.imul, 1) := by decide +kernel
theorem dX9_shortest_115 : decode cX9_shortest 115 = .ok (.iadd, 1) := by decide +kernel
theorem dX9_shortest_116 : decode cX9_shortest 116 = .ok (.iaload, 1) := by decide +kernel
theorem dX9_shortest_117 : decode cX9_shortest 117 = .ok (.istore 7, 2) := by decide +kernel
theorem dX9_shortest_119 : decode cX9_shortest 119 = .ok (.iload 6, 2) := by decide +kernel
theorem dX9_shortest_121 : decode cX9_shortest 121 = .ok (.ifCond .eq 25, 3) := by decide +kernel
theorem dX9_shortest_124 : decode cX9_shortest 124 = .ok (.aload_n 0, 1) := by decide +kernel
theorem dX9_shortest_125 : decode cX9_shortest 125 = .ok (.iload 7, 2) := by decide +kernel
theorem dX9_shortest_127 : decode cX9_shortest 127 = .ok (.invokevirtual 127, 3) := by decide +kernel
theorem dX9_shortest_130 : decode cX9_shortest 130 = .ok (.iload 4, 2) := by decide +kernel
theorem dX9_shortest_132 : decode cX9_shortest 132 = .ok (.if_icmp .gt 14, 3) := by decide +kernel
theorem dX9_shortest_135 : decode cX9_shortest 135 = .ok (.iload 5, 2) := by decide +kernel
theorem dX9_shortest_137 : decode cX9_shortest 137 = .ok (.istore_n 3, 1) := by decide +kernel
theorem dX9_shortest_138 : decode cX9_shortest 138 = .ok (.aload_n 0, 1) := by decide +kernel
theorem dX9_shortest_139 : decode cX9_shortest 139 = .ok (.iload 7, 2) := by decide +kernel
theorem dX9_shortest_141 : decode cX9_shortest 141 = .ok (.invokevirtual 127, 3) := by decide +kernel
theorem dX9_shortest_144 : decode cX9_shortest 144 = .ok (.istore 4, 2) := by decide +kernel
theorem dX9_shortest_146 : decode cX9_shortest 146 = .ok (.iinc 5 (-1), 3) := by decide +kernel
theorem dX9_shortest_149 : decode cX9_shortest 149 = .ok (.goto (-113), 3) := by decide +kernel
theorem dX9_shortest_152 : decode cX9_shortest 152 = .ok (.iload_n 2, 1) := by decide +kernel
theorem dX9_shortest_153 : decode cX9_shortest 153 = .ok (.ifCond .ne 7, 3) := by decide +kernel
theorem dX9_shortest_156 : decode cX9_shortest 156 = .ok (.iload_n 3, 1) := by decide +kernel
theorem dX9_shortest_157 : decode cX9_shortest 157 = .ok (.goto 5, 3) := by decide +kernel
theorem dX9_shortest_160 : decode cX9_shortest 160 = .ok (.iload 4, 2) := by decide +kernel
theorem dX9_shortest_162 : decode cX9_shortest 162 = .ok (.ireturn, 1) := by decide +kernel
theorem dX9_gentlest_0 : decode cX9_gentlest 0 = .ok (.iconst 1, 1) := by decide +kernel
theorem dX9_gentlest_1 : decode cX9_gentlest 1 = .ok (.istore_n 1, 1) := by decide +kernel
theorem dX9_gentlest_2 : decode cX9_gentlest 2 = .ok (.iconst (-1), 1) := by decide +kernel
theorem dX9_gentlest_3 : decode cX9_gentlest 3 = .ok (.istore_n 2, 1) := by decide +kernel
theorem dX9_gentlest_4 : decode cX9_gentlest 4 = .ok (.iconst 1, 1) := by decide +kernel
theorem dX9_gentlest_5 : decode cX9_gentlest 5 = .ok (.istore_n 3, 1) := by decide +kernel
theorem dX9_gentlest_6 : decode cX9_gentlest 6 = .ok (.iload_n 3, 1) := by decide +kernel
theorem dX9_gentlest_7 : decode cX9_gentlest 7 = .ok (.bipush 20, 2) := by decide +kernel
theorem dX9_gentlest_9 : decode cX9_gentlest 9 = .ok (.if_icmp .gt 77, 3) := by decide +kernel
theorem dX9_gentlest_12 : decode cX9_gentlest 12 = .ok (.aload_n 0, 1) := by decide +kernel
theorem dX9_gentlest_13 : decode cX9_gentlest 13 = .ok (.getfield 7, 3) := by decide +kernel
theorem dX9_gentlest_16 : decode cX9_gentlest 16 = .ok (.iconst 0, 1) := by decide +kernel
theorem dX9_gentlest_17 : decode cX9_gentlest 17 = .ok (.aload_n 0, 1) := by decide +kernel
theorem dX9_gentlest_18 : decode cX9_gentlest 18 = .ok (.getfield 13, 3) := by decide +kernel
theorem dX9_gentlest_21 : decode cX9_gentlest 21 = .ok (.iconst 0, 1) := by decide +kernel
theorem dX9_gentlest_22 : decode cX9_gentlest 22 = .ok (.invokestatic 40, 3) := by decide +kernel
theorem dX9_gentlest_25 : decode cX9_gentlest 25 = .ok (.aload_n 0, 1) := by decide +kernel
theorem dX9_gentlest_26 : decode cX9_gentlest 26 = .ok (.getfield 13, 3) := by decide +kernel
theorem dX9_gentlest_29 : decode cX9_gentlest 29 = .ok (.iconst 0, 1) := by decide +kernel
theorem dX9_gentlest_30 : decode cX9_gentlest 30 = .ok (.iload_n 3, 1) := by decide +kernel
theorem dX9_gentlest_31 : decode cX9_gentlest 31 = .ok (.iastore, 1) := by decide +kernel
theorem dX9_gentlest_32 : decode cX9_gentlest 32 = .ok (.aload_n 0, 1) := by decide +kernel
theorem dX9_gentlest_33 : decode cX9_gentlest 33 = .ok (.getfield 13, 3) := by decide +kernel
theorem dX9_gentlest_36 : decode cX9_gentlest 36 = .ok (.invokestatic 90, 3) := by decide +kernel
theorem dX9_gentlest_39 : decode cX9_gentlest 39 = .ok (.pop, 1) := by decide +kernel
theorem dX9_gentlest_40 : decode cX9_gentlest 40 = .ok (.aload_n 0, 1) := by decide +kernel
theorem dX9_gentlest_41 : decode cX9_gentlest 41 = .ok (.getfield 13, 3) := by decide +kernel
theorem dX9_gentlest_44 : decode cX9_gentlest 44 = .ok (.bipush 6, 2) := by decide +kernel
theorem dX9_gentlest_46 : decode cX9_gentlest 46 = .ok (.iaload, 1) := by decide +kernel
theorem dX9_gentlest_47 : decode cX9_gentlest 47 = .ok (.iload_n 2, 1) := by decide +kernel
theorem dX9_gentlest_48 : decode cX9_gentlest 48 = .ok (.if_icmp .le 7, 3) := by decide +kernel
theorem dX9_gentlest_51 : decode cX9_gentlest 51 = .ok (.iload_n 3, 1) := by decide +kernel
theorem dX9_gentlest_52 : decode cX9_gentlest 52 = .ok (.goto 4, 3) := by decide +kernel
theorem dX9_gentlest_55 : decode cX9_gentlest 55 = .ok (.iload_n 1, 1) := by decide +kernel
theorem dX9_gentlest_56 : decode cX9_gentlest 56 = .ok (.istore_n 1, 1) := by decide +kernel
theorem dX9_gentlest_57 : decode cX9_gentlest 57 = .ok (.aload_n 0, 1) := by decide +kernel
theorem dX9_gentlest_58 : decode cX9_gentlest 58 = .ok (.getfield 13, 3) := by decide +kernel
theorem dX9_gentlest_61 : decode cX9_gentlest 61 = .ok (.bipush 6, 2) := by decide +kernel
theorem dX9_gentlest_63 : decode cX9_gentlest 63 = .ok (.iaload, 1) := by decide +kernel
theorem dX9_gentlest_64 : decode cX9_gentlest 64 = .ok (.iload_n 2, 1) := by decide +kernel
theorem dX9_gentlest_65 : decode cX9_gentlest 65 = .ok (.if_icmp .le 13, 3) := by decide +kernel
theorem dX9_gentlest_68 : decode cX9_gentlest 68 = .ok (.aload_n 0, 1) := by decide +kernel
theorem dX9_gentlest_69 : decode cX9_gentlest 69 = .ok (.getfield 13, 3) := by decide +kernel
theorem dX9_gentlest_72 : decode cX9_gentlest 72 = .ok (.bipush 6, 2) := by decide +kernel
theorem dX9_gentlest_74 : decode cX9_gentlest 74 = .ok (.iaload, 1) := by decide +kernel
theorem dX9_gentlest_75 : decode cX9_gentlest 75 = .ok (.goto 4, 3) := by decide +kernel
theorem dX9_gentlest_78 : decode cX9_gentlest 78 = .ok (.iload_n 2, 1) := by decide +kernel
theorem dX9_gentlest_79 : decode cX9_gentlest 79 = .ok (.istore_n 2, 1) := by decide +kernel
theorem dX9_gentlest_80 : decode cX9_gentlest 80 = .ok (.iinc 3 1, 3) := by decide +kernel
theorem dX9_gentlest_83 : decode cX9_gentlest 83 = .ok (.goto (-77), 3) := by decide +kernel
theorem dX9_gentlest_86 : decode cX9_gentlest 86 = .ok (.iload_n 1, 1) := by decide +kernel
theorem dX9_gentlest_87 : decode cX9_gentlest 87 = .ok (.ireturn, 1) := by decide +kernel
theorem dX9_byteOf_0 : decode cX9_byteOf 0 = .ok (.lload_n 0, 1) := by decide +kernel
theorem dX9_byteOf_1 : decode cX9_byteOf 1 = .ok (.bipush 8, 2) := by decide +kernel
theorem dX9_byteOf_3 : decode cX9_byteOf 3 = .ok (.iload_n 2, 1) := by decide +kernel
theorem dX9_byteOf_4 : decode cX9_byteOf 4 = .ok (.imul, 1) := by decide +kernel
theorem dX9_byteOf_5 : decode cX9_byteOf 5 = .ok (.lshr, 1) := by decide +kernel
theorem dX9_byteOf_6 : decode cX9_byteOf 6 = .ok (.ldc2_w 146, 3) := by decide +kernel
theorem dX9_byteOf_9 : decode cX9_byteOf 9 = .ok (.land, 1) := by decide +kernel
theorem dX9_byteOf_10 : decode cX9_byteOf 10 = .ok (.l2i, 1) := by decide +kernel
theorem dX9_byteOf_11 : decode cX9_byteOf 11 = .ok (.ireturn, 1) := by decide +kernel
theorem dX9_toldBy_0 : decode cX9_toldBy 0 = .ok (.iconst 0, 1) := by decide +kernel
theorem dX9_toldBy_1 : decode cX9_toldBy 1 = .ok (.istore_n 2, 1) := by decide +kernel
theorem dX9_toldBy_2 : decode cX9_toldBy 2 = .ok (.iload_n 2, 1) := by decide +kernel
theorem dX9_toldBy_3 : decode cX9_toldBy 3 = .ok (.bipush 8, 2) := by decide +kernel
theorem dX9_toldBy_5 : decode cX9_toldBy 5 = .ok (.if_icmp .ge 35, 3) := by decide +kernel
theorem dX9_toldBy_8 : decode cX9_toldBy 8 = .ok (.lload_n 0, 1) := by decide +kernel
theorem dX9_toldBy_9 : decode cX9_toldBy 9 = .ok (.iload_n 2, 1) := by decide +kernel
theorem dX9_toldBy_10 : decode cX9_toldBy 10 = .ok (.invokestatic 148, 3) := by decide +kernel
theorem dX9_toldBy_13 : decode cX9_toldBy 13 = .ok (.ifCond .eq 27, 3) := by decide +kernel
theorem dX9_toldBy_16 : decode cX9_toldBy 16 = .ok (.lload_n 0, 1) := by decide +kernel
theorem dX9_toldBy_17 : decode cX9_toldBy 17 = .ok (.iload_n 2, 1) := by decide +kernel
theorem dX9_toldBy_18 : decode cX9_toldBy 18 = .ok (.invokestatic 148, 3) := by decide +kernel
theorem dX9_toldBy_21 : decode cX9_toldBy 21 = .ok (.bipush 33, 2) := by decide +kernel
theorem dX9_toldBy_23 : decode cX9_toldBy 23 = .ok (.bipush 126, 2) := by decide +kernel
theorem dX9_toldBy_25 : decode cX9_toldBy 25 = .ok (.invokestatic 32, 3) := by decide +kernel
theorem dX9_toldBy_28 : decode cX9_toldBy 28 = .ok (.ifCond .ne 6, 3) := by decide +kernel
theorem dX9_toldBy_31 : decode cX9_toldBy 31 = .ok (.bipush (-2), 2) := by decide +kernel
theorem dX9_toldBy_33 : decode cX9_toldBy 33 = .ok (.ireturn, 1) := by decide +kernel
theorem dX9_toldBy_34 : decode cX9_toldBy 34 = .ok (.iinc 2 1, 3) := by decide +kernel
theorem dX9_toldBy_37 : decode cX9_toldBy 37 = .ok (.goto (-35), 3) := by decide +kernel
theorem dX9_toldBy_40 : decode cX9_toldBy 40 = .ok (.iload_n 2, 1) := by decide +kernel
theorem dX9_toldBy_41 : decode cX9_toldBy 41 = .ok (.istore_n 3, 1) := by decide +kernel
theorem dX9_toldBy_42 : decode cX9_toldBy 42 = .ok (.iload_n 3, 1) := by decide +kernel
theorem dX9_toldBy_43 : decode cX9_toldBy 43 = .ok (.bipush 8, 2) := by decide +kernel
theorem dX9_toldBy_45 : decode cX9_toldBy 45 = .ok (.if_icmp .ge 20, 3) := by decide +kernel
theorem dX9_toldBy_48 : decode cX9_toldBy 48 = .ok (.lload_n 0, 1) := by decide +kernel
theorem dX9_toldBy_49 : decode cX9_toldBy 49 = .ok (.iload_n 3, 1) := by decide +kernel
theorem dX9_toldBy_50 : decode cX9_toldBy 50 = .ok (.invokestatic 148, 3) := by decide +kernel
theorem dX9_toldBy_53 : decode cX9_toldBy 53 = .ok (.ifCond .eq 6, 3) := by decide +kernel
theorem dX9_toldBy_56 : decode cX9_toldBy 56 = .ok (.bipush (-2), 2) := by decide +kernel
theorem dX9_toldBy_58 : decode cX9_toldBy 58 = .ok (.ireturn, 1) := by decide +kernel
theorem dX9_toldBy_59 : decode cX9_toldBy 59 = .ok (.iinc 3 1, 3) := by decide +kernel
theorem dX9_toldBy_62 : decode cX9_toldBy 62 = .ok (.goto (-20), 3) := by decide +kernel
theorem dX9_toldBy_65 : decode cX9_toldBy 65 = .ok (.iload_n 2, 1) := by decide +kernel
theorem dX9_toldBy_66 : decode cX9_toldBy 66 = .ok (.ifCond .ne 8, 3) := by decide +kernel
theorem dX9_toldBy_69 : decode cX9_toldBy 69 = .ok (.bipush (-2), 2) := by decide +kernel
theorem dX9_toldBy_71 : decode cX9_toldBy 71 = .ok (.goto 4, 3) := by decide +kernel
theorem dX9_toldBy_74 : decode cX9_toldBy 74 = .ok (.iload_n 2, 1) := by decide +kernel
theorem dX9_toldBy_75 : decode cX9_toldBy 75 = .ok (.ireturn, 1) := by decide +kernel
theorem dX9_put_0 : decode cX9_put 0 = .ok (.lload_n 1, 1) := by decide +kernel
theorem dX9_put_1 : decode cX9_put 1 = .ok (.invokestatic 152, 3) := by decide +kernel
theorem dX9_put_4 : decode cX9_put 4 = .ok (.istore_n 3, 1) := by decide +kernel
theorem dX9_put_5 : decode cX9_put 5 = .ok (.iload_n 3, 1) := by decide +kernel
theorem dX9_put_6 : decode cX9_put 6 = .ok (.ifCond .ge 5, 3) := by decide +kernel
theorem dX9_put_9 : decode cX9_put 9 = .ok (.iload_n 3, 1) := by decide +kernel
theorem dX9_put_10 : decode cX9_put 10 = .ok (.ireturn, 1) := by decide +kernel
theorem dX9_put_11 : decode cX9_put 11 = .ok (.aload_n 0, 1) := by decide +kernel
theorem dX9_put_12 : decode cX9_put 12 = .ok (.getfield 139, 3) := by decide +kernel
theorem dX9_put_15 : decode cX9_put 15 = .ok (.iload_n 3, 1) := by decide +kernel
theorem dX9_put_16 : decode cX9_put 16 = .ok (.iadd, 1) := by decide +kernel
theorem dX9_put_17 : decode cX9_put 17 = .ok (.bipush 80, 2) := by decide +kernel
theorem dX9_put_19 : decode cX9_put 19 = .ok (.if_icmp .le 6, 3) := by decide +kernel
theorem dX9_put_22 : decode cX9_put 22 = .ok (.bipush (-4), 2) := by decide +kernel
theorem dX9_put_24 : decode cX9_put 24 = .ok (.ireturn, 1) := by decide +kernel
theorem dX9_put_25 : decode cX9_put 25 = .ok (.iload_n 3, 1) := by decide +kernel
theorem dX9_put_26 : decode cX9_put 26 = .ok (.iconst 1, 1) := by decide +kernel
theorem dX9_put_27 : decode cX9_put 27 = .ok (.isub, 1) := by decide +kernel
theorem dX9_put_28 : decode cX9_put 28 = .ok (.istore 4, 2) := by decide +kernel
theorem dX9_put_30 : decode cX9_put 30 = .ok (.iload 4, 2) := by decide +kernel
theorem dX9_put_32 : decode cX9_put 32 = .ok (.ifCond .lt 34, 3) := by decide +kernel
theorem dX9_put_35 : decode cX9_put 35 = .ok (.aload_n 0, 1) := by decide +kernel
theorem dX9_put_36 : decode cX9_put 36 = .ok (.getfield 26, 3) := by decide +kernel
theorem dX9_put_39 : decode cX9_put 39 = .ok (.aload_n 0, 1) := by decide +kernel
theorem dX9_put_40 : decode cX9_put 40 = .ok (.getfield 139, 3) := by decide +kernel
theorem dX9_put_43 : decode cX9_put 43 = .ok (.lload_n 1, 1) := by decide +kernel
theorem dX9_put_44 : decode cX9_put 44 = .ok (.iload 4, 2) := by decide +kernel
theorem dX9_put_46 : decode cX9_put 46 = .ok (.invokestatic 148, 3) := by decide +kernel
theorem dX9_put_49 : decode cX9_put 49 = .ok (.iastore, 1) := by decide +kernel
theorem dX9_put_50 : decode cX9_put 50 = .ok (.aload_n 0, 1) := by decide +kernel
theorem dX9_put_51 : decode cX9_put 51 = .ok (.dup, 1) := by decide +kernel
theorem dX9_put_52 : decode cX9_put 52 = .ok (.getfield 139, 3) := by decide +kernel
theorem dX9_put_55 : decode cX9_put 55 = .ok (.iconst 1, 1) := by decide +kernel
theorem dX9_put_56 : decode cX9_put 56 = .ok (.iadd, 1) := by decide +kernel
theorem dX9_put_57 : decode cX9_put 57 = .ok (.putfield 139, 3) := by decide +kernel
theorem dX9_put_60 : decode cX9_put 60 = .ok (.iinc 4 (-1), 3) := by decide +kernel
theorem dX9_put_63 : decode cX9_put 63 = .ok (.goto (-33), 3) := by decide +kernel
theorem dX9_put_66 : decode cX9_put 66 = .ok (.aload_n 0, 1) := by decide +kernel
theorem dX9_put_67 : decode cX9_put 67 = .ok (.getfield 139, 3) := by decide +kernel
theorem dX9_put_70 : decode cX9_put 70 = .ok (.ireturn, 1) := by decide +kernel
theorem dX9_wipe_0 : decode cX9_wipe 0 = .ok (.aload_n 0, 1) := by decide +kernel
theorem dX9_wipe_1 : decode cX9_wipe 1 = .ok (.getfield 139, 3) := by decide +kernel
theorem dX9_wipe_4 : decode cX9_wipe 4 = .ok (.istore_n 1, 1) := by decide +kernel
theorem dX9_wipe_5 : decode cX9_wipe 5 = .ok (.aload_n 0, 1) := by decide +kernel
theorem dX9_wipe_6 : decode cX9_wipe 6 = .ok (.iconst 0, 1) := by decide +kernel
theorem dX9_wipe_7 : decode cX9_wipe 7 = .ok (.putfield 139, 3) := by decide +kernel
theorem dX9_wipe_10 : decode cX9_wipe 10 = .ok (.iload_n 1, 1) := by decide +kernel
theorem dX9_wipe_11 : decode cX9_wipe 11 = .ok (.ireturn, 1) := by decide +kernel
theorem dX9_isAt_0 : decode cX9_isAt 0 = .ok (.aload_n 0, 1) := by decide +kernel
theorem dX9_isAt_1 : decode cX9_isAt 1 = .ok (.getfield 156, 3) := by decide +kernel
theorem dX9_isAt_4 : decode cX9_isAt 4 = .ok (.aload_n 0, 1) := by decide +kernel
theorem dX9_isAt_5 : decode cX9_isAt 5 = .ok (.getfield 139, 3) := by decide +kernel
theorem dX9_isAt_8 : decode cX9_isAt 8 = .ok (.if_icmp .ge 24, 3) := by decide +kernel
theorem dX9_isAt_11 : decode cX9_isAt 11 = .ok (.aload_n 0, 1) := by decide +kernel
theorem dX9_isAt_12 : decode cX9_isAt 12 = .ok (.getfield 26, 3) := by decide +kernel
theorem dX9_isAt_15 : decode cX9_isAt 15 = .ok (.aload_n 0, 1) := by decide +kernel
theorem dX9_isAt_16 : decode cX9_isAt 16 = .ok (.getfield 156, 3) := by decide +kernel
theorem dX9_isAt_19 : decode cX9_isAt 19 = .ok (.iaload, 1) := by decide +kernel
theorem dX9_isAt_20 : decode cX9_isAt 20 = .ok (.iload_n 1, 1) := by decide +kernel
theorem dX9_isAt_21 : decode cX9_isAt 21 = .ok (.iload_n 2, 1) := by decide +kernel
theorem dX9_isAt_22 : decode cX9_isAt 22 = .ok (.invokestatic 32, 3) := by decide +kernel
theorem dX9_isAt_25 : decode cX9_isAt 25 = .ok (.ifCond .eq 7, 3) := by decide +kernel
theorem dX9_isAt_28 : decode cX9_isAt 28 = .ok (.iconst 1, 1) := by decide +kernel
theorem dX9_isAt_29 : decode cX9_isAt 29 = .ok (.goto 4, 3) := by decide +kernel
theorem dX9_isAt_32 : decode cX9_isAt 32 = .ok (.iconst 0, 1) := by decide +kernel
theorem dX9_isAt_33 : decode cX9_isAt 33 = .ok (.ireturn, 1) := by decide +kernel
theorem dX9_isSign_0 : decode cX9_isSign 0 = .ok (.aload_n 0, 1) := by decide +kernel
theorem dX9_isSign_1 : decode cX9_isSign 1 = .ok (.iload_n 1, 1) := by decide +kernel
theorem dX9_isSign_2 : decode cX9_isSign 2 = .ok (.iload_n 1, 1) := by decide +kernel
theorem dX9_isSign_3 : decode cX9_isSign 3 = .ok (.invokevirtual 159, 3) := by decide +kernel
theorem dX9_isSign_6 : decode cX9_isSign 6 = .ok (.istore_n 2, 1) := by decide +kernel
theorem dX9_isSign_7 : decode cX9_isSign 7 = .ok (.aload_n 0, 1) := by decide +kernel
theorem dX9_isSign_8 : decode cX9_isSign 8 = .ok (.dup, 1) := by decide +kernel
theorem dX9_isSign_9 : decode cX9_isSign 9 = .ok (.getfield 156, 3) := by decide +kernel
theorem dX9_isSign_12 : decode cX9_isSign 12 = .ok (.iload_n 2, 1) := by decide +kernel
theorem dX9_isSign_13 : decode cX9_isSign 13 = .ok (.ifCond .eq 7, 3) := by decide +kernel
theorem dX9_isSign_16 : decode cX9_isSign 16 = .ok (.iconst 1, 1) := by decide +kernel
theorem dX9_isSign_17 : decode cX9_isSign 17 = .ok (.goto 4, 3) := by decide +kernel
theorem dX9_isSign_20 : decode cX9_isSign 20 = .ok (.iconst 0, 1) := by decide +kernel
theorem dX9_isSign_21 : decode cX9_isSign 21 = .ok (.iadd, 1) := by decide +kernel
theorem dX9_isSign_22 : decode cX9_isSign 22 = .ok (.putfield 156, 3) := by decide +kernel
theorem dX9_isSign_25 : decode cX9_isSign 25 = .ok (.iload_n 2, 1) := by decide +kernel
theorem dX9_isSign_26 : decode cX9_isSign 26 = .ok (.ireturn, 1) := by decide +kernel
theorem dX9_isDigit_0 : decode cX9_isDigit 0 = .ok (.aload_n 0, 1) := by decide +kernel
theorem dX9_isDigit_1 : decode cX9_isDigit 1 = .ok (.bipush 48, 2) := by decide +kernel
theorem dX9_isDigit_3 : decode cX9_isDigit 3 = .ok (.iload_n 2, 1) := by decide +kernel
theorem dX9_isDigit_4 : decode cX9_isDigit 4 = .ok (.invokevirtual 159, 3) := by decide +kernel
theorem dX9_isDigit_7 : decode cX9_isDigit 7 = .ok (.istore_n 3, 1) := by decide +kernel
theorem dX9_isDigit_8 : decode cX9_isDigit 8 = .ok (.iload_n 3, 1) := by decide +kernel
theorem dX9_isDigit_9 : decode cX9_isDigit 9 = .ok (.ifCond .eq 38, 3) := by decide +kernel
theorem dX9_isDigit_12 : decode cX9_isDigit 12 = .ok (.aload_n 0, 1) := by decide +kernel
theorem dX9_isDigit_13 : decode cX9_isDigit 13 = .ok (.getfield 29, 3) := by decide +kernel
theorem dX9_isDigit_16 : decode cX9_isDigit 16 = .ok (.iconst 3, 1) := by decide +kernel
theorem dX9_isDigit_17 : decode cX9_isDigit 17 = .ok (.aload_n 0, 1) := by decide +kernel
theorem dX9_isDigit_18 : decode cX9_isDigit 18 = .ok (.getfield 163, 3) := by decide +kernel
theorem dX9_isDigit_21 : decode cX9_isDigit 21 = .ok (.imul, 1) := by decide +kernel
theorem dX9_isDigit_22 : decode cX9_isDigit 22 = .ok (.iload_n 1, 1) := by decide +kernel
theorem dX9_isDigit_23 : decode cX9_isDigit 23 = .ok (.iadd, 1) := by decide +kernel
theorem dX9_isDigit_24 : decode cX9_isDigit 24 = .ok (.aload_n 0, 1) := by decide +kernel
theorem dX9_isDigit_25 : decode cX9_isDigit 25 = .ok (.getfield 26, 3) := by decide +kernel
theorem dX9_isDigit_28 : decode cX9_isDigit 28 = .ok (.aload_n 0, 1) := by decide +kernel
theorem dX9_isDigit_29 : decode cX9_isDigit 29 = .ok (.getfield 156, 3) := by decide +kernel
theorem dX9_isDigit_32 : decode cX9_isDigit 32 = .ok (.iaload, 1) := by decide +kernel
theorem dX9_isDigit_33 : decode cX9_isDigit 33 = .ok (.bipush 48, 2) := by decide +kernel
theorem dX9_isDigit_35 : decode cX9_isDigit 35 = .ok (.isub, 1) := by decide +kernel
theorem dX9_isDigit_36 : decode cX9_isDigit 36 = .ok (.iastore, 1) := by decide +kernel
theorem dX9_isDigit_37 : decode cX9_isDigit 37 = .ok (.aload_n 0, 1) := by decide +kernel
theorem dX9_isDigit_38 : decode cX9_isDigit 38 = .ok (.dup, 1) := by decide +kernel
theorem dX9_isDigit_39 : decode cX9_isDigit 39 = .ok (.getfield 156, 3) := by decide +kernel
theorem dX9_isDigit_42 : decode cX9_isDigit 42 = .ok (.iconst 1, 1) := by decide +kernel
theorem dX9_isDigit_43 : decode cX9_isDigit 43 = .ok (.iadd, 1) := by decide +kernel
theorem dX9_isDigit_44 : decode cX9_isDigit 44 = .ok (.putfield 156, 3) := by decide +kernel
theorem dX9_isDigit_47 : decode cX9_isDigit 47 = .ok (.iload_n 3, 1) := by decide +kernel
theorem dX9_isDigit_48 : decode cX9_isDigit 48 = .ok (.ireturn, 1) := by decide +kernel
theorem dX9_isNumber_0 : decode cX9_isNumber 0 = .ok (.aload_n 0, 1) := by decide +kernel
theorem dX9_isNumber_1 : decode cX9_isNumber 1 = .ok (.bipush 48, 2) := by decide +kernel
theorem dX9_isNumber_3 : decode cX9_isNumber 3 = .ok (.bipush 57, 2) := by decide +kernel
theorem dX9_isNumber_5 : decode cX9_isNumber 5 = .ok (.invokevirtual 159, 3) := by decide +kernel
theorem dX9_isNumber_8 : decode cX9_isNumber 8 = .ok (.ifCond .ne 5, 3) := by decide +kernel
theorem dX9_isNumber_11 : decode cX9_isNumber 11 = .ok (.iconst 0, 1) := by decide +kernel
theorem dX9_isNumber_12 : decode cX9_isNumber 12 = .ok (.ireturn, 1) := by decide +kernel
theorem dX9_isNumber_13 : decode cX9_isNumber 13 = .ok (.aload_n 0, 1) := by decide +kernel
theorem dX9_isNumber_14 : decode cX9_isNumber 14 = .ok (.getfield 26, 3) := by decide +kernel
theorem dX9_isNumber_17 : decode cX9_isNumber 17 = .ok (.aload_n 0, 1) := by decide +kernel
theorem dX9_isNumber_18 : decode cX9_isNumber 18 = .ok (.getfield 156, 3) := by decide +kernel
theorem dX9_isNumber_21 : decode cX9_isNumber 21 = .ok (.iaload, 1) := by decide +kernel
theorem dX9_isNumber_22 : decode cX9_isNumber 22 = .ok (.bipush 48, 2) := by decide +kernel
theorem dX9_isNumber_24 : decode cX9_isNumber 24 = .ok (.isub, 1) := by decide +kernel
theorem dX9_isNumber_25 : decode cX9_isNumber 25 = .ok (.istore_n 2, 1) := by decide +kernel
theorem dX9_isNumber_26 : decode cX9_isNumber 26 = .ok (.aload_n 0, 1) := by decide +kernel
theorem dX9_isNumber_27 : decode cX9_isNumber 27 = .ok (.dup, 1) := by decide +kernel
theorem dX9_isNumber_28 : decode cX9_isNumber 28 = .ok (.getfield 156, 3) := by decide +kernel
theorem dX9_isNumber_31 : decode cX9_isNumber 31 = .ok (.iconst 1, 1) := by decide +kernel
theorem dX9_isNumber_32 : decode cX9_isNumber 32 = .ok (.iadd, 1) := by decide +kernel
theorem dX9_isNumber_33 : decode cX9_isNumber 33 = .ok (.putfield 156, 3) := by decide +kernel
theorem dX9_isNumber_36 : decode cX9_isNumber 36 = .ok (.iload_n 2, 1) := by decide +kernel
theorem dX9_isNumber_37 : decode cX9_isNumber 37 = .ok (.ifCond .le 51, 3) := by decide +kernel
theorem dX9_isNumber_40 : decode cX9_isNumber 40 = .ok (.iload_n 2, 1) := by decide +kernel
theorem dX9_isNumber_41 : decode cX9_isNumber 41 = .ok (.bipush 100, 2) := by decide +kernel
theorem dX9_isNumber_43 : decode cX9_isNumber 43 = .ok (.if_icmp .ge 45, 3) := by decide +kernel
theorem dX9_isNumber_46 : decode cX9_isNumber 46 = .ok (.aload_n 0, 1) := by decide +kernel
theorem dX9_isNumber_47 : decode cX9_isNumber 47 = .ok (.bipush 48, 2) := by decide +kernel
theorem dX9_isNumber_49 : decode cX9_isNumber 49 = .ok (.bipush 57, 2) := by decide +kernel
theorem dX9_isNumber_51 : decode cX9_isNumber 51 = .ok (.invokevirtual 159, 3) := by decide +kernel
theorem dX9_isNumber_54 : decode cX9_isNumber 54 = .ok (.ifCond .eq 34, 3) := by decide +kernel
theorem dX9_isNumber_57 : decode cX9_isNumber 57 = .ok (.bipush 10, 2) := by decide +kernel
theorem dX9_isNumber_59 : decode cX9_isNumber 59 = .ok (.iload_n 2, 1) := by decide +kernel
theorem dX9_isNumber_60 : decode cX9_isNumber 60 = .ok (.imul, 1) := by decide +kernel
theorem dX9_isNumber_61 : decode cX9_isNumber 61 = .ok (.aload_n 0, 1) := by decide +kernel
theorem dX9_isNumber_62 : decode cX9_isNumber 62 = .ok (.getfield 26, 3) := by decide +kernel
theorem dX9_isNumber_65 : decode cX9_isNumber 65 = .ok (.aload_n 0, 1) := by decide +kernel
theorem dX9_isNumber_66 : decode cX9_isNumber 66 = .ok (.getfield 156, 3) := by decide +kernel
theorem dX9_isNumber_69 : decode cX9_isNumber 69 = .ok (.iaload, 1) := by decide +kernel
theorem dX9_isNumber_70 : decode cX9_isNumber 70 = .ok (.iadd, 1) := by decide +kernel
theorem dX9_isNumber_71 : decode cX9_isNumber 71 = .ok (.bipush 48, 2) := by decide +kernel
theorem dX9_isNumber_73 : decode cX9_isNumber 73 = .ok (.isub, 1) := by decide +kernel
theorem dX9_isNumber_74 : decode cX9_isNumber 74 = .ok (.istore_n 2, 1) := by decide +kernel
theorem dX9_isNumber_75 : decode cX9_isNumber 75 = .ok (.aload_n 0, 1) := by decide +kernel
theorem dX9_isNumber_76 : decode cX9_isNumber 76 = .ok (.dup, 1) := by decide +kernel
theorem dX9_isNumber_77 : decode cX9_isNumber 77 = .ok (.getfield 156, 3) := by decide +kernel
theorem dX9_isNumber_80 : decode cX9_isNumber 80 = .ok (.iconst 1, 1) := by decide +kernel
theorem dX9_isNumber_81 : decode cX9_isNumber 81 = .ok (.iadd, 1) := by decide +kernel
theorem dX9_isNumber_82 : decode cX9_isNumber 82 = .ok (.putfield 156, 3) := by decide +kernel
theorem dX9_isNumber_85 : decode cX9_isNumber 85 = .ok (.goto (-49), 3) := by decide +kernel
theorem dX9_isNumber_88 : decode cX9_isNumber 88 = .ok (.aload_n 0, 1) := by decide +kernel
theorem dX9_isNumber_89 : decode cX9_isNumber 89 = .ok (.getfield 29, 3) := by decide +kernel
theorem dX9_isNumber_92 : decode cX9_isNumber 92 = .ok (.iconst 3, 1) := by decide +kernel
theorem dX9_isNumber_93 : decode cX9_isNumber 93 = .ok (.aload_n 0, 1) := by decide +kernel
theorem dX9_isNumber_94 : decode cX9_isNumber 94 = .ok (.getfield 163, 3) := by decide +kernel
theorem dX9_isNumber_97 : decode cX9_isNumber 97 = .ok (.imul, 1) := by decide +kernel
theorem dX9_isNumber_98 : decode cX9_isNumber 98 = .ok (.iload_n 1, 1) := by decide +kernel
theorem dX9_isNumber_99 : decode cX9_isNumber 99 = .ok (.iadd, 1) := by decide +kernel
theorem dX9_isNumber_100 : decode cX9_isNumber 100 = .ok (.iload_n 2, 1) := by decide +kernel
theorem dX9_isNumber_101 : decode cX9_isNumber 101 = .ok (.iastore, 1) := by decide +kernel
theorem dX9_isNumber_102 : decode cX9_isNumber 102 = .ok (.iconst 1, 1) := by decide +kernel
theorem dX9_isNumber_103 : decode cX9_isNumber 103 = .ok (.ireturn, 1) := by decide +kernel
theorem dX9_isOrder_0 : decode cX9_isOrder 0 = .ok (.aload_n 0, 1) := by decide +kernel
theorem dX9_isOrder_1 : decode cX9_isOrder 1 = .ok (.getfield 156, 3) := by decide +kernel
theorem dX9_isOrder_4 : decode cX9_isOrder 4 = .ok (.aload_n 0, 1) := by decide +kernel
theorem dX9_isOrder_5 : decode cX9_isOrder 5 = .ok (.getfield 139, 3) := by decide +kernel
theorem dX9_isOrder_8 : decode cX9_isOrder 8 = .ok (.if_icmp .ge 15, 3) := by decide +kernel
theorem dX9_isOrder_11 : decode cX9_isOrder 11 = .ok (.aload_n 0, 1) := by decide +kernel
theorem dX9_isOrder_12 : decode cX9_isOrder 12 = .ok (.getfield 26, 3) := by decide +kernel
theorem dX9_isOrder_15 : decode cX9_isOrder 15 = .ok (.aload_n 0, 1) := by decide +kernel
theorem dX9_isOrder_16 : decode cX9_isOrder 16 = .ok (.getfield 156, 3) := by decide +kernel
theorem dX9_isOrder_19 : decode cX9_isOrder 19 = .ok (.iaload, 1) := by decide +kernel
theorem dX9_isOrder_20 : decode cX9_isOrder 20 = .ok (.goto 4, 3) := by decide +kernel
theorem dX9_isOrder_23 : decode cX9_isOrder 23 = .ok (.iconst 0, 1) := by decide +kernel
theorem dX9_isOrder_24 : decode cX9_isOrder 24 = .ok (.istore_n 1, 1) := by decide +kernel
theorem dX9_isOrder_25 : decode cX9_isOrder 25 = .ok (.aload_n 0, 1) := by decide +kernel
theorem dX9_isOrder_26 : decode cX9_isOrder 26 = .ok (.getfield 29, 3) := by decide +kernel
theorem dX9_isOrder_29 : decode cX9_isOrder 29 = .ok (.iconst 3, 1) := by decide +kernel
theorem dX9_isOrder_30 : decode cX9_isOrder 30 = .ok (.aload_n 0, 1) := by decide +kernel
theorem dX9_isOrder_31 : decode cX9_isOrder 31 = .ok (.getfield 163, 3) := by decide +kernel
theorem dX9_isOrder_34 : decode cX9_isOrder 34 = .ok (.imul, 1) := by decide +kernel
theorem dX9_isOrder_35 : decode cX9_isOrder 35 = .ok (.iload_n 1, 1) := by decide +kernel
theorem dX9_isOrder_36 : decode cX9_isOrder 36 = .ok (.iastore, 1) := by decide +kernel
theorem dX9_isOrder_37 : decode cX9_isOrder 37 = .ok (.iload_n 1, 1) := by decide +kernel
theorem dX9_isOrder_38 : decode cX9_isOrder 38 = .ok (.tableswitch 281 98 120 #[218, 218, 281, 281, 281, 281, 106, 281, 281, 281, 236, 281, 106, 281, 118, 281, 175, 106, 159, 281, 281, 281, 159], 106) := by decide +kernel
theorem dX9_isOrder_144 : decode cX9_isOrder 144 = .ok (.aload_n 0, 1) := by decide +kernel
theorem dX9_isOrder_145 : decode cX9_isOrder 145 = .ok (.dup, 1) := by decide +kernel
theorem dX9_isOrder_146 : decode cX9_isOrder 146 = .ok (.getfield 156, 3) := by decide +kernel
theorem dX9_isOrder_149 : decode cX9_isOrder 149 = .ok (.iconst 1, 1) := by decide +kernel
theorem dX9_isOrder_150 : decode cX9_isOrder 150 = .ok (.iadd, 1) := by decide +kernel
theorem dX9_isOrder_151 : decode cX9_isOrder 151 = .ok (.putfield 156, 3) := by decide +kernel
theorem dX9_isOrder_154 : decode cX9_isOrder 154 = .ok (.iconst 1, 1) := by decide +kernel
theorem dX9_isOrder_155 : decode cX9_isOrder 155 = .ok (.ireturn, 1) := by decide +kernel
theorem dX9_isOrder_156 : decode cX9_isOrder 156 = .ok (.aload_n 0, 1) := by decide +kernel
theorem dX9_isOrder_157 : decode cX9_isOrder 157 = .ok (.dup, 1) := by decide +kernel
theorem dX9_isOrder_158 : decode cX9_isOrder 158 = .ok (.getfield 156, 3) := by decide +kernel
theorem dX9_isOrder_161 : decode cX9_isOrder 161 = .ok (.iconst 1, 1) := by decide +kernel
theorem dX9_isOrder_162 : decode cX9_isOrder 162 = .ok (.iadd, 1) := by decide +kernel
theorem dX9_isOrder_163 : decode cX9_isOrder 163 = .ok (.putfield 156, 3) := by decide +kernel
theorem dX9_isOrder_166 : decode cX9_isOrder 166 = .ok (.aload_n 0, 1) := by decide +kernel
theorem dX9_isOrder_167 : decode cX9_isOrder 167 = .ok (.iconst 1, 1) := by decide +kernel
theorem dX9_isOrder_168 : decode cX9_isOrder 168 = .ok (.invokevirtual 166, 3) := by decide +kernel
theorem dX9_isOrder_171 : decode cX9_isOrder 171 = .ok (.ifCond .eq 24, 3) := by decide +kernel
theorem dX9_isOrder_174 : decode cX9_isOrder 174 = .ok (.aload_n 0, 1) := by decide +kernel
theorem dX9_isOrder_175 : decode cX9_isOrder 175 = .ok (.bipush 61, 2) := by decide +kernel
theorem dX9_isOrder_177 : decode cX9_isOrder 177 = .ok (.invokevirtual 169, 3) := by decide +kernel
theorem dX9_isOrder_180 : decode cX9_isOrder 180 = .ok (.ifCond .eq 15, 3) := by decide +kernel
theorem dX9_isOrder_183 : decode cX9_isOrder 183 = .ok (.aload_n 0, 1) := by decide +kernel
theorem dX9_isOrder_184 : decode cX9_isOrder 184 = .ok (.iconst 2, 1) := by decide +kernel
theorem dX9_isOrder_185 : decode cX9_isOrder 185 = .ok (.invokevirtual 166, 3) := by decide +kernel
theorem dX9_isOrder_188 : decode cX9_isOrder 188 = .ok (.ifCond .eq 7, 3) := by decide +kernel
theorem dX9_isOrder_191 : decode cX9_isOrder 191 = .ok (.iconst 1, 1) := by decide +kernel
theorem dX9_isOrder_192 : decode cX9_isOrder 192 = .ok (.goto 4, 3) := by decide +kernel
theorem dX9_isOrder_195 : decode cX9_isOrder 195 = .ok (.iconst 0, 1) := by decide +kernel
theorem dX9_isOrder_196 : decode cX9_isOrder 196 = .ok (.ireturn, 1) := by decide +kernel
theorem dX9_isOrder_197 : decode cX9_isOrder 197 = .ok (.aload_n 0, 1) := by decide +kernel
theorem dX9_isOrder_198 : decode cX9_isOrder 198 = .ok (.dup, 1) := by decide +kernel
theorem dX9_isOrder_199 : decode cX9_isOrder 199 = .ok (.getfield 156, 3) := by decide +kernel
theorem dX9_isOrder_202 : decode cX9_isOrder 202 = .ok (.iconst 1, 1) := by decide +kernel
theorem dX9_isOrder_203 : decode cX9_isOrder 203 = .ok (.iadd, 1) := by decide +kernel
theorem dX9_isOrder_204 : decode cX9_isOrder 204 = .ok (.putfield 156, 3) := by decide +kernel
theorem dX9_isOrder_207 : decode cX9_isOrder 207 = .ok (.aload_n 0, 1) := by decide +kernel
theorem dX9_isOrder_208 : decode cX9_isOrder 208 = .ok (.iconst 1, 1) := by decide +kernel
theorem dX9_isOrder_209 : decode cX9_isOrder 209 = .ok (.invokevirtual 166, 3) := by decide +kernel
theorem dX9_isOrder_212 : decode cX9_isOrder 212 = .ok (.ireturn, 1) := by decide +kernel
theorem dX9_isOrder_213 : decode cX9_isOrder 213 = .ok (.aload_n 0, 1) := by decide +kernel
theorem dX9_isOrder_214 : decode cX9_isOrder 214 = .ok (.dup, 1) := by decide +kernel
theorem dX9_isOrder_215 : decode cX9_isOrder 215 = .ok (.getfield 156, 3) := by decide +kernel
theorem dX9_isOrder_218 : decode cX9_isOrder 218 = .ok (.iconst 1, 1) := by decide +kernel
theorem dX9_isOrder_219 : decode cX9_isOrder 219 = .ok (.iadd, 1) := by decide +kernel
theorem dX9_isOrder_220 : decode cX9_isOrder 220 = .ok (.putfield 156, 3) := by decide +kernel
theorem dX9_isOrder_223 : decode cX9_isOrder 223 = .ok (.aload_n 0, 1) := by decide +kernel
theorem dX9_isOrder_224 : decode cX9_isOrder 224 = .ok (.iconst 1, 1) := by decide +kernel
theorem dX9_isOrder_225 : decode cX9_isOrder 225 = .ok (.bipush 53, 2) := by decide +kernel
theorem dX9_isOrder_227 : decode cX9_isOrder 227 = .ok (.invokevirtual 172, 3) := by decide +kernel
theorem dX9_isOrder_230 : decode cX9_isOrder 230 = .ok (.ifCond .eq 24, 3) := by decide +kernel
theorem dX9_isOrder_233 : decode cX9_isOrder 233 = .ok (.aload_n 0, 1) := by decide +kernel
theorem dX9_isOrder_234 : decode cX9_isOrder 234 = .ok (.bipush 42, 2) := by decide +kernel
theorem dX9_isOrder_236 : decode cX9_isOrder 236 = .ok (.invokevirtual 169, 3) := by decide +kernel
theorem dX9_isOrder_239 : decode cX9_isOrder 239 = .ok (.ifCond .eq 15, 3) := by decide +kernel
theorem dX9_isOrder_242 : decode cX9_isOrder 242 = .ok (.aload_n 0, 1) := by decide +kernel
theorem dX9_isOrder_243 : decode cX9_isOrder 243 = .ok (.iconst 2, 1) := by decide +kernel
theorem dX9_isOrder_244 : decode cX9_isOrder 244 = .ok (.invokevirtual 166, 3) := by decide +kernel
theorem dX9_isOrder_247 : decode cX9_isOrder 247 = .ok (.ifCond .eq 7, 3) := by decide +kernel
theorem dX9_isOrder_250 : decode cX9_isOrder 250 = .ok (.iconst 1, 1) := by decide +kernel
theorem dX9_isOrder_251 : decode cX9_isOrder 251 = .ok (.goto 4, 3) := by decide +kernel
theorem dX9_isOrder_254 : decode cX9_isOrder 254 = .ok (.iconst 0, 1) := by decide +kernel
theorem dX9_isOrder_255 : decode cX9_isOrder 255 = .ok (.ireturn, 1) := by decide +kernel
theorem dX9_isOrder_256 : decode cX9_isOrder 256 = .ok (.aload_n 0, 1) := by decide +kernel
theorem dX9_isOrder_257 : decode cX9_isOrder 257 = .ok (.dup, 1) := by decide +kernel
theorem dX9_isOrder_258 : decode cX9_isOrder 258 = .ok (.getfield 156, 3) := by decide +kernel
theorem dX9_isOrder_261 : decode cX9_isOrder 261 = .ok (.iconst 1, 1) := by decide +kernel
theorem dX9_isOrder_262 : decode cX9_isOrder 262 = .ok (.iadd, 1) := by decide +kernel
theorem dX9_isOrder_263 : decode cX9_isOrder 263 = .ok (.putfield 156, 3) := by decide +kernel
theorem dX9_isOrder_266 : decode cX9_isOrder 266 = .ok (.aload_n 0, 1) := by decide +kernel
theorem dX9_isOrder_267 : decode cX9_isOrder 267 = .ok (.iconst 1, 1) := by decide +kernel
theorem dX9_isOrder_268 : decode cX9_isOrder 268 = .ok (.bipush 53, 2) := by decide +kernel
theorem dX9_isOrder_270 : decode cX9_isOrder 270 = .ok (.invokevirtual 172, 3) := by decide +kernel
theorem dX9_isOrder_273 : decode cX9_isOrder 273 = .ok (.ireturn, 1) := by decide +kernel
theorem dX9_isOrder_274 : decode cX9_isOrder 274 = .ok (.aload_n 0, 1) := by decide +kernel
theorem dX9_isOrder_275 : decode cX9_isOrder 275 = .ok (.dup, 1) := by decide +kernel
theorem dX9_isOrder_276 : decode cX9_isOrder 276 = .ok (.getfield 156, 3) := by decide +kernel
theorem dX9_isOrder_279 : decode cX9_isOrder 279 = .ok (.iconst 1, 1) := by decide +kernel
theorem dX9_isOrder_280 : decode cX9_isOrder 280 = .ok (.iadd, 1) := by decide +kernel
theorem dX9_isOrder_281 : decode cX9_isOrder 281 = .ok (.putfield 156, 3) := by decide +kernel
theorem dX9_isOrder_284 : decode cX9_isOrder 284 = .ok (.aload_n 0, 1) := by decide +kernel
theorem dX9_isOrder_285 : decode cX9_isOrder 285 = .ok (.iconst 1, 1) := by decide +kernel
theorem dX9_isOrder_286 : decode cX9_isOrder 286 = .ok (.bipush 53, 2) := by decide +kernel
theorem dX9_isOrder_288 : decode cX9_isOrder 288 = .ok (.invokevirtual 172, 3) := by decide +kernel
theorem dX9_isOrder_291 : decode cX9_isOrder 291 = .ok (.ifCond .eq 26, 3) := by decide +kernel
theorem dX9_isOrder_294 : decode cX9_isOrder 294 = .ok (.aload_n 0, 1) := by decide +kernel
theorem dX9_isOrder_295 : decode cX9_isOrder 295 = .ok (.bipush 64, 2) := by decide +kernel
theorem dX9_isOrder_297 : decode cX9_isOrder 297 = .ok (.invokevirtual 169, 3) := by decide +kernel
theorem dX9_isOrder_300 : decode cX9_isOrder 300 = .ok (.ifCond .eq 17, 3) := by decide +kernel
theorem dX9_isOrder_303 : decode cX9_isOrder 303 = .ok (.aload_n 0, 1) := by decide +kernel
theorem dX9_isOrder_304 : decode cX9_isOrder 304 = .ok (.iconst 2, 1) := by decide +kernel
theorem dX9_isOrder_305 : decode cX9_isOrder 305 = .ok (.bipush 57, 2) := by decide +kernel
theorem dX9_isOrder_307 : decode cX9_isOrder 307 = .ok (.invokevirtual 172, 3) := by decide +kernel
theorem dX9_isOrder_310 : decode cX9_isOrder 310 = .ok (.ifCond .eq 7, 3) := by decide +kernel
theorem dX9_isOrder_313 : decode cX9_isOrder 313 = .ok (.iconst 1, 1) := by decide +kernel
theorem dX9_isOrder_314 : decode cX9_isOrder 314 = .ok (.goto 4, 3) := by decide +kernel
theorem dX9_isOrder_317 : decode cX9_isOrder 317 = .ok (.iconst 0, 1) := by decide +kernel
theorem dX9_isOrder_318 : decode cX9_isOrder 318 = .ok (.ireturn, 1) := by decide +kernel
theorem dX9_isOrder_319 : decode cX9_isOrder 319 = .ok (.iconst 0, 1) := by decide +kernel
theorem dX9_isOrder_320 : decode cX9_isOrder 320 = .ok (.ireturn, 1) := by decide +kernel
theorem dX9_isText_0 : decode cX9_isText 0 = .ok (.aload_n 0, 1) := by decide +kernel
theorem dX9_isText_1 : decode cX9_isText 1 = .ok (.iconst 0, 1) := by decide +kernel
theorem dX9_isText_2 : decode cX9_isText 2 = .ok (.putfield 156, 3) := by decide +kernel
theorem dX9_isText_5 : decode cX9_isText 5 = .ok (.aload_n 0, 1) := by decide +kernel
theorem dX9_isText_6 : decode cX9_isText 6 = .ok (.iconst 0, 1) := by decide +kernel
theorem dX9_isText_7 : decode cX9_isText 7 = .ok (.putfield 163, 3) := by decide +kernel
theorem dX9_isText_10 : decode cX9_isText 10 = .ok (.iconst 1, 1) := by decide +kernel
theorem dX9_isText_11 : decode cX9_isText 11 = .ok (.istore_n 1, 1) := by decide +kernel
theorem dX9_isText_12 : decode cX9_isText 12 = .ok (.iload_n 1, 1) := by decide +kernel
theorem dX9_isText_13 : decode cX9_isText 13 = .ok (.ifCond .eq 32, 3) := by decide +kernel
theorem dX9_isText_16 : decode cX9_isText 16 = .ok (.aload_n 0, 1) := by decide +kernel
theorem dX9_isText_17 : decode cX9_isText 17 = .ok (.invokevirtual 175, 3) := by decide +kernel
theorem dX9_isText_20 : decode cX9_isText 20 = .ok (.ifCond .ne 5, 3) := by decide +kernel
theorem dX9_isText_23 : decode cX9_isText 23 = .ok (.iconst 0, 1) := by decide +kernel
theorem dX9_isText_24 : decode cX9_isText 24 = .ok (.ireturn, 1) := by decide +kernel
theorem dX9_isText_25 : decode cX9_isText 25 = .ok (.aload_n 0, 1) := by decide +kernel
theorem dX9_isText_26 : decode cX9_isText 26 = .ok (.dup, 1) := by decide +kernel
theorem dX9_isText_27 : decode cX9_isText 27 = .ok (.getfield 163, 3) := by decide +kernel
theorem dX9_isText_30 : decode cX9_isText 30 = .ok (.iconst 1, 1) := by decide +kernel
theorem dX9_isText_31 : decode cX9_isText 31 = .ok (.iadd, 1) := by decide +kernel
theorem dX9_isText_32 : decode cX9_isText 32 = .ok (.putfield 163, 3) := by decide +kernel
theorem dX9_isText_35 : decode cX9_isText 35 = .ok (.aload_n 0, 1) := by decide +kernel
theorem dX9_isText_36 : decode cX9_isText 36 = .ok (.bipush 59, 2) := by decide +kernel
theorem dX9_isText_38 : decode cX9_isText 38 = .ok (.invokevirtual 169, 3) := by decide +kernel
theorem dX9_isText_41 : decode cX9_isText 41 = .ok (.istore_n 1, 1) := by decide +kernel
theorem dX9_isText_42 : decode cX9_isText 42 = .ok (.goto (-30), 3) := by decide +kernel
theorem dX9_isText_45 : decode cX9_isText 45 = .ok (.aload_n 0, 1) := by decide +kernel
theorem dX9_isText_46 : decode cX9_isText 46 = .ok (.getfield 156, 3) := by decide +kernel
theorem dX9_isText_49 : decode cX9_isText 49 = .ok (.aload_n 0, 1) := by decide +kernel
theorem dX9_isText_50 : decode cX9_isText 50 = .ok (.getfield 139, 3) := by decide +kernel
theorem dX9_isText_53 : decode cX9_isText 53 = .ok (.if_icmp .ne 7, 3) := by decide +kernel
theorem dX9_isText_56 : decode cX9_isText 56 = .ok (.iconst 1, 1) := by decide +kernel
theorem dX9_isText_57 : decode cX9_isText 57 = .ok (.goto 4, 3) := by decide +kernel
theorem dX9_isText_60 : decode cX9_isText 60 = .ok (.iconst 0, 1) := by decide +kernel
theorem dX9_isText_61 : decode cX9_isText 61 = .ok (.ireturn, 1) := by decide +kernel
theorem dX9_fault_0 : decode cX9_fault 0 = .ok (.aload_n 0, 1) := by decide +kernel
theorem dX9_fault_1 : decode cX9_fault 1 = .ok (.invokevirtual 179, 3) := by decide +kernel
theorem dX9_fault_4 : decode cX9_fault 4 = .ok (.ifCond .eq 8, 3) := by decide +kernel
theorem dX9_fault_7 : decode cX9_fault 7 = .ok (.bipush (-6), 2) := by decide +kernel
theorem dX9_fault_9 : decode cX9_fault 9 = .ok (.goto 7, 3) := by decide +kernel
theorem dX9_fault_12 : decode cX9_fault 12 = .ok (.aload_n 0, 1) := by decide +kernel
theorem dX9_fault_13 : decode cX9_fault 13 = .ok (.getfield 156, 3) := by decide +kernel
theorem dX9_fault_16 : decode cX9_fault 16 = .ok (.ireturn, 1) := by decide +kernel
theorem dX9_mayDo_0 : decode cX9_mayDo 0 = .ok (.iload_n 1, 1) := by decide +kernel
theorem dX9_mayDo_1 : decode cX9_mayDo 1 = .ok (.tableswitch 173 98 120 #[152, 152, 173, 173, 173, 173, 173, 173, 173, 173, 166, 173, 126, 173, 107, 173, 145, 173, 120, 173, 173, 173, 114], 107) := by decide +kernel
theorem dX9_mayDo_108 : decode cX9_mayDo 108 = .ok (.aload_n 0, 1) := by decide +kernel
theorem dX9_mayDo_109 : decode cX9_mayDo 109 = .ok (.iload_n 2, 1) := by decide +kernel
theorem dX9_mayDo_110 : decode cX9_mayDo 110 = .ok (.iload_n 3, 1) := by decide +kernel
theorem dX9_mayDo_111 : decode cX9_mayDo 111 = .ok (.invokevirtual 76, 3) := by decide +kernel
theorem dX9_mayDo_114 : decode cX9_mayDo 114 = .ok (.ireturn, 1) := by decide +kernel
theorem dX9_mayDo_115 : decode cX9_mayDo 115 = .ok (.aload_n 0, 1) := by decide +kernel
theorem dX9_mayDo_116 : decode cX9_mayDo 116 = .ok (.iload_n 2, 1) := by decide +kernel
theorem dX9_mayDo_117 : decode cX9_mayDo 117 = .ok (.invokevirtual 83, 3) := by decide +kernel
theorem dX9_mayDo_120 : decode cX9_mayDo 120 = .ok (.ireturn, 1) := by decide +kernel
theorem dX9_mayDo_121 : decode cX9_mayDo 121 = .ok (.aload_n 0, 1) := by decide +kernel
theorem dX9_mayDo_122 : decode cX9_mayDo 122 = .ok (.iload_n 2, 1) := by decide +kernel
theorem dX9_mayDo_123 : decode cX9_mayDo 123 = .ok (.invokevirtual 87, 3) := by decide +kernel
theorem dX9_mayDo_126 : decode cX9_mayDo 126 = .ok (.ireturn, 1) := by decide +kernel
theorem dX9_mayDo_127 : decode cX9_mayDo 127 = .ok (.aload_n 0, 1) := by decide +kernel
theorem dX9_mayDo_128 : decode cX9_mayDo 128 = .ok (.getfield 7, 3) := by decide +kernel
theorem dX9_mayDo_131 : decode cX9_mayDo 131 = .ok (.bipush 7, 2) := by decide +kernel
theorem dX9_mayDo_133 : decode cX9_mayDo 133 = .ok (.iaload, 1) := by decide +kernel
theorem dX9_mayDo_134 : decode cX9_mayDo 134 = .ok (.bipush 6, 2) := by decide +kernel
theorem dX9_mayDo_136 : decode cX9_mayDo 136 = .ok (.if_icmp .ne 8, 3) := by decide +kernel
theorem dX9_mayDo_139 : decode cX9_mayDo 139 = .ok (.bipush (-4), 2) := by decide +kernel
theorem dX9_mayDo_141 : decode cX9_mayDo 141 = .ok (.goto 4, 3) := by decide +kernel
theorem dX9_mayDo_144 : decode cX9_mayDo 144 = .ok (.iconst 0, 1) := by decide +kernel
theorem dX9_mayDo_145 : decode cX9_mayDo 145 = .ok (.ireturn, 1) := by decide +kernel
theorem dX9_mayDo_146 : decode cX9_mayDo 146 = .ok (.aload_n 0, 1) := by decide +kernel
theorem dX9_mayDo_147 : decode cX9_mayDo 147 = .ok (.iload_n 2, 1) := by decide +kernel
theorem dX9_mayDo_148 : decode cX9_mayDo 148 = .ok (.iload_n 3, 1) := by decide +kernel
theorem dX9_mayDo_149 : decode cX9_mayDo 149 = .ok (.invokevirtual 108, 3) := by decide +kernel
theorem dX9_mayDo_152 : decode cX9_mayDo 152 = .ok (.ireturn, 1) := by decide +kernel
theorem dX9_mayDo_153 : decode cX9_mayDo 153 = .ok (.aload_n 0, 1) := by decide +kernel
theorem dX9_mayDo_154 : decode cX9_mayDo 154 = .ok (.iload_n 2, 1) := by decide +kernel
theorem dX9_mayDo_155 : decode cX9_mayDo 155 = .ok (.invokevirtual 105, 3) := by decide +kernel
theorem dX9_mayDo_158 : decode cX9_mayDo 158 = .ok (.ifCond .eq 7, 3) := by decide +kernel
theorem dX9_mayDo_161 : decode cX9_mayDo 161 = .ok (.iconst 0, 1) := by decide +kernel
theorem dX9_mayDo_162 : decode cX9_mayDo 162 = .ok (.goto 4, 3) := by decide +kernel
theorem dX9_mayDo_165 : decode cX9_mayDo 165 = .ok (.iconst (-1), 1) := by decide +kernel
theorem dX9_mayDo_166 : decode cX9_mayDo 166 = .ok (.ireturn, 1) := by decide +kernel
theorem dX9_mayDo_167 : decode cX9_mayDo 167 = .ok (.aload_n 0, 1) := by decide +kernel
theorem dX9_mayDo_168 : decode cX9_mayDo 168 = .ok (.iload_n 2, 1) := by decide +kernel
theorem dX9_mayDo_169 : decode cX9_mayDo 169 = .ok (.iload_n 3, 1) := by decide +kernel
theorem dX9_mayDo_170 : decode cX9_mayDo 170 = .ok (.invokevirtual 121, 3) := by decide +kernel
theorem dX9_mayDo_173 : decode cX9_mayDo 173 = .ok (.ireturn, 1) := by decide +kernel
theorem dX9_mayDo_174 : decode cX9_mayDo 174 = .ok (.iconst 0, 1) := by decide +kernel
theorem dX9_mayDo_175 : decode cX9_mayDo 175 = .ok (.ireturn, 1) := by decide +kernel
theorem dX9_does_0 : decode cX9_does 0 = .ok (.aload_n 0, 1) := by decide +kernel
theorem dX9_does_1 : decode cX9_does 1 = .ok (.getfield 29, 3) := by decide +kernel
theorem dX9_does_4 : decode cX9_does 4 = .ok (.iconst 3, 1) := by decide +kernel
theorem dX9_does_5 : decode cX9_does 5 = .ok (.iload_n 1, 1) := by decide +kernel
theorem dX9_does_6 : decode cX9_does 6 = .ok (.imul, 1) := by decide +kernel
theorem dX9_does_7 : decode cX9_does 7 = .ok (.iaload, 1) := by decide +kernel
theorem dX9_does_8 : decode cX9_does 8 = .ok (.istore_n 2, 1) := by decide +kernel
theorem dX9_does_9 : decode cX9_does 9 = .ok (.aload_n 0, 1) := by decide +kernel
theorem dX9_does_10 : decode cX9_does 10 = .ok (.getfield 29, 3) := by decide +kernel
theorem dX9_does_13 : decode cX9_does 13 = .ok (.iconst 3, 1) := by decide +kernel
theorem dX9_does_14 : decode cX9_does 14 = .ok (.iload_n 1, 1) := by decide +kernel
theorem dX9_does_15 : decode cX9_does 15 = .ok (.imul, 1) := by decide +kernel
theorem dX9_does_16 : decode cX9_does 16 = .ok (.iconst 1, 1) := by decide +kernel
theorem dX9_does_17 : decode cX9_does 17 = .ok (.iadd, 1) := by decide +kernel
theorem dX9_does_18 : decode cX9_does 18 = .ok (.iaload, 1) := by decide +kernel
theorem dX9_does_19 : decode cX9_does 19 = .ok (.istore_n 3, 1) := by decide +kernel
theorem dX9_does_20 : decode cX9_does 20 = .ok (.aload_n 0, 1) := by decide +kernel
theorem dX9_does_21 : decode cX9_does 21 = .ok (.getfield 29, 3) := by decide +kernel
theorem dX9_does_24 : decode cX9_does 24 = .ok (.iconst 3, 1) := by decide +kernel
theorem dX9_does_25 : decode cX9_does 25 = .ok (.iload_n 1, 1) := by decide +kernel
theorem dX9_does_26 : decode cX9_does 26 = .ok (.imul, 1) := by decide +kernel
theorem dX9_does_27 : decode cX9_does 27 = .ok (.iconst 2, 1) := by decide +kernel
theorem dX9_does_28 : decode cX9_does 28 = .ok (.iadd, 1) := by decide +kernel
theorem dX9_does_29 : decode cX9_does 29 = .ok (.iaload, 1) := by decide +kernel
theorem dX9_does_30 : decode cX9_does 30 = .ok (.istore 4, 2) := by decide +kernel
theorem dX9_does_32 : decode cX9_does 32 = .ok (.aload_n 0, 1) := by decide +kernel
theorem dX9_does_33 : decode cX9_does 33 = .ok (.iload_n 2, 1) := by decide +kernel
theorem dX9_does_34 : decode cX9_does 34 = .ok (.iload_n 3, 1) := by decide +kernel
theorem dX9_does_35 : decode cX9_does 35 = .ok (.iload 4, 2) := by decide +kernel
theorem dX9_does_37 : decode cX9_does 37 = .ok (.invokevirtual 182, 3) := by decide +kernel
theorem dX9_does_40 : decode cX9_does 40 = .ok (.ifCond .eq 5, 3) := by decide +kernel
theorem dX9_does_43 : decode cX9_does 43 = .ok (.iconst 0, 1) := by decide +kernel
theorem dX9_does_44 : decode cX9_does 44 = .ok (.ireturn, 1) := by decide +kernel
theorem dX9_does_45 : decode cX9_does 45 = .ok (.iload_n 2, 1) := by decide +kernel
theorem dX9_does_46 : decode cX9_does 46 = .ok (.tableswitch 199 98 120 #[171, 171, 199, 199, 199, 199, 141, 199, 199, 199, 199, 199, 152, 199, 106, 199, 160, 191, 128, 199, 199, 199, 117], 106) := by decide +kernel
theorem dX9_does_152 : decode cX9_does 152 = .ok (.aload_n 0, 1) := by decide +kernel
theorem dX9_does_153 : decode cX9_does 153 = .ok (.iload_n 3, 1) := by decide +kernel
theorem dX9_does_154 : decode cX9_does 154 = .ok (.iload 4, 2) := by decide +kernel
theorem dX9_does_156 : decode cX9_does 156 = .ok (.invokevirtual 80, 3) := by decide +kernel
theorem dX9_does_159 : decode cX9_does 159 = .ok (.pop, 1) := by decide +kernel
theorem dX9_does_160 : decode cX9_does 160 = .ok (.goto 93, 3) := by decide +kernel
theorem dX9_does_163 : decode cX9_does 163 = .ok (.aload_n 0, 1) := by decide +kernel
theorem dX9_does_164 : decode cX9_does 164 = .ok (.iload_n 3, 1) := by decide +kernel
theorem dX9_does_165 : decode cX9_does 165 = .ok (.bipush (-6), 2) := by decide +kernel
theorem dX9_does_167 : decode cX9_does 167 = .ok (.invokevirtual 80, 3) := by decide +kernel
theorem dX9_does_170 : decode cX9_does 170 = .ok (.pop, 1) := by decide +kernel
theorem dX9_does_171 : decode cX9_does 171 = .ok (.goto 82, 3) := by decide +kernel
theorem dX9_does_174 : decode cX9_does 174 = .ok (.aload_n 0, 1) := by decide +kernel
theorem dX9_does_175 : decode cX9_does 175 = .ok (.getfield 7, 3) := by decide +kernel
theorem dX9_does_178 : decode cX9_does 178 = .ok (.iconst 2, 1) := by decide +kernel
theorem dX9_does_179 : decode cX9_does 179 = .ok (.dup2, 1) := by decide +kernel
theorem dX9_does_180 : decode cX9_does 180 = .ok (.iaload, 1) := by decide +kernel
theorem dX9_does_181 : decode cX9_does 181 = .ok (.iload_n 3, 1) := by decide +kernel
theorem dX9_does_182 : decode cX9_does 182 = .ok (.iadd, 1) := by decide +kernel
theorem dX9_does_183 : decode cX9_does 183 = .ok (.iastore, 1) := by decide +kernel
theorem dX9_does_184 : decode cX9_does 184 = .ok (.goto 69, 3) := by decide +kernel
theorem dX9_does_187 : decode cX9_does 187 = .ok (.aload_n 0, 1) := by decide +kernel
theorem dX9_does_188 : decode cX9_does 188 = .ok (.getfield 7, 3) := by decide +kernel
theorem dX9_does_191 : decode cX9_does 191 = .ok (.invokestatic 90, 3) := by decide +kernel
theorem dX9_does_194 : decode cX9_does 194 = .ok (.pop, 1) := by decide +kernel
theorem dX9_does_195 : decode cX9_does 195 = .ok (.goto 58, 3) := by decide +kernel
theorem dX9_does_198 : decode cX9_does 198 = .ok (.aload_n 0, 1) := by decide +kernel
theorem dX9_does_199 : decode cX9_does 199 = .ok (.invokevirtual 102, 3) := by decide +kernel
theorem dX9_does_202 : decode cX9_does 202 = .ok (.pop, 1) := by decide +kernel
theorem dX9_does_203 : decode cX9_does 203 = .ok (.goto 50, 3) := by decide +kernel
theorem dX9_does_206 : decode cX9_does 206 = .ok (.aload_n 0, 1) := by decide +kernel
theorem dX9_does_207 : decode cX9_does 207 = .ok (.iload_n 3, 1) := by decide +kernel
theorem dX9_does_208 : decode cX9_does 208 = .ok (.iload 4, 2) := by decide +kernel
theorem dX9_does_210 : decode cX9_does 210 = .ok (.invokevirtual 111, 3) := by decide +kernel
theorem dX9_does_213 : decode cX9_does 213 = .ok (.pop, 1) := by decide +kernel
theorem dX9_does_214 : decode cX9_does 214 = .ok (.goto 39, 3) := by decide +kernel
theorem dX9_does_217 : decode cX9_does 217 = .ok (.aload_n 0, 1) := by decide +kernel
theorem dX9_does_218 : decode cX9_does 218 = .ok (.iload_n 3, 1) := by decide +kernel
theorem dX9_does_219 : decode cX9_does 219 = .ok (.iload_n 2, 1) := by decide +kernel
theorem dX9_does_220 : decode cX9_does 220 = .ok (.bipush 99, 2) := by decide +kernel
theorem dX9_does_222 : decode cX9_does 222 = .ok (.if_icmp .ne 7, 3) := by decide +kernel
theorem dX9_does_225 : decode cX9_does 225 = .ok (.iconst 1, 1) := by decide +kernel
theorem dX9_does_226 : decode cX9_does 226 = .ok (.goto 4, 3) := by decide +kernel
theorem dX9_does_229 : decode cX9_does 229 = .ok (.iconst 0, 1) := by decide +kernel
theorem dX9_does_230 : decode cX9_does 230 = .ok (.invokevirtual 114, 3) := by decide +kernel
theorem dX9_does_233 : decode cX9_does 233 = .ok (.pop, 1) := by decide +kernel
theorem dX9_does_234 : decode cX9_does 234 = .ok (.goto 19, 3) := by decide +kernel
theorem dX9_does_237 : decode cX9_does 237 = .ok (.aload_n 0, 1) := by decide +kernel
theorem dX9_does_238 : decode cX9_does 238 = .ok (.invokevirtual 94, 3) := by decide +kernel
theorem dX9_does_241 : decode cX9_does 241 = .ok (.pop, 1) := by decide +kernel
theorem dX9_does_242 : decode cX9_does 242 = .ok (.goto 11, 3) := by decide +kernel
theorem dX9_does_245 : decode cX9_does 245 = .ok (.aload_n 0, 1) := by decide +kernel
theorem dX9_does_246 : decode cX9_does 246 = .ok (.iload_n 3, 1) := by decide +kernel
theorem dX9_does_247 : decode cX9_does 247 = .ok (.iload 4, 2) := by decide +kernel
theorem dX9_does_249 : decode cX9_does 249 = .ok (.invokevirtual 124, 3) := by decide +kernel
theorem dX9_does_252 : decode cX9_does 252 = .ok (.pop, 1) := by decide +kernel
theorem dX9_does_253 : decode cX9_does 253 = .ok (.iconst 1, 1) := by decide +kernel
theorem dX9_does_254 : decode cX9_does 254 = .ok (.ireturn, 1) := by decide +kernel
theorem dX9_carryOut_0 : decode cX9_carryOut 0 = .ok (.aload_n 0, 1) := by decide +kernel
theorem dX9_carryOut_1 : decode cX9_carryOut 1 = .ok (.invokevirtual 179, 3) := by decide +kernel
theorem dX9_carryOut_4 : decode cX9_carryOut 4 = .ok (.ifCond .ne 6, 3) := by decide +kernel
theorem dX9_carryOut_7 : decode cX9_carryOut 7 = .ok (.bipush (-3), 2) := by decide +kernel
theorem dX9_carryOut_9 : decode cX9_carryOut 9 = .ok (.ireturn, 1) := by decide +kernel
theorem dX9_carryOut_10 : decode cX9_carryOut 10 = .ok (.aload_n 0, 1) := by decide +kernel
theorem dX9_carryOut_11 : decode cX9_carryOut 11 = .ok (.invokevirtual 44, 3) := by decide +kernel
theorem dX9_carryOut_14 : decode cX9_carryOut 14 = .ok (.aload_n 0, 1) := by decide +kernel
theorem dX9_carryOut_15 : decode cX9_carryOut 15 = .ok (.iconst 0, 1) := by decide +kernel
theorem dX9_carryOut_16 : decode cX9_carryOut 16 = .ok (.putfield 139, 3) := by decide +kernel
theorem dX9_carryOut_19 : decode cX9_carryOut 19 = .ok (.iconst 0, 1) := by decide +kernel
theorem dX9_carryOut_20 : decode cX9_carryOut 20 = .ok (.istore_n 1, 1) := by decide +kernel
theorem dX9_carryOut_21 : decode cX9_carryOut 21 = .ok (.iload_n 1, 1) := by decide +kernel
theorem dX9_carryOut_22 : decode cX9_carryOut 22 = .ok (.aload_n 0, 1) := by decide +kernel
theorem dX9_carryOut_23 : decode cX9_carryOut 23 = .ok (.getfield 163, 3) := by decide +kernel
theorem dX9_carryOut_26 : decode cX9_carryOut 26 = .ok (.if_icmp .ge 17, 3) := by decide +kernel
theorem dX9_carryOut_29 : decode cX9_carryOut 29 = .ok (.aload_n 0, 1) := by decide +kernel
theorem dX9_carryOut_30 : decode cX9_carryOut 30 = .ok (.iload_n 1, 1) := by decide +kernel
theorem dX9_carryOut_31 : decode cX9_carryOut 31 = .ok (.invokevirtual 185, 3) := by decide +kernel
theorem dX9_carryOut_34 : decode cX9_carryOut 34 = .ok (.ifCond .eq 9, 3) := by decide +kernel
theorem dX9_carryOut_37 : decode cX9_carryOut 37 = .ok (.iinc 1 1, 3) := by decide +kernel
theorem dX9_carryOut_40 : decode cX9_carryOut 40 = .ok (.goto (-19), 3) := by decide +kernel
theorem dX9_carryOut_43 : decode cX9_carryOut 43 = .ok (.iload_n 1, 1) := by decide +kernel
theorem dX9_carryOut_44 : decode cX9_carryOut 44 = .ok (.ireturn, 1) := by decide +kernel
end
section
theorem dL_law_0 : decode cL_law 0 = .ok (.new 7, 3) := by decide +kernel
theorem dL_law_3 : decode cL_law 3 = .ok (.dup, 1) := by decide +kernel
theorem dL_law_4 : decode cL_law 4 = .ok (.invokespecial 9, 3) := by decide +kernel
theorem dL_law_7 : decode cL_law 7 = .ok (.astore_n 1, 1) := by decide +kernel
theorem dL_law_8 : decode cL_law 8 = .ok (.new 10, 3) := by decide +kernel
theorem dL_law_11 : decode cL_law 11 = .ok (.dup, 1) := by decide +kernel
theorem dL_law_12 : decode cL_law 12 = .ok (.invokespecial 12, 3) := by decide +kernel
theorem dL_law_15 : decode cL_law 15 = .ok (.astore_n 2, 1) := by decide +kernel
theorem dL_law_16 : decode cL_law 16 = .ok (.iconst 0, 1) := by decide +kernel
theorem dL_law_17 : decode cL_law 17 = .ok (.istore_n 3, 1) := by decide +kernel
theorem dL_law_18 : decode cL_law 18 = .ok (.iload_n 3, 1) := by decide +kernel
theorem dL_law_19 : decode cL_law 19 = .ok (.aload_n 0, 1) := by decide +kernel
theorem dL_law_20 : decode cL_law 20 = .ok (.arraylength, 1) := by decide +kernel
theorem dL_law_21 : decode cL_law 21 = .ok (.iconst 3, 1) := by decide +kernel
theorem dL_law_22 : decode cL_law 22 = .ok (.isub, 1) := by decide +kernel
theorem dL_law_23 : decode cL_law 23 = .ok (.if_icmp .gt 854, 3) := by decide +kernel
theorem dL_law_26 : decode cL_law 26 = .ok (.aload_n 0, 1) := by decide +kernel
theorem dL_law_27 : decode cL_law 27 = .ok (.iload_n 3, 1) := by decide +kernel
theorem dL_law_28 : decode cL_law 28 = .ok (.iaload, 1) := by decide +kernel
theorem dL_law_29 : decode cL_law 29 = .ok (.bipush 31, 2) := by decide +kernel
theorem dL_law_31 : decode cL_law 31 = .ok (.iand, 1) := by decide +kernel
theorem dL_law_32 : decode cL_law 32 = .ok (.tableswitch 839 0 28 #[132, 165, 198, 221, 244, 257, 270, 283, 316, 339, 362, 385, 418, 441, 474, 507, 540, 573, 596, 619, 642, 675, 688, 741, 754, 767, 780, 793, 816], 132) := by decide +kernel
theorem dL_law_164 : decode cL_law 164 = .ok (.aload_n 1, 1) := by decide +kernel
theorem dL_law_165 : decode cL_law 165 = .ok (.aload_n 0, 1) := by decide +kernel
theorem dL_law_166 : decode cL_law 166 = .ok (.iload_n 3, 1) := by decide +kernel
theorem dL_law_167 : decode cL_law 167 = .ok (.iconst 1, 1) := by decide +kernel
theorem dL_law_168 : decode cL_law 168 = .ok (.iadd, 1) := by decide +kernel
theorem dL_law_169 : decode cL_law 169 = .ok (.iaload, 1) := by decide +kernel
theorem dL_law_170 : decode cL_law 170 = .ok (.aload_n 0, 1) := by decide +kernel
theorem dL_law_171 : decode cL_law 171 = .ok (.iload_n 3, 1) := by decide +kernel
theorem dL_law_172 : decode cL_law 172 = .ok (.iconst 2, 1) := by decide +kernel
theorem dL_law_173 : decode cL_law 173 = .ok (.iadd, 1) := by decide +kernel
theorem dL_law_174 : decode cL_law 174 = .ok (.iaload, 1) := by decide +kernel
theorem dL_law_175 : decode cL_law 175 = .ok (.invokevirtual 13, 3) := by decide +kernel
theorem dL_law_178 : decode cL_law 178 = .ok (.aload_n 2, 1) := by decide +kernel
theorem dL_law_179 : decode cL_law 179 = .ok (.aload_n 0, 1) := by decide +kernel
theorem dL_law_180 : decode cL_law 180 = .ok (.iload_n 3, 1) := by decide +kernel
theorem dL_law_181 : decode cL_law 181 = .ok (.iconst 1, 1) := by decide +kernel
theorem dL_law_182 : decode cL_law 182 = .ok (.iadd, 1) := by decide +kernel
theorem dL_law_183 : decode cL_law 183 = .ok (.iaload, 1) := by decide +kernel
theorem dL_law_184 : decode cL_law 184 = .ok (.aload_n 0, 1) := by decide +kernel
theorem dL_law_185 : decode cL_law 185 = .ok (.iload_n 3, 1) := by decide +kernel
theorem dL_law_186 : decode cL_law 186 = .ok (.iconst 2, 1) := by decide +kernel
theorem dL_law_187 : decode cL_law 187 = .ok (.iadd, 1) := by decide +kernel
theorem dL_law_188 : decode cL_law 188 = .ok (.iaload, 1) := by decide +kernel
theorem dL_law_189 : decode cL_law 189 = .ok (.invokevirtual 17, 3) := by decide +kernel
theorem dL_law_192 : decode cL_law 192 = .ok (.if_icmp .eq 679, 3) := by decide +kernel
theorem dL_law_195 : decode cL_law 195 = .ok (.iconst 0, 1) := by decide +kernel
theorem dL_law_196 : decode cL_law 196 = .ok (.ireturn, 1) := by decide +kernel
theorem dL_law_197 : decode cL_law 197 = .ok (.aload_n 1, 1) := by decide +kernel
theorem dL_law_198 : decode cL_law 198 = .ok (.aload_n 0, 1) := by decide +kernel
theorem dL_law_199 : decode cL_law 199 = .ok (.iload_n 3, 1) := by decide +kernel
theorem dL_law_200 : decode cL_law 200 = .ok (.iconst 1, 1) := by decide +kernel
theorem dL_law_201 : decode cL_law 201 = .ok (.iadd, 1) := by decide +kernel
theorem dL_law_202 : decode cL_law 202 = .ok (.iaload, 1) := by decide +kernel
theorem dL_law_203 : decode cL_law 203 = .ok (.aload_n 0, 1) := by decide +kernel
theorem dL_law_204 : decode cL_law 204 = .ok (.iload_n 3, 1) := by decide +kernel
theorem dL_law_205 : decode cL_law 205 = .ok (.iconst 2, 1) := by decide +kernel
theorem dL_law_206 : decode cL_law 206 = .ok (.iadd, 1) := by decide +kernel
theorem dL_law_207 : decode cL_law 207 = .ok (.iaload, 1) := by decide +kernel
theorem dL_law_208 : decode cL_law 208 = .ok (.invokevirtual 18, 3) := by decide +kernel
theorem dL_law_211 : decode cL_law 211 = .ok (.aload_n 2, 1) := by decide +kernel
theorem dL_law_212 : decode cL_law 212 = .ok (.aload_n 0, 1) := by decide +kernel
theorem dL_law_213 : decode cL_law 213 = .ok (.iload_n 3, 1) := by decide +kernel
theorem dL_law_214 : decode cL_law 214 = .ok (.iconst 1, 1) := by decide +kernel
theorem dL_law_215 : decode cL_law 215 = .ok (.iadd, 1) := by decide +kernel
theorem dL_law_216 : decode cL_law 216 = .ok (.iaload, 1) := by decide +kernel
theorem dL_law_217 : decode cL_law 217 = .ok (.aload_n 0, 1) := by decide +kernel
theorem dL_law_218 : decode cL_law 218 = .ok (.iload_n 3, 1) := by decide +kernel
theorem dL_law_219 : decode cL_law 219 = .ok (.iconst 2, 1) := by decide +kernel
theorem dL_law_220 : decode cL_law 220 = .ok (.iadd, 1) := by decide +kernel
theorem dL_law_221 : decode cL_law 221 = .ok (.iaload, 1) := by decide +kernel
theorem dL_law_222 : decode cL_law 222 = .ok (.invokevirtual 21, 3) := by decide +kernel
theorem dL_law_225 : decode cL_law 225 = .ok (.if_icmp .eq 646, 3) := by decide +kernel
theorem dL_law_228 : decode cL_law 228 = .ok (.iconst 0, 1) := by decide +kernel
theorem dL_law_229 : decode cL_law 229 = .ok (.ireturn, 1) := by decide +kernel
theorem dL_law_230 : decode cL_law 230 = .ok (.aload_n 1, 1) := by decide +kernel
theorem dL_law_231 : decode cL_law 231 = .ok (.aload_n 0, 1) := by decide +kernel
theorem dL_law_232 : decode cL_law 232 = .ok (.iload_n 3, 1) := by decide +kernel
theorem dL_law_233 : decode cL_law 233 = .ok (.iconst 1, 1) := by decide +kernel
theorem dL_law_234 : decode cL_law 234 = .ok (.iadd, 1) := by decide +kernel
theorem dL_law_235 : decode cL_law 235 = .ok (.iaload, 1) := by decide +kernel
theorem dL_law_236 : decode cL_law 236 = .ok (.invokevirtual 22, 3) := by decide +kernel
theorem dL_law_239 : decode cL_law 239 = .ok (.aload_n 2, 1) := by decide +kernel
theorem dL_law_240 : decode cL_law 240 = .ok (.aload_n 0, 1) := by decide +kernel
theorem dL_law_241 : decode cL_law 241 = .ok (.iload_n 3, 1) := by decide +kernel
theorem dL_law_242 : decode cL_law 242 = .ok (.iconst 1, 1) := by decide +kernel
theorem dL_law_243 : decode cL_law 243 = .ok (.iadd, 1) := by decide +kernel
theorem dL_law_244 : decode cL_law 244 = .ok (.iaload, 1) := by decide +kernel
theorem dL_law_245 : decode cL_law 245 = .ok (.invokevirtual 26, 3) := by decide +kernel
theorem dL_law_248 : decode cL_law 248 = .ok (.if_icmp .eq 623, 3) := by decide +kernel
theorem dL_law_251 : decode cL_law 251 = .ok (.iconst 0, 1) := by decide +kernel
theorem dL_law_252 : decode cL_law 252 = .ok (.ireturn, 1) := by decide +kernel
theorem dL_law_253 : decode cL_law 253 = .ok (.aload_n 1, 1) := by decide +kernel
theorem dL_law_254 : decode cL_law 254 = .ok (.aload_n 0, 1) := by decide +kernel
theorem dL_law_255 : decode cL_law 255 = .ok (.iload_n 3, 1) := by decide +kernel
theorem dL_law_256 : decode cL_law 256 = .ok (.iconst 1, 1) := by decide +kernel
theorem dL_law_257 : decode cL_law 257 = .ok (.iadd, 1) := by decide +kernel
theorem dL_law_258 : decode cL_law 258 = .ok (.iaload, 1) := by decide +kernel
theorem dL_law_259 : decode cL_law 259 = .ok (.invokevirtual 27, 3) := by decide +kernel
theorem dL_law_262 : decode cL_law 262 = .ok (.aload_n 2, 1) := by decide +kernel
theorem dL_law_263 : decode cL_law 263 = .ok (.aload_n 0, 1) := by decide +kernel
theorem dL_law_264 : decode cL_law 264 = .ok (.iload_n 3, 1) := by decide +kernel
theorem dL_law_265 : decode cL_law 265 = .ok (.iconst 1, 1) := by decide +kernel
theorem dL_law_266 : decode cL_law 266 = .ok (.iadd, 1) := by decide +kernel
theorem dL_law_267 : decode cL_law 267 = .ok (.iaload, 1) := by decide +kernel
theorem dL_law_268 : decode cL_law 268 = .ok (.invokevirtual 30, 3) := by decide +kernel
theorem dL_law_271 : decode cL_law 271 = .ok (.if_icmp .eq 600, 3) := by decide +kernel
theorem dL_law_274 : decode cL_law 274 = .ok (.iconst 0, 1) := by decide +kernel
theorem dL_law_275 : decode cL_law 275 = .ok (.ireturn, 1) := by decide +kernel
theorem dL_law_276 : decode cL_law 276 = .ok (.aload_n 1, 1) := by decide +kernel
theorem dL_law_277 : decode cL_law 277 = .ok (.invokevirtual 31, 3) := by decide +kernel
theorem dL_law_280 : decode cL_law 280 = .ok (.aload_n 2, 1) := by decide +kernel
theorem dL_law_281 : decode cL_law 281 = .ok (.invokevirtual 35, 3) := by decide +kernel
theorem dL_law_284 : decode cL_law 284 = .ok (.if_icmp .eq 587, 3) := by decide +kernel
theorem dL_law_287 : decode cL_law 287 = .ok (.iconst 0, 1) := by decide +kernel
theorem dL_law_288 : decode cL_law 288 = .ok (.ireturn, 1) := by decide +kernel
theorem dL_law_289 : decode cL_law 289 = .ok (.aload_n 1, 1) := by decide +kernel
theorem dL_law_290 : decode cL_law 290 = .ok (.invokevirtual 36, 3) := by decide +kernel
theorem dL_law_293 : decode cL_law 293 = .ok (.aload_n 2, 1) := by decide +kernel
theorem dL_law_294 : decode cL_law 294 = .ok (.invokevirtual 39, 3) := by decide +kernel
theorem dL_law_297 : decode cL_law 297 = .ok (.if_icmp .eq 574, 3) := by decide +kernel
theorem dL_law_300 : decode cL_law 300 = .ok (.iconst 0, 1) := by decide +kernel
theorem dL_law_301 : decode cL_law 301 = .ok (.ireturn, 1) := by decide +kernel
theorem dL_law_302 : decode cL_law 302 = .ok (.aload_n 1, 1) := by decide +kernel
theorem dL_law_303 : decode cL_law 303 = .ok (.invokevirtual 40, 3) := by decide +kernel
theorem dL_law_306 : decode cL_law 306 = .ok (.aload_n 2, 1) := by decide +kernel
theorem dL_law_307 : decode cL_law 307 = .ok (.invokevirtual 43, 3) := by decide +kernel
theorem dL_law_310 : decode cL_law 310 = .ok (.if_icmp .eq 561, 3) := by decide +kernel
theorem dL_law_313 : decode cL_law 313 = .ok (.iconst 0, 1) := by decide +kernel
theorem dL_law_314 : decode cL_law 314 = .ok (.ireturn, 1) := by decide +kernel
theorem dL_law_315 : decode cL_law 315 = .ok (.aload_n 1, 1) := by decide +kernel
theorem dL_law_316 : decode cL_law 316 = .ok (.aload_n 0, 1) := by decide +kernel
theorem dL_law_317 : decode cL_law 317 = .ok (.iload_n 3, 1) := by decide +kernel
theorem dL_law_318 : decode cL_law 318 = .ok (.iconst 1, 1) := by decide +kernel
theorem dL_law_319 : decode cL_law 319 = .ok (.iadd, 1) := by decide +kernel
theorem dL_law_320 : decode cL_law 320 = .ok (.iaload, 1) := by decide +kernel
theorem dL_law_321 : decode cL_law 321 = .ok (.aload_n 0, 1) := by decide +kernel
theorem dL_law_322 : decode cL_law 322 = .ok (.iload_n 3, 1) := by decide +kernel
theorem dL_law_323 : decode cL_law 323 = .ok (.iconst 2, 1) := by decide +kernel
theorem dL_law_324 : decode cL_law 324 = .ok (.iadd, 1) := by decide +kernel
theorem dL_law_325 : decode cL_law 325 = .ok (.iaload, 1) := by decide +kernel
theorem dL_law_326 : decode cL_law 326 = .ok (.invokevirtual 44, 3) := by decide +kernel
theorem dL_law_329 : decode cL_law 329 = .ok (.aload_n 2, 1) := by decide +kernel
theorem dL_law_330 : decode cL_law 330 = .ok (.aload_n 0, 1) := by decide +kernel
theorem dL_law_331 : decode cL_law 331 = .ok (.iload_n 3, 1) := by decide +kernel
theorem dL_law_332 : decode cL_law 332 = .ok (.iconst 1, 1) := by decide +kernel
theorem dL_law_333 : decode cL_law 333 = .ok (.iadd, 1) := by decide +kernel
theorem dL_law_334 : decode cL_law 334 = .ok (.iaload, 1) := by decide +kernel
theorem dL_law_335 : decode cL_law 335 = .ok (.aload_n 0, 1) := by decide +kernel
theorem dL_law_336 : decode cL_law 336 = .ok (.iload_n 3, 1) := by decide +kernel
theorem dL_law_337 : decode cL_law 337 = .ok (.iconst 2, 1) := by decide +kernel
theorem dL_law_338 : decode cL_law 338 = .ok (.iadd, 1) := by decide +kernel
theorem dL_law_339 : decode cL_law 339 = .ok (.iaload, 1) := by decide +kernel
theorem dL_law_340 : decode cL_law 340 = .ok (.invokevirtual 47, 3) := by decide +kernel
theorem dL_law_343 : decode cL_law 343 = .ok (.if_icmp .eq 528, 3) := by decide +kernel
theorem dL_law_346 : decode cL_law 346 = .ok (.iconst 0, 1) := by decide +kernel
theorem dL_law_347 : decode cL_law 347 = .ok (.ireturn, 1) := by decide +kernel
theorem dL_law_348 : decode cL_law 348 = .ok (.aload_n 1, 1) := by decide +kernel
theorem dL_law_349 : decode cL_law 349 = .ok (.aload_n 0, 1) := by decide +kernel
theorem dL_law_350 : decode cL_law 350 = .ok (.iload_n 3, 1) := by decide +kernel
theorem dL_law_351 : decode cL_law 351 = .ok (.iconst 1, 1) := by decide +kernel
theorem dL_law_352 : decode cL_law 352 = .ok (.iadd, 1) := by decide +kernel
theorem dL_law_353 : decode cL_law 353 = .ok (.iaload, 1) := by decide +kernel
theorem dL_law_354 : decode cL_law 354 = .ok (.invokevirtual 48, 3) := by decide +kernel
theorem dL_law_357 : decode cL_law 357 = .ok (.aload_n 2, 1) := by decide +kernel
theorem dL_law_358 : decode cL_law 358 = .ok (.aload_n 0, 1) := by decide +kernel
theorem dL_law_359 : decode cL_law 359 = .ok (.iload_n 3, 1) := by decide +kernel
theorem dL_law_360 : decode cL_law 360 = .ok (.iconst 1, 1) := by decide +kernel
theorem dL_law_361 : decode cL_law 361 = .ok (.iadd, 1) := by decide +kernel
theorem dL_law_362 : decode cL_law 362 = .ok (.iaload, 1) := by decide +kernel
theorem dL_law_363 : decode cL_law 363 = .ok (.invokevirtual 51, 3) := by decide +kernel
theorem dL_law_366 : decode cL_law 366 = .ok (.if_icmp .eq 505, 3) := by decide +kernel
theorem dL_law_369 : decode cL_law 369 = .ok (.iconst 0, 1) := by decide +kernel
theorem dL_law_370 : decode cL_law 370 = .ok (.ireturn, 1) := by decide +kernel
theorem dL_law_371 : decode cL_law 371 = .ok (.aload_n 1, 1) := by decide +kernel
theorem dL_law_372 : decode cL_law 372 = .ok (.aload_n 0, 1) := by decide +kernel
theorem dL_law_373 : decode cL_law 373 = .ok (.iload_n 3, 1) := by decide +kernel
theorem dL_law_374 : decode cL_law 374 = .ok (.iconst 1, 1) := by decide +kernel
theorem dL_law_375 : decode cL_law 375 = .ok (.iadd, 1) := by decide +kernel
theorem dL_law_376 : decode cL_law 376 = .ok (.iaload, 1) := by decide +kernel
theorem dL_law_377 : decode cL_law 377 = .ok (.invokevirtual 52, 3) := by decide +kernel
theorem dL_law_380 : decode cL_law 380 = .ok (.aload_n 2, 1) := by decide +kernel
theorem dL_law_381 : decode cL_law 381 = .ok (.aload_n 0, 1) := by decide +kernel
theorem dL_law_382 : decode cL_law 382 = .ok (.iload_n 3, 1) := by decide +kernel
theorem dL_law_383 : decode cL_law 383 = .ok (.iconst 1, 1) := by decide +kernel
theorem dL_law_384 : decode cL_law 384 = .ok (.iadd, 1) := by decide +kernel
theorem dL_law_385 : decode cL_law 385 = .ok (.iaload, 1) := by decide +kernel
theorem dL_law_386 : decode cL_law 386 = .ok (.invokevirtual 55, 3) := by decide +kernel
theorem dL_law_389 : decode cL_law 389 = .ok (.if_icmp .eq 482, 3) := by decide +kernel
theorem dL_law_392 : decode cL_law 392 = .ok (.iconst 0, 1) := by decide +kernel
theorem dL_law_393 : decode cL_law 393 = .ok (.ireturn, 1) := by decide +kernel
theorem dL_law_394 : decode cL_law 394 = .ok (.aload_n 1, 1) := by decide +kernel
theorem dL_law_395 : decode cL_law 395 = .ok (.aload_n 0, 1) := by decide +kernel
theorem dL_law_396 : decode cL_law 396 = .ok (.iload_n 3, 1) := by decide +kernel
theorem dL_law_397 : decode cL_law 397 = .ok (.iconst 1, 1) := by decide +kernel
theorem dL_law_398 : decode cL_law 398 = .ok (.iadd, 1) := by decide +kernel
theorem dL_law_399 : decode cL_law 399 = .ok (.iaload, 1) := by decide +kernel
theorem dL_law_400 : decode cL_law 400 = .ok (.invokevirtual 56, 3) := by decide +kernel
theorem dL_law_403 : decode cL_law 403 = .ok (.aload_n 2, 1) := by decide +kernel
theorem dL_law_404 : decode cL_law 404 = .ok (.aload_n 0, 1) := by decide +kernel
theorem dL_law_405 : decode cL_law 405 = .ok (.iload_n 3, 1) := by decide +kernel
theorem dL_law_406 : decode cL_law 406 = .ok (.iconst 1, 1) := by decide +kernel
theorem dL_law_407 : decode cL_law 407 = .ok (.iadd, 1) := by decide +kernel
theorem dL_law_408 : decode cL_law 408 = .ok (.iaload, 1) := by decide +kernel
theorem dL_law_409 : decode cL_law 409 = .ok (.invokevirtual 59, 3) := by decide +kernel
theorem dL_law_412 : decode cL_law 412 = .ok (.if_icmp .eq 459, 3) := by decide +kernel
theorem dL_law_415 : decode cL_law 415 = .ok (.iconst 0, 1) := by decide +kernel
theorem dL_law_416 : decode cL_law 416 = .ok (.ireturn, 1) := by decide +kernel
theorem dL_law_417 : decode cL_law 417 = .ok (.aload_n 1, 1) := by decide +kernel
theorem dL_law_418 : decode cL_law 418 = .ok (.aload_n 0, 1) := by decide +kernel
theorem dL_law_419 : decode cL_law 419 = .ok (.iload_n 3, 1) := by decide +kernel
theorem dL_law_420 : decode cL_law 420 = .ok (.iconst 1, 1) := by decide +kernel
theorem dL_law_421 : decode cL_law 421 = .ok (.iadd, 1) := by decide +kernel
theorem dL_law_422 : decode cL_law 422 = .ok (.iaload, 1) := by decide +kernel
theorem dL_law_423 : decode cL_law 423 = .ok (.aload_n 0, 1) := by decide +kernel
theorem dL_law_424 : decode cL_law 424 = .ok (.iload_n 3, 1) := by decide +kernel
theorem dL_law_425 : decode cL_law 425 = .ok (.iconst 2, 1) := by decide +kernel
theorem dL_law_426 : decode cL_law 426 = .ok (.iadd, 1) := by decide +kernel
theorem dL_law_427 : decode cL_law 427 = .ok (.iaload, 1) := by decide +kernel
theorem dL_law_428 : decode cL_law 428 = .ok (.invokevirtual 60, 3) := by decide +kernel
theorem dL_law_431 : decode cL_law 431 = .ok (.aload_n 2, 1) := by decide +kernel
theorem dL_law_432 : decode cL_law 432 = .ok (.aload_n 0, 1) := by decide +kernel
theorem dL_law_433 : decode cL_law 433 = .ok (.iload_n 3, 1) := by decide +kernel
theorem dL_law_434 : decode cL_law 434 = .ok (.iconst 1, 1) := by decide +kernel
theorem dL_law_435 : decode cL_law 435 = .ok (.iadd, 1) := by decide +kernel
theorem dL_law_436 : decode cL_law 436 = .ok (.iaload, 1) := by decide +kernel
theorem dL_law_437 : decode cL_law 437 = .ok (.aload_n 0, 1) := by decide +kernel
theorem dL_law_438 : decode cL_law 438 = .ok (.iload_n 3, 1) := by decide +kernel
theorem dL_law_439 : decode cL_law 439 = .ok (.iconst 2, 1) := by decide +kernel
theorem dL_law_440 : decode cL_law 440 = .ok (.iadd, 1) := by decide +kernel
theorem dL_law_441 : decode cL_law 441 = .ok (.iaload, 1) := by decide +kernel
theorem dL_law_442 : decode cL_law 442 = .ok (.invokevirtual 63, 3) := by decide +kernel
theorem dL_law_445 : decode cL_law 445 = .ok (.if_icmp .eq 426, 3) := by decide +kernel
theorem dL_law_448 : decode cL_law 448 = .ok (.iconst 0, 1) := by decide +kernel
theorem dL_law_449 : decode cL_law 449 = .ok (.ireturn, 1) := by decide +kernel
theorem dL_law_450 : decode cL_law 450 = .ok (.aload_n 1, 1) := by decide +kernel
theorem dL_law_451 : decode cL_law 451 = .ok (.aload_n 0, 1) := by decide +kernel
theorem dL_law_452 : decode cL_law 452 = .ok (.iload_n 3, 1) := by decide +kernel
theorem dL_law_453 : decode cL_law 453 = .ok (.iconst 1, 1) := by decide +kernel
theorem dL_law_454 : decode cL_law 454 = .ok (.iadd, 1) := by decide +kernel
theorem dL_law_455 : decode cL_law 455 = .ok (.iaload, 1) := by decide +kernel
theorem dL_law_456 : decode cL_law 456 = .ok (.invokevirtual 64, 3) := by decide +kernel
theorem dL_law_459 : decode cL_law 459 = .ok (.aload_n 2, 1) := by decide +kernel
theorem dL_law_460 : decode cL_law 460 = .ok (.aload_n 0, 1) := by decide +kernel
theorem dL_law_461 : decode cL_law 461 = .ok (.iload_n 3, 1) := by decide +kernel
theorem dL_law_462 : decode cL_law 462 = .ok (.iconst 1, 1) := by decide +kernel
theorem dL_law_463 : decode cL_law 463 = .ok (.iadd, 1) := by decide +kernel
theorem dL_law_464 : decode cL_law 464 = .ok (.iaload, 1) := by decide +kernel
theorem dL_law_465 : decode cL_law 465 = .ok (.invokevirtual 67, 3) := by decide +kernel
theorem dL_law_468 : decode cL_law 468 = .ok (.if_icmp .eq 403, 3) := by decide +kernel
theorem dL_law_471 : decode cL_law 471 = .ok (.iconst 0, 1) := by decide +kernel
theorem dL_law_472 : decode cL_law 472 = .ok (.ireturn, 1) := by decide +kernel
theorem dL_law_473 : decode cL_law 473 = .ok (.aload_n 1, 1) := by decide +kernel
theorem dL_law_474 : decode cL_law 474 = .ok (.aload_n 0, 1) := by decide +kernel
theorem dL_law_475 : decode cL_law 475 = .ok (.iload_n 3, 1) := by decide +kernel
theorem dL_law_476 : decode cL_law 476 = .ok (.iconst 1, 1) := by decide +kernel
theorem dL_law_477 : decode cL_law 477 = .ok (.iadd, 1) := by decide +kernel
theorem dL_law_478 : decode cL_law 478 = .ok (.iaload, 1) := by decide +kernel
theorem dL_law_479 : decode cL_law 479 = .ok (.aload_n 0, 1) := by decide +kernel
theorem dL_law_480 : decode cL_law 480 = .ok (.iload_n 3, 1) := by decide +kernel
theorem dL_law_481 : decode cL_law 481 = .ok (.iconst 2, 1) := by decide +kernel
theorem dL_law_482 : decode cL_law 482 = .ok (.iadd, 1) := by decide +kernel
theorem dL_law_483 : decode cL_law 483 = .ok (.iaload, 1) := by decide +kernel
theorem dL_law_484 : decode cL_law 484 = .ok (.invokevirtual 68, 3) := by decide +kernel
theorem dL_law_487 : decode cL_law 487 = .ok (.aload_n 2, 1) := by decide +kernel
theorem dL_law_488 : decode cL_law 488 = .ok (.aload_n 0, 1) := by decide +kernel
theorem dL_law_489 : decode cL_law 489 = .ok (.iload_n 3, 1) := by decide +kernel
theorem dL_law_490 : decode cL_law 490 = .ok (.iconst 1, 1) := by decide +kernel
theorem dL_law_491 : decode cL_law 491 = .ok (.iadd, 1) := by decide +kernel
theorem dL_law_492 : decode cL_law 492 = .ok (.iaload, 1) := by decide +kernel
theorem dL_law_493 : decode cL_law 493 = .ok (.aload_n 0, 1) := by decide +kernel
theorem dL_law_494 : decode cL_law 494 = .ok (.iload_n 3, 1) := by decide +kernel
theorem dL_law_495 : decode cL_law 495 = .ok (.iconst 2, 1) := by decide +kernel
theorem dL_law_496 : decode cL_law 496 = .ok (.iadd, 1) := by decide +kernel
theorem dL_law_497 : decode cL_law 497 = .ok (.iaload, 1) := by decide +kernel
theorem dL_law_498 : decode cL_law 498 = .ok (.invokevirtual 71, 3) := by decide +kernel
theorem dL_law_501 : decode cL_law 501 = .ok (.if_icmp .eq 370, 3) := by decide +kernel
theorem dL_law_504 : decode cL_law 504 = .ok (.iconst 0, 1) := by decide +kernel
theorem dL_law_505 : decode cL_law 505 = .ok (.ireturn, 1) := by decide +kernel
theorem dL_law_506 : decode cL_law 506 = .ok (.aload_n 1, 1) := by decide +kernel
theorem dL_law_507 : decode cL_law 507 = .ok (.aload_n 0, 1) := by decide +kernel
theorem dL_law_508 : decode cL_law 508 = .ok (.iload_n 3, 1) := by decide +kernel
theorem dL_law_509 : decode cL_law 509 = .ok (.iconst 1, 1) := by decide +kernel
theorem dL_law_510 : decode cL_law 510 = .ok (.iadd, 1) := by decide +kernel
theorem dL_law_511 : decode cL_law 511 = .ok (.iaload, 1) := by decide +kernel
theorem dL_law_512 : decode cL_law 512 = .ok (.aload_n 0, 1) := by decide +kernel
theorem dL_law_513 : decode cL_law 513 = .ok (.iload_n 3, 1) := by decide +kernel
theorem dL_law_514 : decode cL_law 514 = .ok (.iconst 2, 1) := by decide +kernel
theorem dL_law_515 : decode cL_law 515 = .ok (.iadd, 1) := by decide +kernel
theorem dL_law_516 : decode cL_law 516 = .ok (.iaload, 1) := by decide +kernel
theorem dL_law_517 : decode cL_law 517 = .ok (.invokevirtual 72, 3) := by decide +kernel
theorem dL_law_520 : decode cL_law 520 = .ok (.aload_n 2, 1) := by decide +kernel
theorem dL_law_521 : decode cL_law 521 = .ok (.aload_n 0, 1) := by decide +kernel
theorem dL_law_522 : decode cL_law 522 = .ok (.iload_n 3, 1) := by decide +kernel
theorem dL_law_523 : decode cL_law 523 = .ok (.iconst 1, 1) := by decide +kernel
theorem dL_law_524 : decode cL_law 524 = .ok (.iadd, 1) := by decide +kernel
theorem dL_law_525 : decode cL_law 525 = .ok (.iaload, 1) := by decide +kernel
theorem dL_law_526 : decode cL_law 526 = .ok (.aload_n 0, 1) := by decide +kernel
theorem dL_law_527 : decode cL_law 527 = .ok (.iload_n 3, 1) := by decide +kernel
theorem dL_law_528 : decode cL_law 528 = .ok (.iconst 2, 1) := by decide +kernel
theorem dL_law_529 : decode cL_law 529 = .ok (.iadd, 1) := by decide +kernel
theorem dL_law_530 : decode cL_law 530 = .ok (.iaload, 1) := by decide +kernel
theorem dL_law_531 : decode cL_law 531 = .ok (.invokevirtual 75, 3) := by decide +kernel
theorem dL_law_534 : decode cL_law 534 = .ok (.if_icmp .eq 337, 3) := by decide +kernel
theorem dL_law_537 : decode cL_law 537 = .ok (.iconst 0, 1) := by decide +kernel
theorem dL_law_538 : decode cL_law 538 = .ok (.ireturn, 1) := by decide +kernel
theorem dL_law_539 : decode cL_law 539 = .ok (.aload_n 1, 1) := by decide +kernel
theorem dL_law_540 : decode cL_law 540 = .ok (.aload_n 0, 1) := by decide +kernel
theorem dL_law_541 : decode cL_law 541 = .ok (.iload_n 3, 1) := by decide +kernel
theorem dL_law_542 : decode cL_law 542 = .ok (.iconst 1, 1) := by decide +kernel
theorem dL_law_543 : decode cL_law 543 = .ok (.iadd, 1) := by decide +kernel
theorem dL_law_544 : decode cL_law 544 = .ok (.iaload, 1) := by decide +kernel
theorem dL_law_545 : decode cL_law 545 = .ok (.aload_n 0, 1) := by decide +kernel
theorem dL_law_546 : decode cL_law 546 = .ok (.iload_n 3, 1) := by decide +kernel
theorem dL_law_547 : decode cL_law 547 = .ok (.iconst 2, 1) := by decide +kernel
theorem dL_law_548 : decode cL_law 548 = .ok (.iadd, 1) := by decide +kernel
theorem dL_law_549 : decode cL_law 549 = .ok (.iaload, 1) := by decide +kernel
theorem dL_law_550 : decode cL_law 550 = .ok (.invokevirtual 76, 3) := by decide +kernel
theorem dL_law_553 : decode cL_law 553 = .ok (.aload_n 2, 1) := by decide +kernel
theorem dL_law_554 : decode cL_law 554 = .ok (.aload_n 0, 1) := by decide +kernel
theorem dL_law_555 : decode cL_law 555 = .ok (.iload_n 3, 1) := by decide +kernel
theorem dL_law_556 : decode cL_law 556 = .ok (.iconst 1, 1) := by decide +kernel
theorem dL_law_557 : decode cL_law 557 = .ok (.iadd, 1) := by decide +kernel
theorem dL_law_558 : decode cL_law 558 = .ok (.iaload, 1) := by decide +kernel
theorem dL_law_559 : decode cL_law 559 = .ok (.aload_n 0, 1) := by decide +kernel
theorem dL_law_560 : decode cL_law 560 = .ok (.iload_n 3, 1) := by decide +kernel
theorem dL_law_561 : decode cL_law 561 = .ok (.iconst 2, 1) := by decide +kernel
theorem dL_law_562 : decode cL_law 562 = .ok (.iadd, 1) := by decide +kernel
theorem dL_law_563 : decode cL_law 563 = .ok (.iaload, 1) := by decide +kernel
theorem dL_law_564 : decode cL_law 564 = .ok (.invokevirtual 79, 3) := by decide +kernel
theorem dL_law_567 : decode cL_law 567 = .ok (.if_icmp .eq 304, 3) := by decide +kernel
theorem dL_law_570 : decode cL_law 570 = .ok (.iconst 0, 1) := by decide +kernel
theorem dL_law_571 : decode cL_law 571 = .ok (.ireturn, 1) := by decide +kernel
theorem dL_law_572 : decode cL_law 572 = .ok (.aload_n 1, 1) := by decide +kernel
theorem dL_law_573 : decode cL_law 573 = .ok (.aload_n 0, 1) := by decide +kernel
theorem dL_law_574 : decode cL_law 574 = .ok (.iload_n 3, 1) := by decide +kernel
theorem dL_law_575 : decode cL_law 575 = .ok (.iconst 1, 1) := by decide +kernel
theorem dL_law_576 : decode cL_law 576 = .ok (.iadd, 1) := by decide +kernel
theorem dL_law_577 : decode cL_law 577 = .ok (.iaload, 1) := by decide +kernel
theorem dL_law_578 : decode cL_law 578 = .ok (.aload_n 0, 1) := by decide +kernel
theorem dL_law_579 : decode cL_law 579 = .ok (.iload_n 3, 1) := by decide +kernel
theorem dL_law_580 : decode cL_law 580 = .ok (.iconst 2, 1) := by decide +kernel
theorem dL_law_581 : decode cL_law 581 = .ok (.iadd, 1) := by decide +kernel
theorem dL_law_582 : decode cL_law 582 = .ok (.iaload, 1) := by decide +kernel
theorem dL_law_583 : decode cL_law 583 = .ok (.invokevirtual 80, 3) := by decide +kernel
theorem dL_law_586 : decode cL_law 586 = .ok (.aload_n 2, 1) := by decide +kernel
theorem dL_law_587 : decode cL_law 587 = .ok (.aload_n 0, 1) := by decide +kernel
theorem dL_law_588 : decode cL_law 588 = .ok (.iload_n 3, 1) := by decide +kernel
theorem dL_law_589 : decode cL_law 589 = .ok (.iconst 1, 1) := by decide +kernel
theorem dL_law_590 : decode cL_law 590 = .ok (.iadd, 1) := by decide +kernel
theorem dL_law_591 : decode cL_law 591 = .ok (.iaload, 1) := by decide +kernel
theorem dL_law_592 : decode cL_law 592 = .ok (.aload_n 0, 1) := by decide +kernel
theorem dL_law_593 : decode cL_law 593 = .ok (.iload_n 3, 1) := by decide +kernel
theorem dL_law_594 : decode cL_law 594 = .ok (.iconst 2, 1) := by decide +kernel
theorem dL_law_595 : decode cL_law 595 = .ok (.iadd, 1) := by decide +kernel
theorem dL_law_596 : decode cL_law 596 = .ok (.iaload, 1) := by decide +kernel
theorem dL_law_597 : decode cL_law 597 = .ok (.invokevirtual 83, 3) := by decide +kernel
theorem dL_law_600 : decode cL_law 600 = .ok (.if_icmp .eq 271, 3) := by decide +kernel
theorem dL_law_603 : decode cL_law 603 = .ok (.iconst 0, 1) := by decide +kernel
theorem dL_law_604 : decode cL_law 604 = .ok (.ireturn, 1) := by decide +kernel
theorem dL_law_605 : decode cL_law 605 = .ok (.aload_n 1, 1) := by decide +kernel
theorem dL_law_606 : decode cL_law 606 = .ok (.aload_n 0, 1) := by decide +kernel
theorem dL_law_607 : decode cL_law 607 = .ok (.iload_n 3, 1) := by decide +kernel
theorem dL_law_608 : decode cL_law 608 = .ok (.iconst 1, 1) := by decide +kernel
theorem dL_law_609 : decode cL_law 609 = .ok (.iadd, 1) := by decide +kernel
theorem dL_law_610 : decode cL_law 610 = .ok (.iaload, 1) := by decide +kernel
theorem dL_law_611 : decode cL_law 611 = .ok (.invokevirtual 84, 3) := by decide +kernel
theorem dL_law_614 : decode cL_law 614 = .ok (.aload_n 2, 1) := by decide +kernel
theorem dL_law_615 : decode cL_law 615 = .ok (.aload_n 0, 1) := by decide +kernel
theorem dL_law_616 : decode cL_law 616 = .ok (.iload_n 3, 1) := by decide +kernel
theorem dL_law_617 : decode cL_law 617 = .ok (.iconst 1, 1) := by decide +kernel
theorem dL_law_618 : decode cL_law 618 = .ok (.iadd, 1) := by decide +kernel
theorem dL_law_619 : decode cL_law 619 = .ok (.iaload, 1) := by decide +kernel
theorem dL_law_620 : decode cL_law 620 = .ok (.invokevirtual 87, 3) := by decide +kernel
theorem dL_law_623 : decode cL_law 623 = .ok (.if_icmp .eq 248, 3) := by decide +kernel
theorem dL_law_626 : decode cL_law 626 = .ok (.iconst 0, 1) := by decide +kernel
theorem dL_law_627 : decode cL_law 627 = .ok (.ireturn, 1) := by decide +kernel
theorem dL_law_628 : decode cL_law 628 = .ok (.aload_n 1, 1) := by decide +kernel
theorem dL_law_629 : decode cL_law 629 = .ok (.aload_n 0, 1) := by decide +kernel
theorem dL_law_630 : decode cL_law 630 = .ok (.iload_n 3, 1) := by decide +kernel
theorem dL_law_631 : decode cL_law 631 = .ok (.iconst 1, 1) := by decide +kernel
theorem dL_law_632 : decode cL_law 632 = .ok (.iadd, 1) := by decide +kernel
theorem dL_law_633 : decode cL_law 633 = .ok (.iaload, 1) := by decide +kernel
theorem dL_law_634 : decode cL_law 634 = .ok (.invokevirtual 88, 3) := by decide +kernel
theorem dL_law_637 : decode cL_law 637 = .ok (.aload_n 2, 1) := by decide +kernel
theorem dL_law_638 : decode cL_law 638 = .ok (.aload_n 0, 1) := by decide +kernel
theorem dL_law_639 : decode cL_law 639 = .ok (.iload_n 3, 1) := by decide +kernel
theorem dL_law_640 : decode cL_law 640 = .ok (.iconst 1, 1) := by decide +kernel
theorem dL_law_641 : decode cL_law 641 = .ok (.iadd, 1) := by decide +kernel
theorem dL_law_642 : decode cL_law 642 = .ok (.iaload, 1) := by decide +kernel
theorem dL_law_643 : decode cL_law 643 = .ok (.invokevirtual 91, 3) := by decide +kernel
theorem dL_law_646 : decode cL_law 646 = .ok (.if_icmp .eq 225, 3) := by decide +kernel
theorem dL_law_649 : decode cL_law 649 = .ok (.iconst 0, 1) := by decide +kernel
theorem dL_law_650 : decode cL_law 650 = .ok (.ireturn, 1) := by decide +kernel
theorem dL_law_651 : decode cL_law 651 = .ok (.aload_n 1, 1) := by decide +kernel
theorem dL_law_652 : decode cL_law 652 = .ok (.aload_n 0, 1) := by decide +kernel
theorem dL_law_653 : decode cL_law 653 = .ok (.iload_n 3, 1) := by decide +kernel
theorem dL_law_654 : decode cL_law 654 = .ok (.iconst 1, 1) := by decide +kernel
theorem dL_law_655 : decode cL_law 655 = .ok (.iadd, 1) := by decide +kernel
theorem dL_law_656 : decode cL_law 656 = .ok (.iaload, 1) := by decide +kernel
theorem dL_law_657 : decode cL_law 657 = .ok (.invokevirtual 92, 3) := by decide +kernel
theorem dL_law_660 : decode cL_law 660 = .ok (.aload_n 2, 1) := by decide +kernel
theorem dL_law_661 : decode cL_law 661 = .ok (.aload_n 0, 1) := by decide +kernel
theorem dL_law_662 : decode cL_law 662 = .ok (.iload_n 3, 1) := by decide +kernel
theorem dL_law_663 : decode cL_law 663 = .ok (.iconst 1, 1) := by decide +kernel
theorem dL_law_664 : decode cL_law 664 = .ok (.iadd, 1) := by decide +kernel
theorem dL_law_665 : decode cL_law 665 = .ok (.iaload, 1) := by decide +kernel
theorem dL_law_666 : decode cL_law 666 = .ok (.invokevirtual 95, 3) := by decide +kernel
theorem dL_law_669 : decode cL_law 669 = .ok (.if_icmp .eq 202, 3) := by decide +kernel
theorem dL_law_672 : decode cL_law 672 = .ok (.iconst 0, 1) := by decide +kernel
theorem dL_law_673 : decode cL_law 673 = .ok (.ireturn, 1) := by decide +kernel
theorem dL_law_674 : decode cL_law 674 = .ok (.aload_n 1, 1) := by decide +kernel
theorem dL_law_675 : decode cL_law 675 = .ok (.aload_n 0, 1) := by decide +kernel
theorem dL_law_676 : decode cL_law 676 = .ok (.iload_n 3, 1) := by decide +kernel
theorem dL_law_677 : decode cL_law 677 = .ok (.iconst 1, 1) := by decide +kernel
theorem dL_law_678 : decode cL_law 678 = .ok (.iadd, 1) := by decide +kernel
theorem dL_law_679 : decode cL_law 679 = .ok (.iaload, 1) := by decide +kernel
theorem dL_law_680 : decode cL_law 680 = .ok (.aload_n 0, 1) := by decide +kernel
theorem dL_law_681 : decode cL_law 681 = .ok (.iload_n 3, 1) := by decide +kernel
theorem dL_law_682 : decode cL_law 682 = .ok (.iconst 2, 1) := by decide +kernel
theorem dL_law_683 : decode cL_law 683 = .ok (.iadd, 1) := by decide +kernel
theorem dL_law_684 : decode cL_law 684 = .ok (.iaload, 1) := by decide +kernel
theorem dL_law_685 : decode cL_law 685 = .ok (.invokevirtual 96, 3) := by decide +kernel
theorem dL_law_688 : decode cL_law 688 = .ok (.aload_n 2, 1) := by decide +kernel
theorem dL_law_689 : decode cL_law 689 = .ok (.aload_n 0, 1) := by decide +kernel
theorem dL_law_690 : decode cL_law 690 = .ok (.iload_n 3, 1) := by decide +kernel
theorem dL_law_691 : decode cL_law 691 = .ok (.iconst 1, 1) := by decide +kernel
theorem dL_law_692 : decode cL_law 692 = .ok (.iadd, 1) := by decide +kernel
theorem dL_law_693 : decode cL_law 693 = .ok (.iaload, 1) := by decide +kernel
theorem dL_law_694 : decode cL_law 694 = .ok (.aload_n 0, 1) := by decide +kernel
theorem dL_law_695 : decode cL_law 695 = .ok (.iload_n 3, 1) := by decide +kernel
theorem dL_law_696 : decode cL_law 696 = .ok (.iconst 2, 1) := by decide +kernel
theorem dL_law_697 : decode cL_law 697 = .ok (.iadd, 1) := by decide +kernel
theorem dL_law_698 : decode cL_law 698 = .ok (.iaload, 1) := by decide +kernel
theorem dL_law_699 : decode cL_law 699 = .ok (.invokevirtual 99, 3) := by decide +kernel
theorem dL_law_702 : decode cL_law 702 = .ok (.if_icmp .eq 169, 3) := by decide +kernel
theorem dL_law_705 : decode cL_law 705 = .ok (.iconst 0, 1) := by decide +kernel
theorem dL_law_706 : decode cL_law 706 = .ok (.ireturn, 1) := by decide +kernel
theorem dL_law_707 : decode cL_law 707 = .ok (.aload_n 1, 1) := by decide +kernel
theorem dL_law_708 : decode cL_law 708 = .ok (.invokevirtual 100, 3) := by decide +kernel
theorem dL_law_711 : decode cL_law 711 = .ok (.aload_n 2, 1) := by decide +kernel
theorem dL_law_712 : decode cL_law 712 = .ok (.invokevirtual 103, 3) := by decide +kernel
theorem dL_law_715 : decode cL_law 715 = .ok (.if_icmp .eq 156, 3) := by decide +kernel
theorem dL_law_718 : decode cL_law 718 = .ok (.iconst 0, 1) := by decide +kernel
theorem dL_law_719 : decode cL_law 719 = .ok (.ireturn, 1) := by decide +kernel
theorem dL_law_720 : decode cL_law 720 = .ok (.aload_n 1, 1) := by decide +kernel
theorem dL_law_721 : decode cL_law 721 = .ok (.aload_n 0, 1) := by decide +kernel
theorem dL_law_722 : decode cL_law 722 = .ok (.iload_n 3, 1) := by decide +kernel
theorem dL_law_723 : decode cL_law 723 = .ok (.iconst 1, 1) := by decide +kernel
theorem dL_law_724 : decode cL_law 724 = .ok (.iadd, 1) := by decide +kernel
theorem dL_law_725 : decode cL_law 725 = .ok (.iaload, 1) := by decide +kernel
theorem dL_law_726 : decode cL_law 726 = .ok (.i2l, 1) := by decide +kernel
theorem dL_law_727 : decode cL_law 727 = .ok (.bipush 32, 2) := by decide +kernel
theorem dL_law_729 : decode cL_law 729 = .ok (.lshl, 1) := by decide +kernel
theorem dL_law_730 : decode cL_law 730 = .ok (.aload_n 0, 1) := by decide +kernel
theorem dL_law_731 : decode cL_law 731 = .ok (.iload_n 3, 1) := by decide +kernel
theorem dL_law_732 : decode cL_law 732 = .ok (.iconst 2, 1) := by decide +kernel
theorem dL_law_733 : decode cL_law 733 = .ok (.iadd, 1) := by decide +kernel
theorem dL_law_734 : decode cL_law 734 = .ok (.iaload, 1) := by decide +kernel
theorem dL_law_735 : decode cL_law 735 = .ok (.i2l, 1) := by decide +kernel
theorem dL_law_736 : decode cL_law 736 = .ok (.ldc2_w 104, 3) := by decide +kernel
theorem dL_law_739 : decode cL_law 739 = .ok (.land, 1) := by decide +kernel
theorem dL_law_740 : decode cL_law 740 = .ok (.lor, 1) := by decide +kernel
theorem dL_law_741 : decode cL_law 741 = .ok (.invokevirtual 106, 3) := by decide +kernel
theorem dL_law_744 : decode cL_law 744 = .ok (.aload_n 2, 1) := by decide +kernel
theorem dL_law_745 : decode cL_law 745 = .ok (.aload_n 0, 1) := by decide +kernel
theorem dL_law_746 : decode cL_law 746 = .ok (.iload_n 3, 1) := by decide +kernel
theorem dL_law_747 : decode cL_law 747 = .ok (.iconst 1, 1) := by decide +kernel
theorem dL_law_748 : decode cL_law 748 = .ok (.iadd, 1) := by decide +kernel
theorem dL_law_749 : decode cL_law 749 = .ok (.iaload, 1) := by decide +kernel
theorem dL_law_750 : decode cL_law 750 = .ok (.i2l, 1) := by decide +kernel
theorem dL_law_751 : decode cL_law 751 = .ok (.bipush 32, 2) := by decide +kernel
theorem dL_law_753 : decode cL_law 753 = .ok (.lshl, 1) := by decide +kernel
theorem dL_law_754 : decode cL_law 754 = .ok (.aload_n 0, 1) := by decide +kernel
theorem dL_law_755 : decode cL_law 755 = .ok (.iload_n 3, 1) := by decide +kernel
theorem dL_law_756 : decode cL_law 756 = .ok (.iconst 2, 1) := by decide +kernel
theorem dL_law_757 : decode cL_law 757 = .ok (.iadd, 1) := by decide +kernel
theorem dL_law_758 : decode cL_law 758 = .ok (.iaload, 1) := by decide +kernel
theorem dL_law_759 : decode cL_law 759 = .ok (.i2l, 1) := by decide +kernel
theorem dL_law_760 : decode cL_law 760 = .ok (.ldc2_w 104, 3) := by decide +kernel
theorem dL_law_763 : decode cL_law 763 = .ok (.land, 1) := by decide +kernel
theorem dL_law_764 : decode cL_law 764 = .ok (.lor, 1) := by decide +kernel
theorem dL_law_765 : decode cL_law 765 = .ok (.invokevirtual 110, 3) := by decide +kernel
theorem dL_law_768 : decode cL_law 768 = .ok (.if_icmp .eq 103, 3) := by decide +kernel
theorem dL_law_771 : decode cL_law 771 = .ok (.iconst 0, 1) := by decide +kernel
theorem dL_law_772 : decode cL_law 772 = .ok (.ireturn, 1) := by decide +kernel
theorem dL_law_773 : decode cL_law 773 = .ok (.aload_n 1, 1) := by decide +kernel
theorem dL_law_774 : decode cL_law 774 = .ok (.invokevirtual 111, 3) := by decide +kernel
theorem dL_law_777 : decode cL_law 777 = .ok (.aload_n 2, 1) := by decide +kernel
theorem dL_law_778 : decode cL_law 778 = .ok (.invokevirtual 114, 3) := by decide +kernel
theorem dL_law_781 : decode cL_law 781 = .ok (.if_icmp .eq 90, 3) := by decide +kernel
theorem dL_law_784 : decode cL_law 784 = .ok (.iconst 0, 1) := by decide +kernel
theorem dL_law_785 : decode cL_law 785 = .ok (.ireturn, 1) := by decide +kernel
theorem dL_law_786 : decode cL_law 786 = .ok (.aload_n 1, 1) := by decide +kernel
theorem dL_law_787 : decode cL_law 787 = .ok (.invokevirtual 115, 3) := by decide +kernel
theorem dL_law_790 : decode cL_law 790 = .ok (.aload_n 2, 1) := by decide +kernel
theorem dL_law_791 : decode cL_law 791 = .ok (.invokevirtual 118, 3) := by decide +kernel
theorem dL_law_794 : decode cL_law 794 = .ok (.if_icmp .eq 77, 3) := by decide +kernel
theorem dL_law_797 : decode cL_law 797 = .ok (.iconst 0, 1) := by decide +kernel
theorem dL_law_798 : decode cL_law 798 = .ok (.ireturn, 1) := by decide +kernel
theorem dL_law_799 : decode cL_law 799 = .ok (.aload_n 1, 1) := by decide +kernel
theorem dL_law_800 : decode cL_law 800 = .ok (.invokevirtual 119, 3) := by decide +kernel
theorem dL_law_803 : decode cL_law 803 = .ok (.aload_n 2, 1) := by decide +kernel
theorem dL_law_804 : decode cL_law 804 = .ok (.invokevirtual 122, 3) := by decide +kernel
theorem dL_law_807 : decode cL_law 807 = .ok (.if_icmp .eq 64, 3) := by decide +kernel
theorem dL_law_810 : decode cL_law 810 = .ok (.iconst 0, 1) := by decide +kernel
theorem dL_law_811 : decode cL_law 811 = .ok (.ireturn, 1) := by decide +kernel
theorem dL_law_812 : decode cL_law 812 = .ok (.aload_n 1, 1) := by decide +kernel
theorem dL_law_813 : decode cL_law 813 = .ok (.invokevirtual 123, 3) := by decide +kernel
theorem dL_law_816 : decode cL_law 816 = .ok (.aload_n 2, 1) := by decide +kernel
theorem dL_law_817 : decode cL_law 817 = .ok (.invokevirtual 126, 3) := by decide +kernel
theorem dL_law_820 : decode cL_law 820 = .ok (.if_icmp .eq 51, 3) := by decide +kernel
theorem dL_law_823 : decode cL_law 823 = .ok (.iconst 0, 1) := by decide +kernel
theorem dL_law_824 : decode cL_law 824 = .ok (.ireturn, 1) := by decide +kernel
theorem dL_law_825 : decode cL_law 825 = .ok (.aload_n 1, 1) := by decide +kernel
theorem dL_law_826 : decode cL_law 826 = .ok (.aload_n 0, 1) := by decide +kernel
theorem dL_law_827 : decode cL_law 827 = .ok (.iload_n 3, 1) := by decide +kernel
theorem dL_law_828 : decode cL_law 828 = .ok (.iconst 1, 1) := by decide +kernel
theorem dL_law_829 : decode cL_law 829 = .ok (.iadd, 1) := by decide +kernel
theorem dL_law_830 : decode cL_law 830 = .ok (.iaload, 1) := by decide +kernel
theorem dL_law_831 : decode cL_law 831 = .ok (.invokevirtual 127, 3) := by decide +kernel
theorem dL_law_834 : decode cL_law 834 = .ok (.aload_n 2, 1) := by decide +kernel
theorem dL_law_835 : decode cL_law 835 = .ok (.aload_n 0, 1) := by decide +kernel
theorem dL_law_836 : decode cL_law 836 = .ok (.iload_n 3, 1) := by decide +kernel
theorem dL_law_837 : decode cL_law 837 = .ok (.iconst 1, 1) := by decide +kernel
theorem dL_law_838 : decode cL_law 838 = .ok (.iadd, 1) := by decide +kernel
theorem dL_law_839 : decode cL_law 839 = .ok (.iaload, 1) := by decide +kernel
theorem dL_law_840 : decode cL_law 840 = .ok (.invokevirtual 130, 3) := by decide +kernel
theorem dL_law_843 : decode cL_law 843 = .ok (.if_icmp .eq 28, 3) := by decide +kernel
theorem dL_law_846 : decode cL_law 846 = .ok (.iconst 0, 1) := by decide +kernel
theorem dL_law_847 : decode cL_law 847 = .ok (.ireturn, 1) := by decide +kernel
theorem dL_law_848 : decode cL_law 848 = .ok (.aload_n 1, 1) := by decide +kernel
theorem dL_law_849 : decode cL_law 849 = .ok (.aload_n 0, 1) := by decide +kernel
theorem dL_law_850 : decode cL_law 850 = .ok (.iload_n 3, 1) := by decide +kernel
theorem dL_law_851 : decode cL_law 851 = .ok (.iconst 1, 1) := by decide +kernel
theorem dL_law_852 : decode cL_law 852 = .ok (.iadd, 1) := by decide +kernel
theorem dL_law_853 : decode cL_law 853 = .ok (.iaload, 1) := by decide +kernel
theorem dL_law_854 : decode cL_law 854 = .ok (.invokevirtual 131, 3) := by decide +kernel
theorem dL_law_857 : decode cL_law 857 = .ok (.aload_n 2, 1) := by decide +kernel
theorem dL_law_858 : decode cL_law 858 = .ok (.aload_n 0, 1) := by decide +kernel
theorem dL_law_859 : decode cL_law 859 = .ok (.iload_n 3, 1) := by decide +kernel
theorem dL_law_860 : decode cL_law 860 = .ok (.iconst 1, 1) := by decide +kernel
theorem dL_law_861 : decode cL_law 861 = .ok (.iadd, 1) := by decide +kernel
theorem dL_law_862 : decode cL_law 862 = .ok (.iaload, 1) := by decide +kernel
theorem dL_law_863 : decode cL_law 863 = .ok (.invokevirtual 134, 3) := by decide +kernel
theorem dL_law_866 : decode cL_law 866 = .ok (.if_icmp .eq 5, 3) := by decide +kernel
theorem dL_law_869 : decode cL_law 869 = .ok (.iconst 0, 1) := by decide +kernel
theorem dL_law_870 : decode cL_law 870 = .ok (.ireturn, 1) := by decide +kernel
theorem dL_law_871 : decode cL_law 871 = .ok (.iinc 3 3, 3) := by decide +kernel
theorem dL_law_874 : decode cL_law 874 = .ok (.goto (-856), 3) := by decide +kernel
theorem dL_law_877 : decode cL_law 877 = .ok (.iconst 1, 1) := by decide +kernel
theorem dL_law_878 : decode cL_law 878 = .ok (.ireturn, 1) := by decide +kernel
end
section
/-! ===== memory as a function of addresses; a method's run from a frame as a predicate (Rn), a method's contract (EvA) ===== -/
abbrev MK : Type := MethodName × ByteArray × Nat × Option FieldType
abbrev Cl : Type := (Nat × vp_A) ⊕ (Nat × List Value)
abbrev Mm : Type := Nat → Option Cl
/-- launch, the classes' numbers, the array classes' numbers, the first own address, the script's address and cell -/
abbrev GG : Type := Launch × va_G × (Nat → ClassId) × Nat × Nat × Cell
abbrev gD (G : GG) : va_G := G.2.1
abbrev gA (G : GG) : Nat → ClassId := G.2.2.1
abbrev gLo (G : GG) : Nat := G.2.2.2.1
abbrev gB (G : GG) : Nat := G.2.2.2.2.1
abbrev gS (G : GG) : Cell := G.2.2.2.2.2
def trc (dA : Nat → ClassId) (c : Cl) : va_E := match c with
  | .inl a => .inl (dA a.1, a.2)
  | .inr o => .inr o
abbrev vtys (dA : Nat → ClassId) : List (ClassId × FieldType) := [(dA 0, .int), (dA 1, .boolean), (dA 2, .object RX6), (dA 3, .object RX3), (dA 4, .object RX5), (dA 5, .object RX4)]
def MemA (G : GG) (μ : Mm) (H : Heap) : Prop := (H[gB G]? = some (gS G) ∧ gB G < gLo G) ∧ ∀ (a : Nat) (c : Cl), μ a = some c → va_at (gD G) classes (a, trc (gA G) c) H ∧ gLo G ≤ a
def KnA (G : GG) (U : State) : Prop := va_K (gD G) classes (vtys (gA G)) U ∧ (∀ q ∈ nestL, va_Nw (.methodLinkNest q.1 q.2.1 q.2.2.1 q.2.2.2) U) ∧ (va_AO RX6 U ∧ va_AO RX3 U ∧ va_AO RX5 U ∧ va_AO RX4 U) ∧ U.isArrayOf (gS G) .int ∧ (gS G).vm ≠ .unknown
def lvh (ls : Array Slot) (n : Nat) (L : List (Option Value)) : Prop := L.length = n ∧ ls.size = n ∧ lv_wf ls ∧ ∀ (i : Nat) (v : Value), L[i]? = some (some v) → ls[i]? = some (.val v)
def CtxA (G : GG) (d : Nat) (K : MK) (p : Program) (R : Room) (s : State) (m : MethodId) (args : Array Value) (meth : Method) (c : Code) : Prop :=
  (p.tables.exec = Jvm.exec ∧ c.code = K.2.1 ∧ c.maxLocals = K.2.2.1 ∧ s.vm.findClass K.1.cls = some m.cls ∧ ∀ w ∈ lwT, w.before args s = true) ∧ (meth.sig.returnType = K.2.2.2 ∧ meth.locks = false ∧ meth.name = K.1.name) ∧ KnA G s ∧ gLo G ≤ s.heap.size ∧ d ≤ R.frames ∧ 34 * d ≤ R.locals
def RetA (K : MK) (pc : Nat) (r : Option Value) : Prop := match r with
  | none => K.2.2.2 = none ∧ decode K.2.1 pc = .ok (.return_, 1)
  | some (.int v) => ∃ ty, K.2.2.2 = some ty ∧ narrow ty (.int v) = .int v ∧ decode K.2.1 pc = .ok (.ireturn, 1)
  | some .null => ∃ C, K.2.2.2 = some (.object C) ∧ decode K.2.1 pc = .ok (.areturn, 1)
  | some (.ref _) => ∃ C, K.2.2.2 = some (.object C) ∧ decode K.2.1 pc = .ok (.areturn, 1)
  | _ => False
abbrev own (G : GG) : Nat → Prop := fun q => gLo G ≤ q
def EndA (G : GG) (K : MK) (p : Program) (e : Env) (R : Room) (s : State) (m : MethodId) (args : Array Value) (below : List Frame) (meth : Method) (c : Code) (szF : Nat) (Q : Option Value → Mm → Prop) (Z : State → Prop) : Prop :=
  ∀ (r : Option Value) (μ' : Mm) (H' : Heap) (locs' : List Loc) (pc' : Nat) (ls' : Array Slot), Q r μ' → MemA G μ' H' → H'.size = szF → va_S (own G) s.heap H' locs' → RetA K pc' r → W p G.1 e R s m args below meth c H' locs' R.cells R.slots Z (F0 m pc' ls' r.toList)
def Rn (G : GG) (d : Nat) (K : MK) (pc : Nat) (L : List (Option Value)) (st : List Value) (μ : Mm) (sz mc ms : Nat) (Q : Option Value → Mm → Prop) : Prop :=
  ∀ (p : Program) (e : Env) (R : Room) (s : State) (m : MethodId) (args : Array Value) (below : List Frame) (meth : Method) (c : Code) (H : Heap) (locs : List Loc) (cells slots : Nat) (ls : Array Slot) (Z : State → Prop),
    CtxA G d K p R s m args meth c → lvh ls K.2.2.1 L → MemA G μ H → H.size = sz → va_S (own G) s.heap H locs → cells + mc ≤ R.cells → slots + ms ≤ R.slots → EndA G K p e R s m args below meth c (sz + mc) Q Z → W p G.1 e R s m args below meth c H locs cells slots Z (F0 m pc ls st)
def QcA (G : GG) (szF : Nat) (Q : Option Value → Mm → Prop) : Array Value → State → Outcome → State → Prop := fun _ st oc t => ∃ (r : Option Value) (μ' : Mm), oc = .returned r ∧ Q r μ' ∧ MemA G μ' t.heap ∧ t.heap.size = szF ∧ va_F (own G) st t
def PcA (G : GG) (av : List Value) (μ : Mm) (sz : Nat) : Array Value → State → Prop := va_Pc av (fun U => U.heap.size = sz ∧ MemA G μ U.heap ∧ KnA G U)
def EvA (G : GG) (d : Nat) (K : MK) (av : List Value) (μ : Mm) (sz mc ms : Nat) (Q : Option Value → Mm → Prop) : Prop :=
  gLo G ≤ sz → Met G.1 K.1 (.code K.1 K.2.1 K.2.2.1 K.2.2.2 :: lwT) ({ frames := d, cells := mc, slots := ms, locals := 34 * d }) (PcA G av μ sz) (QcA G (sz + mc) Q) mc ms (own G)
-- answers by their kinds
abbrev rI (Q : Int32 → Mm → Prop) : Option Value → Mm → Prop := fun r μ => ∃ v : Int32, r = some (.int v) ∧ Q v μ
abbrev rV (Q : Mm → Prop) : Option Value → Mm → Prop := fun r μ => r = none ∧ Q μ
abbrev rR (Q : Option Nat → Mm → Prop) : Option Value → Mm → Prop := fun r μ => ∃ o : Option Nat, r = some (va_rf o) ∧ Q o μ
-- memory
def mset (μ : Mm) (a : Nat) (c : Cl) : Mm := fun q => if q = a then some c else μ q
theorem mset_same {μ : Mm} {a : Nat} {c : Cl} : mset μ a c a = some c := if_pos rfl
theorem mset_ne {μ : Mm} {a b : Nat} {c : Cl} (h : b ≠ a) : mset μ a c b = μ b := if_neg h
theorem mset_mset {μ : Mm} {a : Nat} {c c' : Cl} : mset (mset μ a c) a c' = mset μ a c' := by
  funext q
  unfold mset
  by_cases h : q = a
  · rw [if_pos h, if_pos h]
  · rw [if_neg h, if_neg h, if_neg h]
theorem mset_id {μ : Mm} {a : Nat} {c : Cl} (h : μ a = some c) : mset μ a c = μ := by
  funext q
  unfold mset
  by_cases hq : q = a
  · rw [if_pos hq, hq, h]
  · rw [if_neg hq]
theorem MemA.set {G : GG} {μ : Mm} {H H1 : Heap} {a : Nat} {c0 c : Cl} (h : MemA G μ H) (h0 : μ a = some c0) (hc : va_at (gD G) classes (a, trc (gA G) c) H1) (oq : ∀ q : Nat, q ≠ a → H1[q]? = H[q]?) : MemA G (mset μ a c) H1 := by
  have hlo := (h.2 a c0 h0).2
  have hb := h.1.2
  refine ⟨⟨(oq _ (by omega)).trans h.1.1, hb⟩, fun q e hq => ?_⟩
  by_cases e1 : q = a
  · subst e1
    rw [mset_same] at hq
    cases hq
    exact ⟨hc, hlo⟩
  · rw [mset_ne e1] at hq
    obtain ⟨h1, h2⟩ := h.2 q e hq
    exact ⟨h1.kept (oq q e1), h2⟩
theorem MemA.push {G : GG} {μ : Mm} {H H1 : Heap} {c : Cl} (h : MemA G μ H) (hlo : gLo G ≤ H.size) (hc : va_at (gD G) classes (H.size, trc (gA G) c) H1) (oq : ∀ q : Nat, q < H.size → H1[q]? = H[q]?) : MemA G (mset μ H.size c) H1 := by
  have hb := h.1.2
  refine ⟨⟨(oq _ (by omega)).trans h.1.1, hb⟩, fun q e hq => ?_⟩
  by_cases e1 : q = H.size
  · subst e1
    rw [mset_same] at hq
    cases hq
    exact ⟨hc, hlo⟩
  · rw [mset_ne e1] at hq
    obtain ⟨h1, h2⟩ := h.2 q e hq
    exact ⟨h1.kept (oq q h1.lt), h2⟩
theorem MemA.lt {G : GG} {μ : Mm} {H : Heap} {a : Nat} {c : Cl} (h : MemA G μ H) (ha : μ a = some c) : a < H.size := (h.2 a c ha).1.lt
theorem KnA.alike {G : GG} {s U : State} (h : KnA G s) (hW : s.WarmedH U.vm) : KnA G U := by
  obtain ⟨h1, h2, ⟨h3, h4, h5, h6⟩, h7, h8⟩ := h
  exact ⟨va_K.moved hW.alike h1, fun q hq => va_Nw.warmM hW (h2 q hq), ⟨h3.moved hW.alike, h4.moved hW.alike, h5.moved hW.alike, h6.moved hW.alike⟩, State.isArrayOf_alike hW.alike h7, h8⟩
theorem KnA.same {G : GG} {s U : State} (h : KnA G s) (hv : s.vm = U.vm) : KnA G U := by
  obtain ⟨h1, h2, ⟨h3, h4, h5, h6⟩, h7, h8⟩ := h
  have hA : s.vm.Alike U.vm := by rw [hv]; exact Vm.Alike.refl U.vm
  exact ⟨va_K.moved hA h1, fun q hq => va_Nw.same rfl hv (h2 q hq), ⟨h3.moved hA, h4.moved hA, h5.moved hA, h6.moved hA⟩, State.isArrayOf_alike hA h7, h8⟩
theorem PcA.blind {G : GG} {av : List Value} {μ : Mm} {sz : Nat} : FrameBlind (PcA G av μ sz) := fun a U g mk ⟨h1, h2, h3, h4⟩ => ⟨h1, h2, h3, h4.same rfl⟩
theorem PcA.at {G : GG} {av : List Value} {μ : Mm} {sz : Nat} {s U : State} {H : Heap} (hK : KnA G s) (hM : MemA G μ H) (hz : H.size = sz) (hU : U.heap = H) (hW : s.WarmedH U.vm) : PcA G av μ sz av.toArray U := ⟨rfl, by rw [hU]; exact hz, by rw [hU]; exact hM, hK.alike hW⟩
-- locals
def entL : List Value → List (Option Value)
  | [] => []
  | v :: vs => if v.category = 2 then some v :: none :: entL vs else some v :: entL vs
def ent (av : List Value) (n : Nat) : List (Option Value) := entL av ++ List.replicate (n - (entL av).length) none
theorem entL_len (vs : List Value) : (entL vs).length = (lg_sl vs).length := by
  induction vs with
  | nil => rfl
  | cons v t ih =>
    by_cases h : v.category = 2 <;> simp [entL, lg_sl, h] at ih ⊢ <;> omega
theorem entL_args (vs : List Value) : ∀ (k i : Nat) (v : Value), (entL vs)[i]? = some (some v) → (k + i, v) ∈ lv_args k vs := by
  induction vs with
  | nil => intro k i v h; simp [entL] at h
  | cons w t ih =>
    intro k i v h
    by_cases hc : w.category = 2
    · simp only [entL, hc, if_true] at h
      simp only [lv_args, hc, if_true]
      match i, h with
      | 0, h => simp at h; subst h; exact List.mem_cons_self
      | 1, h => simp at h
      | i + 2, h =>
        have := ih (k + 2) i v (by simpa using h)
        exact List.mem_cons_of_mem _ (by rw [show k + (i + 2) = k + 2 + i by omega]; exact this)
    · simp only [entL, hc, if_false] at h
      simp only [lv_args, hc, if_false]
      match i, h with
      | 0, h => simp at h; subst h; exact List.mem_cons_self
      | i + 1, h =>
        have := ih (k + 1) i v (by simpa using h)
        exact List.mem_cons_of_mem _ (by rw [show k + (i + 1) = k + 1 + i by omega]; exact this)
theorem lvh.entry (vs : List Value) {n : Nat} (h : (lg_sl vs).length ≤ n) : lvh ((lg_sl vs ++ List.replicate (n - (lg_sl vs).length) Slot.unset).toArray) n (ent vs n) := by
  obtain ⟨h1, h2, h3⟩ := lv_entry vs h
  refine ⟨by unfold ent; rw [List.length_append, List.length_replicate, entL_len]; omega, h1, h2, fun i v hi => ?_⟩
  have hi2 : (entL vs)[i]? = some (some v) := by
    unfold ent at hi
    by_cases hl : i < (entL vs).length
    · rw [List.getElem?_append_left hl] at hi
      exact hi
    · rw [List.getElem?_append_right (by omega)] at hi
      have := List.mem_of_getElem? hi
      rw [List.mem_replicate] at this
      cases this.2
  have := entL_args vs 0 i v hi2
  rw [Nat.zero_add] at this
  exact h3 (i, v) this
def okst (L : List (Option Value)) (i : Nat) : Bool := match L[i - 1]? with
  | some (some w) => w.category == 1
  | _ => true
theorem lvh.store {ls : Array Slot} {n : Nat} {L : List (Option Value)} {i : Nat} {v : Value} (h : lvh ls n L) (hi : i < n) (hc : v.category = 1) (ho : okst L i = true) : ∃ ls', storeLocals ls i v = some ls' ∧ lvh ls' n (L.set i (some v)) := by
  obtain ⟨h1, h2, h3, h4⟩ := h
  have key : ∀ l : List (Nat × Value), lv_has ls n l → ∃ ls', storeLocals ls i v = some ls' ∧ lv_has ls' n ((i, v) :: l.filter (fun q => !(q.1 == i) && !(q.1 + 1 == i && q.2.category == 2))) := fun l hl => lv_store1 hl hi hc
  obtain ⟨ls', e1, h5, h6, h7⟩ := key [] ⟨h2, h3, fun q hq => absurd hq List.not_mem_nil⟩
  refine ⟨ls', e1, by rw [List.length_set]; exact h1, h5, h6, fun j w hj => ?_⟩
  by_cases hji : j = i
  · subst hji
    rw [List.getElem?_set_self (by omega)] at hj
    cases hj
    exact h7 (j, v) List.mem_cons_self
  · rw [List.getElem?_set_ne (Ne.symm hji)] at hj
    have hw := h4 j w hj
    obtain ⟨ls2, e2, -, -, h8⟩ := key [(j, w)] ⟨h2, h3, fun q hq => by rw [List.mem_singleton.mp hq]; exact hw⟩
    have e3 : ls' = ls2 := Option.some.inj (e1.symm.trans e2)
    subst e3
    refine h8 (j, w) (List.mem_cons_of_mem _ (List.mem_filter.mpr ⟨List.mem_singleton.mpr rfl, ?_⟩))
    simp only [Bool.and_eq_true, Bool.not_eq_true', beq_eq_false_iff_ne, ne_eq, Bool.and_eq_false_iff]
    refine ⟨hji, ?_⟩
    by_cases hj1 : j + 1 = i
    · right
      have e4 : i - 1 = j := by omega
      unfold okst at ho
      rw [e4, hj] at ho
      have : w.category = 1 := by simpa using ho
      omega
    · exact Or.inl hj1
def lmask : List Bool → List (Option Value) → List (Option Value)
  | b :: bs, o :: L => (if b then o else none) :: lmask bs L
  | _, L => L
theorem lmask_len : ∀ (bs : List Bool) (L : List (Option Value)), (lmask bs L).length = L.length
  | [], L => by simp [lmask]
  | _ :: _, [] => by simp [lmask]
  | b :: bs, o :: L => by simp [lmask, lmask_len bs L]
theorem lmask_get : ∀ (bs : List Bool) (L : List (Option Value)) (i : Nat) (v : Value), (lmask bs L)[i]? = some (some v) → L[i]? = some (some v)
  | [], L, i, v, h => by simpa [lmask] using h
  | _ :: _, [], i, v, h => by simp [lmask] at h
  | b :: bs, o :: L, i, v, h => by
    cases i with
    | zero =>
      cases b
      · simp [lmask] at h
      · simpa [lmask] using h
    | succ i =>
      have := lmask_get bs L i v (by simpa [lmask] using h)
      simpa using this
theorem lvh.mask {ls : Array Slot} {n : Nat} {L : List (Option Value)} (bs : List Bool) (h : lvh ls n L) : lvh ls n (lmask bs L) := ⟨by rw [lmask_len]; exact h.1, h.2.1, h.2.2.1, fun i v hi => h.2.2.2 i v (lmask_get bs L i v hi)⟩
/-! ===== from a run to a contract ===== -/
theorem EvA.of {G : GG} {d : Nat} {K : MK} {av : List Value} {μ : Mm} {sz mc ms : Nat} {Q : Option Value → Mm → Prop} (hp : plainName K.1.cls = true) (hn : (lg_sl av).length ≤ K.2.2.1) {L : List (Option Value)} (hL : ent av K.2.2.1 = L) (h : Rn G d K 0 L [] μ sz mc ms Q) : EvA G d K av μ sz mc ms Q := by
  intro hlo
  refine Met.ofW (cc := K.2.1) (maxL := K.2.2.1) (ret := K.2.2.2) hp rfl ?_
  intro p e s m args below meth c s₁ B hml hv
  obtain ⟨rfl, hsz, hM, hK⟩ := hv
  have hts0 := atoms_spec (ws := Cond.code K.1 K.2.1 K.2.2.1 K.2.2.2 :: lwT) B.pre
  have hl := lvh.entry av hn
  rw [hL] at hl
  rw [lg_entry_eq]
  refine h p e _ s m _ below meth c s.heap [] 0 0 _ _ ⟨⟨B.exec, B.bytes, hml, findClass_of_methodNamed B.named, fun w hw => hts0 w (List.mem_cons_of_mem _ hw)⟩, ⟨B.returns, B.notSynchronized, (name_of_methodNamed B.named B.method).1⟩, hK, by omega, Nat.le_refl _, Nat.le_refl _⟩ hl hM hsz va_S.rf (Nat.le_of_eq (Nat.zero_add _)) (Nat.le_of_eq (Nat.zero_add _)) ?_
  intro r μ' H' locs' pc' ls' hQ hM' hz' hS' hR
  have hlocks := B.notSynchronized
  have hq : ∀ t : State, t.heap = H' → s.WarmedH t.vm → QcA G (sz + mc) Q av.toArray s (.returned r) t := fun t ht _ => ⟨r, μ', rfl, hQ, by rw [ht]; exact hM', by rw [ht]; exact hz', hS'.F ht⟩
  match r, hQ, hR, hq with
  | none, hQ, hR, hq => exact W.vret B.exec B.bytes (B.returns.trans hR.1) hq hS'.2.2 hR.2 hlocks
  | some (.int v), hQ, hR, hq =>
    obtain ⟨ty, r1, r2, r3⟩ := hR
    exact W.zret B.exec B.bytes (B.returns.trans r1) r2 hq hS'.2.2 r3 hlocks
  | some .null, hQ, hR, hq =>
    obtain ⟨C, r1, r3⟩ := hR
    exact W.aret B.exec B.bytes (B.returns.trans r1) (Or.inl ⟨_, rfl⟩) (Or.inl rfl) hq hS'.2.2 r3 hlocks
  | some (.ref a), hQ, hR, hq =>
    obtain ⟨C, r1, r3⟩ := hR
    exact W.aret B.exec B.bytes (B.returns.trans r1) (Or.inl ⟨_, rfl⟩) (Or.inr ⟨a, rfl⟩) hq hS'.2.2 r3 hlocks
theorem EvA.imp {G : GG} {d : Nat} {K : MK} {av : List Value} {μ : Mm} {sz mc ms : Nat} {Q Q' : Option Value → Mm → Prop} (h : EvA G d K av μ sz mc ms Q) (hQ : ∀ r μ', Q r μ' → Q' r μ') : EvA G d K av μ sz mc ms Q' := by
  intro hlo p e ha hc hk s m args below hf hpre hP hk2
  obtain ⟨k, o, h1, h2, h3, ⟨r, μ', q1, q2, q3⟩, q4⟩ := h hlo p e ha hc hk s m args below hf hpre hP hk2
  exact ⟨k, o, h1, h2, h3, ⟨r, μ', q1, hQ _ _ q2, q3⟩, q4⟩
end
section
theorem lwG {w : Cond} (hw : w ∈ lwT) : GoodIn lwT (w :: lwT) := fun z hz => (List.mem_cons.mp hz).elim (fun e => e ▸ lwT_good w hw) (lwT_good z)
section RULES
variable {G : GG} {d : Nat} {K : MK} {pc : Nat} {L : List (Option Value)} {st : List Value} {μ : Mm} {sz mc ms : Nat} {Q : Option Value → Mm → Prop}
theorem Rn.iconst {pc1 : Nat} {n : Int} {v : Int32} (hd : decode K.2.1 pc = .ok (.iconst n, 1)) (hp : pc + 1 = pc1) (hv : Int32.ofInt n = v) (h : Rn G d K pc1 L (.int v :: st) μ sz mc ms Q) : Rn G d K (pc) L (st) μ sz mc ms Q := by
  subst hp
  intro p e R s m args below meth c H locs cells slots ls Z C hl hM hz hS hc hs hE
  exact lv_iconst C.1.1 C.1.2.1 hd hv (h p e R s m args below meth c H locs cells slots ls Z C hl hM hz hS hc hs hE)
theorem Rn.bipush {pc1 : Nat} {n : Int} {v : Int32} (hd : decode K.2.1 pc = .ok (.bipush n, 2)) (hp : pc + 2 = pc1) (hv : (Int8.ofInt n).toInt32 = v) (h : Rn G d K pc1 L (.int v :: st) μ sz mc ms Q) : Rn G d K (pc) L (st) μ sz mc ms Q := by
  subst hp
  intro p e R s m args below meth c H locs cells slots ls Z C hl hM hz hS hc hs hE
  exact lv_bipush C.1.1 C.1.2.1 hd hv (h p e R s m args below meth c H locs cells slots ls Z C hl hM hz hS hc hs hE)
theorem Rn.sipush {pc1 : Nat} {n : Int} {v : Int32} (hd : decode K.2.1 pc = .ok (.sipush n, 3)) (hp : pc + 3 = pc1) (hv : (Int16.ofInt n).toInt32 = v) (h : Rn G d K pc1 L (.int v :: st) μ sz mc ms Q) : Rn G d K (pc) L (st) μ sz mc ms Q := by
  subst hp
  intro p e R s m args below meth c H locs cells slots ls Z C hl hM hz hS hc hs hE
  exact lv_sipush C.1.1 C.1.2.1 hd hv (h p e R s m args below meth c H locs cells slots ls Z C hl hM hz hS hc hs hE)
theorem Rn.null {pc1 : Nat}  (hd : decode K.2.1 pc = .ok (.aconst_null, 1)) (hp : pc + 1 = pc1)  (h : Rn G d K pc1 L (.null :: st) μ sz mc ms Q) : Rn G d K (pc) L (st) μ sz mc ms Q := by
  subst hp
  intro p e R s m args below meth c H locs cells slots ls Z C hl hM hz hS hc hs hE
  exact lv_null C.1.1 C.1.2.1 hd  (h p e R s m args below meth c H locs cells slots ls Z C hl hM hz hS hc hs hE)
theorem Rn.iload_n {pc1 : Nat} {k : Fin 4} {i : Nat} {x : Int32} (hd : decode K.2.1 pc = .ok (.iload_n k, 1)) (hp : pc + 1 = pc1) (hi : (k : Nat) = i) (hL : L[i]? = some (some (.int x))) (h : Rn G d K pc1 L (.int x :: st) μ sz mc ms Q) : Rn G d K (pc) L (st) μ sz mc ms Q := by
  subst hp
  intro p e R s m args below meth c H locs cells slots ls Z C hl hM hz hS hc hs hE
  exact lv_iload_n C.1.1 C.1.2.1 hd hi (hl.2.2.2 _ _ hL) (h p e R s m args below meth c H locs cells slots ls Z C hl hM hz hS hc hs hE)
theorem Rn.iload {pc1 : Nat} {i : Nat} {x : Int32} (hd : decode K.2.1 pc = .ok (.iload i, 2)) (hp : pc + 2 = pc1) (hL : L[i]? = some (some (.int x))) (h : Rn G d K pc1 L (.int x :: st) μ sz mc ms Q) : Rn G d K (pc) L (st) μ sz mc ms Q := by
  subst hp
  intro p e R s m args below meth c H locs cells slots ls Z C hl hM hz hS hc hs hE
  exact lv_iload C.1.1 C.1.2.1 hd (hl.2.2.2 _ _ hL) (h p e R s m args below meth c H locs cells slots ls Z C hl hM hz hS hc hs hE)
theorem Rn.aload_n {pc1 : Nat} {k : Fin 4} {i : Nat} {x : Nat} (hd : decode K.2.1 pc = .ok (.aload_n k, 1)) (hp : pc + 1 = pc1) (hi : (k : Nat) = i) (hL : L[i]? = some (some (.ref x))) (h : Rn G d K pc1 L (.ref x :: st) μ sz mc ms Q) : Rn G d K (pc) L (st) μ sz mc ms Q := by
  subst hp
  intro p e R s m args below meth c H locs cells slots ls Z C hl hM hz hS hc hs hE
  exact lv_aload_n C.1.1 C.1.2.1 hd hi (hl.2.2.2 _ _ hL) (h p e R s m args below meth c H locs cells slots ls Z C hl hM hz hS hc hs hE)
theorem Rn.aload {pc1 : Nat} {i : Nat} {x : Nat} (hd : decode K.2.1 pc = .ok (.aload i, 2)) (hp : pc + 2 = pc1) (hL : L[i]? = some (some (.ref x))) (h : Rn G d K pc1 L (.ref x :: st) μ sz mc ms Q) : Rn G d K (pc) L (st) μ sz mc ms Q := by
  subst hp
  intro p e R s m args below meth c H locs cells slots ls Z C hl hM hz hS hc hs hE
  exact lv_aload C.1.1 C.1.2.1 hd (hl.2.2.2 _ _ hL) (h p e R s m args below meth c H locs cells slots ls Z C hl hM hz hS hc hs hE)
theorem Rn.lload_n {pc1 : Nat} {k : Fin 4} {i : Nat} {x : Int64} (hd : decode K.2.1 pc = .ok (.lload_n k, 1)) (hp : pc + 1 = pc1) (hi : (k : Nat) = i) (hL : L[i]? = some (some (.long x))) (h : Rn G d K pc1 L (.long x :: st) μ sz mc ms Q) : Rn G d K (pc) L (st) μ sz mc ms Q := by
  subst hp
  intro p e R s m args below meth c H locs cells slots ls Z C hl hM hz hS hc hs hE
  exact lv_lload_n C.1.1 C.1.2.1 hd hi (hl.2.2.2 _ _ hL) (h p e R s m args below meth c H locs cells slots ls Z C hl hM hz hS hc hs hE)
theorem Rn.lload {pc1 : Nat} {i : Nat} {x : Int64} (hd : decode K.2.1 pc = .ok (.lload i, 2)) (hp : pc + 2 = pc1) (hL : L[i]? = some (some (.long x))) (h : Rn G d K pc1 L (.long x :: st) μ sz mc ms Q) : Rn G d K (pc) L (st) μ sz mc ms Q := by
  subst hp
  intro p e R s m args below meth c H locs cells slots ls Z C hl hM hz hS hc hs hE
  exact lv_lload C.1.1 C.1.2.1 hd (hl.2.2.2 _ _ hL) (h p e R s m args below meth c H locs cells slots ls Z C hl hM hz hS hc hs hE)
theorem Rn.aload_nN {pc1 : Nat} {k : Fin 4} {i : Nat} (hd : decode K.2.1 pc = .ok (.aload_n k, 1)) (hp : pc + 1 = pc1) (hi : (k : Nat) = i) (hL : L[i]? = some (some .null)) (h : Rn G d K pc1 L (.null :: st) μ sz mc ms Q) : Rn G d K (pc) L (st) μ sz mc ms Q := by
  subst hp
  intro p e R s m args below meth c H locs cells slots ls Z C hl hM hz hS hc hs hE
  exact lv_aload_nN C.1.1 C.1.2.1 hd hi (hl.2.2.2 _ _ hL) (h p e R s m args below meth c H locs cells slots ls Z C hl hM hz hS hc hs hE)
theorem Rn.aloadN {pc1 : Nat} {i : Nat} (hd : decode K.2.1 pc = .ok (.aload i, 2)) (hp : pc + 2 = pc1) (hL : L[i]? = some (some .null)) (h : Rn G d K pc1 L (.null :: st) μ sz mc ms Q) : Rn G d K (pc) L (st) μ sz mc ms Q := by
  subst hp
  intro p e R s m args below meth c H locs cells slots ls Z C hl hM hz hS hc hs hE
  exact lv_aloadN C.1.1 C.1.2.1 hd (hl.2.2.2 _ _ hL) (h p e R s m args below meth c H locs cells slots ls Z C hl hM hz hS hc hs hE)
theorem Rn.aload_nq {pc1 : Nat} {k : Fin 4} {i : Nat} {x : Option Nat} (hd : decode K.2.1 pc = .ok (.aload_n k, 1)) (hp : pc + 1 = pc1) (hi : (k : Nat) = i) (hL : L[i]? = some (some (va_rf x))) (h : Rn G d K pc1 L (va_rf x :: st) μ sz mc ms Q) : Rn G d K (pc) L (st) μ sz mc ms Q := by
  subst hp
  cases x with
  | none => exact Rn.aload_nN hd rfl hi hL h
  | some a => exact Rn.aload_n hd rfl hi hL h
theorem Rn.istore_n {pc1 : Nat} {k : Fin 4} {i : Nat} {x : Int32} {L' : List (Option Value)} (hd : decode K.2.1 pc = .ok (.istore_n k, 1)) (hp : pc + 1 = pc1) (hi : (k : Nat) = i) (hn : i < K.2.2.1) (ho : okst L i = true) (hL : L.set i (some (.int x)) = L') (h : Rn G d K pc1 L' (st) μ sz mc ms Q) : Rn G d K (pc) L (.int x :: st) μ sz mc ms Q := by
  subst hp
  subst hi
  intro p e R s m args below meth c H locs cells slots ls Z C hl hM hz hS hc hs hE
  obtain ⟨ls', e', h'⟩ := hl.store (v := (.int x)) hn rfl ho
  intro T hT X
  rw [hL] at h'
  obtain ⟨t, a, b⟩ := h p e R s m args below meth c H locs cells slots ls' Z C h' hM hz hS hc hs hE T hT X
  have hexec := C.1.1
  have hb := C.1.2.1
  refine ⟨t, ?_, b⟩
  jvm_step X.here [X.here.top, ↓top_set X.here.top, hexec, hb, hd, e']
  exact a
theorem Rn.istore {pc1 : Nat} {i : Nat} {x : Int32} {L' : List (Option Value)} (hd : decode K.2.1 pc = .ok (.istore i, 2)) (hp : pc + 2 = pc1) (hn : i < K.2.2.1) (ho : okst L i = true) (hL : L.set i (some (.int x)) = L') (h : Rn G d K pc1 L' (st) μ sz mc ms Q) : Rn G d K (pc) L (.int x :: st) μ sz mc ms Q := by
  subst hp
  intro p e R s m args below meth c H locs cells slots ls Z C hl hM hz hS hc hs hE
  obtain ⟨ls', e', h'⟩ := hl.store (v := (.int x)) hn rfl ho
  intro T hT X
  rw [hL] at h'
  obtain ⟨t, a, b⟩ := h p e R s m args below meth c H locs cells slots ls' Z C h' hM hz hS hc hs hE T hT X
  have hexec := C.1.1
  have hb := C.1.2.1
  refine ⟨t, ?_, b⟩
  jvm_step X.here [X.here.top, ↓top_set X.here.top, hexec, hb, hd, e']
  exact a
theorem Rn.astore_n {pc1 : Nat} {k : Fin 4} {i : Nat} {x : Nat} {L' : List (Option Value)} (hd : decode K.2.1 pc = .ok (.astore_n k, 1)) (hp : pc + 1 = pc1) (hi : (k : Nat) = i) (hn : i < K.2.2.1) (ho : okst L i = true) (hL : L.set i (some (.ref x)) = L') (h : Rn G d K pc1 L' (st) μ sz mc ms Q) : Rn G d K (pc) L (.ref x :: st) μ sz mc ms Q := by
  subst hp
  subst hi
  intro p e R s m args below meth c H locs cells slots ls Z C hl hM hz hS hc hs hE
  obtain ⟨ls', e', h'⟩ := hl.store (v := (.ref x)) hn rfl ho
  intro T hT X
  rw [hL] at h'
  obtain ⟨t, a, b⟩ := h p e R s m args below meth c H locs cells slots ls' Z C h' hM hz hS hc hs hE T hT X
  have hexec := C.1.1
  have hb := C.1.2.1
  refine ⟨t, ?_, b⟩
  jvm_step X.here [X.here.top, ↓top_set X.here.top, hexec, hb, hd, e', Value.isRef]
  exact a
theorem Rn.astore {pc1 : Nat} {i : Nat} {x : Nat} {L' : List (Option Value)} (hd : decode K.2.1 pc = .ok (.astore i, 2)) (hp : pc + 2 = pc1) (hn : i < K.2.2.1) (ho : okst L i = true) (hL : L.set i (some (.ref x)) = L') (h : Rn G d K pc1 L' (st) μ sz mc ms Q) : Rn G d K (pc) L (.ref x :: st) μ sz mc ms Q := by
  subst hp
  intro p e R s m args below meth c H locs cells slots ls Z C hl hM hz hS hc hs hE
  obtain ⟨ls', e', h'⟩ := hl.store (v := (.ref x)) hn rfl ho
  intro T hT X
  rw [hL] at h'
  obtain ⟨t, a, b⟩ := h p e R s m args below meth c H locs cells slots ls' Z C h' hM hz hS hc hs hE T hT X
  have hexec := C.1.1
  have hb := C.1.2.1
  refine ⟨t, ?_, b⟩
  jvm_step X.here [X.here.top, ↓top_set X.here.top, hexec, hb, hd, e', Value.isRef]
  exact a
theorem Rn.astore_nN {pc1 : Nat} {k : Fin 4} {i : Nat} {L' : List (Option Value)} (hd : decode K.2.1 pc = .ok (.astore_n k, 1)) (hp : pc + 1 = pc1) (hi : (k : Nat) = i) (hn : i < K.2.2.1) (ho : okst L i = true) (hL : L.set i (some (.null)) = L') (h : Rn G d K pc1 L' (st) μ sz mc ms Q) : Rn G d K (pc) L (.null :: st) μ sz mc ms Q := by
  subst hp
  subst hi
  intro p e R s m args below meth c H locs cells slots ls Z C hl hM hz hS hc hs hE
  obtain ⟨ls', e', h'⟩ := hl.store (v := (.null)) hn rfl ho
  intro T hT X
  rw [hL] at h'
  obtain ⟨t, a, b⟩ := h p e R s m args below meth c H locs cells slots ls' Z C h' hM hz hS hc hs hE T hT X
  have hexec := C.1.1
  have hb := C.1.2.1
  refine ⟨t, ?_, b⟩
  jvm_step X.here [X.here.top, ↓top_set X.here.top, hexec, hb, hd, e', Value.isRef]
  exact a
theorem Rn.astoreN {pc1 : Nat} {i : Nat} {L' : List (Option Value)} (hd : decode K.2.1 pc = .ok (.astore i, 2)) (hp : pc + 2 = pc1) (hn : i < K.2.2.1) (ho : okst L i = true) (hL : L.set i (some (.null)) = L') (h : Rn G d K pc1 L' (st) μ sz mc ms Q) : Rn G d K (pc) L (.null :: st) μ sz mc ms Q := by
  subst hp
  intro p e R s m args below meth c H locs cells slots ls Z C hl hM hz hS hc hs hE
  obtain ⟨ls', e', h'⟩ := hl.store (v := (.null)) hn rfl ho
  intro T hT X
  rw [hL] at h'
  obtain ⟨t, a, b⟩ := h p e R s m args below meth c H locs cells slots ls' Z C h' hM hz hS hc hs hE T hT X
  have hexec := C.1.1
  have hb := C.1.2.1
  refine ⟨t, ?_, b⟩
  jvm_step X.here [X.here.top, ↓top_set X.here.top, hexec, hb, hd, e', Value.isRef]
  exact a
theorem Rn.astore_nq {pc1 : Nat} {k : Fin 4} {i : Nat} {x : Option Nat} {L' : List (Option Value)} (hd : decode K.2.1 pc = .ok (.astore_n k, 1)) (hp : pc + 1 = pc1) (hi : (k : Nat) = i) (hn : i < K.2.2.1) (ho : okst L i = true) (hL : L.set i (some (va_rf x)) = L') (h : Rn G d K pc1 L' (st) μ sz mc ms Q) : Rn G d K (pc) L (va_rf x :: st) μ sz mc ms Q := by
  subst hp
  cases x with
  | none => exact Rn.astore_nN hd rfl hi hn ho hL h
  | some a => exact Rn.astore_n hd rfl hi hn ho hL h
theorem Rn.iinc {pc1 : Nat} {i : Nat} {n : Int} {x v : Int32} {L' : List (Option Value)} (hd : decode K.2.1 pc = .ok (.iinc i n, 3)) (hp : pc + 3 = pc1) (hx : L[i]? = some (some (.int x))) (hv : x + Int32.ofInt n = v) (hn : i < K.2.2.1) (ho : okst L i = true) (hL : L.set i (some (.int v)) = L') (h : Rn G d K pc1 L' (st) μ sz mc ms Q) : Rn G d K (pc) L (st) μ sz mc ms Q := by
  subst hp
  subst hv
  intro p e R s m args below meth c H locs cells slots ls Z C hl hM hz hS hc hs hE
  have hg := hl.2.2.2 _ _ hx
  obtain ⟨ls', e', h'⟩ := hl.store (v := (.int (x + Int32.ofInt n))) hn rfl ho
  intro T hT X
  rw [hL] at h'
  obtain ⟨t, a, b⟩ := h p e R s m args below meth c H locs cells slots ls' Z C h' hM hz hS hc hs hE T hT X
  have hexec := C.1.1
  have hb := C.1.2.1
  refine ⟨t, ?_, b⟩
  jvm_step X.here [X.here.top, ↓top_set X.here.top, hexec, hb, hd, hg, e']
  exact a
theorem Rn.iadd {pc1 : Nat} {x y v : Int32} (hd : decode K.2.1 pc = .ok (.iadd, 1)) (hp : pc + 1 = pc1) (hv : x + y = v) (h : Rn G d K pc1 L (.int v :: st) μ sz mc ms Q) : Rn G d K (pc) L (.int y :: .int x :: st) μ sz mc ms Q := by
  subst hp
  subst hv
  intro p e R s m args below meth c H locs cells slots ls Z C hl hM hz hS hc hs hE
  exact lv_iadd C.1.1 C.1.2.1 hd (h p e R s m args below meth c H locs cells slots ls Z C hl hM hz hS hc hs hE)
theorem Rn.isub {pc1 : Nat} {x y v : Int32} (hd : decode K.2.1 pc = .ok (.isub, 1)) (hp : pc + 1 = pc1) (hv : x - y = v) (h : Rn G d K pc1 L (.int v :: st) μ sz mc ms Q) : Rn G d K (pc) L (.int y :: .int x :: st) μ sz mc ms Q := by
  subst hp
  subst hv
  intro p e R s m args below meth c H locs cells slots ls Z C hl hM hz hS hc hs hE
  exact lv_isub C.1.1 C.1.2.1 hd (h p e R s m args below meth c H locs cells slots ls Z C hl hM hz hS hc hs hE)
theorem Rn.imul {pc1 : Nat} {x y v : Int32} (hd : decode K.2.1 pc = .ok (.imul, 1)) (hp : pc + 1 = pc1) (hv : x * y = v) (h : Rn G d K pc1 L (.int v :: st) μ sz mc ms Q) : Rn G d K (pc) L (.int y :: .int x :: st) μ sz mc ms Q := by
  subst hp
  subst hv
  intro p e R s m args below meth c H locs cells slots ls Z C hl hM hz hS hc hs hE
  exact lv_imul C.1.1 C.1.2.1 hd (h p e R s m args below meth c H locs cells slots ls Z C hl hM hz hS hc hs hE)
theorem Rn.ior {pc1 : Nat} {x y v : Int32} (hd : decode K.2.1 pc = .ok (.ior, 1)) (hp : pc + 1 = pc1) (hv : (x ||| y) = v) (h : Rn G d K pc1 L (.int v :: st) μ sz mc ms Q) : Rn G d K (pc) L (.int y :: .int x :: st) μ sz mc ms Q := by
  subst hp
  subst hv
  intro p e R s m args below meth c H locs cells slots ls Z C hl hM hz hS hc hs hE
  exact lv_ior C.1.1 C.1.2.1 hd (h p e R s m args below meth c H locs cells slots ls Z C hl hM hz hS hc hs hE)
theorem Rn.iand {pc1 : Nat} {x y v : Int32} (hd : decode K.2.1 pc = .ok (.iand, 1)) (hp : pc + 1 = pc1) (hv : (x &&& y) = v) (h : Rn G d K pc1 L (.int v :: st) μ sz mc ms Q) : Rn G d K (pc) L (.int y :: .int x :: st) μ sz mc ms Q := by
  subst hp
  subst hv
  intro p e R s m args below meth c H locs cells slots ls Z C hl hM hz hS hc hs hE
  exact lv_iand C.1.1 C.1.2.1 hd (h p e R s m args below meth c H locs cells slots ls Z C hl hM hz hS hc hs hE)
theorem Rn.ishl {pc1 : Nat} {x y v : Int32} (hd : decode K.2.1 pc = .ok (.ishl, 1)) (hp : pc + 1 = pc1) (hv : x <<< (y &&& 31) = v) (h : Rn G d K pc1 L (.int v :: st) μ sz mc ms Q) : Rn G d K (pc) L (.int y :: .int x :: st) μ sz mc ms Q := by
  subst hp
  subst hv
  intro p e R s m args below meth c H locs cells slots ls Z C hl hM hz hS hc hs hE
  exact lv_ishl C.1.1 C.1.2.1 hd (h p e R s m args below meth c H locs cells slots ls Z C hl hM hz hS hc hs hE)
theorem Rn.idiv {pc1 : Nat} {x y v : Int32} (hd : decode K.2.1 pc = .ok (.idiv, 1)) (hp : pc + 1 = pc1) (hne : ¬ y = 0) (hv : x / y = v) (h : Rn G d K pc1 L (.int v :: st) μ sz mc ms Q) : Rn G d K (pc) L (.int y :: .int x :: st) μ sz mc ms Q := by
  subst hp
  subst hv
  intro p e R s m args below meth c H locs cells slots ls Z C hl hM hz hS hc hs hE
  exact lv_idiv C.1.1 C.1.2.1 hd hne (h p e R s m args below meth c H locs cells slots ls Z C hl hM hz hS hc hs hE)
theorem Rn.i2l {pc1 : Nat} {x : Int32} {v : Int64} (hd : decode K.2.1 pc = .ok (.i2l, 1)) (hp : pc + 1 = pc1) (hv : x.toInt64 = v) (h : Rn G d K pc1 L (.long v :: st) μ sz mc ms Q) : Rn G d K (pc) L (.int x :: st) μ sz mc ms Q := by
  subst hp
  intro p e R s m args below meth c H locs cells slots ls Z C hl hM hz hS hc hs hE
  exact lv_i2l C.1.1 C.1.2.1 hd hv (h p e R s m args below meth c H locs cells slots ls Z C hl hM hz hS hc hs hE)
theorem Rn.l2i {pc1 : Nat} {x : Int64} {v : Int32} (hd : decode K.2.1 pc = .ok (.l2i, 1)) (hp : pc + 1 = pc1) (hv : x.toInt32 = v) (h : Rn G d K pc1 L (.int v :: st) μ sz mc ms Q) : Rn G d K (pc) L (.long x :: st) μ sz mc ms Q := by
  subst hp
  intro p e R s m args below meth c H locs cells slots ls Z C hl hM hz hS hc hs hE
  exact lv_l2i C.1.1 C.1.2.1 hd hv (h p e R s m args below meth c H locs cells slots ls Z C hl hM hz hS hc hs hE)
theorem Rn.lushr {pc1 : Nat} {x : Int64} {y : Int32} {v : Int64} (hd : decode K.2.1 pc = .ok (.lushr, 1)) (hp : pc + 1 = pc1) (hv : (x.toUInt64 >>> (y.toInt64.toUInt64 &&& Int64.toUInt64 63)).toInt64 = v) (h : Rn G d K pc1 L (.long v :: st) μ sz mc ms Q) : Rn G d K (pc) L (.int y :: .long x :: st) μ sz mc ms Q := by
  subst hp
  intro p e R s m args below meth c H locs cells slots ls Z C hl hM hz hS hc hs hE
  exact lv_lushr C.1.1 C.1.2.1 hd hv (h p e R s m args below meth c H locs cells slots ls Z C hl hM hz hS hc hs hE)
theorem Rn.lshl {pc1 : Nat} {x : Int64} {y : Int32} {v : Int64} (hd : decode K.2.1 pc = .ok (.lshl, 1)) (hp : pc + 1 = pc1) (hv : x <<< (y.toInt64 &&& 63) = v) (h : Rn G d K pc1 L (.long v :: st) μ sz mc ms Q) : Rn G d K (pc) L (.int y :: .long x :: st) μ sz mc ms Q := by
  subst hp
  intro p e R s m args below meth c H locs cells slots ls Z C hl hM hz hS hc hs hE
  exact lv_lshl C.1.1 C.1.2.1 hd hv (h p e R s m args below meth c H locs cells slots ls Z C hl hM hz hS hc hs hE)
theorem Rn.lshr {pc1 : Nat} {x : Int64} {y : Int32} {v : Int64} (hd : decode K.2.1 pc = .ok (.lshr, 1)) (hp : pc + 1 = pc1) (hv : x >>> (y.toInt64 &&& 63) = v) (h : Rn G d K pc1 L (.long v :: st) μ sz mc ms Q) : Rn G d K (pc) L (.int y :: .long x :: st) μ sz mc ms Q := by
  subst hp
  intro p e R s m args below meth c H locs cells slots ls Z C hl hM hz hS hc hs hE
  exact lv_lshr C.1.1 C.1.2.1 hd hv (h p e R s m args below meth c H locs cells slots ls Z C hl hM hz hS hc hs hE)
theorem Rn.land {pc1 : Nat} {x y v : Int64} (hd : decode K.2.1 pc = .ok (.land, 1)) (hp : pc + 1 = pc1) (hv : (x &&& y) = v) (h : Rn G d K pc1 L (.long v :: st) μ sz mc ms Q) : Rn G d K (pc) L (.long y :: .long x :: st) μ sz mc ms Q := by
  subst hp
  subst hv
  intro p e R s m args below meth c H locs cells slots ls Z C hl hM hz hS hc hs hE
  exact lv_land C.1.1 C.1.2.1 hd (h p e R s m args below meth c H locs cells slots ls Z C hl hM hz hS hc hs hE)
theorem Rn.lor {pc1 : Nat} {x y v : Int64} (hd : decode K.2.1 pc = .ok (.lor, 1)) (hp : pc + 1 = pc1) (hv : (x ||| y) = v) (h : Rn G d K pc1 L (.long v :: st) μ sz mc ms Q) : Rn G d K (pc) L (.long y :: .long x :: st) μ sz mc ms Q := by
  subst hp
  subst hv
  intro p e R s m args below meth c H locs cells slots ls Z C hl hM hz hS hc hs hE
  exact lv_lor C.1.1 C.1.2.1 hd (h p e R s m args below meth c H locs cells slots ls Z C hl hM hz hS hc hs hE)
theorem Rn.dup {pc1 : Nat} {va : Value} (hd : decode K.2.1 pc = .ok (.dup, 1)) (hp : pc + 1 = pc1) (hva : va.category = 1) (h : Rn G d K pc1 L (va :: va :: st) μ sz mc ms Q) : Rn G d K (pc) L (va :: st) μ sz mc ms Q := by
  subst hp
  intro p e R s m args below meth c H locs cells slots ls Z C hl hM hz hS hc hs hE
  exact lv_dup C.1.1 C.1.2.1 hd hva (h p e R s m args below meth c H locs cells slots ls Z C hl hM hz hS hc hs hE)
theorem Rn.pop {pc1 : Nat} {va : Value} (hd : decode K.2.1 pc = .ok (.pop, 1)) (hp : pc + 1 = pc1) (hva : va.category = 1) (h : Rn G d K pc1 L (st) μ sz mc ms Q) : Rn G d K (pc) L (va :: st) μ sz mc ms Q := by
  subst hp
  intro p e R s m args below meth c H locs cells slots ls Z C hl hM hz hS hc hs hE
  exact lv_pop C.1.1 C.1.2.1 hd hva (h p e R s m args below meth c H locs cells slots ls Z C hl hM hz hS hc hs hE)
theorem Rn.dup2 {pc1 : Nat} {va vb : Value} (hd : decode K.2.1 pc = .ok (.dup2, 1)) (hp : pc + 1 = pc1) (hva : va.category = 1) (hvb : vb.category = 1) (h : Rn G d K pc1 L (va :: vb :: va :: vb :: st) μ sz mc ms Q) : Rn G d K (pc) L (va :: vb :: st) μ sz mc ms Q := by
  subst hp
  intro p e R s m args below meth c H locs cells slots ls Z C hl hM hz hS hc hs hE
  exact lv_dup2_11 C.1.1 C.1.2.1 hd hva hvb (h p e R s m args below meth c H locs cells slots ls Z C hl hM hz hS hc hs hE)
theorem Rn.if_eq {pc1 : Nat} {x : Int32} {off : Int} (tgt : Nat) (hd : decode K.2.1 pc = .ok (.ifCond .eq off, 3)) (hp : pc + 3 = pc1) (ht : (pc : Int) + off = (tgt : Int)) (kt : x = nI 0 → Rn G d K (tgt) L (st) μ sz mc ms Q) (kf : ¬ x = nI 0 → Rn G d K pc1 L (st) μ sz mc ms Q) : Rn G d K (pc) L (.int x :: st) μ sz mc ms Q := by
  subst hp
  intro p e R s m args below meth c H locs cells slots ls Z C hl hM hz hS hc hs hE
  rw [nI_0] at kt kf
  exact lv_if_eq C.1.1 C.1.2.1 hd ht (fun q => kt q p e R s m args below meth c H locs cells slots ls Z C hl hM hz hS hc hs hE) (fun q => kf q p e R s m args below meth c H locs cells slots ls Z C hl hM hz hS hc hs hE)
theorem Rn.if_ne {pc1 : Nat} {x : Int32} {off : Int} (tgt : Nat) (hd : decode K.2.1 pc = .ok (.ifCond .ne off, 3)) (hp : pc + 3 = pc1) (ht : (pc : Int) + off = (tgt : Int)) (kt : ¬ x = nI 0 → Rn G d K (tgt) L (st) μ sz mc ms Q) (kf : x = nI 0 → Rn G d K pc1 L (st) μ sz mc ms Q) : Rn G d K (pc) L (.int x :: st) μ sz mc ms Q := by
  subst hp
  intro p e R s m args below meth c H locs cells slots ls Z C hl hM hz hS hc hs hE
  rw [nI_0] at kt kf
  exact lv_if_ne C.1.1 C.1.2.1 hd ht (fun q => kt q p e R s m args below meth c H locs cells slots ls Z C hl hM hz hS hc hs hE) (fun q => kf q p e R s m args below meth c H locs cells slots ls Z C hl hM hz hS hc hs hE)
theorem Rn.if_lt {pc1 : Nat} {x : Int32} {off : Int} (tgt : Nat) (hd : decode K.2.1 pc = .ok (.ifCond .lt off, 3)) (hp : pc + 3 = pc1) (ht : (pc : Int) + off = (tgt : Int)) (kt : x < nI 0 → Rn G d K (tgt) L (st) μ sz mc ms Q) (kf : ¬ x < nI 0 → Rn G d K pc1 L (st) μ sz mc ms Q) : Rn G d K (pc) L (.int x :: st) μ sz mc ms Q := by
  subst hp
  intro p e R s m args below meth c H locs cells slots ls Z C hl hM hz hS hc hs hE
  rw [nI_0] at kt kf
  exact lv_if_lt C.1.1 C.1.2.1 hd ht (fun q => kt q p e R s m args below meth c H locs cells slots ls Z C hl hM hz hS hc hs hE) (fun q => kf q p e R s m args below meth c H locs cells slots ls Z C hl hM hz hS hc hs hE)
theorem Rn.if_ge {pc1 : Nat} {x : Int32} {off : Int} (tgt : Nat) (hd : decode K.2.1 pc = .ok (.ifCond .ge off, 3)) (hp : pc + 3 = pc1) (ht : (pc : Int) + off = (tgt : Int)) (kt : nI 0 ≤ x → Rn G d K (tgt) L (st) μ sz mc ms Q) (kf : ¬ nI 0 ≤ x → Rn G d K pc1 L (st) μ sz mc ms Q) : Rn G d K (pc) L (.int x :: st) μ sz mc ms Q := by
  subst hp
  intro p e R s m args below meth c H locs cells slots ls Z C hl hM hz hS hc hs hE
  rw [nI_0] at kt kf
  exact lv_if_ge C.1.1 C.1.2.1 hd ht (fun q => kt q p e R s m args below meth c H locs cells slots ls Z C hl hM hz hS hc hs hE) (fun q => kf q p e R s m args below meth c H locs cells slots ls Z C hl hM hz hS hc hs hE)
theorem Rn.if_gt {pc1 : Nat} {x : Int32} {off : Int} (tgt : Nat) (hd : decode K.2.1 pc = .ok (.ifCond .gt off, 3)) (hp : pc + 3 = pc1) (ht : (pc : Int) + off = (tgt : Int)) (kt : nI 0 < x → Rn G d K (tgt) L (st) μ sz mc ms Q) (kf : ¬ nI 0 < x → Rn G d K pc1 L (st) μ sz mc ms Q) : Rn G d K (pc) L (.int x :: st) μ sz mc ms Q := by
  subst hp
  intro p e R s m args below meth c H locs cells slots ls Z C hl hM hz hS hc hs hE
  rw [nI_0] at kt kf
  exact lv_if_gt C.1.1 C.1.2.1 hd ht (fun q => kt q p e R s m args below meth c H locs cells slots ls Z C hl hM hz hS hc hs hE) (fun q => kf q p e R s m args below meth c H locs cells slots ls Z C hl hM hz hS hc hs hE)
theorem Rn.if_le {pc1 : Nat} {x : Int32} {off : Int} (tgt : Nat) (hd : decode K.2.1 pc = .ok (.ifCond .le off, 3)) (hp : pc + 3 = pc1) (ht : (pc : Int) + off = (tgt : Int)) (kt : x ≤ nI 0 → Rn G d K (tgt) L (st) μ sz mc ms Q) (kf : ¬ x ≤ nI 0 → Rn G d K pc1 L (st) μ sz mc ms Q) : Rn G d K (pc) L (.int x :: st) μ sz mc ms Q := by
  subst hp
  intro p e R s m args below meth c H locs cells slots ls Z C hl hM hz hS hc hs hE
  rw [nI_0] at kt kf
  exact lv_if_le C.1.1 C.1.2.1 hd ht (fun q => kt q p e R s m args below meth c H locs cells slots ls Z C hl hM hz hS hc hs hE) (fun q => kf q p e R s m args below meth c H locs cells slots ls Z C hl hM hz hS hc hs hE)
theorem Rn.icmp_eq {pc1 : Nat} {x y : Int32} {off : Int} (tgt : Nat) (hd : decode K.2.1 pc = .ok (.if_icmp .eq off, 3)) (hp : pc + 3 = pc1) (ht : (pc : Int) + off = (tgt : Int)) (kt : x = y → Rn G d K (tgt) L (st) μ sz mc ms Q) (kf : ¬ x = y → Rn G d K pc1 L (st) μ sz mc ms Q) : Rn G d K (pc) L (.int y :: .int x :: st) μ sz mc ms Q := by
  subst hp
  intro p e R s m args below meth c H locs cells slots ls Z C hl hM hz hS hc hs hE
  exact lv_icmp_eq C.1.1 C.1.2.1 hd ht (fun q => kt q p e R s m args below meth c H locs cells slots ls Z C hl hM hz hS hc hs hE) (fun q => kf q p e R s m args below meth c H locs cells slots ls Z C hl hM hz hS hc hs hE)
theorem Rn.icmp_ne {pc1 : Nat} {x y : Int32} {off : Int} (tgt : Nat) (hd : decode K.2.1 pc = .ok (.if_icmp .ne off, 3)) (hp : pc + 3 = pc1) (ht : (pc : Int) + off = (tgt : Int)) (kt : ¬ x = y → Rn G d K (tgt) L (st) μ sz mc ms Q) (kf : x = y → Rn G d K pc1 L (st) μ sz mc ms Q) : Rn G d K (pc) L (.int y :: .int x :: st) μ sz mc ms Q := by
  subst hp
  intro p e R s m args below meth c H locs cells slots ls Z C hl hM hz hS hc hs hE
  exact lv_icmp_ne C.1.1 C.1.2.1 hd ht (fun q => kt q p e R s m args below meth c H locs cells slots ls Z C hl hM hz hS hc hs hE) (fun q => kf q p e R s m args below meth c H locs cells slots ls Z C hl hM hz hS hc hs hE)
theorem Rn.icmp_lt {pc1 : Nat} {x y : Int32} {off : Int} (tgt : Nat) (hd : decode K.2.1 pc = .ok (.if_icmp .lt off, 3)) (hp : pc + 3 = pc1) (ht : (pc : Int) + off = (tgt : Int)) (kt : x < y → Rn G d K (tgt) L (st) μ sz mc ms Q) (kf : ¬ x < y → Rn G d K pc1 L (st) μ sz mc ms Q) : Rn G d K (pc) L (.int y :: .int x :: st) μ sz mc ms Q := by
  subst hp
  intro p e R s m args below meth c H locs cells slots ls Z C hl hM hz hS hc hs hE
  exact lv_icmp_lt C.1.1 C.1.2.1 hd ht (fun q => kt q p e R s m args below meth c H locs cells slots ls Z C hl hM hz hS hc hs hE) (fun q => kf q p e R s m args below meth c H locs cells slots ls Z C hl hM hz hS hc hs hE)
theorem Rn.icmp_ge {pc1 : Nat} {x y : Int32} {off : Int} (tgt : Nat) (hd : decode K.2.1 pc = .ok (.if_icmp .ge off, 3)) (hp : pc + 3 = pc1) (ht : (pc : Int) + off = (tgt : Int)) (kt : y ≤ x → Rn G d K (tgt) L (st) μ sz mc ms Q) (kf : ¬ y ≤ x → Rn G d K pc1 L (st) μ sz mc ms Q) : Rn G d K (pc) L (.int y :: .int x :: st) μ sz mc ms Q := by
  subst hp
  intro p e R s m args below meth c H locs cells slots ls Z C hl hM hz hS hc hs hE
  exact lv_icmp_ge C.1.1 C.1.2.1 hd ht (fun q => kt q p e R s m args below meth c H locs cells slots ls Z C hl hM hz hS hc hs hE) (fun q => kf q p e R s m args below meth c H locs cells slots ls Z C hl hM hz hS hc hs hE)
theorem Rn.icmp_gt {pc1 : Nat} {x y : Int32} {off : Int} (tgt : Nat) (hd : decode K.2.1 pc = .ok (.if_icmp .gt off, 3)) (hp : pc + 3 = pc1) (ht : (pc : Int) + off = (tgt : Int)) (kt : y < x → Rn G d K (tgt) L (st) μ sz mc ms Q) (kf : ¬ y < x → Rn G d K pc1 L (st) μ sz mc ms Q) : Rn G d K (pc) L (.int y :: .int x :: st) μ sz mc ms Q := by
  subst hp
  intro p e R s m args below meth c H locs cells slots ls Z C hl hM hz hS hc hs hE
  exact lv_icmp_gt C.1.1 C.1.2.1 hd ht (fun q => kt q p e R s m args below meth c H locs cells slots ls Z C hl hM hz hS hc hs hE) (fun q => kf q p e R s m args below meth c H locs cells slots ls Z C hl hM hz hS hc hs hE)
theorem Rn.icmp_le {pc1 : Nat} {x y : Int32} {off : Int} (tgt : Nat) (hd : decode K.2.1 pc = .ok (.if_icmp .le off, 3)) (hp : pc + 3 = pc1) (ht : (pc : Int) + off = (tgt : Int)) (kt : x ≤ y → Rn G d K (tgt) L (st) μ sz mc ms Q) (kf : ¬ x ≤ y → Rn G d K pc1 L (st) μ sz mc ms Q) : Rn G d K (pc) L (.int y :: .int x :: st) μ sz mc ms Q := by
  subst hp
  intro p e R s m args below meth c H locs cells slots ls Z C hl hM hz hS hc hs hE
  exact lv_icmp_le C.1.1 C.1.2.1 hd ht (fun q => kt q p e R s m args below meth c H locs cells slots ls Z C hl hM hz hS hc hs hE) (fun q => kf q p e R s m args below meth c H locs cells slots ls Z C hl hM hz hS hc hs hE)
theorem Rn.goto {off : Int} (tgt : Nat) (hd : decode K.2.1 pc = .ok (.goto off, 3)) (ht : (pc : Int) + off = (tgt : Int)) (h : Rn G d K (tgt) L (st) μ sz mc ms Q) : Rn G d K (pc) L (st) μ sz mc ms Q := by
  intro p e R s m args below meth c H locs cells slots ls Z C hl hM hz hS hc hs hE
  exact lv_goto C.1.1 C.1.2.1 hd ht (h p e R s m args below meth c H locs cells slots ls Z C hl hM hz hS hc hs hE)
theorem Rn.ifnonnull {x : Nat} {off : Int} (tgt : Nat) (hd : decode K.2.1 pc = .ok (.ifnonnull off, 3)) (ht : (pc : Int) + off = (tgt : Int)) (h : Rn G d K (tgt) L (st) μ sz mc ms Q) : Rn G d K (pc) L (.ref x :: st) μ sz mc ms Q := by
  intro p e R s m args below meth c H locs cells slots ls Z C hl hM hz hS hc hs hE
  exact lv_ifnonnull C.1.1 C.1.2.1 hd ht (h p e R s m args below meth c H locs cells slots ls Z C hl hM hz hS hc hs hE)
theorem Rn.ifnull {pc1 : Nat} {x : Nat} {off : Int} (hd : decode K.2.1 pc = .ok (.ifnull off, 3)) (hp : pc + 3 = pc1) (h : Rn G d K pc1 L (st) μ sz mc ms Q) : Rn G d K (pc) L (.ref x :: st) μ sz mc ms Q := by
  subst hp
  intro p e R s m args below meth c H locs cells slots ls Z C hl hM hz hS hc hs hE
  exact lv_ifnull C.1.1 C.1.2.1 hd (h p e R s m args below meth c H locs cells slots ls Z C hl hM hz hS hc hs hE)
theorem Rn.ifnonnullN {pc1 : Nat} {off : Int} (hd : decode K.2.1 pc = .ok (.ifnonnull off, 3)) (hp : pc + 3 = pc1) (h : Rn G d K pc1 L (st) μ sz mc ms Q) : Rn G d K (pc) L (.null :: st) μ sz mc ms Q := by
  subst hp
  intro p e R s m args below meth c H locs cells slots ls Z C hl hM hz hS hc hs hE
  exact lv_ifnonnullN C.1.1 C.1.2.1 hd (h p e R s m args below meth c H locs cells slots ls Z C hl hM hz hS hc hs hE)
theorem Rn.ifnullN {off : Int} (tgt : Nat) (hd : decode K.2.1 pc = .ok (.ifnull off, 3)) (ht : (pc : Int) + off = (tgt : Int)) (h : Rn G d K (tgt) L (st) μ sz mc ms Q) : Rn G d K (pc) L (.null :: st) μ sz mc ms Q := by
  intro p e R s m args below meth c H locs cells slots ls Z C hl hM hz hS hc hs hE
  exact lv_ifnullN C.1.1 C.1.2.1 hd ht (h p e R s m args below meth c H locs cells slots ls Z C hl hM hz hS hc hs hE)
theorem Rn.lookup {dflt : Int} {ps : Array (Int × Int)} {len : Nat} {x : Int32} {off : Int} (tgt : Nat) (hd : decode K.2.1 pc = .ok (.lookupswitch dflt ps, len)) (hp : (ps.toList.zip (ps.toList.drop 1)).all (fun (a, next) => a.1 < next.1) = true) (ho : Op.lookupswitch.offset ps.toList dflt x.toInt = off) (ht : (pc : Int) + off = (tgt : Int)) (h : Rn G d K (tgt) L (st) μ sz mc ms Q) : Rn G d K (pc) L (.int x :: st) μ sz mc ms Q := by
  intro p e R s m args below meth c H locs cells slots ls Z C hl hM hz hS hc hs hE
  exact lv_lookup C.1.1 C.1.2.1 hd hp ho ht (h p e R s m args below meth c H locs cells slots ls Z C hl hM hz hS hc hs hE)
theorem Rn.tableOut {dflt lo hi : Int} {offs : Array Int} {len : Nat} {x : Int32} (tgt : Nat) (hd : decode K.2.1 pc = .ok (.tableswitch dflt lo hi offs, len)) (hx : x.toInt < lo ∨ hi < x.toInt) (ht : (pc : Int) + dflt = (tgt : Int)) (h : Rn G d K (tgt) L (st) μ sz mc ms Q) : Rn G d K (pc) L (.int x :: st) μ sz mc ms Q := by
  intro p e R s m args below meth c H locs cells slots ls Z C hl hM hz hS hc hs hE
  exact lv_tableOut C.1.1 C.1.2.1 hd hx ht (h p e R s m args below meth c H locs cells slots ls Z C hl hM hz hS hc hs hE)
theorem Rn.tableIn {dflt lo hi : Int} {offs : Array Int} {len : Nat} {x : Int32} {off : Int} (tgt : Nat) (hd : decode K.2.1 pc = .ok (.tableswitch dflt lo hi offs, len)) (h1 : ¬ x.toInt < lo) (h2 : ¬ hi < x.toInt) (ho : offs[(x.toInt - lo).toNat]? = some off) (ht : (pc : Int) + off = (tgt : Int)) (h : Rn G d K (tgt) L (st) μ sz mc ms Q) : Rn G d K (pc) L (.int x :: st) μ sz mc ms Q := by
  intro p e R s m args below meth c H locs cells slots ls Z C hl hM hz hS hc hs hE
  exact lv_tableIn C.1.1 C.1.2.1 hd h1 h2 ho ht (h p e R s m args below meth c H locs cells slots ls Z C hl hM hz hS hc hs hE)
theorem Rn.ldc {pc1 : Nat} {idx : Nat} {v : Int32} (hd : decode K.2.1 pc = .ok (.ldc idx, 2)) (hp : pc + 2 = pc1) (hq : Cond.constant K.1.cls idx v ∈ lwT) (h : Rn G d K pc1 L (.int v :: st) μ sz mc ms Q) : Rn G d K (pc) L (st) μ sz mc ms Q := by
  subst hp
  intro p e R s m args below meth c H locs cells slots ls Z C hl hM hz hS hc hs hE
  exact lv_ldc C.1.1 C.1.2.1 C.1.2.2.2.1 (C.1.2.2.2.2 _ hq) hd (h p e R s m args below meth c H locs cells slots ls Z C hl hM hz hS hc hs hE)
theorem Rn.ldc2 {pc1 : Nat} {idx : Nat} {v : Int64} (hd : decode K.2.1 pc = .ok (.ldc2_w idx, 3)) (hp : pc + 3 = pc1) (hq : Cond.constantLong K.1.cls idx v ∈ lwT) (h : Rn G d K pc1 L (.long v :: st) μ sz mc ms Q) : Rn G d K (pc) L (st) μ sz mc ms Q := by
  subst hp
  intro p e R s m args below meth c H locs cells slots ls Z C hl hM hz hS hc hs hE
  exact lv_ldc2 C.1.1 C.1.2.1 C.1.2.2.2.1 (C.1.2.2.2.2 _ hq) hd (h p e R s m args below meth c H locs cells slots ls Z C hl hM hz hS hc hs hE)
theorem Rn.mask (bs : List Bool) {L' : List (Option Value)} (hL : lmask bs L = L') (h : Rn G d K pc L' st μ sz mc ms Q) : Rn G d K (pc) L (st) μ sz mc ms Q := by
  intro p e R s m args below meth c H locs cells slots ls Z C hl hM hz hS hc hs hE
  exact h p e R s m args below meth c H locs cells slots ls Z C (hL ▸ hl.mask bs) hM hz hS hc hs hE
theorem Rn.imp {Q' : Option Value → Mm → Prop} (h : Rn G d K pc L st μ sz mc ms Q') (hQ : ∀ r μ', Q' r μ' → Q r μ') : Rn G d K (pc) L (st) μ sz mc ms Q := by
  intro p e R s m args below meth c H locs cells slots ls Z C hl hM hz hS hc hs hE
  exact h p e R s m args below meth c H locs cells slots ls Z C hl hM hz hS hc hs (fun r μ' H' locs' pc' ls' hq => hE r μ' H' locs' pc' ls' (hQ _ _ hq))
-- the end
theorem Rn.ireturn {v : Int32} {ty : FieldType} (hd : decode K.2.1 pc = .ok (.ireturn, 1)) (hr : K.2.2.2 = some ty) (hn : narrow ty (.int v) = .int v) (hQ : Q (some (.int v)) μ) : Rn G d K pc L [.int v] μ sz 0 ms Q := by
  intro p e R s m args below meth c H locs cells slots ls Z C hl hM hz hS hc hs hE
  exact W.widen (by omega) (by omega) (hE _ _ _ _ _ _ hQ hM (by omega) hS ⟨ty, hr, hn, hd⟩)
theorem Rn.vreturn (hd : decode K.2.1 pc = .ok (.return_, 1)) (hr : K.2.2.2 = none) (hQ : Q none μ) : Rn G d K pc L [] μ sz 0 ms Q := by
  intro p e R s m args below meth c H locs cells slots ls Z C hl hM hz hS hc hs hE
  exact W.widen (by omega) (by omega) (hE _ _ _ _ _ _ hQ hM (by omega) hS ⟨hr, hd⟩)
theorem Rn.areturn {o : Option Nat} {C : String} (hd : decode K.2.1 pc = .ok (.areturn, 1)) (hr : K.2.2.2 = some (.object C)) (hQ : Q (some (va_rf o)) μ) : Rn G d K pc L [va_rf o] μ sz 0 ms Q := by
  intro p e R s m args below meth c H locs cells slots ls Z C2 hl hM hz hS hc hs hE
  cases o with
  | none => exact W.widen (by omega) (by omega) (hE _ _ _ _ _ _ hQ hM (by omega) hS ⟨C, hr, hd⟩)
  | some a => exact W.widen (by omega) (by omega) (hE _ _ _ _ _ _ hQ hM (by omega) hS ⟨C, hr, hd⟩)
-- fields
theorem Rn.getfield {pc1 : Nat} {idx ci k a : Nat} {fs : List Value} {v : Value} (hd : decode K.2.1 pc = .ok (.getfield idx, 3)) (hp : pc + 3 = pc1) (hf : FOk ci k K.1.cls idx) (hμ : μ a = some (.inr (ci, fs))) (hv : fs[k]? = some v) (h : Rn G d K pc1 L (v :: st) μ sz mc ms Q) : Rn G d K pc L (.ref a :: st) μ sz mc ms Q := by
  subst hp
  intro p e R s m args below meth c H locs cells slots ls Z C hl hM hz hS hc hs hE
  obtain ⟨C0, T0, N0, f1, f2, f3, f4⟩ := hf
  have hP : va_P (gD G) classes [(a, .inr (ci, fs))] H := fun k q hq => by
    have hk : k < 1 := (List.getElem?_eq_some_iff.mp hq).1
    rw [show k = 0 by omega] at hq
    cases hq
    exact (hM.2 a _ hμ).1
  exact va_get C.1.1 C.1.2.1 C.1.2.2.2.2 f3 C.1.2.2.2.1 C.2.2.1.1 hP 0 rfl f1 k f2 (C.1.2.2.2.2 _ f4) (fun _ h9 => h9) hv hd (h p e R s m args below meth c H locs cells slots ls Z C hl hM hz hS hc hs hE)
theorem Rn.putfield {pc1 : Nat} {idx ci k a : Nat} {fin : Bool} {ty : FieldType} {fs fs' : List Value} {v : Value} (hd : decode K.2.1 pc = .ok (.putfield idx, 3)) (hp : pc + 3 = pc1) (hf : POk ci k K.1.cls idx fin ty) (hfi : fin = true → K.1.name = "<init>") (hμ : μ a = some (.inr (ci, fs))) (hl0 : k < fs.length) (hn : narrow ty v = v) (hfit : fits ty v = true) (hfs : fs.set k v = fs') (h : Rn G d K pc1 L st (mset μ a (.inr (ci, fs'))) sz mc ms Q) : Rn G d K pc L (v :: .ref a :: st) μ sz mc ms Q := by
  subst hp
  subst hfs
  intro p e R s m args below meth c H locs cells slots ls Z C hl hM hz hS hc hs hE
  obtain ⟨C0, T0, N0, ty0, f1, f2, f3, f4, f5, f6, f7, f8, f9⟩ := hf
  have hK := C.2.2.1.1
  have hts := C.1.2.2.2.2
  have hown := C.1.2.2.2.1
  obtain ⟨⟨r, h1, cell, q1, q2, q3, q4⟩, hlo⟩ := hM.2 a _ hμ
  have hr : r = (C0, T0, N0) := Option.some.inj (h1.symm.trans f1)
  subst hr
  have hap := va_apart (own := K.1.cls) hts f3 ty0 f5 f6 hK f1
  obtain ⟨hSl, hfc, kC, hkC, hkind⟩ := hK.1 ci _ f1
  obtain ⟨cf, kf, fi, f, hi, hsl⟩ := hSl k f2
  have hlay := hts _ (f3 _ (u_in_lay f2))
  unfold u_lay at hlay
  have hst := (u_facts hfc hkC (u_lays hts f3 f2) hi).1
  have fin1 : ∀ H1 : Heap, H1[a]? = some (cell.setSlot f.slot v) → H1.size = H.size → (∀ q, q ≠ a → H1[q]? = H[q]?) → W p G.1 e R s m args below meth c H1 (locs ++ [⟨a, f.slot⟩]) cells slots Z (F0 m (pc + 3) ls st) := by
    intro H1 e1 e2 e3
    rw [hsl] at e1
    have hat : va_at (gD G) classes (a, trc (gA G) (.inr (ci, fs.set k v))) H1 := ⟨_, f1, t_OB.to (V := updV (vp_V fs) k v) ⟨_, e1, q2, q3, t_set q4 hap f2 v⟩ (fun j _ => vp_updV_set hl0 v j)⟩
    exact h p e R s m args below meth c H1 _ cells slots ls Z C hl (hM.set hμ hat e3) (e2.trans hz) (hS.put e2 e3 hlo) hc hs hE
  cases hfin : fin with
  | false =>
    rw [if_neg (by rw [f7, hfin]; decide)] at hlay
    have h6 := u_store hfc hkC hkind hlay hi f8 hn hfit
    exact W.putK C.1.1 C.1.2.1 (f := f) ⟨hown, hts _ f4, ⟨_, _, _, hi⟩, hst⟩ (by rw [q2]; exact h6) q1 q3 (by rw [hsl]; exact k2_hasslot (q4 k f2)) rfl rfl hd fin1
  | true =>
    rw [if_pos (by rw [f7, hfin])] at hlay
    have hcf : m.cls = cf := by
      obtain ⟨_, _, c', _, _, _, -, -, hf', -, -, -, hown2, -⟩ := Cond.laysFinal_spec hlay
      have e1 : c' = cf := by have := hi.symm.trans hf'; simp at this; exact this.1.symm
      rw [f9 hfin] at hown2
      rw [← e1]; exact Option.some.inj (hown.symm.trans hown2)
    have h6 := u_fits hfc hkC hkind (Or.inr hlay) hi f8 hn hfit
    exact W.putFinK C.1.1 C.1.2.1 hown (hts _ f4) hi hst hcf (C.2.1.2.2.trans (hfi hfin)) (by rw [q2]; exact h6) q1 q3 (by rw [hsl]; exact k2_hasslot (q4 k f2)) rfl rfl hd fin1
-- arrays
theorem Rn.iaload {pc1 : Nat} {a n : Nat} {f : Nat → Int32} {i : Int32} (hd : decode K.2.1 pc = .ok (.iaload, 1)) (hp : pc + 1 = pc1) (hμ : μ a = some (.inl (0, n, .inl f))) (hin : vp_in i n) {v : Int32} (hv : f i.toNatClampNeg = v) (h : Rn G d K pc1 L (.int v :: st) μ sz mc ms Q) : Rn G d K pc L (.int i :: .ref a :: st) μ sz mc ms Q := by
  subst hp
  subst hv
  intro p e R s m args below meth c H locs cells slots ls Z C hl hM hz hS hc hs hE
  have hP := (hM.2 a _ hμ).1
  have hlt : i.toNatClampNeg < n := Nat.not_le.mp fun q => hin (Or.inr q)
  exact W.iald (v := .int (f i.toNatClampNeg)) C.1.1 C.1.2.1 hP ((C.2.2.1.1.2 0 _ rfl).1 n (fun j => .int (f j))) (fun q => by cases q) (by show ¬ (i < 0 ∨ (arrV _ _ _).slots.size ≤ _); rw [arrV_size]; exact hin) (by show (arrV _ _ _).slots[_]? = _; rw [arrV_read _ _ hlt]) rfl rfl hd (h p e R s m args below meth c H locs cells slots ls Z C hl hM hz hS hc hs hE)
theorem Rn.zaload {pc1 : Nat} {a n : Nat} {f : Nat → Int32} {i : Int32} (hd : decode K.2.1 pc = .ok (.baload, 1)) (hp : pc + 1 = pc1) (hμ : μ a = some (.inl (1, n, .inl f))) (hin : vp_in i n) {v : Int32} (hv : f i.toNatClampNeg = v) (h : Rn G d K pc1 L (.int v :: st) μ sz mc ms Q) : Rn G d K pc L (.int i :: .ref a :: st) μ sz mc ms Q := by
  subst hp
  subst hv
  intro p e R s m args below meth c H locs cells slots ls Z C hl hM hz hS hc hs hE
  have hP := (hM.2 a _ hμ).1
  have hlt : i.toNatClampNeg < n := Nat.not_le.mp fun q => hin (Or.inr q)
  exact W.zald (v := .int (f i.toNatClampNeg)) C.1.1 C.1.2.1 hP ((C.2.2.1.1.2 1 _ rfl).1 n (fun j => .int (f j))) (fun q => by cases q) (by show ¬ (i < 0 ∨ (arrV _ _ _).slots.size ≤ _); rw [arrV_size]; exact hin) (by show (arrV _ _ _).slots[_]? = _; rw [arrV_read _ _ hlt]) rfl rfl hd (h p e R s m args below meth c H locs cells slots ls Z C hl hM hz hS hc hs hE)
theorem Rn.aaload {pc1 : Nat} {a n t : Nat} {f : Nat → Option Nat} {i : Int32} {ty : String} (hd : decode K.2.1 pc = .ok (.aaload, 1)) (hp : pc + 1 = pc1) (hμ : μ a = some (.inl (t, n, .inr (.inr (.inr (.inr f)))))) (ht : ∀ dA : Nat → ClassId, (vtys dA)[t]? = some (dA t, .object ty)) (hin : vp_in i n) {v : Option Nat} (hv : f i.toNatClampNeg = v) (h : Rn G d K pc1 L (va_rf v :: st) μ sz mc ms Q) : Rn G d K pc L (.int i :: .ref a :: st) μ sz mc ms Q := by
  subst hp
  subst hv
  intro p e R s m args below meth c H locs cells slots ls Z C hl hM hz hS hc hs hE
  have hP := (hM.2 a _ hμ).1
  have hlt : i.toNatClampNeg < n := Nat.not_le.mp fun q => hin (Or.inr q)
  exact W.aald (v := va_rf (f i.toNatClampNeg)) (ty := .object ty) C.1.1 C.1.2.1 hP ((C.2.2.1.1.2 t _ (ht _)).1 n (fun j => va_rf (f j))) rfl (fun q => by cases q) (by show ¬ (i < 0 ∨ (arrV _ _ _).slots.size ≤ _); rw [arrV_size]; exact hin) (by show (arrV _ _ _).slots[_]? = _; rw [arrV_read _ _ hlt]) rfl rfl hd (h p e R s m args below meth c H locs cells slots ls Z C hl hM hz hS hc hs hE)
theorem Rn.alen {pc1 : Nat} {a t : Nat} {x : vp_A} {v : Int32} {ty : FieldType} (hd : decode K.2.1 pc = .ok (.arraylength, 1)) (hp : pc + 1 = pc1) (hμ : μ a = some (.inl (t, x))) (ht : ∀ dA : Nat → ClassId, (vtys dA)[t]? = some (dA t, ty)) (hv : Int32.ofNat x.1 = v) (h : Rn G d K pc1 L (.int v :: st) μ sz mc ms Q) : Rn G d K pc L (.ref a :: st) μ sz mc ms Q := by
  subst hp
  intro p e R s m args below meth c H locs cells slots ls Z C hl hM hz hS hc hs hE
  have hP : va_P (gD G) classes [(a, .inl (gA G t, x))] H := fun k q hq => by
    have hk : k < 1 := (List.getElem?_eq_some_iff.mp hq).1
    rw [show k = 0 by omega] at hq
    cases hq
    exact (hM.2 a _ hμ).1
  exact va_alen C.1.1 C.1.2.1 C.2.2.1.1 hP 0 t rfl (ht _) hv hd (h p e R s m args below meth c H locs cells slots ls Z C hl hM hz hS hc hs hE)
theorem updV_int {f : Nat → Int32} {k : Nat} {x : Int32} : updV (fun j => Value.int (f j)) k (.int x) = fun j => Value.int (upd f k x j) := by
  funext q
  by_cases hq : q = k
  · subst hq
    simp [updV, upd]
  · simp [updV, upd, hq]
theorem Rn.iastore {pc1 : Nat} {a n : Nat} {f f' : Nat → Int32} {i x : Int32} (hd : decode K.2.1 pc = .ok (.iastore, 1)) (hp : pc + 1 = pc1) (hμ : μ a = some (.inl (0, n, .inl f))) (hin : vp_in i n) (hf : upd f i.toNatClampNeg x = f') (h : Rn G d K pc1 L st (mset μ a (.inl (0, n, .inl f'))) sz mc ms Q) : Rn G d K pc L (.int x :: .int i :: .ref a :: st) μ sz mc ms Q := by
  subst hp
  subst hf
  intro p e R s m args below meth c H locs cells slots ls Z C hl hM hz hS hc hs hE
  obtain ⟨hP, hlo⟩ := hM.2 a _ hμ
  refine W.iast C.1.1 C.1.2.1 hP ((C.2.2.1.1.2 0 _ rfl).1 n (fun j => .int (f j))) (fun q => by cases q) (by show ¬ (i < 0 ∨ (arrV _ _ _).slots.size ≤ _); rw [arrV_size]; exact hin) rfl rfl hd fun H1 e1 z oq => ?_
  have hat : va_at (gD G) classes (a, trc (gA G) (.inl (0, n, .inl (upd f i.toNatClampNeg x)))) H1 := by
    show H1[a]? = some (vp_cell _ _)
    rw [e1, vp_cell_i, vp_cell_i, arrV_store, updV_int]
  exact h p e R s m args below meth c H1 _ cells slots ls Z C hl (hM.set hμ hat oq) (z.trans hz) (hS.put z oq hlo) hc hs hE
theorem Rn.zastore {pc1 : Nat} {a n : Nat} {f f' : Nat → Int32} {i x : Int32} (hd : decode K.2.1 pc = .ok (.bastore, 1)) (hp : pc + 1 = pc1) (hμ : μ a = some (.inl (1, n, .inl f))) (hin : vp_in i n) (hx : narrow .boolean (.int x) = .int x) (hf : upd f i.toNatClampNeg x = f') (h : Rn G d K pc1 L st (mset μ a (.inl (1, n, .inl f'))) sz mc ms Q) : Rn G d K pc L (.int x :: .int i :: .ref a :: st) μ sz mc ms Q := by
  subst hp
  subst hf
  intro p e R s m args below meth c H locs cells slots ls Z C hl hM hz hS hc hs hE
  obtain ⟨hP, hlo⟩ := hM.2 a _ hμ
  refine W.zast C.1.1 C.1.2.1 hP ((C.2.2.1.1.2 1 _ rfl).1 n (fun j => .int (f j))) (fun q => by cases q) (by show ¬ (i < 0 ∨ (arrV _ _ _).slots.size ≤ _); rw [arrV_size]; exact hin) rfl rfl hd fun H1 e1 z oq => ?_
  have hat : va_at (gD G) classes (a, trc (gA G) (.inl (1, n, .inl (upd f i.toNatClampNeg x)))) H1 := by
    show H1[a]? = some (vp_cell _ _)
    rw [e1, hx, vp_cell_i, vp_cell_i, arrV_store, updV_int]
  exact h p e R s m args below meth c H1 _ cells slots ls Z C hl (hM.set hμ hat oq) (z.trans hz) (hS.put z oq hlo) hc hs hE
theorem Rn.aastore {pc1 : Nat} {a n t v ci : Nat} {f f' : Nat → Option Nat} {i : Int32} {r : vw_C} {vs : List Value} (hd : decode K.2.1 pc = .ok (.aastore, 1)) (hp : pc + 1 = pc1) (hμ : μ a = some (.inl (t, n, .inr (.inr (.inr (.inr f)))))) (ht : ∀ dA : Nat → ClassId, (vtys dA)[t]? = some (dA t, .object r.1)) (hv : μ v = some (.inr (ci, vs))) (hci : classes[ci]? = some r) (hin : vp_in i n) (hf : va_up f i.toNatClampNeg (some v) = f') (h : Rn G d K pc1 L st (mset μ a (.inl (t, n, .inr (.inr (.inr (.inr f')))))) sz mc ms Q) : Rn G d K pc L (.ref v :: .int i :: .ref a :: st) μ sz mc ms Q := by
  subst hp
  subst hf
  intro p e R s m args below meth c H locs cells slots ls Z C hl hM hz hS hc hs hE
  have hlt : i.toNatClampNeg < n := Nat.not_le.mp fun q => hin (Or.inr q)
  have h0 : ¬ i < 0 := fun q => hin (Or.inl q)
  have hK := C.2.2.1.1
  obtain ⟨hP, hlo⟩ := hM.2 a _ hμ
  obtain ⟨⟨r', hr', cellV, g1, g2, g3, -⟩, -⟩ := hM.2 v _ hv
  have hcls := (hK.1 ci r hci).2
  obtain ⟨kA, comp, k1, k2, k3, -⟩ := (hK.2 t _ (ht _)).2
  have hcomp : comp = (gD G).1 ci := Option.some.inj (k3.symm.trans hcls.1)
  subst hcomp
  obtain ⟨kC, hkC, -⟩ := hcls.2
  refine W.aast C.1.1 C.1.2.1 hP (fun q h => by cases h) (fun h => by cases h) k1 k2 rfl hkC ⟨h0, by show _ < (arrV _ _ _).slots.size; rw [arrV_size]; exact hlt⟩ g1 (fun q h => by rw [g3] at h; cases h) (by rw [g2]; exact hkC) (by rw [g2]; exact va_assign hcls) rfl rfl hd fun H1 e1 z oq => ?_
  have hat : va_at (gD G) classes (a, trc (gA G) (.inl (t, n, .inr (.inr (.inr (.inr (va_up f i.toNatClampNeg (some v)))))))) H1 := by
    show H1[a]? = some (vp_cell _ _)
    rw [e1, vp_cell_q, vp_cell_q, arrV_store]
    congr 2
    funext q
    by_cases hq : q = i.toNatClampNeg
    · subst hq
      simp [updV, va_up, va_rf]
    · simp [updV, va_up, hq]
  exact h p e R s m args below meth c H1 _ cells slots ls Z C hl (hM.set hμ hat oq) (z.trans hz) (hS.put z oq hlo) hc hs hE
-- making
theorem va_S.grow {A : Nat → Prop} {H0 H H1 : Heap} {locs : List Loc} (h : va_S A H0 H locs) (z : H1.size = H.size + 1) (oq : ∀ q : Nat, q < H.size → H1[q]? = H[q]?) : va_S A H0 H1 locs := ⟨by have := h.1; omega, fun x h1 h2 => (oq x (Nat.lt_of_lt_of_le h1 h.1)).trans (h.2.1 x h1 h2), h.2.2⟩
theorem Rn.newobj {pc1 : Nat} {idx ci N0 : Nat} {C0 : String} {T0 : u_T} {fs : List Value} (ty0 : Nat → FieldType) (hd : decode K.2.1 pc = .ok (.new idx, 3)) (hp : pc + 3 = pc1) (hq : Cond.classLink K.1.cls idx C0 ∈ lwT) (hi : Cond.instantiable C0 N0 ∈ lwT) (hini : Cond.initialized C0 ∈ lwT) (hcl : classes[ci]? = some (C0, T0, N0)) (hin : ∀ w ∈ u_ws C0 T0 N0, w ∈ lwT) (hty : ∀ k, k < N0 → parseFieldDescriptor (T0 k).2.2.1 = some (ty0 k)) (hfs : ∀ j, j < N0 → defaultValue (ty0 j) = vp_V fs j) (h : Rn G d K pc1 L (.ref sz :: st) (mset μ sz (.inr (ci, fs))) (sz + 1) mc ms Q) : Rn G d K pc L st μ sz (mc + 1) (ms + N0) Q := by
  subst hp
  intro p e R s m args below meth c H locs cells slots ls Z C hl hM hz hS hc hs hE
  have hts := C.1.2.2.2.2
  have hKn := C.2.2.1.1.1 ci _ hcl
  subst hz
  have hlo := C.2.2.2.1
  refine W.newcK C.1.1 C.1.2.1 C.1.2.2.2.1 (hts _ hq) (hts _ hi) (hts _ hini) rfl hd (by omega) (by omega) hKn.2.1 rfl fun H1 kC hkC e1 z1 o1 => ?_
  have hat : va_at (gD G) classes (H.size, trc (gA G) (.inr (ci, fs))) H1 := ⟨_, hcl, (u_born ty0 hts hin hKn hkC e1 hty).to hfs⟩
  exact h p e R s m args below meth c H1 locs (cells + 1) (slots + N0) ls Z C hl (hM.push (Nat.le_trans hlo hS.1) hat o1) z1 (hS.grow z1 o1) (by omega) (by omega) (by rw [show H.size + 1 + mc = H.size + (mc + 1) by omega]; exact hE)
theorem Rn.newints {pc1 : Nat} {i : Int32} {n : Nat} (hd : decode K.2.1 pc = .ok (.newarray .int, 2)) (hp : pc + 2 = pc1) (hq : Cond.arrayClass .int ∈ lwT) (hi : ¬ i < 0) (hn : i.toNatClampNeg = n) (hb : n * 4 ≤ 536870912) (h : Rn G d K pc1 L (.ref sz :: st) (mset μ sz (.inl (0, n, .inl (fun _ => 0)))) (sz + 1) mc ms Q) : Rn G d K pc L (.int i :: st) μ sz (mc + 1) (ms + n) Q := by
  subst hp
  intro p e R s m args below meth c H locs cells slots ls Z C hl hM hz hS hc hs hE
  subst hz
  have hlo := C.2.2.2.1
  refine va_newaK (atype := .int) C.1.1 C.1.2.1 (C.1.2.2.2.2 _ hq) rfl hd rfl hi hn hb (by omega) (by omega) rfl fun H1 cA e1 z1 o1 hAr hNm => ?_
  have hcA : cA = gA G 0 := Option.some.inj (hNm.symm.trans (C.2.2.1.1.2 0 _ rfl).2)
  subst hcA
  exact h p e R s m args below meth c H1 locs (cells + 1) (slots + n) ls Z C hl (hM.push (Nat.le_trans hlo hS.1) (show H1[H.size]? = some (vp_cell _ _) from e1) o1) z1 (hS.grow z1 o1) (by omega) (by omega) (by rw [show H.size + 1 + mc = H.size + (mc + 1) by omega]; exact hE)
theorem Rn.newbools {pc1 : Nat} {i : Int32} {n : Nat} (hd : decode K.2.1 pc = .ok (.newarray .boolean, 2)) (hp : pc + 2 = pc1) (hq : Cond.arrayClass .boolean ∈ lwT) (hi : ¬ i < 0) (hn : i.toNatClampNeg = n) (hb : n * 1 ≤ 536870912) (h : Rn G d K pc1 L (.ref sz :: st) (mset μ sz (.inl (1, n, .inl (fun _ => 0)))) (sz + 1) mc ms Q) : Rn G d K pc L (.int i :: st) μ sz (mc + 1) (ms + n) Q := by
  subst hp
  intro p e R s m args below meth c H locs cells slots ls Z C hl hM hz hS hc hs hE
  subst hz
  have hlo := C.2.2.2.1
  refine va_newaK (atype := .boolean) C.1.1 C.1.2.1 (C.1.2.2.2.2 _ hq) rfl hd rfl hi hn hb (by omega) (by omega) rfl fun H1 cA e1 z1 o1 hAr hNm => ?_
  have hcA : cA = gA G 1 := Option.some.inj (hNm.symm.trans (C.2.2.1.1.2 1 _ rfl).2)
  subst hcA
  exact h p e R s m args below meth c H1 locs (cells + 1) (slots + n) ls Z C hl (hM.push (Nat.le_trans hlo hS.1) (show H1[H.size]? = some (vp_cell _ _) from e1) o1) z1 (hS.grow z1 o1) (by omega) (by omega) (by rw [show H.size + 1 + mc = H.size + (mc + 1) by omega]; exact hE)
theorem Rn.newrefs {pc1 : Nat} {idx t n : Nat} {C0 : String} {i : Int32} (hd : decode K.2.1 pc = .ok (.anewarray idx, 3)) (hp : pc + 3 = pc1) (hq : Cond.classLink K.1.cls idx C0 ∈ lwT) (hAO : ∀ U : State, (va_AO RX6 U ∧ va_AO RX3 U ∧ va_AO RX5 U ∧ va_AO RX4 U) → va_AO C0 U) (ht : ∀ dA : Nat → ClassId, (vtys dA)[t]? = some (dA t, .object C0)) (hi : ¬ i < 0) (hn : i.toNatClampNeg = n) (hb : n * 4 ≤ 536870912) (h : Rn G d K pc1 L (.ref sz :: st) (mset μ sz (.inl (t, n, .inr (.inr (.inr (.inr (fun _ => none))))))) (sz + 1) mc ms Q) : Rn G d K pc L (.int i :: st) μ sz (mc + 1) (ms + n) Q := by
  subst hp
  intro p e R s m args below meth c H locs cells slots ls Z C hl hM hz hS hc hs hE
  subst hz
  subst hn
  have hlo := C.2.2.2.1
  refine W.anew C.1.1 C.1.2.1 C.1.2.2.2.1 (C.1.2.2.2.2 _ hq) (va_AO.use (hAO s C.2.2.1.2.2.1)) rfl hd rfl hi hb (by omega) (by omega) fun cA kA comp f1 f2 f3 f4 => ?_
  generalize hH1 : H.push ({ cls := cA, slots := Array.replicate i.toNatClampNeg .null, vm := .none } : Cell) = H1
  have z1 : H1.size = H.size + 1 := by rw [← hH1, Array.size_push]
  have e1 : H1[H.size]? = some (arrV cA i.toNatClampNeg (fun _ => .null)) := by rw [← hH1, Array.getElem?_push_size, ← arrV_new]
  have o1 : ∀ q : Nat, q < H.size → H1[q]? = H[q]? := fun q hq => by rw [← hH1, Array.getElem?_push, if_neg (Nat.ne_of_lt hq)]
  obtain ⟨kA2, comp2, g1, g2, g3, g4⟩ := (C.2.2.1.1.2 t _ (ht _)).2
  have hcA : cA = gA G t := Option.some.inj (f1.symm.trans g4)
  subst hcA
  exact h p e R s m args below meth c H1 locs (cells + 1) (slots + i.toNatClampNeg) ls Z C hl (hM.push (Nat.le_trans hlo hS.1) (show H1[H.size]? = some (vp_cell _ _) from e1) o1) z1 (hS.grow z1 o1) (by omega) (by omega) (by rw [show H.size + 1 + mc = H.size + (mc + 1) by omega]; exact hE)
-- the script
theorem Rn.sld {pc1 : Nat} {i : Int32} {v : Int32} (hd : decode K.2.1 pc = .ok (.iaload, 1)) (hp : pc + 1 = pc1) (hin : vp_in i (gS G).slots.size) (hv : (gS G).slots[i.toNatClampNeg]? = some (.int v)) (h : Rn G d K pc1 L (.int v :: st) μ sz mc ms Q) : Rn G d K pc L (.int i :: .ref (gB G) :: st) μ sz mc ms Q := by
  subst hp
  intro p e R s m args below meth c H locs cells slots ls Z C hl hM hz hS hc hs hE
  exact W.iald (v := .int v) C.1.1 C.1.2.1 hM.1.1 C.2.2.1.2.2.2.1 C.2.2.1.2.2.2.2 hin hv rfl rfl hd (h p e R s m args below meth c H locs cells slots ls Z C hl hM hz hS hc hs hE)
theorem Rn.slen {pc1 : Nat} {v : Int32} (hd : decode K.2.1 pc = .ok (.arraylength, 1)) (hp : pc + 1 = pc1) (hv : (gS G).slots.size.toInt32 = v) (h : Rn G d K pc1 L (.int v :: st) μ sz mc ms Q) : Rn G d K pc L (.ref (gB G) :: st) μ sz mc ms Q := by
  subst hp
  intro p e R s m args below meth c H locs cells slots ls Z C hl hM hz hS hc hs hE
  exact W.alen (n := v) C.1.1 C.1.2.1 hM.1.1 C.2.2.1.2.2.2.1 hv rfl rfl hd (h p e R s m args below meth c H locs cells slots ls Z C hl hM hz hS hc hs hE)
-- Object's constructor, Math
theorem Rn.objInit {pc1 : Nat} {idx a : Nat} (hd : decode K.2.1 pc = .ok (.invokespecial idx, 3)) (hp : pc + 3 = pc1) (hq : Cond.methodLink K.1.cls idx objectInit ∈ lwT) (hcat : (st.map fun v => v.category).sum ≤ 8) (hdd : 1 ≤ d) (h : Rn G d K pc1 L st μ sz mc ms Q) : Rn G d K pc L (.ref a :: st) μ sz mc ms Q := by
  subst hp
  intro p e R s m args below meth c H locs cells slots ls Z C hl hM hz hS hc hs hE
  have hts := C.1.2.2.2.2
  have h1 := C.2.2.2.2
  exact W.objInit C.1.1 C.1.2.1 C.1.2.2.2.1 (hts _ hq) (hts _ qoi_inst) (hts _ qoi_code) rfl (by rw [C.1.2.2.1]; exact hl.2.1) rfl hd (by omega) (by show 2 * 0 + _ + 12 ≤ _; omega) (h p e R s m args below meth c H locs cells slots ls Z C hl hM hz hS hc hs hE)
theorem Rn.mmax {pc1 : Nat} {idx : Nat} {x y v : Int32} (hd : decode K.2.1 pc = .ok (.invokestatic idx, 3)) (hp : pc + 3 = pc1) (hq : Cond.methodLink K.1.cls idx Lib.Math.max.name ∈ lwT) (hcat : (st.map fun v => v.category).sum ≤ 8) (hdd : 1 ≤ d) (hv : (if x < y then y else x) = v) (h : Rn G d K pc1 L (.int v :: st) μ sz mc ms Q) : Rn G d K pc L (.int y :: .int x :: st) μ sz mc ms Q := by
  subst hp
  subst hv
  intro p e R s m args below meth c H locs cells slots ls Z C hl hM hz hS hc hs hE
  have hts := C.1.2.2.2.2
  have h1 := C.2.2.2.2
  exact va_mmax C.1.1 C.1.2.1 (C.1.2.2.1.trans hl.2.1.symm) C.1.2.2.2.1 (hts _ hq) (hts _ qmax_st) (hts _ qini_J9) (hts _ qmax_code) (by omega) (by omega) (by omega) (by omega) hd (h p e R s m args below meth c H locs cells slots ls Z C hl hM hz hS hc hs hE)
theorem Rn.mmin {pc1 : Nat} {idx : Nat} {x y v : Int32} (hd : decode K.2.1 pc = .ok (.invokestatic idx, 3)) (hp : pc + 3 = pc1) (hq : Cond.methodLink K.1.cls idx Lib.Math.min.name ∈ lwT) (hcat : (st.map fun v => v.category).sum ≤ 8) (hdd : 1 ≤ d) (hv : (if y < x then y else x) = v) (h : Rn G d K pc1 L (.int v :: st) μ sz mc ms Q) : Rn G d K pc L (.int y :: .int x :: st) μ sz mc ms Q := by
  subst hp
  subst hv
  intro p e R s m args below meth c H locs cells slots ls Z C hl hM hz hS hc hs hE
  have hts := C.1.2.2.2.2
  have h1 := C.2.2.2.2
  exact va_mmin C.1.1 C.1.2.1 (C.1.2.2.1.trans hl.2.1.symm) C.1.2.2.2.1 (hts _ hq) (hts _ qmin_st) (hts _ qini_J9) (hts _ qmin_code) (by omega) (by omega) (by omega) (by omega) hd (h p e R s m args below meth c H locs cells slots ls Z C hl hM hz hS hc hs hE)

-- calls
theorem Rn.runs {mc1 ms1 : Nat} {stk : List Value} {a : Array Value} {Q' : Option Value → Mm → Prop}
    (hrun : ∀ (p : Program) (e : Env) (R : Room) (s : State) (m : MethodId) (args : Array Value) (below : List Frame) (meth : Method) (c : Code) (H : Heap) (locs : List Loc) (cells slots : Nat) (ls : Array Slot), CtxA G d K p R s m args meth c → lvh ls K.2.2.1 L → MemA G μ H → H.size = sz → gLo G ≤ sz → cells + mc1 ≤ R.cells → slots + ms1 ≤ R.slots → va_Run p G.1 e R s m args below meth c H locs cells slots mc1 ms1 (F0 m pc ls stk) st (QcA G (sz + mc1) Q' a) (own G))
    (hk : ∀ (r : Option Value) (μ' : Mm), Q' r μ' → Rn G d K (pc + 3) L (r.toList ++ st) μ' (sz + mc1) mc ms Q) : Rn G d K pc L stk μ sz (mc1 + mc) (ms1 + ms) Q := by
  intro p e R s m args below meth c H locs cells slots ls Z C hl hM hz hS hc hs hE
  intro T hT X
  have hlo := Nat.le_trans C.2.2.2.1 (Nat.le_trans hS.1 (Nat.le_of_eq hz))
  obtain ⟨v, st₀, t, T', L', h0, X', hL', e1, e2, ⟨r, μ', hv, hQ, hM', hz', hz2, hF⟩, stp⟩ := hrun p e R s m args below meth c H locs cells slots ls C hl hM hz hlo (by omega) (by omega) T hT X
  cases hv
  rw [h0] at hF hz2
  have hS' : va_S (own G) s.heap T'.heap (locs ++ L') := by
    refine ⟨Nat.le_trans hS.1 (by rw [e1]; exact hz2), fun q h1 h2 => by rw [e1, hF q (Nat.lt_of_lt_of_le h1 hS.1) h2]; exact hS.2.1 q h1 h2, fun q hq => ?_⟩
    rcases List.mem_append.mp hq with h | h
    · exact hS.2.2 q h
    · exact hL' q h
  obtain ⟨t2, a1, b1⟩ := hk _ μ' hQ p e R s m args below meth c T'.heap (locs ++ L') (cells + mc1) (slots + ms1) ls Z C hl (by rw [e1]; exact hM') (by rw [e1]; exact hz') hS' (by omega) (by omega) (by rw [Nat.add_assoc]; exact hE) T' rfl X'
  exact ⟨t2, stp t2 a1, b1⟩
theorem calls_room {d d' n : Nat} {R : Room} (h1 : d ≤ R.frames) (h2 : 34 * d ≤ R.locals) (hd : d' < d) (hn : n ≤ 15) : d' + 1 ≤ R.frames ∧ 8 + (n + 11) + 34 * d' ≤ R.locals := by omega
theorem Rn.callV {pc1 : Nat} {K' : MK} {d' n idx a ci mc1 ms1 : Nat} {As : List Value} {stk : List Value} {r : vw_C} {fs : List Value} {Q' : Option Value → Mm → Prop} (hd : decode K.2.1 pc = .ok (.invokevirtual idx, 3)) (hp : pc + 3 = pc1) (hq : Cond.methodLink K.1.cls idx K'.1 ∈ lwT) (ho : VOk K' n) (hμ : μ a = some (.inr (ci, fs))) (hci : classes[ci]? = some r) (hcn : r.1 = K'.1.cls) (hn : As.length = n) (hst : As.reverse ++ .ref a :: st = stk) (hcat : (st.map fun v => v.category).sum ≤ 8) (hdd : d' < d) (hml : K'.2.2.1 ≤ 15) (hE' : EvA G d' K' (.ref a :: As) μ sz mc1 ms1 Q') (hk : ∀ (r : Option Value) (μ' : Mm), Q' r μ' → Rn G d K pc1 L (r.toList ++ st) μ' (sz + mc1) mc ms Q) : Rn G d K pc L stk μ sz (mc1 + mc) (ms1 + ms) Q := by
  subst hp
  subst hst
  refine Rn.runs (a := (Value.ref a :: As).toArray) (fun p e R s m args below meth c H locs cells slots ls C hl hM hz hlo hc hs => ?_) hk
  have hts := C.1.2.2.2.2
  obtain ⟨⟨b1, b2, b3, b4⟩, b5, b6⟩ := ho
  have hK := C.2.2.1
  obtain ⟨⟨r', hr', cellV, g1, g2, g3, -⟩, -⟩ := hM.2 a _ hμ
  have hcls := (hK.1.1 ci r hci).2
  exact va_runV (C := K'.1.cls) C.1 (hE' hlo) ⟨callB_of n hts (lwG b1) rfl rfl rfl (hts _ b2) (hts _ hq) ⟨b3.1, b3.2.1, b3.2.2⟩ (calls_room C.2.2.2.2.1 C.2.2.2.2.2 hdd hml), hts _ b5, hts _ b6⟩ ⟨PcA.blind, ⟨cellV, g1, by rw [g3]; rfl, by rw [g2, ← hcn]; exact hcls.1⟩, fun U hU hW => PcA.at hK hM hz hU hW⟩ rfl hn hl.2.1 rfl (lv_room hcat) hd ⟨hc, hs⟩
theorem Rn.callS {pc1 : Nat} {K' : MK} {d' n idx mc1 ms1 : Nat} {As : List Value} {stk : List Value} {Q' : Option Value → Mm → Prop} (hd : decode K.2.1 pc = .ok (.invokestatic idx, 3)) (hp : pc + 3 = pc1) (hq : Cond.methodLink K.1.cls idx K'.1 ∈ lwT) (ho : SOk K' n) (hn : As.length = n) (hst : As.reverse ++ st = stk) (hcat : (st.map fun v => v.category).sum ≤ 8) (hdd : d' < d) (hml : K'.2.2.1 ≤ 15) (hE' : EvA G d' K' As μ sz mc1 ms1 Q') (hk : ∀ (r : Option Value) (μ' : Mm), Q' r μ' → Rn G d K pc1 L (r.toList ++ st) μ' (sz + mc1) mc ms Q) : Rn G d K pc L stk μ sz (mc1 + mc) (ms1 + ms) Q := by
  subst hp
  subst hst
  refine Rn.runs (a := As.toArray) (fun p e R s m args below meth c H locs cells slots ls C hl hM hz hlo hc hs => ?_) hk
  have hts := C.1.2.2.2.2
  obtain ⟨⟨b1, b2, b3, b4⟩, b5⟩ := ho
  exact va_runS C.1 (hE' hlo) ⟨callB_of n hts (lwG b1) rfl rfl rfl (hts _ b2) (hts _ hq) ⟨b3.1, b3.2.1, b3.2.2⟩ (calls_room C.2.2.2.2.1 C.2.2.2.2.2 hdd hml), hts _ b5⟩ ⟨PcA.blind, fun U hU hW => PcA.at C.2.2.1 hM hz hU hW⟩ rfl hn hl.2.1 rfl (lv_room hcat) hd ⟨hc, hs⟩
theorem Rn.callSN {pc1 : Nat} {K' : MK} {d' n idx mc1 ms1 : Nat} {host : String} {As : List Value} {stk : List Value} {Q' : Option Value → Mm → Prop} (hd : decode K.2.1 pc = .ok (.invokestatic idx, 3)) (hp : pc + 3 = pc1) (hq : (K.1.cls, idx, K'.1, host) ∈ nestL) (ho : SOk K' n) (hn : As.length = n) (hst : As.reverse ++ st = stk) (hcat : (st.map fun v => v.category).sum ≤ 8) (hdd : d' < d) (hml : K'.2.2.1 ≤ 15) (hE' : EvA G d' K' As μ sz mc1 ms1 Q') (hk : ∀ (r : Option Value) (μ' : Mm), Q' r μ' → Rn G d K pc1 L (r.toList ++ st) μ' (sz + mc1) mc ms Q) : Rn G d K pc L stk μ sz (mc1 + mc) (ms1 + ms) Q := by
  subst hp
  subst hst
  refine Rn.runs (a := As.toArray) (fun p e R s m args below meth c H locs cells slots ls C hl hM hz hlo hc hs => ?_) hk
  have hts := C.1.2.2.2.2
  obtain ⟨⟨b1, b2, b3, b4⟩, b5⟩ := ho
  exact va_runSN C.1 (hE' hlo) ⟨va_cnB n hts (lwG b1) rfl rfl rfl (C.2.2.1.2.1 _ hq) (hts _ b2) ⟨b3.1, b3.2.1, b3.2.2⟩ (calls_room C.2.2.2.2.1 C.2.2.2.2.2 hdd hml), hts _ b5, trivial⟩ ⟨PcA.blind, fun U hU hW => PcA.at C.2.2.1 hM hz hU hW⟩ rfl hn hl.2.1 rfl (lv_room hcat) hd ⟨hc, hs⟩
theorem Rn.callI {pc1 : Nat} {K' : MK} {d' n idx a mc1 ms1 : Nat} {As : List Value} {stk : List Value} {Q' : Option Value → Mm → Prop} (hd : decode K.2.1 pc = .ok (.invokespecial idx, 3)) (hp : pc + 3 = pc1) (hq : Cond.methodLink K.1.cls idx K'.1 ∈ lwT) (hret : K'.2.2.2 = none) (ho : IOk K' n) (hn : As.length = n) (hst : As.reverse ++ .ref a :: st = stk) (hcat : (st.map fun v => v.category).sum ≤ 8) (hdd : d' < d) (hml : K'.2.2.1 ≤ 15) (hE' : EvA G d' K' (.ref a :: As) μ sz mc1 ms1 Q') (hk : ∀ (r : Option Value) (μ' : Mm), Q' r μ' → Rn G d K pc1 L (r.toList ++ st) μ' (sz + mc1) mc ms Q) : Rn G d K pc L stk μ sz (mc1 + mc) (ms1 + ms) Q := by
  subst hp
  subst hst
  refine Rn.runs (a := (Value.ref a :: As).toArray) (fun p e R s m args below meth c H locs cells slots ls C hl hM hz hlo hc hs => ?_) hk
  have hts := C.1.2.2.2.2
  obtain ⟨⟨b1, b2, b3, b4⟩, b5, b6⟩ := ho
  exact va_runI C.1 (hE' hlo) ⟨callB_of n hts (lwG b1) (by rw [hret]) rfl rfl (hts _ b2) (hts _ hq) ⟨b3.1, b3.2.1, b3.2.2⟩ (calls_room C.2.2.2.2.1 C.2.2.2.2.2 hdd hml), b5, hts _ b6⟩ ⟨PcA.blind, fun U hU hW => PcA.at C.2.2.1 hM hz hU hW⟩ rfl hn hl.2.1 rfl (lv_room hcat) hd ⟨hc, hs⟩
theorem Rn.callIN {pc1 : Nat} {K' : MK} {d' n idx a mc1 ms1 : Nat} {host : String} {As : List Value} {stk : List Value} {Q' : Option Value → Mm → Prop} (hd : decode K.2.1 pc = .ok (.invokespecial idx, 3)) (hp : pc + 3 = pc1) (hq : (K.1.cls, idx, K'.1, host) ∈ nestL) (hret : K'.2.2.2 = none) (ho : IOk K' n) (hn : As.length = n) (hst : As.reverse ++ .ref a :: st = stk) (hcat : (st.map fun v => v.category).sum ≤ 8) (hdd : d' < d) (hml : K'.2.2.1 ≤ 15) (hE' : EvA G d' K' (.ref a :: As) μ sz mc1 ms1 Q') (hk : ∀ (r : Option Value) (μ' : Mm), Q' r μ' → Rn G d K pc1 L (r.toList ++ st) μ' (sz + mc1) mc ms Q) : Rn G d K pc L stk μ sz (mc1 + mc) (ms1 + ms) Q := by
  subst hp
  subst hst
  refine Rn.runs (a := (Value.ref a :: As).toArray) (fun p e R s m args below meth c H locs cells slots ls C hl hM hz hlo hc hs => ?_) hk
  have hts := C.1.2.2.2.2
  obtain ⟨⟨b1, b2, b3, b4⟩, b5, b6⟩ := ho
  exact va_runIN C.1 (hE' hlo) ⟨va_cnB n hts (lwG b1) (by rw [hret]) rfl rfl (C.2.2.1.2.1 _ hq) (hts _ b2) ⟨b3.1, b3.2.1, b3.2.2⟩ (calls_room C.2.2.2.2.1 C.2.2.2.2.2 hdd hml), b5, hts _ b6⟩ ⟨PcA.blind, fun U hU hW => PcA.at C.2.2.1 hM hz hU hW⟩ rfl hn hl.2.1 rfl (lv_room hcat) hd ⟨hc, hs⟩
end RULES
end
section
section CALLS
variable {G : GG} {d : Nat} {K : MK} {pc : Nat} {L : List (Option Value)} {st : List Value} {μ : Mm} {sz mc ms : Nat} {Q : Option Value → Mm → Prop}
theorem Rn.cV_i {pc1 : Nat} {K' : MK} {d' n idx : Nat} {As : List Value} {stk : List Value} {Qi : Int32 → Mm → Prop} {a ci : Nat} {r : vw_C} {fs : List Value} (hE : EvA G d' K' (.ref a :: As) μ sz 0 0 (rI Qi)) (hd : decode K.2.1 pc = .ok (.invokevirtual idx, 3)) (hp : pc + 3 = pc1) (hq : Cond.methodLink K.1.cls idx K'.1 ∈ lwT) (ho : VOk K' n) (hμ : μ a = some (.inr (ci, fs))) (hci : classes[ci]? = some r) (hcn : r.1 = K'.1.cls) (hn : As.length = n) (hst : As.reverse ++ .ref a :: st = stk) (hcat : (st.map fun v => v.category).sum ≤ 8) (hdd : d' < d) (hml : K'.2.2.1 ≤ 15) (hk : ∀ (v : Int32) (μ' : Mm), Qi v μ' → Rn G d K pc1 L (.int v :: st) μ' sz mc ms Q) : Rn G d K pc L stk μ sz mc ms Q := by
  subst hp
  rw [show mc = 0 + mc from (Nat.zero_add mc).symm, show ms = 0 + ms from (Nat.zero_add ms).symm]
  refine Rn.callV hd rfl hq ho hμ hci hcn hn hst hcat hdd hml hE ?_
  rintro r μ' ⟨v, rfl, hv⟩
  exact hk v μ' hv
theorem Rn.cS_i {pc1 : Nat} {K' : MK} {d' n idx : Nat} {As : List Value} {stk : List Value} {Qi : Int32 → Mm → Prop} (hE : EvA G d' K' As μ sz 0 0 (rI Qi)) (hd : decode K.2.1 pc = .ok (.invokestatic idx, 3)) (hp : pc + 3 = pc1) (hq : Cond.methodLink K.1.cls idx K'.1 ∈ lwT) (ho : SOk K' n) (hn : As.length = n) (hst : As.reverse ++ st = stk) (hcat : (st.map fun v => v.category).sum ≤ 8) (hdd : d' < d) (hml : K'.2.2.1 ≤ 15) (hk : ∀ (v : Int32) (μ' : Mm), Qi v μ' → Rn G d K pc1 L (.int v :: st) μ' sz mc ms Q) : Rn G d K pc L stk μ sz mc ms Q := by
  subst hp
  rw [show mc = 0 + mc from (Nat.zero_add mc).symm, show ms = 0 + ms from (Nat.zero_add ms).symm]
  refine Rn.callS hd rfl hq ho hn hst hcat hdd hml hE ?_
  rintro r μ' ⟨v, rfl, hv⟩
  exact hk v μ' hv
theorem Rn.cN_i {pc1 : Nat} {K' : MK} {d' n idx : Nat} {As : List Value} {stk : List Value} {Qi : Int32 → Mm → Prop} {host : String} (hE : EvA G d' K' As μ sz 0 0 (rI Qi)) (hd : decode K.2.1 pc = .ok (.invokestatic idx, 3)) (hp : pc + 3 = pc1) (hq : (K.1.cls, idx, K'.1, host) ∈ nestL) (ho : SOk K' n) (hn : As.length = n) (hst : As.reverse ++ st = stk) (hcat : (st.map fun v => v.category).sum ≤ 8) (hdd : d' < d) (hml : K'.2.2.1 ≤ 15) (hk : ∀ (v : Int32) (μ' : Mm), Qi v μ' → Rn G d K pc1 L (.int v :: st) μ' sz mc ms Q) : Rn G d K pc L stk μ sz mc ms Q := by
  subst hp
  rw [show mc = 0 + mc from (Nat.zero_add mc).symm, show ms = 0 + ms from (Nat.zero_add ms).symm]
  refine Rn.callSN hd rfl hq ho hn hst hcat hdd hml hE ?_
  rintro r μ' ⟨v, rfl, hv⟩
  exact hk v μ' hv
theorem Rn.cV_v {pc1 : Nat} {K' : MK} {d' n idx : Nat} {As : List Value} {stk : List Value} {Qi : Mm → Prop} {a ci : Nat} {r : vw_C} {fs : List Value} (hE : EvA G d' K' (.ref a :: As) μ sz 0 0 (rV Qi)) (hd : decode K.2.1 pc = .ok (.invokevirtual idx, 3)) (hp : pc + 3 = pc1) (hq : Cond.methodLink K.1.cls idx K'.1 ∈ lwT) (ho : VOk K' n) (hμ : μ a = some (.inr (ci, fs))) (hci : classes[ci]? = some r) (hcn : r.1 = K'.1.cls) (hn : As.length = n) (hst : As.reverse ++ .ref a :: st = stk) (hcat : (st.map fun v => v.category).sum ≤ 8) (hdd : d' < d) (hml : K'.2.2.1 ≤ 15) (hk : ∀ (μ' : Mm), Qi μ' → Rn G d K pc1 L st μ' sz mc ms Q) : Rn G d K pc L stk μ sz mc ms Q := by
  subst hp
  rw [show mc = 0 + mc from (Nat.zero_add mc).symm, show ms = 0 + ms from (Nat.zero_add ms).symm]
  refine Rn.callV hd rfl hq ho hμ hci hcn hn hst hcat hdd hml hE ?_
  rintro r μ' ⟨rfl, hv⟩
  exact hk μ' hv
theorem Rn.cS_v {pc1 : Nat} {K' : MK} {d' n idx : Nat} {As : List Value} {stk : List Value} {Qi : Mm → Prop} (hE : EvA G d' K' As μ sz 0 0 (rV Qi)) (hd : decode K.2.1 pc = .ok (.invokestatic idx, 3)) (hp : pc + 3 = pc1) (hq : Cond.methodLink K.1.cls idx K'.1 ∈ lwT) (ho : SOk K' n) (hn : As.length = n) (hst : As.reverse ++ st = stk) (hcat : (st.map fun v => v.category).sum ≤ 8) (hdd : d' < d) (hml : K'.2.2.1 ≤ 15) (hk : ∀ (μ' : Mm), Qi μ' → Rn G d K pc1 L st μ' sz mc ms Q) : Rn G d K pc L stk μ sz mc ms Q := by
  subst hp
  rw [show mc = 0 + mc from (Nat.zero_add mc).symm, show ms = 0 + ms from (Nat.zero_add ms).symm]
  refine Rn.callS hd rfl hq ho hn hst hcat hdd hml hE ?_
  rintro r μ' ⟨rfl, hv⟩
  exact hk μ' hv
theorem Rn.cN_v {pc1 : Nat} {K' : MK} {d' n idx : Nat} {As : List Value} {stk : List Value} {Qi : Mm → Prop} {host : String} (hE : EvA G d' K' As μ sz 0 0 (rV Qi)) (hd : decode K.2.1 pc = .ok (.invokestatic idx, 3)) (hp : pc + 3 = pc1) (hq : (K.1.cls, idx, K'.1, host) ∈ nestL) (ho : SOk K' n) (hn : As.length = n) (hst : As.reverse ++ st = stk) (hcat : (st.map fun v => v.category).sum ≤ 8) (hdd : d' < d) (hml : K'.2.2.1 ≤ 15) (hk : ∀ (μ' : Mm), Qi μ' → Rn G d K pc1 L st μ' sz mc ms Q) : Rn G d K pc L stk μ sz mc ms Q := by
  subst hp
  rw [show mc = 0 + mc from (Nat.zero_add mc).symm, show ms = 0 + ms from (Nat.zero_add ms).symm]
  refine Rn.callSN hd rfl hq ho hn hst hcat hdd hml hE ?_
  rintro r μ' ⟨rfl, hv⟩
  exact hk μ' hv
theorem Rn.cV_r {pc1 : Nat} {K' : MK} {d' n idx : Nat} {As : List Value} {stk : List Value} {Qi : Option Nat → Mm → Prop} {a ci : Nat} {r : vw_C} {fs : List Value} (hE : EvA G d' K' (.ref a :: As) μ sz 0 0 (rR Qi)) (hd : decode K.2.1 pc = .ok (.invokevirtual idx, 3)) (hp : pc + 3 = pc1) (hq : Cond.methodLink K.1.cls idx K'.1 ∈ lwT) (ho : VOk K' n) (hμ : μ a = some (.inr (ci, fs))) (hci : classes[ci]? = some r) (hcn : r.1 = K'.1.cls) (hn : As.length = n) (hst : As.reverse ++ .ref a :: st = stk) (hcat : (st.map fun v => v.category).sum ≤ 8) (hdd : d' < d) (hml : K'.2.2.1 ≤ 15) (hk : ∀ (v : Option Nat) (μ' : Mm), Qi v μ' → Rn G d K pc1 L (va_rf v :: st) μ' sz mc ms Q) : Rn G d K pc L stk μ sz mc ms Q := by
  subst hp
  rw [show mc = 0 + mc from (Nat.zero_add mc).symm, show ms = 0 + ms from (Nat.zero_add ms).symm]
  refine Rn.callV hd rfl hq ho hμ hci hcn hn hst hcat hdd hml hE ?_
  rintro r μ' ⟨v, rfl, hv⟩
  exact hk v μ' hv
theorem Rn.cS_r {pc1 : Nat} {K' : MK} {d' n idx : Nat} {As : List Value} {stk : List Value} {Qi : Option Nat → Mm → Prop} (hE : EvA G d' K' As μ sz 0 0 (rR Qi)) (hd : decode K.2.1 pc = .ok (.invokestatic idx, 3)) (hp : pc + 3 = pc1) (hq : Cond.methodLink K.1.cls idx K'.1 ∈ lwT) (ho : SOk K' n) (hn : As.length = n) (hst : As.reverse ++ st = stk) (hcat : (st.map fun v => v.category).sum ≤ 8) (hdd : d' < d) (hml : K'.2.2.1 ≤ 15) (hk : ∀ (v : Option Nat) (μ' : Mm), Qi v μ' → Rn G d K pc1 L (va_rf v :: st) μ' sz mc ms Q) : Rn G d K pc L stk μ sz mc ms Q := by
  subst hp
  rw [show mc = 0 + mc from (Nat.zero_add mc).symm, show ms = 0 + ms from (Nat.zero_add ms).symm]
  refine Rn.callS hd rfl hq ho hn hst hcat hdd hml hE ?_
  rintro r μ' ⟨v, rfl, hv⟩
  exact hk v μ' hv
theorem Rn.cN_r {pc1 : Nat} {K' : MK} {d' n idx : Nat} {As : List Value} {stk : List Value} {Qi : Option Nat → Mm → Prop} {host : String} (hE : EvA G d' K' As μ sz 0 0 (rR Qi)) (hd : decode K.2.1 pc = .ok (.invokestatic idx, 3)) (hp : pc + 3 = pc1) (hq : (K.1.cls, idx, K'.1, host) ∈ nestL) (ho : SOk K' n) (hn : As.length = n) (hst : As.reverse ++ st = stk) (hcat : (st.map fun v => v.category).sum ≤ 8) (hdd : d' < d) (hml : K'.2.2.1 ≤ 15) (hk : ∀ (v : Option Nat) (μ' : Mm), Qi v μ' → Rn G d K pc1 L (va_rf v :: st) μ' sz mc ms Q) : Rn G d K pc L stk μ sz mc ms Q := by
  subst hp
  rw [show mc = 0 + mc from (Nat.zero_add mc).symm, show ms = 0 + ms from (Nat.zero_add ms).symm]
  refine Rn.callSN hd rfl hq ho hn hst hcat hdd hml hE ?_
  rintro r μ' ⟨v, rfl, hv⟩
  exact hk v μ' hv
theorem Rn.cI {pc1 : Nat} {K' : MK} {d' n idx mc1 ms1 mc0 ms0 a : Nat} {host : String} {As : List Value} {stk : List Value} {Qi : Mm → Prop} (hE : EvA G d' K' (.ref a :: As) μ sz mc1 ms1 (rV Qi)) (hd : decode K.2.1 pc = .ok (.invokespecial idx, 3)) (hp : pc + 3 = pc1) (hq : Cond.methodLink K.1.cls idx K'.1 ∈ lwT) (hret : K'.2.2.2 = none) (ho : IOk K' n) (hn : As.length = n) (hst : As.reverse ++ .ref a :: st = stk) (hcat : (st.map fun v => v.category).sum ≤ 8) (hdd : d' < d) (hml : K'.2.2.1 ≤ 15) (hm : mc0 = mc1 + mc) (hs : ms0 = ms1 + ms) (hk : ∀ (μ' : Mm), Qi μ' → Rn G d K pc1 L st μ' (sz + mc1) mc ms Q) : Rn G d K pc L stk μ sz mc0 ms0 Q := by
  subst hp
  subst hm
  subst hs
  refine Rn.callI hd rfl hq hret ho hn hst hcat hdd hml hE ?_
  rintro r μ' ⟨rfl, hv⟩
  exact hk μ' hv
theorem Rn.cJ {pc1 : Nat} {K' : MK} {d' n idx mc1 ms1 mc0 ms0 a : Nat} {host : String} {As : List Value} {stk : List Value} {Qi : Mm → Prop} (hE : EvA G d' K' (.ref a :: As) μ sz mc1 ms1 (rV Qi)) (hd : decode K.2.1 pc = .ok (.invokespecial idx, 3)) (hp : pc + 3 = pc1) (hq : (K.1.cls, idx, K'.1, host) ∈ nestL) (hret : K'.2.2.2 = none) (ho : IOk K' n) (hn : As.length = n) (hst : As.reverse ++ .ref a :: st = stk) (hcat : (st.map fun v => v.category).sum ≤ 8) (hdd : d' < d) (hml : K'.2.2.1 ≤ 15) (hm : mc0 = mc1 + mc) (hs : ms0 = ms1 + ms) (hk : ∀ (μ' : Mm), Qi μ' → Rn G d K pc1 L st μ' (sz + mc1) mc ms Q) : Rn G d K pc L stk μ sz mc0 ms0 Q := by
  subst hp
  subst hm
  subst hs
  refine Rn.callIN hd rfl hq hret ho hn hst hcat hdd hml hE ?_
  rintro r μ' ⟨rfl, hv⟩
  exact hk μ' hv
end CALLS
theorem nI_mul (a b : Nat) : nI a * nI b = nI (a * b) := (Int32.ofNat_mul a b).symm
theorem nI_sub {a b : Nat} (h : b ≤ a) : nI a - nI b = nI (a - b) := by
  obtain ⟨c, rfl⟩ := Nat.le.dest h
  rw [← nI_add, Nat.add_sub_cancel_left, Int32.add_comm, Int32.add_sub_cancel]
theorem nI_z : (0 : Int32) = nI 0 := rfl
theorem vp_nI {i : Int32} {j n : Nat} (hi : i = nI j) (hj : j < n) (hn : n < 2 ^ 31) : vp_in i n := by rw [hi]; exact vp_in_nI hj hn
theorem gI {α : Type} {f : Nat → α} {i : Int32} {j : Nat} (hi : i = nI j) (hj : j < 2 ^ 31) : f i.toNatClampNeg = f j := by rw [hi, nI_clamp hj]
theorem updI {f : Nat → Int32} {i x : Int32} {j : Nat} (hi : i = nI j) (hj : j < 2 ^ 31) : upd f i.toNatClampNeg x = upd f j x := by rw [hi, nI_clamp hj]
theorem mget_ne {μ : Mm} {a b : Nat} {c : Cl} {x : Option Cl} (h : b ≠ a) (h2 : μ b = x) : mset μ a c b = x := (mset_ne h).trans h2
/-- nothing outside a stretch has changed -/
def Fr (a b : Nat) (μ μ' : Mm) : Prop := ∀ q, q < a ∨ b ≤ q → μ' q = μ q
theorem Fr.rf {a b : Nat} {μ : Mm} : Fr a b μ μ := fun _ _ => rfl
theorem Fr.trans {a b : Nat} {μ μ1 μ2 : Mm} (h : Fr a b μ μ1) (h2 : Fr a b μ1 μ2) : Fr a b μ μ2 := fun q hq => (h2 q hq).trans (h q hq)
theorem Fr.wide {a b a' b' : Nat} {μ μ' : Mm} (h : Fr a b μ μ') (h1 : a' ≤ a) (h2 : b ≤ b') : Fr a' b' μ μ' := fun q hq => h q (by omega)
theorem Fr.set {a b q : Nat} {μ : Mm} {c : Cl} (h1 : a ≤ q) (h2 : q < b) : Fr a b μ (mset μ q c) := fun x hx => mset_ne (by omega)
abbrev ints (n : Nat) (f : Nat → Int32) : Cl := .inl (0, n, .inl f)
abbrev bools (n : Nat) (f : Nat → Int32) : Cl := .inl (1, n, .inl f)
abbrev refs (t n : Nat) (f : Nat → Option Nat) : Cl := .inl (t, n, .inr (.inr (.inr (.inr f))))
abbrev obj (ci : Nat) (fs : List Value) : Cl := .inr (ci, fs)
/-- a truth value as an int -/
def bI (b : Bool) : Int32 := if b then 1 else 0
theorem bI_t : bI true = nI 1 := rfl
theorem bI_f : bI false = nI 0 := rfl
theorem bI_nar (b : Bool) : narrow .boolean (.int (bI b)) = .int (bI b) := by cases b <;> rfl
theorem bI_0 {b : Bool} (h : bI b = nI 0) : b = false := by cases b <;> first | rfl | exact absurd h (by decide)
theorem bI_n {b : Bool} (h : ¬ bI b = nI 0) : b = true := by cases b <;> first | rfl | exact absurd rfl h
def cpy (n : Nat) (f g : Nat → Int32) : Nat → Int32 := fun j => if j < n then f j else g j
theorem cpy_0 (f g : Nat → Int32) : cpy 0 f g = g := funext fun j => if_neg (by omega)
theorem cpy_upd (n : Nat) (f g : Nat → Int32) : upd (cpy n f g) n (f n) = cpy (n + 1) f g := by
  funext j
  unfold upd cpy
  by_cases h1 : j = n
  · subst h1; rw [if_pos rfl, if_pos (by omega)]
  · rw [if_neg h1]
    by_cases h2 : j < n
    · rw [if_pos h2, if_pos (by omega)]
    · rw [if_neg h2, if_neg (by omega)]
theorem cpy_lt {n j : Nat} {f g : Nat → Int32} (h : j < n) : cpy n f g j = f j := if_pos h
end
section
/-! ===== the small questions, rows of numbers, Values ===== -/
def inB (v lo hi : Int32) : Bool := decide (lo ≤ v) && decide (v ≤ hi)
theorem i32_nlt {x y : Int32} : ¬ x < y ↔ y ≤ x := by rw [Int32.lt_iff_toInt_lt, Int32.le_iff_toInt_le]; omega
theorem i32_nle {x y : Int32} : ¬ x ≤ y ↔ y < x := by rw [Int32.lt_iff_toInt_lt, Int32.le_iff_toInt_le]; omega
theorem inB_t {v lo hi : Int32} (h1 : ¬ v < lo) (h2 : ¬ hi < v) : inB v lo hi = true := by
  unfold inB
  rw [decide_eq_true (i32_nlt.mp h1), decide_eq_true (i32_nlt.mp h2)]; rfl
theorem inB_lo {v lo hi : Int32} (h1 : v < lo) : inB v lo hi = false := by
  unfold inB
  rw [decide_eq_false (i32_nle.mpr h1)]; rfl
theorem inB_hi {v lo hi : Int32} (h1 : hi < v) : inB v lo hi = false := by
  unfold inB
  rw [decide_eq_false (i32_nle.mpr h1), Bool.and_false]
theorem inB_nI {v : Int32} {n : Nat} (hn : n < 2 ^ 31) (h : inB v (nI 0) (nI n) = true) : ∃ j, j ≤ n ∧ v = nI j := by
  unfold inB at h
  rw [Bool.and_eq_true, decide_eq_true_eq, decide_eq_true_eq] at h
  obtain ⟨j, hj, rfl⟩ := nI_of (x := v) (i32_nlt.mpr h.1)
  exact ⟨j, (nI_leI hj hn).mp h.2, rfl⟩
theorem inB_of {j n : Nat} (hj : j ≤ n) (hn : n < 2 ^ 31) : inB (nI j) (nI 0) (nI n) = true := inB_t (nI_nlt (by omega) (by omega)) (nI_nlt hj hn)
theorem i32_lt12 {i : Int32} : nI 12 ≤ i ↔ nI 11 < i := by
  rw [Int32.lt_iff_toInt_lt, Int32.le_iff_toInt_le, nI_toInt (by decide), nI_toInt (by decide)]
  omega
def lateB (p f : Int32) : Bool := decide (nI 0 < p) && decide (p < f)
section LEAF
variable {G : GG} {μ : Mm} {sz : Nat}
theorem eX8_at {a n j : Nat} {i : Int32} {f : Nat → Int32} (h : μ a = some (ints n f)) (hi : i = nI j) (hj : j < n) (hn : n < 2 ^ 31) : EvA G 0 kX8_at [.ref a, .int i] μ sz 0 0 (rI fun v μ' => v = f j ∧ μ' = μ) := by
  refine EvA.of (L := [some (.ref a), some (.int i)]) (by decide +kernel) (Nat.le_of_ble_eq_true rfl) rfl ?_
  refine Rn.iload_n (pc1 := 1)  dX8_at_0 rfl rfl rfl ?_
  refine Rn.if_lt (pc1 := 4) 10 dX8_at_1 rfl (by decide) (fun c1 => ?_) (fun c1 => ?_)
  · exact absurd c1 (by rw [hi]; exact nI_nlt (Nat.zero_le _) (by omega))
  · refine Rn.iload_n (pc1 := 5)  dX8_at_4 rfl rfl rfl ?_
    refine Rn.aload_n (pc1 := 6)  dX8_at_5 rfl rfl rfl ?_
    refine Rn.alen (pc1 := 7) (v := nI n)  dX8_at_6 rfl (by first | assumption | exact mset_same | exact mget_ne (by omega) (by assumption)) (fun _ => rfl) rfl ?_
    refine Rn.icmp_lt (pc1 := 10) 12 dX8_at_7 rfl (by decide) (fun c7 => ?_) (fun c7 => ?_)
    · refine Rn.aload_n (pc1 := 13)  dX8_at_12 rfl rfl rfl ?_
      refine Rn.iload_n (pc1 := 14)  dX8_at_13 rfl rfl rfl ?_
      refine Rn.iaload (pc1 := 15)  dX8_at_14 rfl (by assumption) (vp_nI hi hj hn) (gI hi (by omega)) ?_
      exact Rn.ireturn dX8_at_15 rfl rfl ⟨_, rfl, rfl, rfl⟩
    · exact absurd (by rw [hi]; exact nI_lt hj hn) c7
theorem eX8_layAt {a n j : Nat} {i x : Int32} {f : Nat → Int32} (h : μ a = some (ints n f)) (hi : i = nI j) (hj : j < n) (hn : n < 2 ^ 31) : EvA G 0 kX8_layAt [.ref a, .int i, .int x] μ sz 0 0 (rV fun μ' => μ' = mset μ a (ints n (upd f j x))) := by
  refine EvA.of (L := [some (.ref a), some (.int i), some (.int x)]) (by decide +kernel) (Nat.le_of_ble_eq_true rfl) rfl ?_
  refine Rn.iload_n (pc1 := 1)  dX8_layAt_0 rfl rfl rfl ?_
  refine Rn.if_lt (pc1 := 4) 14 dX8_layAt_1 rfl (by decide) (fun c1 => ?_) (fun c1 => ?_)
  · exact absurd c1 (by rw [hi]; exact nI_nlt (Nat.zero_le _) (by omega))
  · refine Rn.iload_n (pc1 := 5)  dX8_layAt_4 rfl rfl rfl ?_
    refine Rn.aload_n (pc1 := 6)  dX8_layAt_5 rfl rfl rfl ?_
    refine Rn.alen (pc1 := 7) (v := nI n)  dX8_layAt_6 rfl (by first | assumption | exact mset_same | exact mget_ne (by omega) (by assumption)) (fun _ => rfl) rfl ?_
    refine Rn.icmp_ge (pc1 := 10) 14 dX8_layAt_7 rfl (by decide) (fun c7 => ?_) (fun c7 => ?_)
    · exact absurd c7 (by rw [hi]; exact nI_ge hj hn)
    · refine Rn.aload_n (pc1 := 11)  dX8_layAt_10 rfl rfl rfl ?_
      refine Rn.iload_n (pc1 := 12)  dX8_layAt_11 rfl rfl rfl ?_
      refine Rn.iload_n (pc1 := 13)  dX8_layAt_12 rfl rfl rfl ?_
      refine Rn.iastore (pc1 := 14)  dX8_layAt_13 rfl (by assumption) (vp_nI hi hj hn) (updI hi (by omega)) ?_
      exact Rn.vreturn dX8_layAt_14 rfl ⟨rfl, rfl⟩
theorem eX8_copyRow {a b n : Nat} {f g : Nat → Int32} (ha : μ a = some (ints n f)) (hb : μ b = some (ints n g)) (hab : a ≠ b) (hn : n < 2 ^ 31) : EvA G 0 kX8_copyRow [.ref a, .ref b] μ sz 0 0 (rV fun μ' => μ' = mset μ b (ints n (cpy n f g))) := by
  refine EvA.of (L := [some (.ref a), some (.ref b), none]) (by decide +kernel) (Nat.le_of_ble_eq_true rfl) rfl ?_
  have loop : ∀ (m j : Nat), j + m = n → Rn G 0 kX8_copyRow 2 [some (.ref a), some (.ref b), some (.int (nI j))] [] (mset μ b (ints n (cpy j f g))) sz 0 0 (rV fun μ' => μ' = mset μ b (ints n (cpy n f g))) := by
    intro m
    induction m with
    | zero =>
      intro j hj
      obtain rfl : j = n := by omega
      have ha' : mset μ b (ints j (cpy j f g)) a = some (ints j f) := mget_ne hab ha
      refine Rn.iload_n (pc1 := 3)  dX8_copyRow_2 rfl rfl rfl ?_
      refine Rn.aload_n (pc1 := 4)  dX8_copyRow_3 rfl rfl rfl ?_
      refine Rn.alen (pc1 := 5) (v := nI j)  dX8_copyRow_4 rfl (by first | assumption | exact mset_same | exact mget_ne (by omega) (by assumption)) (fun _ => rfl) rfl ?_
      refine Rn.icmp_ge (pc1 := 8) 26 dX8_copyRow_5 rfl (by decide) (fun c5 => ?_) (fun c5 => ?_)
      · exact Rn.vreturn dX8_copyRow_26 rfl ⟨rfl, rfl⟩
      · exact absurd (nI_le (Nat.le_refl j) hn) c5
    | succ m ih =>
      intro j hj
      have ha' : mset μ b (ints n (cpy j f g)) a = some (ints n f) := mget_ne hab ha
      refine Rn.iload_n (pc1 := 3)  dX8_copyRow_2 rfl rfl rfl ?_
      refine Rn.aload_n (pc1 := 4)  dX8_copyRow_3 rfl rfl rfl ?_
      refine Rn.alen (pc1 := 5) (v := nI n)  dX8_copyRow_4 rfl (by first | assumption | exact mset_same | exact mget_ne (by omega) (by assumption)) (fun _ => rfl) rfl ?_
      refine Rn.icmp_ge (pc1 := 8) 26 dX8_copyRow_5 rfl (by decide) (fun c5 => ?_) (fun c5 => ?_)
      · exact absurd c5 (nI_ge (by omega) hn)
      · refine Rn.iload_n (pc1 := 9)  dX8_copyRow_8 rfl rfl rfl ?_
        refine Rn.aload_n (pc1 := 10)  dX8_copyRow_9 rfl rfl rfl ?_
        refine Rn.alen (pc1 := 11) (v := nI n)  dX8_copyRow_10 rfl (by first | assumption | exact mset_same | exact mget_ne (by omega) (by assumption)) (fun _ => rfl) rfl ?_
        refine Rn.icmp_ge (pc1 := 14) 26 dX8_copyRow_11 rfl (by decide) (fun c11 => ?_) (fun c11 => ?_)
        · exact absurd c11 (nI_ge (by omega) hn)
        · refine Rn.aload_n (pc1 := 15)  dX8_copyRow_14 rfl rfl rfl ?_
          refine Rn.iload_n (pc1 := 16)  dX8_copyRow_15 rfl rfl rfl ?_
          refine Rn.aload_n (pc1 := 17)  dX8_copyRow_16 rfl rfl rfl ?_
          refine Rn.iload_n (pc1 := 18)  dX8_copyRow_17 rfl rfl rfl ?_
          refine Rn.iaload (pc1 := 19)  dX8_copyRow_18 rfl (by assumption) (vp_nI rfl (by omega) hn) (gI rfl (by omega)) ?_
          refine Rn.iastore (pc1 := 20)  dX8_copyRow_19 rfl mset_same (vp_nI rfl (by omega) hn) (updI rfl (by omega)) ?_
          rw [mset_mset, cpy_upd]
          refine Rn.iinc (pc1 := 23)  dX8_copyRow_20 rfl rfl (nI_1 j) (by decide) rfl rfl ?_
          refine Rn.goto 2 dX8_copyRow_23 (by decide) ?_
          exact ih (j + 1) (by omega)
  refine Rn.iconst (pc1 := 1) (v := nI 0) dX8_copyRow_0 rfl (by decide) ?_
  refine Rn.istore_n (pc1 := 2)  dX8_copyRow_1 rfl rfl (by decide) rfl rfl ?_
  have := loop n 0 (by omega); rw [cpy_0, mset_id hb] at this; exact this
theorem eX8_isKey {i : Int32} : EvA G 0 kX8_isKey [.int i] μ sz 0 0 (rI fun v μ' => v = bI (inB i (nI 0) (nI 11)) ∧ μ' = μ) := by
  refine EvA.of (L := [some (.int i)]) (by decide +kernel) (Nat.le_of_ble_eq_true rfl) rfl ?_
  refine Rn.iload_n (pc1 := 1)  dX8_isKey_0 rfl rfl rfl ?_
  refine Rn.if_lt (pc1 := 4) 14 dX8_isKey_1 rfl (by decide) (fun c1 => ?_) (fun c1 => ?_)
  · rw [inB_lo c1]
    refine Rn.iconst (pc1 := 15) (v := nI 0) dX8_isKey_14 rfl (by decide) ?_
    exact Rn.ireturn dX8_isKey_15 rfl rfl ⟨_, rfl, rfl, rfl⟩
  · refine Rn.iload_n (pc1 := 5)  dX8_isKey_4 rfl rfl rfl ?_
    refine Rn.bipush (pc1 := 7) (v := nI 12) dX8_isKey_5 rfl (by decide) ?_
    refine Rn.icmp_ge (pc1 := 10) 14 dX8_isKey_7 rfl (by decide) (fun c7 => ?_) (fun c7 => ?_)
    · rw [inB_hi (i32_lt12.mp c7)]
      refine Rn.iconst (pc1 := 15) (v := nI 0) dX8_isKey_14 rfl (by decide) ?_
      exact Rn.ireturn dX8_isKey_15 rfl rfl ⟨_, rfl, rfl, rfl⟩
    · rw [inB_t c1 (fun q => c7 (i32_lt12.mpr q))]
      refine Rn.iconst (pc1 := 11) (v := nI 1) dX8_isKey_10 rfl (by decide) ?_
      refine Rn.goto 15 dX8_isKey_11 (by decide) ?_
      exact Rn.ireturn dX8_isKey_15 rfl rfl ⟨_, rfl, rfl, rfl⟩
theorem eX8_isNumber {i : Int32} : EvA G 0 kX8_isNumber [.int i] μ sz 0 0 (rI fun v μ' => v = bI (inB i (nI 0) (nI 999)) ∧ μ' = μ) := by
  refine EvA.of (L := [some (.int i)]) (by decide +kernel) (Nat.le_of_ble_eq_true rfl) rfl ?_
  refine Rn.iload_n (pc1 := 1)  dX8_isNumber_0 rfl rfl rfl ?_
  refine Rn.if_lt (pc1 := 4) 15 dX8_isNumber_1 rfl (by decide) (fun c1 => ?_) (fun c1 => ?_)
  · rw [inB_lo c1]
    refine Rn.iconst (pc1 := 16) (v := nI 0) dX8_isNumber_15 rfl (by decide) ?_
    exact Rn.ireturn dX8_isNumber_16 rfl rfl ⟨_, rfl, rfl, rfl⟩
  · refine Rn.iload_n (pc1 := 5)  dX8_isNumber_4 rfl rfl rfl ?_
    refine Rn.sipush (pc1 := 8) (v := nI 999) dX8_isNumber_5 rfl (by decide) ?_
    refine Rn.icmp_gt (pc1 := 11) 15 dX8_isNumber_8 rfl (by decide) (fun c8 => ?_) (fun c8 => ?_)
    · rw [inB_hi c8]
      refine Rn.iconst (pc1 := 16) (v := nI 0) dX8_isNumber_15 rfl (by decide) ?_
      exact Rn.ireturn dX8_isNumber_16 rfl rfl ⟨_, rfl, rfl, rfl⟩
    · rw [inB_t c1 c8]
      refine Rn.iconst (pc1 := 12) (v := nI 1) dX8_isNumber_11 rfl (by decide) ?_
      refine Rn.goto 16 dX8_isNumber_12 (by decide) ?_
      exact Rn.ireturn dX8_isNumber_16 rfl rfl ⟨_, rfl, rfl, rfl⟩
theorem eX8_isLate {i x : Int32} : EvA G 0 kX8_isLate [.int i, .int x] μ sz 0 0 (rI fun v μ' => v = bI (lateB i x) ∧ μ' = μ) := by
  refine EvA.of (L := [some (.int i), some (.int x)]) (by decide +kernel) (Nat.le_of_ble_eq_true rfl) rfl ?_
  refine Rn.iload_n (pc1 := 1)  dX8_isLate_0 rfl rfl rfl ?_
  refine Rn.if_le (pc1 := 4) 13 dX8_isLate_1 rfl (by decide) (fun c1 => ?_) (fun c1 => ?_)
  · rw [show lateB i x = false by unfold lateB; rw [decide_eq_false (i32_nlt.mpr c1)]; rfl]
    refine Rn.iconst (pc1 := 14) (v := nI 0) dX8_isLate_13 rfl (by decide) ?_
    exact Rn.ireturn dX8_isLate_14 rfl rfl ⟨_, rfl, rfl, rfl⟩
  · refine Rn.iload_n (pc1 := 5)  dX8_isLate_4 rfl rfl rfl ?_
    refine Rn.iload_n (pc1 := 6)  dX8_isLate_5 rfl rfl rfl ?_
    refine Rn.icmp_ge (pc1 := 9) 13 dX8_isLate_6 rfl (by decide) (fun c6 => ?_) (fun c6 => ?_)
    · rw [show lateB i x = false by unfold lateB; rw [decide_eq_false (i32_nlt.mpr c6), Bool.and_false]]
      refine Rn.iconst (pc1 := 14) (v := nI 0) dX8_isLate_13 rfl (by decide) ?_
      exact Rn.ireturn dX8_isLate_14 rfl rfl ⟨_, rfl, rfl, rfl⟩
    · rw [show lateB i x = true by unfold lateB; rw [decide_eq_true (i32_nle.mp c1), decide_eq_true (i32_nle.mp c6)]; rfl]
      refine Rn.iconst (pc1 := 10) (v := nI 1) dX8_isLate_9 rfl (by decide) ?_
      refine Rn.goto 14 dX8_isLate_10 (by decide) ?_
      exact Rn.ireturn dX8_isLate_14 rfl rfl ⟨_, rfl, rfl, rfl⟩
theorem eX8_oneIf {b : Bool} : EvA G 0 kX8_oneIf [.int (bI b)] μ sz 0 0 (rI fun v μ' => v = bI b ∧ μ' = μ) := by
  refine EvA.of (L := [some (.int (bI b))]) (by decide +kernel) (Nat.le_of_ble_eq_true rfl) rfl ?_
  cases b
  · refine Rn.iload_n (pc1 := 1)  dX8_oneIf_0 rfl rfl rfl ?_
    refine Rn.if_eq (pc1 := 4) 8 dX8_oneIf_1 rfl (by decide) (fun c1 => ?_) (fun c1 => ?_)
    · refine Rn.iconst (pc1 := 9) (v := nI 0) dX8_oneIf_8 rfl (by decide) ?_
      exact Rn.ireturn dX8_oneIf_9 rfl rfl ⟨_, rfl, rfl, rfl⟩
    · exact absurd rfl c1
  · refine Rn.iload_n (pc1 := 1)  dX8_oneIf_0 rfl rfl rfl ?_
    refine Rn.if_eq (pc1 := 4) 8 dX8_oneIf_1 rfl (by decide) (fun c1 => ?_) (fun c1 => ?_)
    · exact absurd c1 (by decide)
    · refine Rn.iconst (pc1 := 5) (v := nI 1) dX8_oneIf_4 rfl (by decide) ?_
      refine Rn.goto 9 dX8_oneIf_5 (by decide) ?_
      exact Rn.ireturn dX8_oneIf_9 rfl rfl ⟨_, rfl, rfl, rfl⟩
/-- a Values object and its row: what it holds for the keys -/
def VA (μ : Mm) (a : Nat) (f : Nat → Int32) : Prop := μ a = some (obj 7 [.ref (a + 1)]) ∧ ∃ g, μ (a + 1) = some (ints 12 g) ∧ ∀ j, j < 12 → g j = f j
theorem VA.fr {μ' : Mm} {a x y : Nat} {f : Nat → Int32} (h : VA μ a f) (hF : Fr x y μ μ') (hd : a + 2 ≤ x ∨ y ≤ a) : VA μ' a f := by
  obtain ⟨h1, g, h2, h3⟩ := h
  exact ⟨(hF a (by omega)).trans h1, g, (hF (a + 1) (by omega)).trans h2, h3⟩
theorem VA.to {a : Nat} {f f' : Nat → Int32} (h : VA μ a f) (hf : ∀ j, j < 12 → f j = f' j) : VA μ a f' := by
  obtain ⟨h1, g, h2, h3⟩ := h
  exact ⟨h1, g, h2, fun j hj => (h3 j hj).trans (hf j hj)⟩
theorem eX7_of {a j : Nat} {i : Int32} {f : Nat → Int32} (h : VA μ a f) (hi : i = nI j) (hj : j < 12) : EvA G 1 kX7_of [.ref a, .int i] μ sz 0 0 (rI fun v μ' => v = f j ∧ μ' = μ) := by
  obtain ⟨h1, g, h2, h3⟩ := h
  refine EvA.of (L := [some (.ref a), some (.int i)]) (by decide +kernel) (Nat.le_of_ble_eq_true rfl) rfl ?_
  refine Rn.aload_n (pc1 := 1)  dX7_of_0 rfl rfl rfl ?_
  refine Rn.getfield (pc1 := 4)  dX7_of_1 rfl fX7_9 (by first | assumption | exact mset_same | exact mget_ne (by omega) (by assumption)) rfl ?_
  refine Rn.iload_n (pc1 := 5)  dX7_of_4 rfl rfl rfl ?_
  refine Rn.cN_i (pc1 := 8) (eX8_at h2 hi hj (by decide)) dX7_of_5 rfl nX7_26 oX8_at rfl rfl (Nat.le_of_ble_eq_true rfl) (by decide) (by decide) (fun v5 μ5 h5 => ?_)
  obtain ⟨rfl, rfl⟩ := h5
  exact Rn.ireturn dX7_of_8 rfl rfl ⟨_, rfl, h3 j hj, rfl⟩
theorem eX7_change {a j : Nat} {i x : Int32} {f : Nat → Int32} (h : VA μ a f) (hi : i = nI j) (hj : j < 12) : EvA G 1 kX7_change [.ref a, .int i, .int x] μ sz 0 0 (rV fun μ' => VA μ' a (upd f j x) ∧ Fr a (a + 2) μ μ') := by
  obtain ⟨h1, g, h2, h3⟩ := h
  refine EvA.of (L := [some (.ref a), some (.int i), some (.int x)]) (by decide +kernel) (Nat.le_of_ble_eq_true rfl) rfl ?_
  refine Rn.aload_n (pc1 := 1)  dX7_change_0 rfl rfl rfl ?_
  refine Rn.getfield (pc1 := 4)  dX7_change_1 rfl fX7_9 (by first | assumption | exact mset_same | exact mget_ne (by omega) (by assumption)) rfl ?_
  refine Rn.iload_n (pc1 := 5)  dX7_change_4 rfl rfl rfl ?_
  refine Rn.iload_n (pc1 := 6)  dX7_change_5 rfl rfl rfl ?_
  refine Rn.cN_v (pc1 := 9) (eX8_layAt h2 hi hj (by decide)) dX7_change_6 rfl nX7_18 oX8_layAt rfl rfl (Nat.le_of_ble_eq_true rfl) (by decide) (by decide) (fun μ6 h6 => ?_)
  subst h6
  refine Rn.vreturn dX7_change_9 rfl ⟨rfl, ⟨mget_ne (by omega) h1, _, mset_same, fun q hq => ?_⟩, Fr.set (by omega) (by omega)⟩
  unfold upd; rw [h3 q hq]
theorem eX7_copyFrom {a b : Nat} {f f' : Nat → Int32} (h : VA μ a f) (hb : VA μ b f') (hd : a + 2 ≤ b ∨ b + 2 ≤ a) : EvA G 1 kX7_copyFrom [.ref a, .ref b] μ sz 0 0 (rV fun μ' => VA μ' a f' ∧ Fr a (a + 2) μ μ') := by
  obtain ⟨h1, g, h2, h3⟩ := h
  obtain ⟨k1, g', k2, k3⟩ := hb
  refine EvA.of (L := [some (.ref a), some (.ref b)]) (by decide +kernel) (Nat.le_of_ble_eq_true rfl) rfl ?_
  refine Rn.aload_n (pc1 := 1)  dX7_copyFrom_0 rfl rfl rfl ?_
  refine Rn.getfield (pc1 := 4)  dX7_copyFrom_1 rfl fX7_9 (by first | assumption | exact mset_same | exact mget_ne (by omega) (by assumption)) rfl ?_
  refine Rn.aload_n (pc1 := 5)  dX7_copyFrom_4 rfl rfl rfl ?_
  refine Rn.getfield (pc1 := 8)  dX7_copyFrom_5 rfl fX7_9 (by first | assumption | exact mset_same | exact mget_ne (by omega) (by assumption)) rfl ?_
  refine Rn.cN_v (pc1 := 11) (eX8_copyRow k2 h2 (by omega) (by decide)) dX7_copyFrom_8 rfl nX7_22 oX8_copyRow rfl rfl (Nat.le_of_ble_eq_true rfl) (by decide) (by decide) (fun μ8 h8 => ?_)
  subst h8
  exact Rn.vreturn dX7_copyFrom_11 rfl ⟨rfl, ⟨mget_ne (by omega) h1, _, mset_same, fun q hq => (cpy_lt hq).trans (k3 q hq)⟩, Fr.set (by omega) (by omega)⟩
theorem eX7_clear {a : Nat} {f : Nat → Int32} (h : VA μ a f) : EvA G 1 kX7_clear [.ref a] μ sz 0 0 (rV fun μ' => VA μ' a (fun _ => -6) ∧ Fr a (a + 2) μ μ') := by
  obtain ⟨h1, g, h2, h3⟩ := h
  refine EvA.of (L := [some (.ref a), none]) (by decide +kernel) (Nat.le_of_ble_eq_true rfl) rfl ?_
  have loop : ∀ (m j : Nat), j + m = 12 → Rn G 1 kX7_clear 2 [some (.ref a), some (.int (nI j))] [] (mset μ (a + 1) (ints 12 (cpy j (fun _ => -6) g))) sz 0 0 (rV fun μ' => VA μ' a (fun _ => -6) ∧ Fr a (a + 2) μ μ') := by
    intro m
    induction m with
    | zero =>
      intro j hj
      obtain rfl : j = 12 := by omega
      refine Rn.iload_n (pc1 := 3)  dX7_clear_2 rfl rfl rfl ?_
      refine Rn.bipush (pc1 := 5) (v := nI 12) dX7_clear_3 rfl (by decide) ?_
      refine Rn.icmp_ge (pc1 := 8) 24 dX7_clear_5 rfl (by decide) (fun c5 => ?_) (fun c5 => ?_)
      · exact Rn.vreturn dX7_clear_24 rfl ⟨rfl, ⟨mget_ne (by omega) h1, _, mset_same, fun q hq => cpy_lt hq⟩, Fr.set (by omega) (by omega)⟩
      · exact absurd (nI_le (Nat.le_refl 12) (by decide)) c5
    | succ m ih =>
      intro j hj
      have h1' : mset μ (a + 1) (ints 12 (cpy j (fun _ => -6) g)) a = some (obj 7 [.ref (a + 1)]) := mget_ne (by omega) h1
      refine Rn.iload_n (pc1 := 3)  dX7_clear_2 rfl rfl rfl ?_
      refine Rn.bipush (pc1 := 5) (v := nI 12) dX7_clear_3 rfl (by decide) ?_
      refine Rn.icmp_ge (pc1 := 8) 24 dX7_clear_5 rfl (by decide) (fun c5 => ?_) (fun c5 => ?_)
      · exact absurd c5 (nI_ge (by omega) (by decide))
      · refine Rn.aload_n (pc1 := 9)  dX7_clear_8 rfl rfl rfl ?_
        refine Rn.getfield (pc1 := 12)  dX7_clear_9 rfl fX7_9 (by first | assumption | exact mset_same | exact mget_ne (by omega) (by assumption)) rfl ?_
        refine Rn.iload_n (pc1 := 13)  dX7_clear_12 rfl rfl rfl ?_
        refine Rn.bipush (pc1 := 15) (v := (-6)) dX7_clear_13 rfl (by decide) ?_
        refine Rn.cN_v (pc1 := 18) (eX8_layAt mset_same rfl (by omega) (by decide)) dX7_clear_15 rfl nX7_18 oX8_layAt rfl rfl (Nat.le_of_ble_eq_true rfl) (by decide) (by decide) (fun μ15 h15 => ?_)
        subst h15
        rw [mset_mset, cpy_upd (f := fun _ => -6)]
        refine Rn.iinc (pc1 := 21)  dX7_clear_18 rfl rfl (nI_1 j) (by decide) rfl rfl ?_
        refine Rn.goto 2 dX7_clear_21 (by decide) ?_
        exact ih (j + 1) (by omega)
  refine Rn.iconst (pc1 := 1) (v := nI 0) dX7_clear_0 rfl (by decide) ?_
  refine Rn.istore_n (pc1 := 2)  dX7_clear_1 rfl rfl (by decide) rfl rfl ?_
  have := loop 12 0 (by omega); rw [cpy_0, mset_id h2] at this; exact this
def cntN (f : Nat → Int32) : Nat → Nat
  | 0 => 0
  | n + 1 => cntN f n + if f n = -6 then 0 else 1
theorem cntN_le (f : Nat → Int32) : ∀ n, cntN f n ≤ n
  | 0 => Nat.le_refl 0
  | n + 1 => by have := cntN_le f n; unfold cntN; split <;> omega
theorem cntN_congr {f g : Nat → Int32} : ∀ n, (∀ j, j < n → f j = g j) → cntN f n = cntN g n
  | 0, _ => rfl
  | n + 1, h => by unfold cntN; rw [cntN_congr n (fun j hj => h j (by omega)), h n (by omega)]
def difN (f g : Nat → Int32) : Nat → Int32
  | 0 => 0
  | n + 1 => if f n = g n then difN f g n else difN f g n ||| (nI 1 <<< (nI n &&& 31))
theorem difN_congr {f g f' g' : Nat → Int32} : ∀ n, (∀ j, j < n → f j = f' j) → (∀ j, j < n → g j = g' j) → difN f g n = difN f' g' n
  | 0, _, _ => rfl
  | n + 1, h, k => by unfold difN; rw [difN_congr n (fun j hj => h j (by omega)) (fun j hj => k j (by omega)), h n (by omega), k n (by omega)]
theorem eX7_howMany {a : Nat} {f : Nat → Int32} (h : VA μ a f) : EvA G 2 kX7_howMany [.ref a] μ sz 0 0 (rI fun v μ' => v = nI (cntN f 12) ∧ μ' = μ) := by
  refine EvA.of (L := [some (.ref a), none, none]) (by decide +kernel) (Nat.le_of_ble_eq_true rfl) rfl ?_
  have h1 := h.1
  have loop : ∀ (m j : Nat), j + m = 12 → Rn G 2 kX7_howMany 4 [some (.ref a), some (.int (nI (cntN f j))), some (.int (nI j))] [] μ sz 0 0 (rI fun v μ' => v = nI (cntN f 12) ∧ μ' = μ) := by
    intro m
    induction m with
    | zero =>
      intro j hj
      obtain rfl : j = 12 := by omega
      refine Rn.iload_n (pc1 := 5)  dX7_howMany_4 rfl rfl rfl ?_
      refine Rn.bipush (pc1 := 7) (v := nI 12) dX7_howMany_5 rfl (by decide) ?_
      refine Rn.icmp_ge (pc1 := 10) 29 dX7_howMany_7 rfl (by decide) (fun c7 => ?_) (fun c7 => ?_)
      · refine Rn.iload_n (pc1 := 30)  dX7_howMany_29 rfl rfl rfl ?_
        exact Rn.ireturn dX7_howMany_30 rfl rfl ⟨_, rfl, rfl, rfl⟩
      · exact absurd (nI_le (Nat.le_refl 12) (by decide)) c7
    | succ m ih =>
      intro j hj
      refine Rn.iload_n (pc1 := 5)  dX7_howMany_4 rfl rfl rfl ?_
      refine Rn.bipush (pc1 := 7) (v := nI 12) dX7_howMany_5 rfl (by decide) ?_
      refine Rn.icmp_ge (pc1 := 10) 29 dX7_howMany_7 rfl (by decide) (fun c7 => ?_) (fun c7 => ?_)
      · exact absurd c7 (nI_ge (by omega) (by decide))
      · refine Rn.aload_n (pc1 := 11)  dX7_howMany_10 rfl rfl rfl ?_
        refine Rn.iload_n (pc1 := 12)  dX7_howMany_11 rfl rfl rfl ?_
        refine Rn.cV_i (pc1 := 15) (eX7_of h rfl (show j < 12 by omega)) dX7_howMany_12 rfl qX7_30 oX7_of (by first | assumption | exact mset_same | exact mget_ne (by omega) (by assumption)) rfl rfl rfl rfl (Nat.le_of_ble_eq_true rfl) (by decide) (by decide) (fun v12 μ12 h12 => ?_)
        obtain ⟨rfl, rfl⟩ := h12
        refine Rn.bipush (pc1 := 17) (v := (-6)) dX7_howMany_15 rfl (by decide) ?_
        refine Rn.icmp_eq (pc1 := 20) 23 dX7_howMany_17 rfl (by decide) (fun c17 => ?_) (fun c17 => ?_)
        · have e : cntN f (j + 1) = cntN f j := by show cntN f j + (if f j = -6 then 0 else 1) = _; rw [if_pos c17, Nat.add_zero]
          refine Rn.iinc (pc1 := 26)  dX7_howMany_23 rfl rfl (nI_1 j) (by decide) rfl rfl ?_
          refine Rn.goto 4 dX7_howMany_26 (by decide) ?_
          have := ih (j + 1) (by omega); rw [e] at this; exact this
        · have e : cntN f (j + 1) = cntN f j + 1 := by show cntN f j + (if f j = -6 then 0 else 1) = _; rw [if_neg c17]
          refine Rn.iinc (pc1 := 23)  dX7_howMany_20 rfl rfl (nI_1 _) (by decide) rfl rfl ?_
          refine Rn.iinc (pc1 := 26)  dX7_howMany_23 rfl rfl (nI_1 j) (by decide) rfl rfl ?_
          refine Rn.goto 4 dX7_howMany_26 (by decide) ?_
          have := ih (j + 1) (by omega); rw [e] at this; exact this
  refine Rn.iconst (pc1 := 1) (v := nI 0) dX7_howMany_0 rfl (by decide) ?_
  refine Rn.istore_n (pc1 := 2)  dX7_howMany_1 rfl rfl (by decide) rfl rfl ?_
  refine Rn.iconst (pc1 := 3) (v := nI 0) dX7_howMany_2 rfl (by decide) ?_
  refine Rn.istore_n (pc1 := 4)  dX7_howMany_3 rfl rfl (by decide) rfl rfl ?_
  exact loop 12 0 (by omega)
theorem eX7_differingFrom {a b : Nat} {f g : Nat → Int32} (h : VA μ a f) (hb : VA μ b g) : EvA G 2 kX7_differingFrom [.ref a, .ref b] μ sz 0 0 (rI fun v μ' => v = difN f g 12 ∧ μ' = μ) := by
  refine EvA.of (L := [some (.ref a), some (.ref b), none, none]) (by decide +kernel) (Nat.le_of_ble_eq_true rfl) rfl ?_
  have h1 := h.1
  have hb1 := hb.1
  have loop : ∀ (m j : Nat), j + m = 12 → Rn G 2 kX7_differingFrom 4 [some (.ref a), some (.ref b), some (.int (difN f g j)), some (.int (nI j))] [] μ sz 0 0 (rI fun v μ' => v = difN f g 12 ∧ μ' = μ) := by
    intro m
    induction m with
    | zero =>
      intro j hj
      obtain rfl : j = 12 := by omega
      refine Rn.iload_n (pc1 := 5)  dX7_differingFrom_4 rfl rfl rfl ?_
      refine Rn.bipush (pc1 := 7) (v := nI 12) dX7_differingFrom_5 rfl (by decide) ?_
      refine Rn.icmp_ge (pc1 := 10) 35 dX7_differingFrom_7 rfl (by decide) (fun c7 => ?_) (fun c7 => ?_)
      · refine Rn.iload_n (pc1 := 36)  dX7_differingFrom_35 rfl rfl rfl ?_
        exact Rn.ireturn dX7_differingFrom_36 rfl rfl ⟨_, rfl, rfl, rfl⟩
      · exact absurd (nI_le (Nat.le_refl 12) (by decide)) c7
    | succ m ih =>
      intro j hj
      refine Rn.iload_n (pc1 := 5)  dX7_differingFrom_4 rfl rfl rfl ?_
      refine Rn.bipush (pc1 := 7) (v := nI 12) dX7_differingFrom_5 rfl (by decide) ?_
      refine Rn.icmp_ge (pc1 := 10) 35 dX7_differingFrom_7 rfl (by decide) (fun c7 => ?_) (fun c7 => ?_)
      · exact absurd c7 (nI_ge (by omega) (by decide))
      · refine Rn.aload_n (pc1 := 11)  dX7_differingFrom_10 rfl rfl rfl ?_
        refine Rn.iload_n (pc1 := 12)  dX7_differingFrom_11 rfl rfl rfl ?_
        refine Rn.cV_i (pc1 := 15) (eX7_of h rfl (show j < 12 by omega)) dX7_differingFrom_12 rfl qX7_30 oX7_of (by first | assumption | exact mset_same | exact mget_ne (by omega) (by assumption)) rfl rfl rfl rfl (Nat.le_of_ble_eq_true rfl) (by decide) (by decide) (fun v12 μ12 h12 => ?_)
        obtain ⟨rfl, rfl⟩ := h12
        refine Rn.aload_n (pc1 := 16)  dX7_differingFrom_15 rfl rfl rfl ?_
        refine Rn.iload_n (pc1 := 17)  dX7_differingFrom_16 rfl rfl rfl ?_
        refine Rn.cV_i (pc1 := 20) (eX7_of hb rfl (show j < 12 by omega)) dX7_differingFrom_17 rfl qX7_30 oX7_of (by first | assumption | exact mset_same | exact mget_ne (by omega) (by assumption)) rfl rfl rfl rfl (Nat.le_of_ble_eq_true rfl) (by decide) (by decide) (fun v17 μ17 h17 => ?_)
        obtain ⟨rfl, rfl⟩ := h17
        refine Rn.icmp_eq (pc1 := 23) 29 dX7_differingFrom_20 rfl (by decide) (fun c20 => ?_) (fun c20 => ?_)
        · have e : difN f g (j + 1) = difN f g j := if_pos c20
          refine Rn.iinc (pc1 := 32)  dX7_differingFrom_29 rfl rfl (nI_1 j) (by decide) rfl rfl ?_
          refine Rn.goto 4 dX7_differingFrom_32 (by decide) ?_
          have := ih (j + 1) (by omega); rw [e] at this; exact this
        · have e : difN f g (j + 1) = difN f g j ||| (nI 1 <<< (nI j &&& 31)) := if_neg c20
          refine Rn.iload_n (pc1 := 24)  dX7_differingFrom_23 rfl rfl rfl ?_
          refine Rn.iconst (pc1 := 25) (v := nI 1) dX7_differingFrom_24 rfl (by decide) ?_
          refine Rn.iload_n (pc1 := 26)  dX7_differingFrom_25 rfl rfl rfl ?_
          refine Rn.ishl (pc1 := 27)  dX7_differingFrom_26 rfl rfl ?_
          refine Rn.ior (pc1 := 28)  dX7_differingFrom_27 rfl rfl ?_
          refine Rn.istore_n (pc1 := 29)  dX7_differingFrom_28 rfl rfl (by decide) rfl rfl ?_
          refine Rn.iinc (pc1 := 32)  dX7_differingFrom_29 rfl rfl (nI_1 j) (by decide) rfl rfl ?_
          refine Rn.goto 4 dX7_differingFrom_32 (by decide) ?_
          have := ih (j + 1) (by omega); rw [e] at this; exact this
  refine Rn.iconst (pc1 := 1) (v := nI 0) dX7_differingFrom_0 rfl (by decide) ?_
  refine Rn.istore_n (pc1 := 2)  dX7_differingFrom_1 rfl rfl (by decide) rfl rfl ?_
  refine Rn.iconst (pc1 := 3) (v := nI 0) dX7_differingFrom_2 rfl (by decide) ?_
  refine Rn.istore_n (pc1 := 4)  dX7_differingFrom_3 rfl rfl (by decide) rfl rfl ?_
  exact loop 12 0 (by omega)
end LEAF
end
section
/-! ===== Feed: its object and its four rows ===== -/
def FB (μ : Mm) (a h : Nat) (nx fl gn : Int32) (g0 g1 g2 g3 : Nat → Int32) : Prop := μ a = some (obj 0 [.ref (a + 1), .ref (a + 2), .ref (a + 3), .ref (a + 4), .int (nI h), .int nx, .int fl, .int gn]) ∧ μ (a + 1) = some (ints 60 g0) ∧ μ (a + 2) = some (ints 60 g1) ∧ μ (a + 3) = some (ints 60 g2) ∧ μ (a + 4) = some (ints 60 g3)
section FEEDM
variable {μ : Mm} {a h : Nat} {nx fl gn : Int32} {g0 g1 g2 g3 : Nat → Int32}
theorem FB.fr {μ' : Mm} {x y : Nat} (F : FB μ a h nx fl gn g0 g1 g2 g3) (hF : Fr x y μ μ') (hd : a + 5 ≤ x ∨ y ≤ a) : FB μ' a h nx fl gn g0 g1 g2 g3 := ⟨(hF a (by omega)).trans F.1, (hF _ (by omega)).trans F.2.1, (hF _ (by omega)).trans F.2.2.1, (hF _ (by omega)).trans F.2.2.2.1, (hF _ (by omega)).trans F.2.2.2.2⟩
theorem FB.set0 (F : FB μ a h nx fl gn g0 g1 g2 g3) (g : Nat → Int32) : FB (mset μ (a + 1) (ints 60 g)) a h nx fl gn g g1 g2 g3 := ⟨mget_ne (by omega) F.1, mset_same, mget_ne (by omega) F.2.2.1, mget_ne (by omega) F.2.2.2.1, mget_ne (by omega) F.2.2.2.2⟩
theorem FB.set1 (F : FB μ a h nx fl gn g0 g1 g2 g3) (g : Nat → Int32) : FB (mset μ (a + 2) (ints 60 g)) a h nx fl gn g0 g g2 g3 := ⟨mget_ne (by omega) F.1, mget_ne (by omega) F.2.1, mset_same, mget_ne (by omega) F.2.2.2.1, mget_ne (by omega) F.2.2.2.2⟩
theorem FB.set2 (F : FB μ a h nx fl gn g0 g1 g2 g3) (g : Nat → Int32) : FB (mset μ (a + 3) (ints 60 g)) a h nx fl gn g0 g1 g g3 := ⟨mget_ne (by omega) F.1, mget_ne (by omega) F.2.1, mget_ne (by omega) F.2.2.1, mset_same, mget_ne (by omega) F.2.2.2.2⟩
theorem FB.set3 (F : FB μ a h nx fl gn g0 g1 g2 g3) (g : Nat → Int32) : FB (mset μ (a + 4) (ints 60 g)) a h nx fl gn g0 g1 g2 g := ⟨mget_ne (by omega) F.1, mget_ne (by omega) F.2.1, mget_ne (by omega) F.2.2.1, mget_ne (by omega) F.2.2.2.1, mset_same⟩
theorem FB.setO (F : FB μ a h nx fl gn g0 g1 g2 g3) (h' : Nat) (nx' fl' gn' : Int32) : FB (mset μ a (obj 0 [.ref (a + 1), .ref (a + 2), .ref (a + 3), .ref (a + 4), .int (nI h'), .int nx', .int fl', .int gn'])) a h' nx' fl' gn' g0 g1 g2 g3 := ⟨mset_same, mget_ne (by omega) F.2.1, mget_ne (by omega) F.2.2.1, mget_ne (by omega) F.2.2.2.1, mget_ne (by omega) F.2.2.2.2⟩
theorem Fr.set_ {μ0 : Mm} {x y q : Nat} {c : Cl} (hF : Fr x y μ0 μ) (h1 : x ≤ q) (h2 : q < y) : Fr x y μ0 (mset μ q c) := hF.trans (Fr.set h1 h2)
end FEEDM
-- what the questions answer
def lastB (g1 : Nat → Int32) (i : Nat) : Nat → Bool
  | 0 => true
  | n + 1 => lastB g1 i n && !(decide (i < n) && decide (g1 n = g1 i))
theorem lastB_iff {g1 : Nat → Int32} {i : Nat} : ∀ {n : Nat}, lastB g1 i n = true ↔ ∀ j, i < j → j < n → ¬ g1 j = g1 i
  | 0 => ⟨fun _ j _ h => by omega, fun _ => rfl⟩
  | n + 1 => by
    show (lastB g1 i n && !(decide (i < n) && decide (g1 n = g1 i))) = true ↔ _
    rw [Bool.and_eq_true, lastB_iff (n := n)]
    constructor
    · rintro ⟨h1, h2⟩ j hj hn
      by_cases e : j = n
      · subst e
        intro e2
        rw [decide_eq_true hj, decide_eq_true e2] at h2
        cases h2
      · exact h1 j hj (by omega)
    · intro h1
      refine ⟨fun j hj hn => h1 j hj (by omega), ?_⟩
      by_cases e : i < n
      · rw [decide_eq_false (h1 n e (by omega)), Bool.and_false]; rfl
      · rw [decide_eq_false e]; rfl
theorem bool_eq_of {b c : Bool} (h : b = true ↔ c = true) : b = c := by cases b <;> cases c <;> simp at h ⊢
theorem lastB_congr {g g' : Nat → Int32} {i n : Nat} (h : ∀ j, i ≤ j → j < n → g j = g' j) (hi : i < n) : lastB g i n = lastB g' i n := bool_eq_of (by
  rw [lastB_iff, lastB_iff]
  constructor
  · intro q j h1 h2; rw [← h j (by omega) h2, ← h i (by omega) hi]; exact q j h1 h2
  · intro q j h1 h2; rw [h j (by omega) h2, h i (by omega) hi]; exact q j h1 h2)
def closB (x nx size : Int32) : Bool := !decide (x / size = nx / size)
def oldB (v m grace minute : Int32) : Bool := decide (v = -6) && decide (grace < minute - m)
def goB (h : Nat) (nx size grace minute : Int32) (g0 g1 g2 g3 : Nat → Int32) (i : Nat) : Bool := closB (g0 i) nx size && (!lastB g1 i h || oldB (g2 i) (g3 i) grace minute)
theorem goB_congr {h i : Nat} {nx size grace minute : Int32} {g0 g1 g2 g3 k0 k1 k2 k3 : Nat → Int32} (q : ∀ j, i ≤ j → j < h → g0 j = k0 j ∧ g1 j = k1 j ∧ g2 j = k2 j ∧ g3 j = k3 j) (hi : i < h) : goB h nx size grace minute g0 g1 g2 g3 i = goB h nx size grace minute k0 k1 k2 k3 i := by
  unfold goB
  obtain ⟨e0, e1, e2, e3⟩ := q i (Nat.le_refl i) hi
  rw [lastB_congr (fun j h1 h2 => (q j h1 h2).2.1) hi, e0, e2, e3]
def leftN (p : Nat → Bool) : Nat → Nat
  | 0 => 0
  | n + 1 => leftN p n + if p n then 0 else 1
theorem leftN_le (p : Nat → Bool) : ∀ n, leftN p n ≤ n
  | 0 => Nat.le_refl 0
  | n + 1 => by have := leftN_le p n; unfold leftN; split <;> omega
def floorN (p q : Nat → Bool) (g0 : Nat → Int32) (fl : Int32) : Nat → Int32
  | 0 => fl
  | n + 1 => if q n = true ∧ p n = true then (if floorN p q g0 fl n < g0 n + nI 1 then g0 n + nI 1 else floorN p q g0 fl n) else floorN p q g0 fl n
def kept (p : Nat → Bool) : Nat → List Nat
  | 0 => []
  | n + 1 => if p n then kept p n else kept p n ++ [n]
theorem kept_len (p : Nat → Bool) : ∀ n, (kept p n).length = leftN p n
  | 0 => rfl
  | n + 1 => by
    unfold kept leftN
    by_cases h : p n = true
    · rw [if_pos h, if_pos h, kept_len p n, Nat.add_zero]
    · rw [if_neg h, if_neg h, List.length_append, kept_len p n]; rfl
section FEED
variable {G : GG} {μ : Mm} {sz : Nat} {a h : Nat} {nx fl gn : Int32} {g0 g1 g2 g3 : Nat → Int32}
theorem eX0_numberAt {j : Nat} {i : Int32} (F : FB μ a h nx fl gn g0 g1 g2 g3) (hi : i = nI j) (hj : j < 60) : EvA G 1 kX0_numberAt [.ref a, .int i] μ sz 0 0 (rI fun v μ' => v = g0 j ∧ μ' = μ) := by
  have hO := F.1
  refine EvA.of (L := [some (.ref a), some (.int i)]) (by decide +kernel) (Nat.le_of_ble_eq_true rfl) rfl ?_
  refine Rn.aload_n (pc1 := 1)  dX0_numberAt_0 rfl rfl rfl ?_
  refine Rn.getfield (pc1 := 4)  dX0_numberAt_1 rfl fX0_9 (by first | assumption | exact mset_same | exact mget_ne (by omega) (by assumption)) rfl ?_
  refine Rn.iload_n (pc1 := 5)  dX0_numberAt_4 rfl rfl rfl ?_
  refine Rn.cN_i (pc1 := 8) (eX8_at F.2.1 hi hj (by decide)) dX0_numberAt_5 rfl nX0_41 oX8_at rfl rfl (Nat.le_of_ble_eq_true rfl) (by decide) (by decide) (fun v5 μ5 h5 => ?_)
  obtain ⟨rfl, rfl⟩ := h5
  exact Rn.ireturn dX0_numberAt_8 rfl rfl ⟨_, rfl, rfl, rfl⟩
theorem eX0_keyAt {j : Nat} {i : Int32} (F : FB μ a h nx fl gn g0 g1 g2 g3) (hi : i = nI j) (hj : j < 60) : EvA G 1 kX0_keyAt [.ref a, .int i] μ sz 0 0 (rI fun v μ' => v = g1 j ∧ μ' = μ) := by
  have hO := F.1
  refine EvA.of (L := [some (.ref a), some (.int i)]) (by decide +kernel) (Nat.le_of_ble_eq_true rfl) rfl ?_
  refine Rn.aload_n (pc1 := 1)  dX0_keyAt_0 rfl rfl rfl ?_
  refine Rn.getfield (pc1 := 4)  dX0_keyAt_1 rfl fX0_15 (by first | assumption | exact mset_same | exact mget_ne (by omega) (by assumption)) rfl ?_
  refine Rn.iload_n (pc1 := 5)  dX0_keyAt_4 rfl rfl rfl ?_
  refine Rn.cN_i (pc1 := 8) (eX8_at F.2.2.1 hi hj (by decide)) dX0_keyAt_5 rfl nX0_41 oX8_at rfl rfl (Nat.le_of_ble_eq_true rfl) (by decide) (by decide) (fun v5 μ5 h5 => ?_)
  obtain ⟨rfl, rfl⟩ := h5
  exact Rn.ireturn dX0_keyAt_8 rfl rfl ⟨_, rfl, rfl, rfl⟩
theorem eX0_valueAt {j : Nat} {i : Int32} (F : FB μ a h nx fl gn g0 g1 g2 g3) (hi : i = nI j) (hj : j < 60) : EvA G 1 kX0_valueAt [.ref a, .int i] μ sz 0 0 (rI fun v μ' => v = g2 j ∧ μ' = μ) := by
  have hO := F.1
  refine EvA.of (L := [some (.ref a), some (.int i)]) (by decide +kernel) (Nat.le_of_ble_eq_true rfl) rfl ?_
  refine Rn.aload_n (pc1 := 1)  dX0_valueAt_0 rfl rfl rfl ?_
  refine Rn.getfield (pc1 := 4)  dX0_valueAt_1 rfl fX0_18 (by first | assumption | exact mset_same | exact mget_ne (by omega) (by assumption)) rfl ?_
  refine Rn.iload_n (pc1 := 5)  dX0_valueAt_4 rfl rfl rfl ?_
  refine Rn.cN_i (pc1 := 8) (eX8_at F.2.2.2.1 hi hj (by decide)) dX0_valueAt_5 rfl nX0_41 oX8_at rfl rfl (Nat.le_of_ble_eq_true rfl) (by decide) (by decide) (fun v5 μ5 h5 => ?_)
  obtain ⟨rfl, rfl⟩ := h5
  exact Rn.ireturn dX0_valueAt_8 rfl rfl ⟨_, rfl, rfl, rfl⟩
theorem eX0_minuteAt {j : Nat} {i : Int32} (F : FB μ a h nx fl gn g0 g1 g2 g3) (hi : i = nI j) (hj : j < 60) : EvA G 1 kX0_minuteAt [.ref a, .int i] μ sz 0 0 (rI fun v μ' => v = g3 j ∧ μ' = μ) := by
  have hO := F.1
  refine EvA.of (L := [some (.ref a), some (.int i)]) (by decide +kernel) (Nat.le_of_ble_eq_true rfl) rfl ?_
  refine Rn.aload_n (pc1 := 1)  dX0_minuteAt_0 rfl rfl rfl ?_
  refine Rn.getfield (pc1 := 4)  dX0_minuteAt_1 rfl fX0_21 (by first | assumption | exact mset_same | exact mget_ne (by omega) (by assumption)) rfl ?_
  refine Rn.iload_n (pc1 := 5)  dX0_minuteAt_4 rfl rfl rfl ?_
  refine Rn.cN_i (pc1 := 8) (eX8_at F.2.2.2.2 hi hj (by decide)) dX0_minuteAt_5 rfl nX0_41 oX8_at rfl rfl (Nat.le_of_ble_eq_true rfl) (by decide) (by decide) (fun v5 μ5 h5 => ?_)
  obtain ⟨rfl, rfl⟩ := h5
  exact Rn.ireturn dX0_minuteAt_8 rfl rfl ⟨_, rfl, rfl, rfl⟩
theorem eX0_isFull (F : FB μ a h nx fl gn g0 g1 g2 g3) (hh : h ≤ 60) : EvA G 0 kX0_isFull [.ref a] μ sz 0 0 (rI fun v μ' => v = bI (decide (h = 60)) ∧ μ' = μ) := by
  have hO := F.1
  refine EvA.of (L := [some (.ref a)]) (by decide +kernel) (Nat.le_of_ble_eq_true rfl) rfl ?_
  refine Rn.aload_n (pc1 := 1)  dX0_isFull_0 rfl rfl rfl ?_
  refine Rn.getfield (pc1 := 4)  dX0_isFull_1 rfl fX0_24 (by first | assumption | exact mset_same | exact mget_ne (by omega) (by assumption)) rfl ?_
  refine Rn.bipush (pc1 := 6) (v := nI 60) dX0_isFull_4 rfl (by decide) ?_
  refine Rn.icmp_lt (pc1 := 9) 13 dX0_isFull_6 rfl (by decide) (fun c6 => ?_) (fun c6 => ?_)
  · rw [decide_eq_false (show ¬ h = 60 by intro e; subst e; exact nI_nlt (Nat.le_refl 60) (by decide) c6)]
    refine Rn.iconst (pc1 := 14) (v := nI 0) dX0_isFull_13 rfl (by decide) ?_
    exact Rn.ireturn dX0_isFull_14 rfl rfl ⟨_, rfl, rfl, rfl⟩
  · rw [decide_eq_true (show h = 60 by rw [nI_ltI (by omega) (by decide)] at c6; omega)]
    refine Rn.iconst (pc1 := 10) (v := nI 1) dX0_isFull_9 rfl (by decide) ?_
    refine Rn.goto 14 dX0_isFull_10 (by decide) ?_
    exact Rn.ireturn dX0_isFull_14 rfl rfl ⟨_, rfl, rfl, rfl⟩
theorem eX0_layEntry {j : Nat} {i x0 x1 x2 x3 : Int32} (F : FB μ a h nx fl gn g0 g1 g2 g3) (hi : i = nI j) (hj : j < 60) : EvA G 1 kX0_layEntry [.ref a, .int i, .int x0, .int x1, .int x2, .int x3] μ sz 0 0 (rV fun μ' => FB μ' a h nx fl gn (upd g0 j x0) (upd g1 j x1) (upd g2 j x2) (upd g3 j x3) ∧ Fr a (a + 5) μ μ') := by
  have hO := F.1
  refine EvA.of (L := [some (.ref a), some (.int i), some (.int x0), some (.int x1), some (.int x2), some (.int x3)]) (by decide +kernel) (Nat.le_of_ble_eq_true rfl) rfl ?_
  refine Rn.aload_n (pc1 := 1)  dX0_layEntry_0 rfl rfl rfl ?_
  refine Rn.getfield (pc1 := 4)  dX0_layEntry_1 rfl fX0_9 (by first | assumption | exact mset_same | exact mget_ne (by omega) (by assumption)) rfl ?_
  refine Rn.iload_n (pc1 := 5)  dX0_layEntry_4 rfl rfl rfl ?_
  refine Rn.iload_n (pc1 := 6)  dX0_layEntry_5 rfl rfl rfl ?_
  refine Rn.cN_v (pc1 := 9) (eX8_layAt F.2.1 hi hj (by decide)) dX0_layEntry_6 rfl nX0_49 oX8_layAt rfl rfl (Nat.le_of_ble_eq_true rfl) (by decide) (by decide) (fun μ6 h6 => ?_)
  subst h6
  have F1 := F.set0 (upd g0 j x0)
  have O1 := F1.1
  refine Rn.aload_n (pc1 := 10)  dX0_layEntry_9 rfl rfl rfl ?_
  refine Rn.getfield (pc1 := 13)  dX0_layEntry_10 rfl fX0_15 (by first | assumption | exact mset_same | exact mget_ne (by omega) (by assumption)) rfl ?_
  refine Rn.iload_n (pc1 := 14)  dX0_layEntry_13 rfl rfl rfl ?_
  refine Rn.iload_n (pc1 := 15)  dX0_layEntry_14 rfl rfl rfl ?_
  refine Rn.cN_v (pc1 := 18) (eX8_layAt F1.2.2.1 hi hj (by decide)) dX0_layEntry_15 rfl nX0_49 oX8_layAt rfl rfl (Nat.le_of_ble_eq_true rfl) (by decide) (by decide) (fun μ15 h15 => ?_)
  subst h15
  have F2 := F1.set1 (upd g1 j x1)
  have O2 := F2.1
  refine Rn.aload_n (pc1 := 19)  dX0_layEntry_18 rfl rfl rfl ?_
  refine Rn.getfield (pc1 := 22)  dX0_layEntry_19 rfl fX0_18 (by first | assumption | exact mset_same | exact mget_ne (by omega) (by assumption)) rfl ?_
  refine Rn.iload_n (pc1 := 23)  dX0_layEntry_22 rfl rfl rfl ?_
  refine Rn.iload (pc1 := 25)  dX0_layEntry_23 rfl rfl ?_
  refine Rn.cN_v (pc1 := 28) (eX8_layAt F2.2.2.2.1 hi hj (by decide)) dX0_layEntry_25 rfl nX0_49 oX8_layAt rfl rfl (Nat.le_of_ble_eq_true rfl) (by decide) (by decide) (fun μ25 h25 => ?_)
  subst h25
  have F3 := F2.set2 (upd g2 j x2)
  have O3 := F3.1
  refine Rn.aload_n (pc1 := 29)  dX0_layEntry_28 rfl rfl rfl ?_
  refine Rn.getfield (pc1 := 32)  dX0_layEntry_29 rfl fX0_21 (by first | assumption | exact mset_same | exact mget_ne (by omega) (by assumption)) rfl ?_
  refine Rn.iload_n (pc1 := 33)  dX0_layEntry_32 rfl rfl rfl ?_
  refine Rn.iload (pc1 := 35)  dX0_layEntry_33 rfl rfl ?_
  refine Rn.cN_v (pc1 := 38) (eX8_layAt F3.2.2.2.2 hi hj (by decide)) dX0_layEntry_35 rfl nX0_49 oX8_layAt rfl rfl (Nat.le_of_ble_eq_true rfl) (by decide) (by decide) (fun μ35 h35 => ?_)
  subst h35
  have F4 := F3.set3 (upd g3 j x3)
  exact Rn.vreturn dX0_layEntry_38 rfl ⟨rfl, F4, (((Fr.set (by omega) (by omega)).set_ (by omega) (by omega)).set_ (by omega) (by omega)).set_ (by omega) (by omega)⟩
theorem eX0_append {k v m : Int32} (F : FB μ a h nx fl gn g0 g1 g2 g3) (hh : h < 60) : EvA G 2 kX0_append [.ref a, .int k, .int v, .int m] μ sz 0 0 (rI fun r μ' => r = nx ∧ FB μ' a (h + 1) (nx + nI 1) fl gn (upd g0 h nx) (upd g1 h k) (upd g2 h v) (upd g3 h m) ∧ Fr a (a + 5) μ μ') := by
  have hO := F.1
  refine EvA.of (L := [some (.ref a), some (.int k), some (.int v), some (.int m), none]) (by decide +kernel) (Nat.le_of_ble_eq_true rfl) rfl ?_
  refine Rn.aload_n (pc1 := 1)  dX0_append_0 rfl rfl rfl ?_
  refine Rn.getfield (pc1 := 4)  dX0_append_1 rfl fX0_28 (by first | assumption | exact mset_same | exact mget_ne (by omega) (by assumption)) rfl ?_
  refine Rn.istore (pc1 := 6)  dX0_append_4 rfl (by decide) rfl rfl ?_
  refine Rn.aload_n (pc1 := 7)  dX0_append_6 rfl rfl rfl ?_
  refine Rn.aload_n (pc1 := 8)  dX0_append_7 rfl rfl rfl ?_
  refine Rn.getfield (pc1 := 11)  dX0_append_8 rfl fX0_24 (by first | assumption | exact mset_same | exact mget_ne (by omega) (by assumption)) rfl ?_
  refine Rn.iload (pc1 := 13)  dX0_append_11 rfl rfl ?_
  refine Rn.iload_n (pc1 := 14)  dX0_append_13 rfl rfl rfl ?_
  refine Rn.iload_n (pc1 := 15)  dX0_append_14 rfl rfl rfl ?_
  refine Rn.iload_n (pc1 := 16)  dX0_append_15 rfl rfl rfl ?_
  refine Rn.cV_v (pc1 := 19) (eX0_layEntry F rfl hh) dX0_append_16 rfl qX0_45 oX0_layEntry (by first | assumption | exact mset_same | exact mget_ne (by omega) (by assumption)) rfl rfl rfl rfl (Nat.le_of_ble_eq_true rfl) (by decide) (by decide) (fun μ16 h16 => ?_)
  obtain ⟨F1, q1⟩ := h16
  have O1 := F1.1
  refine Rn.aload_n (pc1 := 20)  dX0_append_19 rfl rfl rfl ?_
  refine Rn.dup (pc1 := 21)  dX0_append_20 rfl rfl ?_
  refine Rn.getfield (pc1 := 24)  dX0_append_21 rfl fX0_24 (by first | assumption | exact mset_same | exact mget_ne (by omega) (by assumption)) rfl ?_
  refine Rn.iconst (pc1 := 25) (v := nI 1) dX0_append_24 rfl (by decide) ?_
  refine Rn.iadd (pc1 := 26)  dX0_append_25 rfl (nI_add h 1) ?_
  refine Rn.putfield (pc1 := 29)  dX0_append_26 rfl pX0_24 (fun h => Bool.noConfusion h) (by assumption) (Nat.le_of_ble_eq_true rfl) rfl rfl rfl ?_
  have F2 := F1.setO (h + 1) nx fl gn
  have O2 := F2.1
  refine Rn.aload_n (pc1 := 30)  dX0_append_29 rfl rfl rfl ?_
  refine Rn.dup (pc1 := 31)  dX0_append_30 rfl rfl ?_
  refine Rn.getfield (pc1 := 34)  dX0_append_31 rfl fX0_28 (by first | assumption | exact mset_same | exact mget_ne (by omega) (by assumption)) rfl ?_
  refine Rn.iconst (pc1 := 35) (v := nI 1) dX0_append_34 rfl (by decide) ?_
  refine Rn.iadd (pc1 := 36)  dX0_append_35 rfl rfl ?_
  refine Rn.putfield (pc1 := 39)  dX0_append_36 rfl pX0_28 (fun h => Bool.noConfusion h) (by assumption) (Nat.le_of_ble_eq_true rfl) rfl rfl rfl ?_
  have F3 := F2.setO (h + 1) (nx + nI 1) fl gn
  refine Rn.iload (pc1 := 41)  dX0_append_39 rfl rfl ?_
  exact Rn.ireturn dX0_append_41 rfl rfl ⟨_, rfl, rfl, F3, (q1.set_ (by omega) (by omega)).set_ (by omega) (by omega)⟩
theorem eX0_firstFrom {pl : Int32} (F : FB μ a h nx fl gn g0 g1 g2 g3) (hh : h ≤ 60) : EvA G 1 kX0_firstFrom [.ref a, .int pl] μ sz 0 0 (rI fun v μ' => (∃ k, k ≤ h ∧ v = nI k ∧ (∀ j, j < k → g0 j < pl) ∧ (k < h → pl ≤ g0 k)) ∧ μ' = μ) := by
  have hO := F.1
  refine EvA.of (L := [some (.ref a), some (.int pl), none]) (by decide +kernel) (Nat.le_of_ble_eq_true rfl) rfl ?_
  have loop : ∀ (m i : Nat), i + m = h → (∀ j, j < i → g0 j < pl) → Rn G 1 kX0_firstFrom 2 [some (.ref a), some (.int pl), some (.int (nI i))] [] μ sz 0 0 (rI fun v μ' => (∃ k, k ≤ h ∧ v = nI k ∧ (∀ j, j < k → g0 j < pl) ∧ (k < h → pl ≤ g0 k)) ∧ μ' = μ) := by
    intro m
    induction m with
    | zero =>
      intro i hi hb
      obtain rfl : i = h := by omega
      refine Rn.iload_n (pc1 := 3)  dX0_firstFrom_2 rfl rfl rfl ?_
      refine Rn.aload_n (pc1 := 4)  dX0_firstFrom_3 rfl rfl rfl ?_
      refine Rn.getfield (pc1 := 7)  dX0_firstFrom_4 rfl fX0_24 (by first | assumption | exact mset_same | exact mget_ne (by omega) (by assumption)) rfl ?_
      refine Rn.icmp_ge (pc1 := 10) 30 dX0_firstFrom_7 rfl (by decide) (fun c7 => ?_) (fun c7 => ?_)
      · refine Rn.aload_n (pc1 := 31)  dX0_firstFrom_30 rfl rfl rfl ?_
        refine Rn.getfield (pc1 := 34)  dX0_firstFrom_31 rfl fX0_24 (by first | assumption | exact mset_same | exact mget_ne (by omega) (by assumption)) rfl ?_
        exact Rn.ireturn dX0_firstFrom_34 rfl rfl ⟨_, rfl, ⟨i, Nat.le_refl i, rfl, hb, fun q => by omega⟩, rfl⟩
      · exact absurd (nI_le (Nat.le_refl i) (by omega)) c7
    | succ m ih =>
      intro i hi hb
      refine Rn.iload_n (pc1 := 3)  dX0_firstFrom_2 rfl rfl rfl ?_
      refine Rn.aload_n (pc1 := 4)  dX0_firstFrom_3 rfl rfl rfl ?_
      refine Rn.getfield (pc1 := 7)  dX0_firstFrom_4 rfl fX0_24 (by first | assumption | exact mset_same | exact mget_ne (by omega) (by assumption)) rfl ?_
      refine Rn.icmp_ge (pc1 := 10) 30 dX0_firstFrom_7 rfl (by decide) (fun c7 => ?_) (fun c7 => ?_)
      · exact absurd c7 (nI_ge (by omega) (by omega))
      · refine Rn.aload_n (pc1 := 11)  dX0_firstFrom_10 rfl rfl rfl ?_
        refine Rn.getfield (pc1 := 14)  dX0_firstFrom_11 rfl fX0_9 (by first | assumption | exact mset_same | exact mget_ne (by omega) (by assumption)) rfl ?_
        refine Rn.iload_n (pc1 := 15)  dX0_firstFrom_14 rfl rfl rfl ?_
        refine Rn.cN_i (pc1 := 18) (eX8_at F.2.1 rfl (show i < 60 by omega) (by decide)) dX0_firstFrom_15 rfl nX0_41 oX8_at rfl rfl (Nat.le_of_ble_eq_true rfl) (by decide) (by decide) (fun v15 μ15 h15 => ?_)
        obtain ⟨rfl, rfl⟩ := h15
        refine Rn.iload_n (pc1 := 19)  dX0_firstFrom_18 rfl rfl rfl ?_
        refine Rn.icmp_lt (pc1 := 22) 24 dX0_firstFrom_19 rfl (by decide) (fun c19 => ?_) (fun c19 => ?_)
        · refine Rn.iinc (pc1 := 27)  dX0_firstFrom_24 rfl rfl (nI_1 i) (by decide) rfl rfl ?_
          refine Rn.goto 2 dX0_firstFrom_27 (by decide) ?_
          refine ih (i + 1) (by omega) (fun j hj => ?_)
          by_cases e : j = i
          · subst e; exact c19
          · exact hb j (by omega)
        · refine Rn.iload_n (pc1 := 23)  dX0_firstFrom_22 rfl rfl rfl ?_
          exact Rn.ireturn dX0_firstFrom_23 rfl rfl ⟨_, rfl, ⟨i, by omega, rfl, hb, fun _ => i32_nlt.mp c19⟩, rfl⟩
  refine Rn.iconst (pc1 := 1) (v := nI 0) dX0_firstFrom_0 rfl (by decide) ?_
  refine Rn.istore_n (pc1 := 2)  dX0_firstFrom_1 rfl rfl (by decide) rfl rfl ?_
  exact loop h 0 (by omega) (fun j hj => by omega)
theorem eX0_aheadOf {pl : Int32} (F : FB μ a h nx fl gn g0 g1 g2 g3) (hh : h ≤ 60) : EvA G 2 kX0_aheadOf [.ref a, .int pl] μ sz 0 0 (rI fun v μ' => (∃ k, k ≤ h ∧ v = nI (h - k) ∧ (∀ j, j < k → g0 j < pl) ∧ (k < h → pl ≤ g0 k)) ∧ μ' = μ) := by
  have hO := F.1
  refine EvA.of (L := [some (.ref a), some (.int pl)]) (by decide +kernel) (Nat.le_of_ble_eq_true rfl) rfl ?_
  refine Rn.aload_n (pc1 := 1)  dX0_aheadOf_0 rfl rfl rfl ?_
  refine Rn.getfield (pc1 := 4)  dX0_aheadOf_1 rfl fX0_24 (by first | assumption | exact mset_same | exact mget_ne (by omega) (by assumption)) rfl ?_
  refine Rn.aload_n (pc1 := 5)  dX0_aheadOf_4 rfl rfl rfl ?_
  refine Rn.iload_n (pc1 := 6)  dX0_aheadOf_5 rfl rfl rfl ?_
  refine Rn.cV_i (pc1 := 9) (eX0_firstFrom F hh) dX0_aheadOf_6 rfl qX0_53 oX0_firstFrom (by first | assumption | exact mset_same | exact mget_ne (by omega) (by assumption)) rfl rfl rfl rfl (Nat.le_of_ble_eq_true rfl) (by decide) (by decide) (fun v6 μ6 h6 => ?_)
  obtain ⟨⟨k, k1, rfl, k2, k3⟩, rfl⟩ := h6
  refine Rn.isub (pc1 := 10)  dX0_aheadOf_9 rfl (nI_sub k1) ?_
  exact Rn.ireturn dX0_aheadOf_10 rfl rfl ⟨_, rfl, ⟨k, k1, rfl, k2, k3⟩, rfl⟩
theorem eX0_isLastOfItsKey {j : Nat} {i : Int32} (F : FB μ a h nx fl gn g0 g1 g2 g3) (hh : h ≤ 60) (hi : i = nI j) (hj : j < h) : EvA G 1 kX0_isLastOfItsKey [.ref a, .int i] μ sz 0 0 (rI fun v μ' => v = bI (lastB g1 j h) ∧ μ' = μ) := by
  have hO := F.1
  refine EvA.of (L := [some (.ref a), some (.int i), none]) (by decide +kernel) (Nat.le_of_ble_eq_true rfl) rfl ?_
  subst hi
  have loop : ∀ (m l : Nat), l + m = h → j < l → (∀ q, j < q → q < l → ¬ g1 q = g1 j) → Rn G 1 kX0_isLastOfItsKey 4 [some (.ref a), some (.int (nI j)), some (.int (nI l))] [] μ sz 0 0 (rI fun v μ' => v = bI (lastB g1 j h) ∧ μ' = μ) := by
    intro m
    induction m with
    | zero =>
      intro l hl hjl hb
      obtain rfl : l = h := by omega
      rw [lastB_iff.mpr hb]
      refine Rn.iload_n (pc1 := 5)  dX0_isLastOfItsKey_4 rfl rfl rfl ?_
      refine Rn.aload_n (pc1 := 6)  dX0_isLastOfItsKey_5 rfl rfl rfl ?_
      refine Rn.getfield (pc1 := 9)  dX0_isLastOfItsKey_6 rfl fX0_24 (by first | assumption | exact mset_same | exact mget_ne (by omega) (by assumption)) rfl ?_
      refine Rn.icmp_ge (pc1 := 12) 39 dX0_isLastOfItsKey_9 rfl (by decide) (fun c9 => ?_) (fun c9 => ?_)
      · refine Rn.iconst (pc1 := 40) (v := nI 1) dX0_isLastOfItsKey_39 rfl (by decide) ?_
        exact Rn.ireturn dX0_isLastOfItsKey_40 rfl rfl ⟨_, rfl, rfl, rfl⟩
      · exact absurd (nI_le (Nat.le_refl l) (by omega)) c9
    | succ m ih =>
      intro l hl hjl hb
      refine Rn.iload_n (pc1 := 5)  dX0_isLastOfItsKey_4 rfl rfl rfl ?_
      refine Rn.aload_n (pc1 := 6)  dX0_isLastOfItsKey_5 rfl rfl rfl ?_
      refine Rn.getfield (pc1 := 9)  dX0_isLastOfItsKey_6 rfl fX0_24 (by first | assumption | exact mset_same | exact mget_ne (by omega) (by assumption)) rfl ?_
      refine Rn.icmp_ge (pc1 := 12) 39 dX0_isLastOfItsKey_9 rfl (by decide) (fun c9 => ?_) (fun c9 => ?_)
      · exact absurd c9 (nI_ge (by omega) (by omega))
      · refine Rn.aload_n (pc1 := 13)  dX0_isLastOfItsKey_12 rfl rfl rfl ?_
        refine Rn.getfield (pc1 := 16)  dX0_isLastOfItsKey_13 rfl fX0_15 (by first | assumption | exact mset_same | exact mget_ne (by omega) (by assumption)) rfl ?_
        refine Rn.iload_n (pc1 := 17)  dX0_isLastOfItsKey_16 rfl rfl rfl ?_
        refine Rn.cN_i (pc1 := 20) (eX8_at F.2.2.1 rfl (show l < 60 by omega) (by decide)) dX0_isLastOfItsKey_17 rfl nX0_41 oX8_at rfl rfl (Nat.le_of_ble_eq_true rfl) (by decide) (by decide) (fun v17 μ17 h17 => ?_)
        obtain ⟨rfl, rfl⟩ := h17
        refine Rn.aload_n (pc1 := 21)  dX0_isLastOfItsKey_20 rfl rfl rfl ?_
        refine Rn.getfield (pc1 := 24)  dX0_isLastOfItsKey_21 rfl fX0_15 (by first | assumption | exact mset_same | exact mget_ne (by omega) (by assumption)) rfl ?_
        refine Rn.iload_n (pc1 := 25)  dX0_isLastOfItsKey_24 rfl rfl rfl ?_
        refine Rn.cN_i (pc1 := 28) (eX8_at F.2.2.1 rfl (show j < 60 by omega) (by decide)) dX0_isLastOfItsKey_25 rfl nX0_41 oX8_at rfl rfl (Nat.le_of_ble_eq_true rfl) (by decide) (by decide) (fun v25 μ25 h25 => ?_)
        obtain ⟨rfl, rfl⟩ := h25
        refine Rn.icmp_ne (pc1 := 31) 33 dX0_isLastOfItsKey_28 rfl (by decide) (fun c28 => ?_) (fun c28 => ?_)
        · refine Rn.iinc (pc1 := 36)  dX0_isLastOfItsKey_33 rfl rfl (nI_1 l) (by decide) rfl rfl ?_
          refine Rn.goto 4 dX0_isLastOfItsKey_36 (by decide) ?_
          refine ih (l + 1) (by omega) (by omega) (fun q h1 h2 => ?_)
          by_cases e : q = l
          · subst e; exact c28
          · exact hb q h1 (by omega)
        · have e : lastB g1 j h = false := by
            cases hb2 : lastB g1 j h
            · rfl
            · exact absurd c28 (lastB_iff.mp hb2 l hjl (by omega))
          rw [e]
          refine Rn.iconst (pc1 := 32) (v := nI 0) dX0_isLastOfItsKey_31 rfl (by decide) ?_
          exact Rn.ireturn dX0_isLastOfItsKey_32 rfl rfl ⟨_, rfl, rfl, rfl⟩
  refine Rn.iload_n (pc1 := 1)  dX0_isLastOfItsKey_0 rfl rfl rfl ?_
  refine Rn.iconst (pc1 := 2) (v := nI 1) dX0_isLastOfItsKey_1 rfl (by decide) ?_
  refine Rn.iadd (pc1 := 3)  dX0_isLastOfItsKey_2 rfl (nI_add j 1) ?_
  refine Rn.istore_n (pc1 := 4)  dX0_isLastOfItsKey_3 rfl rfl (by decide) rfl rfl ?_
  exact loop (h - (j + 1)) (j + 1) (by omega) (by omega) (fun q h1 h2 => by omega)
theorem eX0_segmentOf {x s : Int32} (hs : nI 1 ≤ s) : EvA G 0 kX0_segmentOf [.int x, .int s] μ sz 0 0 (rI fun v μ' => v = x / s ∧ μ' = μ) := by
  refine EvA.of (L := [some (.int x), some (.int s)]) (by decide +kernel) (Nat.le_of_ble_eq_true rfl) rfl ?_
  refine Rn.iload_n (pc1 := 1)  dX0_segmentOf_0 rfl rfl rfl ?_
  refine Rn.iconst (pc1 := 2) (v := nI 1) dX0_segmentOf_1 rfl (by decide) ?_
  refine Rn.icmp_ge (pc1 := 5) 9 dX0_segmentOf_2 rfl (by decide) (fun c2 => ?_) (fun c2 => ?_)
  · refine Rn.iload_n (pc1 := 10)  dX0_segmentOf_9 rfl rfl rfl ?_
    refine Rn.iload_n (pc1 := 11)  dX0_segmentOf_10 rfl rfl rfl ?_
    refine Rn.idiv (pc1 := 12)  dX0_segmentOf_11 rfl (fun e => by rw [e] at hs; exact absurd hs (by decide)) rfl ?_
    exact Rn.ireturn dX0_segmentOf_12 rfl rfl ⟨_, rfl, rfl, rfl⟩
  · exact absurd hs c2
theorem eX0_isClosed {j : Nat} {i s : Int32} (F : FB μ a h nx fl gn g0 g1 g2 g3) (hi : i = nI j) (hj : j < 60) (hs : nI 1 ≤ s) : EvA G 1 kX0_isClosed [.ref a, .int i, .int s] μ sz 0 0 (rI fun v μ' => v = bI (closB (g0 j) nx s) ∧ μ' = μ) := by
  have hO := F.1
  refine EvA.of (L := [some (.ref a), some (.int i), some (.int s)]) (by decide +kernel) (Nat.le_of_ble_eq_true rfl) rfl ?_
  refine Rn.aload_n (pc1 := 1)  dX0_isClosed_0 rfl rfl rfl ?_
  refine Rn.getfield (pc1 := 4)  dX0_isClosed_1 rfl fX0_9 (by first | assumption | exact mset_same | exact mget_ne (by omega) (by assumption)) rfl ?_
  refine Rn.iload_n (pc1 := 5)  dX0_isClosed_4 rfl rfl rfl ?_
  refine Rn.cN_i (pc1 := 8) (eX8_at F.2.1 hi hj (by decide)) dX0_isClosed_5 rfl nX0_41 oX8_at rfl rfl (Nat.le_of_ble_eq_true rfl) (by decide) (by decide) (fun v5 μ5 h5 => ?_)
  obtain ⟨rfl, rfl⟩ := h5
  refine Rn.iload_n (pc1 := 9)  dX0_isClosed_8 rfl rfl rfl ?_
  refine Rn.cS_i (pc1 := 12) (eX0_segmentOf hs) dX0_isClosed_9 rfl qX0_57 oX0_segmentOf rfl rfl (Nat.le_of_ble_eq_true rfl) (by decide) (by decide) (fun v9 μ9 h9 => ?_)
  obtain ⟨rfl, rfl⟩ := h9
  refine Rn.aload_n (pc1 := 13)  dX0_isClosed_12 rfl rfl rfl ?_
  refine Rn.getfield (pc1 := 16)  dX0_isClosed_13 rfl fX0_28 (by first | assumption | exact mset_same | exact mget_ne (by omega) (by assumption)) rfl ?_
  refine Rn.iload_n (pc1 := 17)  dX0_isClosed_16 rfl rfl rfl ?_
  refine Rn.cS_i (pc1 := 20) (eX0_segmentOf hs) dX0_isClosed_17 rfl qX0_57 oX0_segmentOf rfl rfl (Nat.le_of_ble_eq_true rfl) (by decide) (by decide) (fun v17 μ17 h17 => ?_)
  obtain ⟨rfl, rfl⟩ := h17
  refine Rn.icmp_eq (pc1 := 23) 27 dX0_isClosed_20 rfl (by decide) (fun c20 => ?_) (fun c20 => ?_)
  · rw [show closB (g0 j) nx s = false by unfold closB; rw [decide_eq_true c20]; rfl]
    refine Rn.iconst (pc1 := 28) (v := nI 0) dX0_isClosed_27 rfl (by decide) ?_
    exact Rn.ireturn dX0_isClosed_28 rfl rfl ⟨_, rfl, rfl, rfl⟩
  · rw [show closB (g0 j) nx s = true by unfold closB; rw [decide_eq_false c20]; rfl]
    refine Rn.iconst (pc1 := 24) (v := nI 1) dX0_isClosed_23 rfl (by decide) ?_
    refine Rn.goto 28 dX0_isClosed_24 (by decide) ?_
    exact Rn.ireturn dX0_isClosed_28 rfl rfl ⟨_, rfl, rfl, rfl⟩
theorem eX0_isOldRemoval {j : Nat} {i gr mi : Int32} (F : FB μ a h nx fl gn g0 g1 g2 g3) (hi : i = nI j) (hj : j < 60) : EvA G 1 kX0_isOldRemoval [.ref a, .int i, .int gr, .int mi] μ sz 0 0 (rI fun v μ' => v = bI (oldB (g2 j) (g3 j) gr mi) ∧ μ' = μ) := by
  have hO := F.1
  refine EvA.of (L := [some (.ref a), some (.int i), some (.int gr), some (.int mi)]) (by decide +kernel) (Nat.le_of_ble_eq_true rfl) rfl ?_
  refine Rn.aload_n (pc1 := 1)  dX0_isOldRemoval_0 rfl rfl rfl ?_
  refine Rn.getfield (pc1 := 4)  dX0_isOldRemoval_1 rfl fX0_18 (by first | assumption | exact mset_same | exact mget_ne (by omega) (by assumption)) rfl ?_
  refine Rn.iload_n (pc1 := 5)  dX0_isOldRemoval_4 rfl rfl rfl ?_
  refine Rn.cN_i (pc1 := 8) (eX8_at F.2.2.2.1 hi hj (by decide)) dX0_isOldRemoval_5 rfl nX0_41 oX8_at rfl rfl (Nat.le_of_ble_eq_true rfl) (by decide) (by decide) (fun v5 μ5 h5 => ?_)
  obtain ⟨rfl, rfl⟩ := h5
  refine Rn.bipush (pc1 := 10) (v := (-6)) dX0_isOldRemoval_8 rfl (by decide) ?_
  refine Rn.icmp_ne (pc1 := 13) 31 dX0_isOldRemoval_10 rfl (by decide) (fun c10 => ?_) (fun c10 => ?_)
  · rw [show oldB (g2 j) (g3 j) gr mi = false by unfold oldB; rw [decide_eq_false c10]; rfl]
    refine Rn.iconst (pc1 := 32) (v := nI 0) dX0_isOldRemoval_31 rfl (by decide) ?_
    exact Rn.ireturn dX0_isOldRemoval_32 rfl rfl ⟨_, rfl, rfl, rfl⟩
  · refine Rn.iload_n (pc1 := 14)  dX0_isOldRemoval_13 rfl rfl rfl ?_
    refine Rn.aload_n (pc1 := 15)  dX0_isOldRemoval_14 rfl rfl rfl ?_
    refine Rn.getfield (pc1 := 18)  dX0_isOldRemoval_15 rfl fX0_21 (by first | assumption | exact mset_same | exact mget_ne (by omega) (by assumption)) rfl ?_
    refine Rn.iload_n (pc1 := 19)  dX0_isOldRemoval_18 rfl rfl rfl ?_
    refine Rn.cN_i (pc1 := 22) (eX8_at F.2.2.2.2 hi hj (by decide)) dX0_isOldRemoval_19 rfl nX0_41 oX8_at rfl rfl (Nat.le_of_ble_eq_true rfl) (by decide) (by decide) (fun v19 μ19 h19 => ?_)
    obtain ⟨rfl, rfl⟩ := h19
    refine Rn.isub (pc1 := 23)  dX0_isOldRemoval_22 rfl rfl ?_
    refine Rn.iload_n (pc1 := 24)  dX0_isOldRemoval_23 rfl rfl rfl ?_
    refine Rn.icmp_le (pc1 := 27) 31 dX0_isOldRemoval_24 rfl (by decide) (fun c24 => ?_) (fun c24 => ?_)
    · rw [show oldB (g2 j) (g3 j) gr mi = false by unfold oldB; rw [decide_eq_false (i32_nlt.mpr c24), Bool.and_false]]
      refine Rn.iconst (pc1 := 32) (v := nI 0) dX0_isOldRemoval_31 rfl (by decide) ?_
      exact Rn.ireturn dX0_isOldRemoval_32 rfl rfl ⟨_, rfl, rfl, rfl⟩
    · rw [show oldB (g2 j) (g3 j) gr mi = true by unfold oldB; rw [decide_eq_true (i32_nle.mp c24), decide_eq_true c10]; rfl]
      refine Rn.iconst (pc1 := 28) (v := nI 1) dX0_isOldRemoval_27 rfl (by decide) ?_
      refine Rn.goto 32 dX0_isOldRemoval_28 (by decide) ?_
      exact Rn.ireturn dX0_isOldRemoval_32 rfl rfl ⟨_, rfl, rfl, rfl⟩
theorem eX0_wouldGo {j : Nat} {i s gr mi : Int32} (F : FB μ a h nx fl gn g0 g1 g2 g3) (hh : h ≤ 60) (hi : i = nI j) (hj : j < h) (hs : nI 1 ≤ s) : EvA G 2 kX0_wouldGo [.ref a, .int i, .int s, .int gr, .int mi] μ sz 0 0 (rI fun v μ' => v = bI (goB h nx s gr mi g0 g1 g2 g3 j) ∧ μ' = μ) := by
  have hO := F.1
  refine EvA.of (L := [some (.ref a), some (.int i), some (.int s), some (.int gr), some (.int mi)]) (by decide +kernel) (Nat.le_of_ble_eq_true rfl) rfl ?_
  refine Rn.aload_n (pc1 := 1)  dX0_wouldGo_0 rfl rfl rfl ?_
  refine Rn.iload_n (pc1 := 2)  dX0_wouldGo_1 rfl rfl rfl ?_
  refine Rn.iload_n (pc1 := 3)  dX0_wouldGo_2 rfl rfl rfl ?_
  refine Rn.cV_i (pc1 := 6) (eX0_isClosed F hi (by omega) hs) dX0_wouldGo_3 rfl qX0_61 oX0_isClosed (by first | assumption | exact mset_same | exact mget_ne (by omega) (by assumption)) rfl rfl rfl rfl (Nat.le_of_ble_eq_true rfl) (by decide) (by decide) (fun v3 μ3 h3 => ?_)
  obtain ⟨rfl, rfl⟩ := h3
  refine Rn.if_eq (pc1 := 9) 32 dX0_wouldGo_6 rfl (by decide) (fun c6 => ?_) (fun c6 => ?_)
  · rw [show goB h nx s gr mi g0 g1 g2 g3 j = false by unfold goB; rw [bI_0 c6]; rfl]
    refine Rn.iconst (pc1 := 33) (v := nI 0) dX0_wouldGo_32 rfl (by decide) ?_
    exact Rn.ireturn dX0_wouldGo_33 rfl rfl ⟨_, rfl, rfl, rfl⟩
  · refine Rn.aload_n (pc1 := 10)  dX0_wouldGo_9 rfl rfl rfl ?_
    refine Rn.iload_n (pc1 := 11)  dX0_wouldGo_10 rfl rfl rfl ?_
    refine Rn.cV_i (pc1 := 14) (eX0_isLastOfItsKey F hh hi hj) dX0_wouldGo_11 rfl qX0_65 oX0_isLastOfItsKey (by first | assumption | exact mset_same | exact mget_ne (by omega) (by assumption)) rfl rfl rfl rfl (Nat.le_of_ble_eq_true rfl) (by decide) (by decide) (fun v11 μ11 h11 => ?_)
    obtain ⟨rfl, rfl⟩ := h11
    refine Rn.if_eq (pc1 := 17) 28 dX0_wouldGo_14 rfl (by decide) (fun c14 => ?_) (fun c14 => ?_)
    · rw [show goB h nx s gr mi g0 g1 g2 g3 j = true by unfold goB; rw [bI_n c6, bI_0 c14]; rfl]
      refine Rn.iconst (pc1 := 29) (v := nI 1) dX0_wouldGo_28 rfl (by decide) ?_
      refine Rn.goto 33 dX0_wouldGo_29 (by decide) ?_
      exact Rn.ireturn dX0_wouldGo_33 rfl rfl ⟨_, rfl, rfl, rfl⟩
    · refine Rn.aload_n (pc1 := 18)  dX0_wouldGo_17 rfl rfl rfl ?_
      refine Rn.iload_n (pc1 := 19)  dX0_wouldGo_18 rfl rfl rfl ?_
      refine Rn.iload_n (pc1 := 20)  dX0_wouldGo_19 rfl rfl rfl ?_
      refine Rn.iload (pc1 := 22)  dX0_wouldGo_20 rfl rfl ?_
      refine Rn.cV_i (pc1 := 25) (eX0_isOldRemoval F hi (by omega)) dX0_wouldGo_22 rfl qX0_69 oX0_isOldRemoval (by first | assumption | exact mset_same | exact mget_ne (by omega) (by assumption)) rfl rfl rfl rfl (Nat.le_of_ble_eq_true rfl) (by decide) (by decide) (fun v22 μ22 h22 => ?_)
      obtain ⟨rfl, rfl⟩ := h22
      refine Rn.if_eq (pc1 := 28) 32 dX0_wouldGo_25 rfl (by decide) (fun c25 => ?_) (fun c25 => ?_)
      · rw [show goB h nx s gr mi g0 g1 g2 g3 j = false by unfold goB; rw [bI_0 c25, bI_n c14]; exact Bool.and_false _]
        refine Rn.iconst (pc1 := 33) (v := nI 0) dX0_wouldGo_32 rfl (by decide) ?_
        exact Rn.ireturn dX0_wouldGo_33 rfl rfl ⟨_, rfl, rfl, rfl⟩
      · rw [show goB h nx s gr mi g0 g1 g2 g3 j = true by unfold goB; rw [bI_n c25, bI_n c6, Bool.or_true]; rfl]
        refine Rn.iconst (pc1 := 29) (v := nI 1) dX0_wouldGo_28 rfl (by decide) ?_
        refine Rn.goto 33 dX0_wouldGo_29 (by decide) ?_
        exact Rn.ireturn dX0_wouldGo_33 rfl rfl ⟨_, rfl, rfl, rfl⟩
theorem eX0_leftAfterThinning {s gr mi : Int32} (F : FB μ a h nx fl gn g0 g1 g2 g3) (hh : h ≤ 60) (hs : nI 1 ≤ s) : EvA G 3 kX0_leftAfterThinning [.ref a, .int s, .int gr, .int mi] μ sz 0 0 (rI fun v μ' => v = nI (leftN (goB h nx s gr mi g0 g1 g2 g3) h) ∧ μ' = μ) := by
  have hO := F.1
  refine EvA.of (L := [some (.ref a), some (.int s), some (.int gr), some (.int mi), none, none]) (by decide +kernel) (Nat.le_of_ble_eq_true rfl) rfl ?_
  have loop : ∀ (m i : Nat), i + m = h → Rn G 3 kX0_leftAfterThinning 6 [some (.ref a), some (.int s), some (.int gr), some (.int mi), some (.int (nI (leftN (goB h nx s gr mi g0 g1 g2 g3) i))), some (.int (nI i))] [] μ sz 0 0 (rI fun v μ' => v = nI (leftN (goB h nx s gr mi g0 g1 g2 g3) h) ∧ μ' = μ) := by
    intro m
    induction m with
    | zero =>
      intro i hi
      obtain rfl : i = h := by omega
      refine Rn.iload (pc1 := 8)  dX0_leftAfterThinning_6 rfl rfl ?_
      refine Rn.aload_n (pc1 := 9)  dX0_leftAfterThinning_8 rfl rfl rfl ?_
      refine Rn.getfield (pc1 := 12)  dX0_leftAfterThinning_9 rfl fX0_24 (by first | assumption | exact mset_same | exact mget_ne (by omega) (by assumption)) rfl ?_
      refine Rn.icmp_ge (pc1 := 15) 36 dX0_leftAfterThinning_12 rfl (by decide) (fun c12 => ?_) (fun c12 => ?_)
      · refine Rn.iload (pc1 := 38)  dX0_leftAfterThinning_36 rfl rfl ?_
        exact Rn.ireturn dX0_leftAfterThinning_38 rfl rfl ⟨_, rfl, rfl, rfl⟩
      · exact absurd (nI_le (Nat.le_refl i) (by omega)) c12
    | succ m ih =>
      intro i hi
      refine Rn.iload (pc1 := 8)  dX0_leftAfterThinning_6 rfl rfl ?_
      refine Rn.aload_n (pc1 := 9)  dX0_leftAfterThinning_8 rfl rfl rfl ?_
      refine Rn.getfield (pc1 := 12)  dX0_leftAfterThinning_9 rfl fX0_24 (by first | assumption | exact mset_same | exact mget_ne (by omega) (by assumption)) rfl ?_
      refine Rn.icmp_ge (pc1 := 15) 36 dX0_leftAfterThinning_12 rfl (by decide) (fun c12 => ?_) (fun c12 => ?_)
      · exact absurd c12 (nI_ge (by omega) (by omega))
      · refine Rn.aload_n (pc1 := 16)  dX0_leftAfterThinning_15 rfl rfl rfl ?_
        refine Rn.iload (pc1 := 18)  dX0_leftAfterThinning_16 rfl rfl ?_
        refine Rn.iload_n (pc1 := 19)  dX0_leftAfterThinning_18 rfl rfl rfl ?_
        refine Rn.iload_n (pc1 := 20)  dX0_leftAfterThinning_19 rfl rfl rfl ?_
        refine Rn.iload_n (pc1 := 21)  dX0_leftAfterThinning_20 rfl rfl rfl ?_
        refine Rn.cV_i (pc1 := 24) (eX0_wouldGo F hh rfl (show i < h by omega) hs) dX0_leftAfterThinning_21 rfl qX0_73 oX0_wouldGo (by first | assumption | exact mset_same | exact mget_ne (by omega) (by assumption)) rfl rfl rfl rfl (Nat.le_of_ble_eq_true rfl) (by decide) (by decide) (fun v21 μ21 h21 => ?_)
        obtain ⟨rfl, rfl⟩ := h21
        refine Rn.if_ne (pc1 := 27) 30 dX0_leftAfterThinning_24 rfl (by decide) (fun c24 => ?_) (fun c24 => ?_)
        · have e : leftN (goB h nx s gr mi g0 g1 g2 g3) (i + 1) = leftN (goB h nx s gr mi g0 g1 g2 g3) i := by show _ + _ = _; rw [if_pos (bI_n c24), Nat.add_zero]
          refine Rn.iinc (pc1 := 33)  dX0_leftAfterThinning_30 rfl rfl (nI_1 i) (by decide) rfl rfl ?_
          refine Rn.goto 6 dX0_leftAfterThinning_33 (by decide) ?_
          have := ih (i + 1) (by omega); rw [e] at this; exact this
        · have e : leftN (goB h nx s gr mi g0 g1 g2 g3) (i + 1) = leftN (goB h nx s gr mi g0 g1 g2 g3) i + 1 := by show _ + _ = _; rw [if_neg (by rw [bI_0 c24]; decide)]
          refine Rn.iinc (pc1 := 30)  dX0_leftAfterThinning_27 rfl rfl (nI_1 _) (by decide) rfl rfl ?_
          refine Rn.iinc (pc1 := 33)  dX0_leftAfterThinning_30 rfl rfl (nI_1 i) (by decide) rfl rfl ?_
          refine Rn.goto 6 dX0_leftAfterThinning_33 (by decide) ?_
          have := ih (i + 1) (by omega); rw [e] at this; exact this
  refine Rn.iconst (pc1 := 1) (v := nI 0) dX0_leftAfterThinning_0 rfl (by decide) ?_
  refine Rn.istore (pc1 := 3)  dX0_leftAfterThinning_1 rfl (by decide) rfl rfl ?_
  refine Rn.iconst (pc1 := 4) (v := nI 0) dX0_leftAfterThinning_3 rfl (by decide) ?_
  refine Rn.istore (pc1 := 6)  dX0_leftAfterThinning_4 rfl (by decide) rfl rfl ?_
  exact loop h 0 (by omega)
theorem eX0_floorAfterThinning {s gr mi : Int32} (F : FB μ a h nx fl gn g0 g1 g2 g3) (hh : h ≤ 60) (hs : nI 1 ≤ s) : EvA G 3 kX0_floorAfterThinning [.ref a, .int s, .int gr, .int mi] μ sz 0 0 (rI fun v μ' => v = floorN (goB h nx s gr mi g0 g1 g2 g3) (fun i => lastB g1 i h) g0 fl h ∧ μ' = μ) := by
  have hO := F.1
  refine EvA.of (L := [some (.ref a), some (.int s), some (.int gr), some (.int mi), none, none]) (by decide +kernel) (Nat.le_of_ble_eq_true rfl) rfl ?_
  have loop : ∀ (m i : Nat), i + m = h → Rn G 3 kX0_floorAfterThinning 9 [some (.ref a), some (.int s), some (.int gr), some (.int mi), some (.int (floorN (goB h nx s gr mi g0 g1 g2 g3) (fun i => lastB g1 i h) g0 fl i)), some (.int (nI i))] [] μ sz 0 0 (rI fun v μ' => v = floorN (goB h nx s gr mi g0 g1 g2 g3) (fun i => lastB g1 i h) g0 fl h ∧ μ' = μ) := by
    intro m
    induction m with
    | zero =>
      intro i hi
      obtain rfl : i = h := by omega
      refine Rn.iload (pc1 := 11)  dX0_floorAfterThinning_9 rfl rfl ?_
      refine Rn.aload_n (pc1 := 12)  dX0_floorAfterThinning_11 rfl rfl rfl ?_
      refine Rn.getfield (pc1 := 15)  dX0_floorAfterThinning_12 rfl fX0_24 (by first | assumption | exact mset_same | exact mget_ne (by omega) (by assumption)) rfl ?_
      refine Rn.icmp_ge (pc1 := 18) 60 dX0_floorAfterThinning_15 rfl (by decide) (fun c15 => ?_) (fun c15 => ?_)
      · refine Rn.iload (pc1 := 62)  dX0_floorAfterThinning_60 rfl rfl ?_
        exact Rn.ireturn dX0_floorAfterThinning_62 rfl rfl ⟨_, rfl, rfl, rfl⟩
      · exact absurd (nI_le (Nat.le_refl i) (by omega)) c15
    | succ m ih =>
      intro i hi
      generalize e0 : floorN (goB h nx s gr mi g0 g1 g2 g3) (fun i => lastB g1 i h) g0 fl i = x
      refine Rn.iload (pc1 := 11)  dX0_floorAfterThinning_9 rfl rfl ?_
      refine Rn.aload_n (pc1 := 12)  dX0_floorAfterThinning_11 rfl rfl rfl ?_
      refine Rn.getfield (pc1 := 15)  dX0_floorAfterThinning_12 rfl fX0_24 (by first | assumption | exact mset_same | exact mget_ne (by omega) (by assumption)) rfl ?_
      refine Rn.icmp_ge (pc1 := 18) 60 dX0_floorAfterThinning_15 rfl (by decide) (fun c15 => ?_) (fun c15 => ?_)
      · exact absurd c15 (nI_ge (by omega) (by omega))
      · refine Rn.aload_n (pc1 := 19)  dX0_floorAfterThinning_18 rfl rfl rfl ?_
        refine Rn.iload (pc1 := 21)  dX0_floorAfterThinning_19 rfl rfl ?_
        refine Rn.cV_i (pc1 := 24) (eX0_isLastOfItsKey F hh rfl (show i < h by omega)) dX0_floorAfterThinning_21 rfl qX0_65 oX0_isLastOfItsKey (by first | assumption | exact mset_same | exact mget_ne (by omega) (by assumption)) rfl rfl rfl rfl (Nat.le_of_ble_eq_true rfl) (by decide) (by decide) (fun v21 μ21 h21 => ?_)
        obtain ⟨rfl, rfl⟩ := h21
        refine Rn.if_eq (pc1 := 27) 54 dX0_floorAfterThinning_24 rfl (by decide) (fun c24 => ?_) (fun c24 => ?_)
        · have e : floorN (goB h nx s gr mi g0 g1 g2 g3) (fun i => lastB g1 i h) g0 fl (i + 1) = x := by show (if _ then _ else _) = _; rw [if_neg (fun q => absurd q.1 (by show ¬ lastB g1 i h = true; rw [bI_0 c24]; decide)), e0]
          refine Rn.iinc (pc1 := 57)  dX0_floorAfterThinning_54 rfl rfl (nI_1 i) (by decide) rfl rfl ?_
          refine Rn.goto 9 dX0_floorAfterThinning_57 (by decide) ?_
          have := ih (i + 1) (by omega); rw [e] at this; exact this
        · refine Rn.aload_n (pc1 := 28)  dX0_floorAfterThinning_27 rfl rfl rfl ?_
          refine Rn.iload (pc1 := 30)  dX0_floorAfterThinning_28 rfl rfl ?_
          refine Rn.iload_n (pc1 := 31)  dX0_floorAfterThinning_30 rfl rfl rfl ?_
          refine Rn.iload_n (pc1 := 32)  dX0_floorAfterThinning_31 rfl rfl rfl ?_
          refine Rn.iload_n (pc1 := 33)  dX0_floorAfterThinning_32 rfl rfl rfl ?_
          refine Rn.cV_i (pc1 := 36) (eX0_wouldGo F hh rfl (show i < h by omega) hs) dX0_floorAfterThinning_33 rfl qX0_73 oX0_wouldGo (by first | assumption | exact mset_same | exact mget_ne (by omega) (by assumption)) rfl rfl rfl rfl (Nat.le_of_ble_eq_true rfl) (by decide) (by decide) (fun v33 μ33 h33 => ?_)
          obtain ⟨rfl, rfl⟩ := h33
          refine Rn.if_eq (pc1 := 39) 54 dX0_floorAfterThinning_36 rfl (by decide) (fun c36 => ?_) (fun c36 => ?_)
          · have e : floorN (goB h nx s gr mi g0 g1 g2 g3) (fun i => lastB g1 i h) g0 fl (i + 1) = x := by show (if _ then _ else _) = _; rw [if_neg (fun q => absurd q.2 (by rw [bI_0 c36]; decide)), e0]
            refine Rn.iinc (pc1 := 57)  dX0_floorAfterThinning_54 rfl rfl (nI_1 i) (by decide) rfl rfl ?_
            refine Rn.goto 9 dX0_floorAfterThinning_57 (by decide) ?_
            have := ih (i + 1) (by omega); rw [e] at this; exact this
          · have e : floorN (goB h nx s gr mi g0 g1 g2 g3) (fun i => lastB g1 i h) g0 fl (i + 1) = if x < g0 i + nI 1 then g0 i + nI 1 else x := by show (if _ then _ else _) = _; rw [if_pos ⟨bI_n c24, bI_n c36⟩, e0]
            refine Rn.iload (pc1 := 41)  dX0_floorAfterThinning_39 rfl rfl ?_
            refine Rn.aload_n (pc1 := 42)  dX0_floorAfterThinning_41 rfl rfl rfl ?_
            refine Rn.iload (pc1 := 44)  dX0_floorAfterThinning_42 rfl rfl ?_
            refine Rn.cV_i (pc1 := 47) (eX0_numberAt F rfl (show i < 60 by omega)) dX0_floorAfterThinning_44 rfl qX0_77 oX0_numberAt (by first | assumption | exact mset_same | exact mget_ne (by omega) (by assumption)) rfl rfl rfl rfl (Nat.le_of_ble_eq_true rfl) (by decide) (by decide) (fun v44 μ44 h44 => ?_)
            obtain ⟨rfl, rfl⟩ := h44
            refine Rn.iconst (pc1 := 48) (v := nI 1) dX0_floorAfterThinning_47 rfl (by decide) ?_
            refine Rn.iadd (pc1 := 49)  dX0_floorAfterThinning_48 rfl rfl ?_
            refine Rn.mmax (pc1 := 52)  dX0_floorAfterThinning_49 rfl qX0_80 (Nat.le_of_ble_eq_true rfl) (by decide) rfl ?_
            refine Rn.istore (pc1 := 54)  dX0_floorAfterThinning_52 rfl (by decide) rfl rfl ?_
            refine Rn.iinc (pc1 := 57)  dX0_floorAfterThinning_54 rfl rfl (nI_1 i) (by decide) rfl rfl ?_
            refine Rn.goto 9 dX0_floorAfterThinning_57 (by decide) ?_
            have := ih (i + 1) (by omega); rw [e] at this; exact this
  refine Rn.aload_n (pc1 := 1)  dX0_floorAfterThinning_0 rfl rfl rfl ?_
  refine Rn.getfield (pc1 := 4)  dX0_floorAfterThinning_1 rfl fX0_31 (by first | assumption | exact mset_same | exact mget_ne (by omega) (by assumption)) rfl ?_
  refine Rn.istore (pc1 := 6)  dX0_floorAfterThinning_4 rfl (by decide) rfl rfl ?_
  refine Rn.iconst (pc1 := 7) (v := nI 0) dX0_floorAfterThinning_6 rfl (by decide) ?_
  refine Rn.istore (pc1 := 9)  dX0_floorAfterThinning_7 rfl (by decide) rfl rfl ?_
  exact loop h 0 (by omega)
theorem eX0_thinOut {s gr mi : Int32} (F : FB μ a h nx fl gn g0 g1 g2 g3) (hh : h ≤ 60) (hs : nI 1 ≤ s) {p : Nat → Bool} (hp : goB h nx s gr mi g0 g1 g2 g3 = p) : EvA G 3 kX0_thinOut [.ref a, .int s, .int gr, .int mi] μ sz 0 0 (rI fun v μ' => v = nI (h - leftN p h) ∧ (∃ k0 k1 k2 k3, FB μ' a (leftN p h) nx fl (gn + nI (h - leftN p h)) k0 k1 k2 k3 ∧ ∀ j q, (kept p h)[j]? = some q → k0 j = g0 q ∧ k1 j = g1 q ∧ k2 j = g2 q ∧ k3 j = g3 q) ∧ Fr a (a + 5) μ μ') := by
  refine EvA.of (L := [some (.ref a), some (.int s), some (.int gr), some (.int mi), none, none]) (by decide +kernel) (Nat.le_of_ble_eq_true rfl) rfl ?_
  have loop : ∀ (m i : Nat), i + m = h → ∀ (μ1 : Mm) (k0 k1 k2 k3 : Nat → Int32), FB μ1 a h nx fl gn k0 k1 k2 k3 → Fr a (a + 5) μ μ1 → (∀ j q, (kept p i)[j]? = some q → k0 j = g0 q ∧ k1 j = g1 q ∧ k2 j = g2 q ∧ k3 j = g3 q) → (∀ j, i ≤ j → j < h → k0 j = g0 j ∧ k1 j = g1 j ∧ k2 j = g2 j ∧ k3 j = g3 j) → Rn G 3 kX0_thinOut 6 [some (.ref a), some (.int s), some (.int gr), some (.int mi), some (.int (nI (leftN p i))), some (.int (nI i))] [] μ1 sz 0 0 (rI fun v μ' => v = nI (h - leftN p h) ∧ (∃ k0 k1 k2 k3, FB μ' a (leftN p h) nx fl (gn + nI (h - leftN p h)) k0 k1 k2 k3 ∧ ∀ j q, (kept p h)[j]? = some q → k0 j = g0 q ∧ k1 j = g1 q ∧ k2 j = g2 q ∧ k3 j = g3 q) ∧ Fr a (a + 5) μ μ') := by
    intro m
    induction m with
    | zero =>
      intro i hi μ1 k0 k1 k2 k3 F1 q1 hk1 hk2
      obtain rfl : i = h := by omega
      have hO := F1.1
      have hle := leftN_le p i
      refine Rn.iload (pc1 := 8)  dX0_thinOut_6 rfl rfl ?_
      refine Rn.aload_n (pc1 := 9)  dX0_thinOut_8 rfl rfl rfl ?_
      refine Rn.getfield (pc1 := 12)  dX0_thinOut_9 rfl fX0_24 (by first | assumption | exact mset_same | exact mget_ne (by omega) (by assumption)) rfl ?_
      refine Rn.icmp_ge (pc1 := 15) 66 dX0_thinOut_12 rfl (by decide) (fun c12 => ?_) (fun c12 => ?_)
      · refine Rn.aload_n (pc1 := 67)  dX0_thinOut_66 rfl rfl rfl ?_
        refine Rn.getfield (pc1 := 70)  dX0_thinOut_67 rfl fX0_24 (by first | assumption | exact mset_same | exact mget_ne (by omega) (by assumption)) rfl ?_
        refine Rn.iload (pc1 := 72)  dX0_thinOut_70 rfl rfl ?_
        refine Rn.isub (pc1 := 73)  dX0_thinOut_72 rfl (nI_sub hle) ?_
        refine Rn.istore (pc1 := 75)  dX0_thinOut_73 rfl (by decide) rfl rfl ?_
        refine Rn.aload_n (pc1 := 76)  dX0_thinOut_75 rfl rfl rfl ?_
        refine Rn.iload (pc1 := 78)  dX0_thinOut_76 rfl rfl ?_
        refine Rn.putfield (pc1 := 81)  dX0_thinOut_78 rfl pX0_24 (fun h => Bool.noConfusion h) (by assumption) (Nat.le_of_ble_eq_true rfl) rfl rfl rfl ?_
        have F2 := F1.setO (leftN p i) nx fl gn
        have O2 := F2.1
        refine Rn.aload_n (pc1 := 82)  dX0_thinOut_81 rfl rfl rfl ?_
        refine Rn.dup (pc1 := 83)  dX0_thinOut_82 rfl rfl ?_
        refine Rn.getfield (pc1 := 86)  dX0_thinOut_83 rfl fX0_34 (by first | assumption | exact mset_same | exact mget_ne (by omega) (by assumption)) rfl ?_
        refine Rn.iload (pc1 := 88)  dX0_thinOut_86 rfl rfl ?_
        refine Rn.iadd (pc1 := 89)  dX0_thinOut_88 rfl rfl ?_
        refine Rn.putfield (pc1 := 92)  dX0_thinOut_89 rfl pX0_34 (fun h => Bool.noConfusion h) (by assumption) (Nat.le_of_ble_eq_true rfl) rfl rfl rfl ?_
        have F3 := F2.setO (leftN p i) nx fl (gn + nI (i - leftN p i))
        refine Rn.iload (pc1 := 94)  dX0_thinOut_92 rfl rfl ?_
        exact Rn.ireturn dX0_thinOut_94 rfl rfl ⟨_, rfl, rfl, ⟨k0, k1, k2, k3, F3, hk1⟩, (q1.set_ (by omega) (by omega)).set_ (by omega) (by omega)⟩
      · exact absurd (nI_le (Nat.le_refl i) (by omega)) c12
    | succ m ih =>
      intro i hi μ1 k0 k1 k2 k3 F1 q1 hk1 hk2
      have hO := F1.1
      have hle := leftN_le p i
      have hg : goB h nx s gr mi k0 k1 k2 k3 i = p i := by rw [goB_congr hk2 (by omega), hp]
      refine Rn.iload (pc1 := 8)  dX0_thinOut_6 rfl rfl ?_
      refine Rn.aload_n (pc1 := 9)  dX0_thinOut_8 rfl rfl rfl ?_
      refine Rn.getfield (pc1 := 12)  dX0_thinOut_9 rfl fX0_24 (by first | assumption | exact mset_same | exact mget_ne (by omega) (by assumption)) rfl ?_
      refine Rn.icmp_ge (pc1 := 15) 66 dX0_thinOut_12 rfl (by decide) (fun c12 => ?_) (fun c12 => ?_)
      · exact absurd c12 (nI_ge (by omega) (by omega))
      · refine Rn.aload_n (pc1 := 16)  dX0_thinOut_15 rfl rfl rfl ?_
        refine Rn.iload (pc1 := 18)  dX0_thinOut_16 rfl rfl ?_
        refine Rn.iload_n (pc1 := 19)  dX0_thinOut_18 rfl rfl rfl ?_
        refine Rn.iload_n (pc1 := 20)  dX0_thinOut_19 rfl rfl rfl ?_
        refine Rn.iload_n (pc1 := 21)  dX0_thinOut_20 rfl rfl rfl ?_
        refine Rn.cV_i (pc1 := 24) (eX0_wouldGo F1 hh rfl (show i < h by omega) hs) dX0_thinOut_21 rfl qX0_73 oX0_wouldGo (by first | assumption | exact mset_same | exact mget_ne (by omega) (by assumption)) rfl rfl rfl rfl (Nat.le_of_ble_eq_true rfl) (by decide) (by decide) (fun v21 μ21 h21 => ?_)
        obtain ⟨rfl, rfl⟩ := h21
        rw [hg]
        refine Rn.if_ne (pc1 := 27) 60 dX0_thinOut_24 rfl (by decide) (fun c24 => ?_) (fun c24 => ?_)
        · have e : leftN p (i + 1) = leftN p i := by show _ + _ = _; rw [if_pos (bI_n c24), Nat.add_zero]
          have e2 : kept p (i + 1) = kept p i := if_pos (bI_n c24)
          refine Rn.iinc (pc1 := 63)  dX0_thinOut_60 rfl rfl (nI_1 i) (by decide) rfl rfl ?_
          refine Rn.goto 6 dX0_thinOut_63 (by decide) ?_
          first
            | (have := ih (i + 1) (by omega) _ _ _ _ _ F2 (q1.trans q2) (by
                  intro j q hj
                  rw [e2] at hj
                  have hlen := kept_len p i
                  have hi2 := hk2 i (Nat.le_refl i) (by omega)
                  by_cases hjl : j < (kept p i).length
                  · rw [List.getElem?_append_left hjl] at hj
                    have := hk1 j q hj
                    unfold upd
                    rw [if_neg (by omega), if_neg (by omega), if_neg (by omega), if_neg (by omega)]
                    exact this
                  · rw [List.getElem?_append_right (by omega)] at hj
                    have hz : j - (kept p i).length < 1 := (List.getElem?_eq_some_iff.mp hj).1
                    rw [show j - (kept p i).length = 0 by omega] at hj
                    cases hj
                    obtain rfl : j = leftN p i := by omega
                    unfold upd
                    rw [if_pos rfl, if_pos rfl, if_pos rfl, if_pos rfl]
                    exact hi2) (by
                  intro j h1 h2
                  unfold upd
                  rw [if_neg (by omega), if_neg (by omega), if_neg (by omega), if_neg (by omega)]
                  exact hk2 j (by omega) h2); rw [e] at this; exact this)
            | (have := ih (i + 1) (by omega) _ _ _ _ _ F1 q1 (by rw [e2]; exact hk1) (fun j h1 h2 => hk2 j (by omega) h2); rw [e] at this; exact this)
        · have e : leftN p (i + 1) = leftN p i + 1 := by show _ + _ = _; rw [if_neg (by rw [bI_0 c24]; decide)]
          have e2 : kept p (i + 1) = kept p i ++ [i] := if_neg (by rw [bI_0 c24]; decide)
          refine Rn.aload_n (pc1 := 28)  dX0_thinOut_27 rfl rfl rfl ?_
          refine Rn.iload (pc1 := 30)  dX0_thinOut_28 rfl rfl ?_
          refine Rn.aload_n (pc1 := 31)  dX0_thinOut_30 rfl rfl rfl ?_
          refine Rn.iload (pc1 := 33)  dX0_thinOut_31 rfl rfl ?_
          refine Rn.cV_i (pc1 := 36) (eX0_numberAt F1 rfl (show i < 60 by omega)) dX0_thinOut_33 rfl qX0_77 oX0_numberAt (by first | assumption | exact mset_same | exact mget_ne (by omega) (by assumption)) rfl rfl rfl rfl (Nat.le_of_ble_eq_true rfl) (by decide) (by decide) (fun v33 μ33 h33 => ?_)
          obtain ⟨rfl, rfl⟩ := h33
          refine Rn.aload_n (pc1 := 37)  dX0_thinOut_36 rfl rfl rfl ?_
          refine Rn.iload (pc1 := 39)  dX0_thinOut_37 rfl rfl ?_
          refine Rn.cV_i (pc1 := 42) (eX0_keyAt F1 rfl (show i < 60 by omega)) dX0_thinOut_39 rfl qX0_85 oX0_keyAt (by first | assumption | exact mset_same | exact mget_ne (by omega) (by assumption)) rfl rfl rfl rfl (Nat.le_of_ble_eq_true rfl) (by decide) (by decide) (fun v39 μ39 h39 => ?_)
          obtain ⟨rfl, rfl⟩ := h39
          refine Rn.aload_n (pc1 := 43)  dX0_thinOut_42 rfl rfl rfl ?_
          refine Rn.iload (pc1 := 45)  dX0_thinOut_43 rfl rfl ?_
          refine Rn.cV_i (pc1 := 48) (eX0_valueAt F1 rfl (show i < 60 by omega)) dX0_thinOut_45 rfl qX0_88 oX0_valueAt (by first | assumption | exact mset_same | exact mget_ne (by omega) (by assumption)) rfl rfl rfl rfl (Nat.le_of_ble_eq_true rfl) (by decide) (by decide) (fun v45 μ45 h45 => ?_)
          obtain ⟨rfl, rfl⟩ := h45
          refine Rn.aload_n (pc1 := 49)  dX0_thinOut_48 rfl rfl rfl ?_
          refine Rn.iload (pc1 := 51)  dX0_thinOut_49 rfl rfl ?_
          refine Rn.cV_i (pc1 := 54) (eX0_minuteAt F1 rfl (show i < 60 by omega)) dX0_thinOut_51 rfl qX0_91 oX0_minuteAt (by first | assumption | exact mset_same | exact mget_ne (by omega) (by assumption)) rfl rfl rfl rfl (Nat.le_of_ble_eq_true rfl) (by decide) (by decide) (fun v51 μ51 h51 => ?_)
          obtain ⟨rfl, rfl⟩ := h51
          refine Rn.cV_v (pc1 := 57) (eX0_layEntry F1 rfl (show leftN p i < 60 by omega)) dX0_thinOut_54 rfl qX0_45 oX0_layEntry (by first | assumption | exact mset_same | exact mget_ne (by omega) (by assumption)) rfl rfl rfl rfl (Nat.le_of_ble_eq_true rfl) (by decide) (by decide) (fun μ54 h54 => ?_)
          obtain ⟨F2, q2⟩ := h54
          have O2 := F2.1
          refine Rn.iinc (pc1 := 60)  dX0_thinOut_57 rfl rfl (nI_1 _) (by decide) rfl rfl ?_
          refine Rn.iinc (pc1 := 63)  dX0_thinOut_60 rfl rfl (nI_1 i) (by decide) rfl rfl ?_
          refine Rn.goto 6 dX0_thinOut_63 (by decide) ?_
          first
            | (have := ih (i + 1) (by omega) _ _ _ _ _ F2 (q1.trans q2) (by
                  intro j q hj
                  rw [e2] at hj
                  have hlen := kept_len p i
                  have hi2 := hk2 i (Nat.le_refl i) (by omega)
                  by_cases hjl : j < (kept p i).length
                  · rw [List.getElem?_append_left hjl] at hj
                    have := hk1 j q hj
                    unfold upd
                    rw [if_neg (by omega), if_neg (by omega), if_neg (by omega), if_neg (by omega)]
                    exact this
                  · rw [List.getElem?_append_right (by omega)] at hj
                    have hz : j - (kept p i).length < 1 := (List.getElem?_eq_some_iff.mp hj).1
                    rw [show j - (kept p i).length = 0 by omega] at hj
                    cases hj
                    obtain rfl : j = leftN p i := by omega
                    unfold upd
                    rw [if_pos rfl, if_pos rfl, if_pos rfl, if_pos rfl]
                    exact hi2) (by
                  intro j h1 h2
                  unfold upd
                  rw [if_neg (by omega), if_neg (by omega), if_neg (by omega), if_neg (by omega)]
                  exact hk2 j (by omega) h2); rw [e] at this; exact this)
            | (have := ih (i + 1) (by omega) _ _ _ _ _ F1 q1 (by rw [e2]; exact hk1) (fun j h1 h2 => hk2 j (by omega) h2); rw [e] at this; exact this)
  refine Rn.iconst (pc1 := 1) (v := nI 0) dX0_thinOut_0 rfl (by decide) ?_
  refine Rn.istore (pc1 := 3)  dX0_thinOut_1 rfl (by decide) rfl rfl ?_
  refine Rn.iconst (pc1 := 4) (v := nI 0) dX0_thinOut_3 rfl (by decide) ?_
  refine Rn.istore (pc1 := 6)  dX0_thinOut_4 rfl (by decide) rfl rfl ?_
  exact loop h 0 (by omega) μ g0 g1 g2 g3 F Fr.rf (fun j q hj => by simp [kept] at hj) (fun j _ _ => ⟨rfl, rfl, rfl, rfl⟩)
theorem eX0_copyFrom {b h' : Nat} {nx' fl' gn' : Int32} {k0 k1 k2 k3 : Nat → Int32} (F : FB μ a h nx fl gn g0 g1 g2 g3) (K : FB μ b h' nx' fl' gn' k0 k1 k2 k3) (hd : a + 5 ≤ b ∨ b + 5 ≤ a) : EvA G 1 kX0_copyFrom [.ref a, .ref b] μ sz 0 0 (rV fun μ' => FB μ' a h' nx' fl' gn' (cpy 60 k0 g0) (cpy 60 k1 g1) (cpy 60 k2 g2) (cpy 60 k3 g3) ∧ Fr a (a + 5) μ μ') := by
  have hO := F.1
  have kO := K.1
  refine EvA.of (L := [some (.ref a), some (.ref b)]) (by decide +kernel) (Nat.le_of_ble_eq_true rfl) rfl ?_
  refine Rn.aload_n (pc1 := 1)  dX0_copyFrom_0 rfl rfl rfl ?_
  refine Rn.getfield (pc1 := 4)  dX0_copyFrom_1 rfl fX0_9 (by first | assumption | exact mset_same | exact mget_ne (by omega) (by assumption)) rfl ?_
  refine Rn.aload_n (pc1 := 5)  dX0_copyFrom_4 rfl rfl rfl ?_
  refine Rn.getfield (pc1 := 8)  dX0_copyFrom_5 rfl fX0_9 (by first | assumption | exact mset_same | exact mget_ne (by omega) (by assumption)) rfl ?_
  refine Rn.cN_v (pc1 := 11) (eX8_copyRow K.2.1 F.2.1 (by omega) (by decide)) dX0_copyFrom_8 rfl nX0_37 oX8_copyRow rfl rfl (Nat.le_of_ble_eq_true rfl) (by decide) (by decide) (fun μ8 h8 => ?_)
  subst h8
  have F1 := F.set0 (cpy 60 k0 g0)
  have K1 := K.fr (Fr.set (a := a) (b := a + 5) (q := a + 1) (c := ints 60 (cpy 60 k0 g0)) (by omega) (by omega)) (by omega)
  have O1 := F1.1
  have P1 := K1.1
  refine Rn.aload_n (pc1 := 12)  dX0_copyFrom_11 rfl rfl rfl ?_
  refine Rn.getfield (pc1 := 15)  dX0_copyFrom_12 rfl fX0_15 (by first | assumption | exact mset_same | exact mget_ne (by omega) (by assumption)) rfl ?_
  refine Rn.aload_n (pc1 := 16)  dX0_copyFrom_15 rfl rfl rfl ?_
  refine Rn.getfield (pc1 := 19)  dX0_copyFrom_16 rfl fX0_15 (by first | assumption | exact mset_same | exact mget_ne (by omega) (by assumption)) rfl ?_
  refine Rn.cN_v (pc1 := 22) (eX8_copyRow K1.2.2.1 F1.2.2.1 (by omega) (by decide)) dX0_copyFrom_19 rfl nX0_37 oX8_copyRow rfl rfl (Nat.le_of_ble_eq_true rfl) (by decide) (by decide) (fun μ19 h19 => ?_)
  subst h19
  have F2 := F1.set1 (cpy 60 k1 g1)
  have K2 := K1.fr (Fr.set (a := a) (b := a + 5) (q := a + 2) (c := ints 60 (cpy 60 k1 g1)) (by omega) (by omega)) (by omega)
  have O2 := F2.1
  have P2 := K2.1
  refine Rn.aload_n (pc1 := 23)  dX0_copyFrom_22 rfl rfl rfl ?_
  refine Rn.getfield (pc1 := 26)  dX0_copyFrom_23 rfl fX0_18 (by first | assumption | exact mset_same | exact mget_ne (by omega) (by assumption)) rfl ?_
  refine Rn.aload_n (pc1 := 27)  dX0_copyFrom_26 rfl rfl rfl ?_
  refine Rn.getfield (pc1 := 30)  dX0_copyFrom_27 rfl fX0_18 (by first | assumption | exact mset_same | exact mget_ne (by omega) (by assumption)) rfl ?_
  refine Rn.cN_v (pc1 := 33) (eX8_copyRow K2.2.2.2.1 F2.2.2.2.1 (by omega) (by decide)) dX0_copyFrom_30 rfl nX0_37 oX8_copyRow rfl rfl (Nat.le_of_ble_eq_true rfl) (by decide) (by decide) (fun μ30 h30 => ?_)
  subst h30
  have F3 := F2.set2 (cpy 60 k2 g2)
  have K3 := K2.fr (Fr.set (a := a) (b := a + 5) (q := a + 3) (c := ints 60 (cpy 60 k2 g2)) (by omega) (by omega)) (by omega)
  have O3 := F3.1
  have P3 := K3.1
  refine Rn.aload_n (pc1 := 34)  dX0_copyFrom_33 rfl rfl rfl ?_
  refine Rn.getfield (pc1 := 37)  dX0_copyFrom_34 rfl fX0_21 (by first | assumption | exact mset_same | exact mget_ne (by omega) (by assumption)) rfl ?_
  refine Rn.aload_n (pc1 := 38)  dX0_copyFrom_37 rfl rfl rfl ?_
  refine Rn.getfield (pc1 := 41)  dX0_copyFrom_38 rfl fX0_21 (by first | assumption | exact mset_same | exact mget_ne (by omega) (by assumption)) rfl ?_
  refine Rn.cN_v (pc1 := 44) (eX8_copyRow K3.2.2.2.2 F3.2.2.2.2 (by omega) (by decide)) dX0_copyFrom_41 rfl nX0_37 oX8_copyRow rfl rfl (Nat.le_of_ble_eq_true rfl) (by decide) (by decide) (fun μ41 h41 => ?_)
  subst h41
  have F4 := F3.set3 (cpy 60 k3 g3)
  have K4 := K3.fr (Fr.set (a := a) (b := a + 5) (q := a + 4) (c := ints 60 (cpy 60 k3 g3)) (by omega) (by omega)) (by omega)
  have O4 := F4.1
  have P4 := K4.1
  refine Rn.aload_n (pc1 := 45)  dX0_copyFrom_44 rfl rfl rfl ?_
  refine Rn.aload_n (pc1 := 46)  dX0_copyFrom_45 rfl rfl rfl ?_
  refine Rn.getfield (pc1 := 49)  dX0_copyFrom_46 rfl fX0_24 (by first | assumption | exact mset_same | exact mget_ne (by omega) (by assumption)) rfl ?_
  refine Rn.putfield (pc1 := 52)  dX0_copyFrom_49 rfl pX0_24 (fun h => Bool.noConfusion h) (by assumption) (Nat.le_of_ble_eq_true rfl) rfl rfl rfl ?_
  have F5 := F4.setO h' nx fl gn
  have O5 := F5.1
  have K5 := K4.fr (Fr.set (a := a) (b := a + 5) (q := a) (c := obj 0 [.ref (a + 1), .ref (a + 2), .ref (a + 3), .ref (a + 4), .int (nI h'), .int nx, .int fl, .int gn]) (by omega) (by omega)) (by omega)
  have P5 := K5.1
  refine Rn.aload_n (pc1 := 53)  dX0_copyFrom_52 rfl rfl rfl ?_
  refine Rn.aload_n (pc1 := 54)  dX0_copyFrom_53 rfl rfl rfl ?_
  refine Rn.getfield (pc1 := 57)  dX0_copyFrom_54 rfl fX0_28 (by first | assumption | exact mset_same | exact mget_ne (by omega) (by assumption)) rfl ?_
  refine Rn.putfield (pc1 := 60)  dX0_copyFrom_57 rfl pX0_28 (fun h => Bool.noConfusion h) (by assumption) (Nat.le_of_ble_eq_true rfl) rfl rfl rfl ?_
  have F6 := F5.setO h' nx' fl gn
  have O6 := F6.1
  have K6 := K5.fr (Fr.set (a := a) (b := a + 5) (q := a) (c := obj 0 [.ref (a + 1), .ref (a + 2), .ref (a + 3), .ref (a + 4), .int (nI h'), .int nx', .int fl, .int gn]) (by omega) (by omega)) (by omega)
  have P6 := K6.1
  refine Rn.aload_n (pc1 := 61)  dX0_copyFrom_60 rfl rfl rfl ?_
  refine Rn.aload_n (pc1 := 62)  dX0_copyFrom_61 rfl rfl rfl ?_
  refine Rn.getfield (pc1 := 65)  dX0_copyFrom_62 rfl fX0_31 (by first | assumption | exact mset_same | exact mget_ne (by omega) (by assumption)) rfl ?_
  refine Rn.putfield (pc1 := 68)  dX0_copyFrom_65 rfl pX0_31 (fun h => Bool.noConfusion h) (by assumption) (Nat.le_of_ble_eq_true rfl) rfl rfl rfl ?_
  have F7 := F6.setO h' nx' fl' gn
  have O7 := F7.1
  have K7 := K6.fr (Fr.set (a := a) (b := a + 5) (q := a) (c := obj 0 [.ref (a + 1), .ref (a + 2), .ref (a + 3), .ref (a + 4), .int (nI h'), .int nx', .int fl', .int gn]) (by omega) (by omega)) (by omega)
  have P7 := K7.1
  refine Rn.aload_n (pc1 := 69)  dX0_copyFrom_68 rfl rfl rfl ?_
  refine Rn.aload_n (pc1 := 70)  dX0_copyFrom_69 rfl rfl rfl ?_
  refine Rn.getfield (pc1 := 73)  dX0_copyFrom_70 rfl fX0_34 (by first | assumption | exact mset_same | exact mget_ne (by omega) (by assumption)) rfl ?_
  refine Rn.putfield (pc1 := 76)  dX0_copyFrom_73 rfl pX0_34 (fun h => Bool.noConfusion h) (by assumption) (Nat.le_of_ble_eq_true rfl) rfl rfl rfl ?_
  have F8 := F7.setO h' nx' fl' gn'
  exact Rn.vreturn dX0_copyFrom_76 rfl ⟨rfl, F8, (((((((Fr.set (by omega) (by omega)).set_ (by omega) (by omega)).set_ (by omega) (by omega)).set_ (by omega) (by omega)).set_ (by omega) (by omega)).set_ (by omega) (by omega)).set_ (by omega) (by omega)).set_ (by omega) (by omega)⟩
end FEED
end
section
/-! ===== Reader, Snapshot ===== -/
def RA (μ : Mm) (a : Nat) (pl cp rs : Int32) (vw cv : Nat → Int32) : Prop := μ a = some (obj 3 [.int pl, .int cp, .int rs, .ref (a + 1), .ref (a + 3)]) ∧ VA μ (a + 1) vw ∧ VA μ (a + 3) cv
def SN (μ : Mm) (a : Nat) (n : Int32) (tb : Nat → Int32) : Prop := μ a = some (obj 5 [.int n, .ref (a + 1)]) ∧ VA μ (a + 1) tb
section READM
variable {μ : Mm} {a : Nat} {pl cp rs n : Int32} {vw cv tb : Nat → Int32}
theorem RA.fr {μ' : Mm} {x y : Nat} (F : RA μ a pl cp rs vw cv) (hF : Fr x y μ μ') (hd : a + 5 ≤ x ∨ y ≤ a) : RA μ' a pl cp rs vw cv := ⟨(hF a (by omega)).trans F.1, F.2.1.fr hF (by omega), F.2.2.fr hF (by omega)⟩
theorem SN.fr {μ' : Mm} {x y : Nat} (F : SN μ a n tb) (hF : Fr x y μ μ') (hd : a + 3 ≤ x ∨ y ≤ a) : SN μ' a n tb := ⟨(hF a (by omega)).trans F.1, F.2.fr hF (by omega)⟩
theorem RA.setO (F : RA μ a pl cp rs vw cv) (pl' cp' rs' : Int32) : RA (mset μ a (obj 3 [.int pl', .int cp', .int rs', .ref (a + 1), .ref (a + 3)])) a pl' cp' rs' vw cv := ⟨mset_same, F.2.1.fr (Fr.set (a := a) (b := a + 1) (by omega) (by omega)) (by omega), F.2.2.fr (Fr.set (a := a) (b := a + 1) (by omega) (by omega)) (by omega)⟩
theorem SN.setO (F : SN μ a n tb) (n' : Int32) : SN (mset μ a (obj 5 [.int n', .ref (a + 1)])) a n' tb := ⟨mset_same, F.2.fr (Fr.set (a := a) (b := a + 1) (by omega) (by omega)) (by omega)⟩
end READM
def vwN (g1 g2 vw : Nat → Int32) (k : Nat) : Nat → Nat → Int32
  | 0 => vw
  | n + 1 => upd (vwN g1 g2 vw k n) (g1 (k + n)).toNatClampNeg (g2 (k + n))
def plN (g0 : Nat → Int32) (pl : Int32) (k : Nat) : Nat → Int32
  | 0 => pl
  | n + 1 => g0 (k + n) + nI 1
theorem vwN_congr {g1 g2 vw k1 k2 vw' : Nat → Int32} {k h : Nat} (h1 : ∀ j, j < h → g1 j = k1 j) (h2 : ∀ j, j < h → g2 j = k2 j) (hv : ∀ j, j < 12 → vw j = vw' j) : ∀ n, k + n ≤ h → ∀ j, j < 12 → vwN g1 g2 vw k n j = vwN k1 k2 vw' k n j
  | 0, _, j, hj => hv j hj
  | n + 1, hn, j, hj => by
    show upd _ _ _ j = upd _ _ _ j
    rw [h1 _ (by omega), h2 _ (by omega)]
    unfold upd
    split
    · rfl
    · exact vwN_congr h1 h2 hv n (by omega) j hj
section READER
variable {G : GG} {μ : Mm} {sz : Nat} {a : Nat} {pl cp rs : Int32} {vw cv : Nat → Int32}
theorem eX3_copyFrom {b : Nat} {pl' cp' rs' : Int32} {vw' cv' : Nat → Int32} (F : RA μ a pl cp rs vw cv) (K : RA μ b pl' cp' rs' vw' cv') (hd : a + 5 ≤ b ∨ b + 5 ≤ a) : EvA G 2 kX3_copyFrom [.ref a, .ref b] μ sz 0 0 (rV fun μ' => RA μ' a pl' cp' rs' vw' cv' ∧ Fr a (a + 5) μ μ') := by
  have hO := F.1
  have kO := K.1
  refine EvA.of (L := [some (.ref a), some (.ref b)]) (by decide +kernel) (Nat.le_of_ble_eq_true rfl) rfl ?_
  refine Rn.aload_n (pc1 := 1)  dX3_copyFrom_0 rfl rfl rfl ?_
  refine Rn.aload_n (pc1 := 2)  dX3_copyFrom_1 rfl rfl rfl ?_
  refine Rn.getfield (pc1 := 5)  dX3_copyFrom_2 rfl fX3_7 (by first | assumption | exact mset_same | exact mget_ne (by omega) (by assumption)) rfl ?_
  refine Rn.putfield (pc1 := 8)  dX3_copyFrom_5 rfl pX3_7 (fun h => Bool.noConfusion h) (by assumption) (Nat.le_of_ble_eq_true rfl) rfl rfl rfl ?_
  have F1 := F.setO pl' cp rs
  have O1 := F1.1
  have q1 : Fr a (a + 5) μ _ := Fr.set (c := obj 3 [.int pl', .int cp, .int rs, .ref (a + 1), .ref (a + 3)]) (Nat.le_refl a) (by omega)
  have K1 := K.fr q1 (by omega)
  have P1 := K1.1
  refine Rn.aload_n (pc1 := 9)  dX3_copyFrom_8 rfl rfl rfl ?_
  refine Rn.aload_n (pc1 := 10)  dX3_copyFrom_9 rfl rfl rfl ?_
  refine Rn.getfield (pc1 := 13)  dX3_copyFrom_10 rfl fX3_13 (by first | assumption | exact mset_same | exact mget_ne (by omega) (by assumption)) rfl ?_
  refine Rn.putfield (pc1 := 16)  dX3_copyFrom_13 rfl pX3_13 (fun h => Bool.noConfusion h) (by assumption) (Nat.le_of_ble_eq_true rfl) rfl rfl rfl ?_
  have F2 := F1.setO pl' cp' rs
  have O2 := F2.1
  have q2 := q1.set_ (q := a) (c := obj 3 [.int pl', .int cp', .int rs, .ref (a + 1), .ref (a + 3)]) (Nat.le_refl a) (by omega)
  have K2 := K.fr q2 (by omega)
  have P2 := K2.1
  refine Rn.aload_n (pc1 := 17)  dX3_copyFrom_16 rfl rfl rfl ?_
  refine Rn.aload_n (pc1 := 18)  dX3_copyFrom_17 rfl rfl rfl ?_
  refine Rn.getfield (pc1 := 21)  dX3_copyFrom_18 rfl fX3_16 (by first | assumption | exact mset_same | exact mget_ne (by omega) (by assumption)) rfl ?_
  refine Rn.putfield (pc1 := 24)  dX3_copyFrom_21 rfl pX3_16 (fun h => Bool.noConfusion h) (by assumption) (Nat.le_of_ble_eq_true rfl) rfl rfl rfl ?_
  have F3 := F2.setO pl' cp' rs'
  have O3 := F3.1
  have q3 := q2.set_ (q := a) (c := obj 3 [.int pl', .int cp', .int rs', .ref (a + 1), .ref (a + 3)]) (Nat.le_refl a) (by omega)
  have K3 := K.fr q3 (by omega)
  have P3 := K3.1
  have V1 := F3.2.1.1
  have V2 := F3.2.2.1
  refine Rn.aload_n (pc1 := 25)  dX3_copyFrom_24 rfl rfl rfl ?_
  refine Rn.getfield (pc1 := 28)  dX3_copyFrom_25 rfl fX3_22 (by first | assumption | exact mset_same | exact mget_ne (by omega) (by assumption)) rfl ?_
  refine Rn.aload_n (pc1 := 29)  dX3_copyFrom_28 rfl rfl rfl ?_
  refine Rn.getfield (pc1 := 32)  dX3_copyFrom_29 rfl fX3_22 (by first | assumption | exact mset_same | exact mget_ne (by omega) (by assumption)) rfl ?_
  refine Rn.cV_v (pc1 := 35) (eX7_copyFrom F3.2.1 K3.2.1 (by omega)) dX3_copyFrom_32 rfl qX3_29 oX7_copyFrom (by first | assumption | exact mset_same | exact mget_ne (by omega) (by assumption)) rfl rfl rfl rfl (Nat.le_of_ble_eq_true rfl) (by decide) (by decide) (fun μ32 h32 => ?_)
  obtain ⟨W1, w1⟩ := h32
  have q4 := q3.trans (w1.wide (a' := a) (b' := a + 5) (by omega) (by omega))
  have O4 := (w1 a (by omega)).trans O3
  have K4 := K.fr q4 (by omega)
  have P4 := K4.1
  have W2 := F3.2.2.fr w1 (by omega)
  have V3 := W2.1
  refine Rn.aload_n (pc1 := 36)  dX3_copyFrom_35 rfl rfl rfl ?_
  refine Rn.getfield (pc1 := 39)  dX3_copyFrom_36 rfl fX3_26 (by first | assumption | exact mset_same | exact mget_ne (by omega) (by assumption)) rfl ?_
  refine Rn.aload_n (pc1 := 40)  dX3_copyFrom_39 rfl rfl rfl ?_
  refine Rn.getfield (pc1 := 43)  dX3_copyFrom_40 rfl fX3_26 (by first | assumption | exact mset_same | exact mget_ne (by omega) (by assumption)) rfl ?_
  refine Rn.cV_v (pc1 := 46) (eX7_copyFrom W2 K4.2.2 (by omega)) dX3_copyFrom_43 rfl qX3_29 oX7_copyFrom (by first | assumption | exact mset_same | exact mget_ne (by omega) (by assumption)) rfl rfl rfl rfl (Nat.le_of_ble_eq_true rfl) (by decide) (by decide) (fun μ43 h43 => ?_)
  obtain ⟨W3, w3⟩ := h43
  exact Rn.vreturn dX3_copyFrom_46 rfl ⟨rfl, ⟨(w3 a (by omega)).trans O4, W1.fr w3 (by omega), W3⟩, q4.trans (w3.wide (by omega) (by omega))⟩
theorem eX3_keepPlace (F : RA μ a pl cp rs vw cv) : EvA G 2 kX3_keepPlace [.ref a] μ sz 0 0 (rV fun μ' => RA μ' a pl pl rs vw vw ∧ Fr a (a + 5) μ μ') := by
  have hO := F.1
  refine EvA.of (L := [some (.ref a)]) (by decide +kernel) (Nat.le_of_ble_eq_true rfl) rfl ?_
  refine Rn.aload_n (pc1 := 1)  dX3_keepPlace_0 rfl rfl rfl ?_
  refine Rn.aload_n (pc1 := 2)  dX3_keepPlace_1 rfl rfl rfl ?_
  refine Rn.getfield (pc1 := 5)  dX3_keepPlace_2 rfl fX3_7 (by first | assumption | exact mset_same | exact mget_ne (by omega) (by assumption)) rfl ?_
  refine Rn.putfield (pc1 := 8)  dX3_keepPlace_5 rfl pX3_13 (fun h => Bool.noConfusion h) (by assumption) (Nat.le_of_ble_eq_true rfl) rfl rfl rfl ?_
  have F1 := F.setO pl pl rs
  have O1 := F1.1
  have V2 := F1.2.2.1
  refine Rn.aload_n (pc1 := 9)  dX3_keepPlace_8 rfl rfl rfl ?_
  refine Rn.getfield (pc1 := 12)  dX3_keepPlace_9 rfl fX3_26 (by first | assumption | exact mset_same | exact mget_ne (by omega) (by assumption)) rfl ?_
  refine Rn.aload_n (pc1 := 13)  dX3_keepPlace_12 rfl rfl rfl ?_
  refine Rn.getfield (pc1 := 16)  dX3_keepPlace_13 rfl fX3_22 (by first | assumption | exact mset_same | exact mget_ne (by omega) (by assumption)) rfl ?_
  refine Rn.cV_v (pc1 := 19) (eX7_copyFrom F1.2.2 F1.2.1 (by omega)) dX3_keepPlace_16 rfl qX3_29 oX7_copyFrom (by first | assumption | exact mset_same | exact mget_ne (by omega) (by assumption)) rfl rfl rfl rfl (Nat.le_of_ble_eq_true rfl) (by decide) (by decide) (fun μ16 h16 => ?_)
  obtain ⟨W1, w1⟩ := h16
  exact Rn.vreturn dX3_keepPlace_19 rfl ⟨rfl, ⟨(w1 a (by omega)).trans O1, F1.2.1.fr w1 (by omega), W1⟩, (Fr.set (by omega) (by omega)).trans (w1.wide (by omega) (by omega))⟩
theorem eX3_returnToConfirmed (F : RA μ a pl cp rs vw cv) : EvA G 2 kX3_returnToConfirmed [.ref a] μ sz 0 0 (rV fun μ' => RA μ' a cp cp rs cv cv ∧ Fr a (a + 5) μ μ') := by
  have hO := F.1
  refine EvA.of (L := [some (.ref a)]) (by decide +kernel) (Nat.le_of_ble_eq_true rfl) rfl ?_
  refine Rn.aload_n (pc1 := 1)  dX3_returnToConfirmed_0 rfl rfl rfl ?_
  refine Rn.aload_n (pc1 := 2)  dX3_returnToConfirmed_1 rfl rfl rfl ?_
  refine Rn.getfield (pc1 := 5)  dX3_returnToConfirmed_2 rfl fX3_13 (by first | assumption | exact mset_same | exact mget_ne (by omega) (by assumption)) rfl ?_
  refine Rn.putfield (pc1 := 8)  dX3_returnToConfirmed_5 rfl pX3_7 (fun h => Bool.noConfusion h) (by assumption) (Nat.le_of_ble_eq_true rfl) rfl rfl rfl ?_
  have F1 := F.setO cp cp rs
  have O1 := F1.1
  have V2 := F1.2.1.1
  refine Rn.aload_n (pc1 := 9)  dX3_returnToConfirmed_8 rfl rfl rfl ?_
  refine Rn.getfield (pc1 := 12)  dX3_returnToConfirmed_9 rfl fX3_22 (by first | assumption | exact mset_same | exact mget_ne (by omega) (by assumption)) rfl ?_
  refine Rn.aload_n (pc1 := 13)  dX3_returnToConfirmed_12 rfl rfl rfl ?_
  refine Rn.getfield (pc1 := 16)  dX3_returnToConfirmed_13 rfl fX3_26 (by first | assumption | exact mset_same | exact mget_ne (by omega) (by assumption)) rfl ?_
  refine Rn.cV_v (pc1 := 19) (eX7_copyFrom F1.2.1 F1.2.2 (by omega)) dX3_returnToConfirmed_16 rfl qX3_29 oX7_copyFrom (by first | assumption | exact mset_same | exact mget_ne (by omega) (by assumption)) rfl rfl rfl rfl (Nat.le_of_ble_eq_true rfl) (by decide) (by decide) (fun μ16 h16 => ?_)
  obtain ⟨W1, w1⟩ := h16
  exact Rn.vreturn dX3_returnToConfirmed_19 rfl ⟨rfl, ⟨(w1 a (by omega)).trans O1, W1, F1.2.2.fr w1 (by omega)⟩, (Fr.set (by omega) (by omega)).trans (w1.wide (by omega) (by omega))⟩
theorem eX3_startOver (F : RA μ a pl cp rs vw cv) : EvA G 3 kX3_startOver [.ref a] μ sz 0 0 (rV fun μ' => RA μ' a (nI 0) (nI 0) rs (fun _ => -6) (fun _ => -6) ∧ Fr a (a + 5) μ μ') := by
  have hO := F.1
  refine EvA.of (L := [some (.ref a)]) (by decide +kernel) (Nat.le_of_ble_eq_true rfl) rfl ?_
  refine Rn.aload_n (pc1 := 1)  dX3_startOver_0 rfl rfl rfl ?_
  refine Rn.iconst (pc1 := 2) (v := nI 0) dX3_startOver_1 rfl (by decide) ?_
  refine Rn.putfield (pc1 := 5)  dX3_startOver_2 rfl pX3_7 (fun h => Bool.noConfusion h) (by assumption) (Nat.le_of_ble_eq_true rfl) rfl rfl rfl ?_
  have F1 := F.setO (nI 0) cp rs
  have O1 := F1.1
  have V2 := F1.2.1.1
  refine Rn.aload_n (pc1 := 6)  dX3_startOver_5 rfl rfl rfl ?_
  refine Rn.getfield (pc1 := 9)  dX3_startOver_6 rfl fX3_22 (by first | assumption | exact mset_same | exact mget_ne (by omega) (by assumption)) rfl ?_
  refine Rn.cV_v (pc1 := 12) (eX7_clear F1.2.1) dX3_startOver_9 rfl qX3_33 oX7_clear (by first | assumption | exact mset_same | exact mget_ne (by omega) (by assumption)) rfl rfl rfl rfl (Nat.le_of_ble_eq_true rfl) (by decide) (by decide) (fun μ9 h9 => ?_)
  obtain ⟨W1, w1⟩ := h9
  have F2 : RA _ a (nI 0) cp rs (fun _ => -6) cv := ⟨(w1 a (by omega)).trans O1, W1, F1.2.2.fr w1 (by omega)⟩
  have O2 := F2.1
  refine Rn.aload_n (pc1 := 13)  dX3_startOver_12 rfl rfl rfl ?_
  refine Rn.cV_v (pc1 := 16) (eX3_keepPlace F2) dX3_startOver_13 rfl qX3_36 oX3_keepPlace (by first | assumption | exact mset_same | exact mget_ne (by omega) (by assumption)) rfl rfl rfl rfl (Nat.le_of_ble_eq_true rfl) (by decide) (by decide) (fun μ13 h13 => ?_)
  obtain ⟨F3, q3⟩ := h13
  exact Rn.vreturn dX3_startOver_16 rfl ⟨rfl, F3, ((Fr.set (by omega) (by omega)).trans (w1.wide (by omega) (by omega))).trans q3⟩
theorem eX3_takeOver {b : Nat} {n : Int32} {tb : Nat → Int32} (F : RA μ a pl cp rs vw cv) (K : SN μ b n tb) (hd : a + 5 ≤ b ∨ b + 3 ≤ a) : EvA G 3 kX3_takeOver [.ref a, .ref b] μ sz 0 0 (rV fun μ' => RA μ' a n n rs tb tb ∧ Fr a (a + 5) μ μ') := by
  have hO := F.1
  have kO := K.1
  refine EvA.of (L := [some (.ref a), some (.ref b)]) (by decide +kernel) (Nat.le_of_ble_eq_true rfl) rfl ?_
  refine Rn.aload_n (pc1 := 1)  dX3_takeOver_0 rfl rfl rfl ?_
  refine Rn.aload_n (pc1 := 2)  dX3_takeOver_1 rfl rfl rfl ?_
  refine Rn.getfield (pc1 := 5)  dX3_takeOver_2 rfl fX3_39 (by first | assumption | exact mset_same | exact mget_ne (by omega) (by assumption)) rfl ?_
  refine Rn.putfield (pc1 := 8)  dX3_takeOver_5 rfl pX3_7 (fun h => Bool.noConfusion h) (by assumption) (Nat.le_of_ble_eq_true rfl) rfl rfl rfl ?_
  have F1 := F.setO n cp rs
  have O1 := F1.1
  have V2 := F1.2.1.1
  have q1 : Fr a (a + 5) μ _ := Fr.set (c := obj 3 [.int n, .int cp, .int rs, .ref (a + 1), .ref (a + 3)]) (Nat.le_refl a) (by omega)
  have K1 := K.fr q1 (by omega)
  have P1 := K1.1
  refine Rn.aload_n (pc1 := 9)  dX3_takeOver_8 rfl rfl rfl ?_
  refine Rn.getfield (pc1 := 12)  dX3_takeOver_9 rfl fX3_22 (by first | assumption | exact mset_same | exact mget_ne (by omega) (by assumption)) rfl ?_
  refine Rn.aload_n (pc1 := 13)  dX3_takeOver_12 rfl rfl rfl ?_
  refine Rn.getfield (pc1 := 16)  dX3_takeOver_13 rfl fX3_44 (by first | assumption | exact mset_same | exact mget_ne (by omega) (by assumption)) rfl ?_
  refine Rn.cV_v (pc1 := 19) (eX7_copyFrom F1.2.1 K1.2 (by omega)) dX3_takeOver_16 rfl qX3_29 oX7_copyFrom (by first | assumption | exact mset_same | exact mget_ne (by omega) (by assumption)) rfl rfl rfl rfl (Nat.le_of_ble_eq_true rfl) (by decide) (by decide) (fun μ16 h16 => ?_)
  obtain ⟨W1, w1⟩ := h16
  have F2 : RA _ a n cp rs tb cv := ⟨(w1 a (by omega)).trans O1, W1, F1.2.2.fr w1 (by omega)⟩
  have O2 := F2.1
  refine Rn.aload_n (pc1 := 20)  dX3_takeOver_19 rfl rfl rfl ?_
  refine Rn.cV_v (pc1 := 23) (eX3_keepPlace F2) dX3_takeOver_20 rfl qX3_36 oX3_keepPlace (by first | assumption | exact mset_same | exact mget_ne (by omega) (by assumption)) rfl rfl rfl rfl (Nat.le_of_ble_eq_true rfl) (by decide) (by decide) (fun μ20 h20 => ?_)
  obtain ⟨F3, q3⟩ := h20
  exact Rn.vreturn dX3_takeOver_23 rfl ⟨rfl, F3, (q1.trans (w1.wide (by omega) (by omega))).trans q3⟩
theorem eX5_copyFrom {b : Nat} {n n' : Int32} {tb tb' : Nat → Int32} (F : SN μ a n tb) (K : SN μ b n' tb') (hd : a + 3 ≤ b ∨ b + 3 ≤ a) : EvA G 2 kX5_copyFrom [.ref a, .ref b] μ sz 0 0 (rV fun μ' => SN μ' a n' tb' ∧ Fr a (a + 3) μ μ') := by
  have hO := F.1
  have kO := K.1
  refine EvA.of (L := [some (.ref a), some (.ref b)]) (by decide +kernel) (Nat.le_of_ble_eq_true rfl) rfl ?_
  refine Rn.aload_n (pc1 := 1)  dX5_copyFrom_0 rfl rfl rfl ?_
  refine Rn.aload_n (pc1 := 2)  dX5_copyFrom_1 rfl rfl rfl ?_
  refine Rn.getfield (pc1 := 5)  dX5_copyFrom_2 rfl fX5_7 (by first | assumption | exact mset_same | exact mget_ne (by omega) (by assumption)) rfl ?_
  refine Rn.putfield (pc1 := 8)  dX5_copyFrom_5 rfl pX5_7 (fun h => Bool.noConfusion h) (by assumption) (Nat.le_of_ble_eq_true rfl) rfl rfl rfl ?_
  have F1 := F.setO n'
  have O1 := F1.1
  have V2 := F1.2.1
  have q1 : Fr a (a + 3) μ _ := Fr.set (c := obj 5 [.int n', .ref (a + 1)]) (Nat.le_refl a) (by omega)
  have K1 := K.fr q1 (by omega)
  have P1 := K1.1
  refine Rn.aload_n (pc1 := 9)  dX5_copyFrom_8 rfl rfl rfl ?_
  refine Rn.getfield (pc1 := 12)  dX5_copyFrom_9 rfl fX5_16 (by first | assumption | exact mset_same | exact mget_ne (by omega) (by assumption)) rfl ?_
  refine Rn.aload_n (pc1 := 13)  dX5_copyFrom_12 rfl rfl rfl ?_
  refine Rn.getfield (pc1 := 16)  dX5_copyFrom_13 rfl fX5_16 (by first | assumption | exact mset_same | exact mget_ne (by omega) (by assumption)) rfl ?_
  refine Rn.cV_v (pc1 := 19) (eX7_copyFrom F1.2 K1.2 (by omega)) dX5_copyFrom_16 rfl qX5_20 oX7_copyFrom (by first | assumption | exact mset_same | exact mget_ne (by omega) (by assumption)) rfl rfl rfl rfl (Nat.le_of_ble_eq_true rfl) (by decide) (by decide) (fun μ16 h16 => ?_)
  obtain ⟨W1, w1⟩ := h16
  exact Rn.vreturn dX5_copyFrom_19 rfl ⟨rfl, ⟨(w1 a (by omega)).trans O1, W1⟩, q1.trans (w1.wide (by omega) (by omega))⟩
theorem lX3_readOn {b h M k c : Nat} {nx fl gn : Int32} {g0 g1 g2 g3 : Nat → Int32} (K : FB μ b h nx fl gn g0 g1 g2 g3) (hh : h ≤ 60) (hc : c = min M (h - k)) (hkc : k + c ≤ h) (k2 : ∀ j, j < k → g0 j < pl) (k3 : k < h → pl ≤ g0 k) (hk : ∀ j, j < h → ∃ q, q < 12 ∧ g1 j = nI q) (hd : a + 5 ≤ b ∨ b + 5 ≤ a) : ∀ (m i : Nat), i + m = c → ∀ (μ1 : Mm), RA μ1 a (plN g0 pl k i) cp rs (vwN g1 g2 vw k i) cv → Fr a (a + 5) μ μ1 → Rn G 3 kX3_readOn 24 [some (.ref a), some (.ref b), some (.int (nI M)), some (.int (nI k)), some (.int (nI c)), some (.int (nI (k + i)))] [] μ1 sz 0 0 (rI fun v μ' => ∃ k c, k + c ≤ h ∧ c = min M (h - k) ∧ v = nI c ∧ (∀ j, j < k → g0 j < pl) ∧ (k < h → pl ≤ g0 k) ∧ RA μ' a (plN g0 pl k c) cp (rs + nI c) (vwN g1 g2 vw k c) cv ∧ Fr a (a + 5) μ μ') := by
  intro m
  induction m with
  | zero =>
    intro i hi μ1 F1 q1
    obtain rfl : i = c := by omega
    have hO := F1.1
    refine Rn.iload (pc1 := 26)  dX3_readOn_24 rfl rfl ?_
    refine Rn.iload_n (pc1 := 27)  dX3_readOn_26 rfl rfl rfl ?_
    refine Rn.iload (pc1 := 29)  dX3_readOn_27 rfl rfl ?_
    refine Rn.iadd (pc1 := 30)  dX3_readOn_29 rfl (nI_add k i) ?_
    refine Rn.icmp_ge (pc1 := 33) 70 dX3_readOn_30 rfl (by decide) (fun c30 => ?_) (fun c30 => ?_)
    · refine Rn.aload_n (pc1 := 71)  dX3_readOn_70 rfl rfl rfl ?_
      refine Rn.dup (pc1 := 72)  dX3_readOn_71 rfl rfl ?_
      refine Rn.getfield (pc1 := 75)  dX3_readOn_72 rfl fX3_16 (by first | assumption | exact mset_same | exact mget_ne (by omega) (by assumption)) rfl ?_
      refine Rn.iload (pc1 := 77)  dX3_readOn_75 rfl rfl ?_
      refine Rn.iadd (pc1 := 78)  dX3_readOn_77 rfl rfl ?_
      refine Rn.putfield (pc1 := 81)  dX3_readOn_78 rfl pX3_16 (fun h => Bool.noConfusion h) (by assumption) (Nat.le_of_ble_eq_true rfl) rfl rfl rfl ?_
      have F2 := F1.setO (plN g0 pl k i) cp (rs + nI i)
      refine Rn.iload (pc1 := 83)  dX3_readOn_81 rfl rfl ?_
      exact Rn.ireturn dX3_readOn_83 rfl rfl ⟨_, rfl, k, i, hkc, hc, rfl, k2, k3, F2, q1.set_ (by omega) (by omega)⟩
    · exact absurd (nI_le (Nat.le_refl _) (by omega)) c30
  | succ m ih =>
    intro i hi μ1 F1 q1
    have hO := F1.1
    have K1 := K.fr q1 (by omega)
    have kO := K1.1
    obtain ⟨q, hq1, hq2⟩ := hk (k + i) (by omega)
    have V1 := F1.2.1.1
    refine Rn.iload (pc1 := 26)  dX3_readOn_24 rfl rfl ?_
    refine Rn.iload_n (pc1 := 27)  dX3_readOn_26 rfl rfl rfl ?_
    refine Rn.iload (pc1 := 29)  dX3_readOn_27 rfl rfl ?_
    refine Rn.iadd (pc1 := 30)  dX3_readOn_29 rfl (nI_add k c) ?_
    refine Rn.icmp_ge (pc1 := 33) 70 dX3_readOn_30 rfl (by decide) (fun c30 => ?_) (fun c30 => ?_)
    · exact absurd c30 (nI_ge (by omega) (by omega))
    · refine Rn.aload_n (pc1 := 34)  dX3_readOn_33 rfl rfl rfl ?_
      refine Rn.getfield (pc1 := 37)  dX3_readOn_34 rfl fX3_22 (by first | assumption | exact mset_same | exact mget_ne (by omega) (by assumption)) rfl ?_
      refine Rn.aload_n (pc1 := 38)  dX3_readOn_37 rfl rfl rfl ?_
      refine Rn.iload (pc1 := 40)  dX3_readOn_38 rfl rfl ?_
      refine Rn.cV_i (pc1 := 43) (eX0_keyAt K1 rfl (show k + i < 60 by omega)) dX3_readOn_40 rfl qX3_62 oX0_keyAt (by first | assumption | exact mset_same | exact mget_ne (by omega) (by assumption)) rfl rfl rfl rfl (Nat.le_of_ble_eq_true rfl) (by decide) (by decide) (fun v40 μ40 h40 => ?_)
      obtain ⟨rfl, rfl⟩ := h40
      refine Rn.aload_n (pc1 := 44)  dX3_readOn_43 rfl rfl rfl ?_
      refine Rn.iload (pc1 := 46)  dX3_readOn_44 rfl rfl ?_
      refine Rn.cV_i (pc1 := 49) (eX0_valueAt K1 rfl (show k + i < 60 by omega)) dX3_readOn_46 rfl qX3_65 oX0_valueAt (by first | assumption | exact mset_same | exact mget_ne (by omega) (by assumption)) rfl rfl rfl rfl (Nat.le_of_ble_eq_true rfl) (by decide) (by decide) (fun v46 μ46 h46 => ?_)
      obtain ⟨rfl, rfl⟩ := h46
      refine Rn.cV_v (pc1 := 52) (eX7_change F1.2.1 hq2 hq1) dX3_readOn_49 rfl qX3_68 oX7_change (by first | assumption | exact mset_same | exact mget_ne (by omega) (by assumption)) rfl rfl rfl rfl (Nat.le_of_ble_eq_true rfl) (by decide) (by decide) (fun μ49 h49 => ?_)
      obtain ⟨W1, w1⟩ := h49
      have O2 := (w1 a (by omega)).trans hO
      have q2 := q1.trans (w1.wide (a' := a) (b' := a + 5) (by omega) (by omega))
      have K2 := K.fr q2 (by omega)
      have kO2 := K2.1
      refine Rn.aload_n (pc1 := 53)  dX3_readOn_52 rfl rfl rfl ?_
      refine Rn.aload_n (pc1 := 54)  dX3_readOn_53 rfl rfl rfl ?_
      refine Rn.iload (pc1 := 56)  dX3_readOn_54 rfl rfl ?_
      refine Rn.cV_i (pc1 := 59) (eX0_numberAt K2 rfl (show k + i < 60 by omega)) dX3_readOn_56 rfl qX3_72 oX0_numberAt (by first | assumption | exact mset_same | exact mget_ne (by omega) (by assumption)) rfl rfl rfl rfl (Nat.le_of_ble_eq_true rfl) (by decide) (by decide) (fun v56 μ56 h56 => ?_)
      obtain ⟨rfl, rfl⟩ := h56
      refine Rn.iconst (pc1 := 60) (v := nI 1) dX3_readOn_59 rfl (by decide) ?_
      refine Rn.iadd (pc1 := 61)  dX3_readOn_60 rfl rfl ?_
      refine Rn.putfield (pc1 := 64)  dX3_readOn_61 rfl pX3_7 (fun h => Bool.noConfusion h) (by assumption) (Nat.le_of_ble_eq_true rfl) rfl rfl rfl ?_
      refine Rn.iinc (pc1 := 67)  dX3_readOn_64 rfl rfl (nI_1 _) (by decide) rfl rfl ?_
      refine Rn.goto 24 dX3_readOn_67 (by decide) ?_
      have F2 : RA _ a (plN g0 pl k i) cp rs (upd (vwN g1 g2 vw k i) q (g2 (k + i))) cv := ⟨O2, W1, F1.2.2.fr w1 (by omega)⟩
      have F3 := F2.setO (g0 (k + i) + nI 1) cp rs
      have e : vwN g1 g2 vw k (i + 1) = upd (vwN g1 g2 vw k i) q (g2 (k + i)) := by show upd _ _ _ = _; rw [hq2, nI_clamp (by omega)]
      rw [← e] at F3
      exact ih (i + 1) (by omega) _ F3 (q2.set_ (by omega) (by omega))
theorem eX3_readOn {b h M : Nat} {nx fl gn : Int32} {g0 g1 g2 g3 : Nat → Int32} (F : RA μ a pl cp rs vw cv) (K : FB μ b h nx fl gn g0 g1 g2 g3) (hh : h ≤ 60) (hM : M ≤ 99) (hk : ∀ j, j < h → ∃ q, q < 12 ∧ g1 j = nI q) (hd : a + 5 ≤ b ∨ b + 5 ≤ a) : EvA G 3 kX3_readOn [.ref a, .ref b, .int (nI M)] μ sz 0 0 (rI fun v μ' => ∃ k c, k + c ≤ h ∧ c = min M (h - k) ∧ v = nI c ∧ (∀ j, j < k → g0 j < pl) ∧ (k < h → pl ≤ g0 k) ∧ RA μ' a (plN g0 pl k c) cp (rs + nI c) (vwN g1 g2 vw k c) cv ∧ Fr a (a + 5) μ μ') := by
  have hO := F.1
  have kO := K.1
  refine EvA.of (L := [some (.ref a), some (.ref b), some (.int (nI M)), none, none, none]) (by decide +kernel) (Nat.le_of_ble_eq_true rfl) rfl ?_
  refine Rn.aload_n (pc1 := 1)  dX3_readOn_0 rfl rfl rfl ?_
  refine Rn.aload_n (pc1 := 2)  dX3_readOn_1 rfl rfl rfl ?_
  refine Rn.getfield (pc1 := 5)  dX3_readOn_2 rfl fX3_7 (by first | assumption | exact mset_same | exact mget_ne (by omega) (by assumption)) rfl ?_
  refine Rn.cV_i (pc1 := 8) (eX0_firstFrom K hh) dX3_readOn_5 rfl qX3_47 oX0_firstFrom (by first | assumption | exact mset_same | exact mget_ne (by omega) (by assumption)) rfl rfl rfl rfl (Nat.le_of_ble_eq_true rfl) (by decide) (by decide) (fun v5 μ5 h5 => ?_)
  obtain ⟨⟨k, k1, rfl, k2, k3⟩, rfl⟩ := h5
  refine Rn.istore_n (pc1 := 9)  dX3_readOn_8 rfl rfl (by decide) rfl rfl ?_
  refine Rn.iload_n (pc1 := 10)  dX3_readOn_9 rfl rfl rfl ?_
  refine Rn.aload_n (pc1 := 11)  dX3_readOn_10 rfl rfl rfl ?_
  refine Rn.getfield (pc1 := 14)  dX3_readOn_11 rfl fX3_53 (by first | assumption | exact mset_same | exact mget_ne (by omega) (by assumption)) rfl ?_
  refine Rn.iload_n (pc1 := 15)  dX3_readOn_14 rfl rfl rfl ?_
  refine Rn.isub (pc1 := 16)  dX3_readOn_15 rfl (nI_sub k1) ?_
  refine Rn.mmin (pc1 := 19) (v := nI (min M (h - k)))  dX3_readOn_16 rfl qX3_56 (Nat.le_of_ble_eq_true rfl) (by decide) (by
      by_cases e : h - k < M
      · rw [if_pos (nI_lt e (by omega)), Nat.min_eq_right (by omega)]
      · rw [if_neg (nI_nlt (by omega) (by omega)), Nat.min_eq_left (by omega)]) ?_
  refine Rn.istore (pc1 := 21)  dX3_readOn_19 rfl (by decide) rfl rfl ?_
  obtain ⟨c, hc⟩ : ∃ c, c = min M (h - k) := ⟨_, rfl⟩
  rw [← hc]
  have hkc : k + c ≤ h := by omega
  clear hO kO
  refine Rn.iload_n (pc1 := 22)  dX3_readOn_21 rfl rfl rfl ?_
  refine Rn.istore (pc1 := 24)  dX3_readOn_22 rfl (by decide) rfl rfl ?_
  exact lX3_readOn K hh hc hkc k2 k3 hk hd c 0 (by omega) _ F Fr.rf
end READER
end
section
/-! ===== State: what it holds, as one flat row of numbers (the reference's own) ===== -/
theorem upd_ne {f : Nat → Int32} {k j : Nat} {x : Int32} (h : j ≠ k) : upd f k x j = f j := if_neg h
theorem upd_at {f : Nat → Int32} {k j : Nat} {x : Int32} (h : j = k) : upd f k x j = x := if_pos h
/-- a stretch of a row, of n numbers from lo on, is g's -/
def blk (f : Nat → Int32) (lo n : Nat) (g : Nat → Int32) : Nat → Int32 := fun j => if lo ≤ j ∧ j < lo + n then g (j - lo) else f j
theorem blk_out {f g : Nat → Int32} {lo n j : Nat} (h : j < lo ∨ lo + n ≤ j) : blk f lo n g j = f j := if_neg (by omega)
theorem blk_in {f g : Nat → Int32} {lo n j q : Nat} (h : j = lo + q) (hq : q < n) : blk f lo n g j = g q := by
  subst h
  unfold blk
  rw [if_pos ⟨by omega, by omega⟩, Nat.add_sub_cancel_left]
theorem blk_0 {f g : Nat → Int32} {lo : Nat} : blk f lo 0 g = f := funext fun j => if_neg (by omega)
theorem blk_upd {f g : Nat → Int32} {lo n : Nat} : upd (blk f lo n g) (lo + n) (g n) = blk f lo (n + 1) g := by
  funext j
  unfold upd blk
  by_cases h1 : j = lo + n
  · subst h1; rw [if_pos rfl, if_pos (by omega), Nat.add_sub_cancel_left]
  · rw [if_neg h1]
    by_cases h2 : lo ≤ j ∧ j < lo + n
    · rw [if_pos h2, if_pos (by omega)]
    · rw [if_neg h2, if_neg (by omega)]
def FdA (μ : Mm) (a : Nat) (f : Nat → Int32) (h : Nat) : Prop := ∃ g0 g1 g2 g3, FB μ a h (f 3) (f 4) (f 5) g0 g1 g2 g3 ∧ ∀ j, j < h → g0 j = f (21 + 4 * j) ∧ g1 j = f (21 + 4 * j + 1) ∧ g2 j = f (21 + 4 * j + 2) ∧ g3 j = f (21 + 4 * j + 3)
def RdA (μ : Mm) (a : Nat) (f : Nat → Int32) (i : Nat) (live : Prop) : Prop := ∃ pl cp rs vw cv, RA μ a pl cp rs vw cv ∧ (live → pl = f (261 + 27 * i) ∧ cp = f (261 + 27 * i + 1) ∧ rs = f (261 + 27 * i + 2) ∧ (∀ k, k < 12 → vw k = f (261 + 27 * i + 3 + k)) ∧ ∀ k, k < 12 → cv k = f (261 + 27 * i + 15 + k))
def SnA (μ : Mm) (a : Nat) (f : Nat → Int32) (n : Nat) (live : Prop) : Prop := ∃ nu tb, SN μ a nu tb ∧ (live → nu = f (423 + 13 * n) ∧ ∀ k, k < 12 → tb k = f (423 + 13 * n + 1 + k))
def SO (μ : Mm) (a : Nat) (f : Nat → Int32) (rc sc : Nat) : Prop := μ a = some (obj 6 [.int (f 0), .int (f 1), .int (f 2), .int (nI rc), .int (nI sc), .ref (a + 1), .ref (a + 3), .ref (a + 8), .ref (a + 9)])
/-- the rows of references -/
def SX (μ : Mm) (a : Nat) : Prop := (∃ r, μ (a + 8) = some (refs 3 6 r) ∧ ∀ i, i < 6 → r i = some (a + 10 + 5 * i)) ∧ ∃ r, μ (a + 9) = some (refs 4 4 r) ∧ ∀ i, i < 4 → r i = some (a + 40 + 3 * i)
/-- a State at a holds f's: h entries, rc readers, sc snapshots, of which the first lr, ls are as f says -/
def SAg (μ : Mm) (a : Nat) (f : Nat → Int32) (h rc sc lr ls : Nat) : Prop := (h ≤ 60 ∧ rc ≤ 6 ∧ sc ≤ 4) ∧ SO μ a f rc sc ∧ SX μ a ∧ VA μ (a + 1) (fun k => f (9 + k)) ∧ FdA μ (a + 3) f h ∧ (∀ i, i < 6 → RdA μ (a + 10 + 5 * i) f i (i < lr)) ∧ ∀ n, n < 4 → SnA μ (a + 40 + 3 * n) f n (n < ls)
abbrev SA (μ : Mm) (a : Nat) (f : Nat → Int32) (h rc sc : Nat) : Prop := SAg μ a f h rc sc rc sc
section STM
variable {μ μ' : Mm} {a x y : Nat} {f f' : Nat → Int32} {h rc sc lr ls i n : Nat} {live live' : Prop}
theorem FdA.fr (F : FdA μ a f h) (hF : Fr x y μ μ') (hd : a + 5 ≤ x ∨ y ≤ a) : FdA μ' a f h := by
  obtain ⟨g0, g1, g2, g3, q1, q2⟩ := F
  exact ⟨g0, g1, g2, g3, q1.fr hF hd, q2⟩
theorem RdA.fr (F : RdA μ a f i live) (hF : Fr x y μ μ') (hd : a + 5 ≤ x ∨ y ≤ a) : RdA μ' a f i live := by
  obtain ⟨pl, cp, rs, vw, cv, q1, q2⟩ := F
  exact ⟨pl, cp, rs, vw, cv, q1.fr hF hd, q2⟩
theorem SnA.fr (F : SnA μ a f n live) (hF : Fr x y μ μ') (hd : a + 3 ≤ x ∨ y ≤ a) : SnA μ' a f n live := by
  obtain ⟨nu, tb, q1, q2⟩ := F
  exact ⟨nu, tb, q1.fr hF hd, q2⟩
theorem SX.fr (F : SX μ a) (hF : Fr x y μ μ') (hd : a + 10 ≤ x ∨ y ≤ a + 8) : SX μ' a := by
  obtain ⟨⟨r, q1, q2⟩, t, q3, q4⟩ := F
  exact ⟨⟨r, (hF _ (by omega)).trans q1, q2⟩, t, (hF _ (by omega)).trans q3, q4⟩
theorem SO.fr (F : SO μ a f rc sc) (hF : Fr x y μ μ') (hd : a + 1 ≤ x ∨ y ≤ a) : SO μ' a f rc sc := (hF a (by omega)).trans F
theorem FdA.to (F : FdA μ a f h) (e : f 3 = f' 3 ∧ f 4 = f' 4 ∧ f 5 = f' 5) (q : ∀ j, 21 ≤ j → j < 21 + 4 * h → f j = f' j) : FdA μ a f' h := by
  obtain ⟨g0, g1, g2, g3, q1, q2⟩ := F
  rw [e.1, e.2.1, e.2.2] at q1
  exact ⟨g0, g1, g2, g3, q1, fun j hj => by
    rw [← q _ (by omega) (by omega), ← q _ (by omega) (by omega), ← q _ (by omega) (by omega), ← q _ (by omega) (by omega)]
    exact q2 j hj⟩
theorem RdA.to (F : RdA μ a f i live) (hl : live' → live) (q : live' → ∀ j, 261 + 27 * i ≤ j → j < 261 + 27 * i + 27 → f j = f' j) : RdA μ a f' i live' := by
  obtain ⟨pl, cp, rs, vw, cv, q1, q2⟩ := F
  refine ⟨pl, cp, rs, vw, cv, q1, fun hl2 => ?_⟩
  have q := q hl2
  obtain ⟨e1, e2, e3, e4, e5⟩ := q2 (hl hl2)
  exact ⟨e1.trans (q _ (by omega) (by omega)), e2.trans (q _ (by omega) (by omega)), e3.trans (q _ (by omega) (by omega)), fun k hk => (e4 k hk).trans (q _ (by omega) (by omega)), fun k hk => (e5 k hk).trans (q _ (by omega) (by omega))⟩
theorem SnA.to (F : SnA μ a f n live) (hl : live' → live) (q : live' → ∀ j, 423 + 13 * n ≤ j → j < 423 + 13 * n + 13 → f j = f' j) : SnA μ a f' n live' := by
  obtain ⟨nu, tb, q1, q2⟩ := F
  refine ⟨nu, tb, q1, fun hl2 => ?_⟩
  have q := q hl2
  obtain ⟨e1, e2⟩ := q2 (hl hl2)
  exact ⟨e1.trans (q _ (by omega) (by omega)), fun k hk => (e2 k hk).trans (q _ (by omega) (by omega))⟩
theorem SO.to (F : SO μ a f rc sc) (e : f 0 = f' 0 ∧ f 1 = f' 1 ∧ f 2 = f' 2) : SO μ a f' rc sc := by
  unfold SO at F ⊢
  rw [← e.1, ← e.2.1, ← e.2.2]
  exact F
theorem SAg.fr (F : SAg μ a f h rc sc lr ls) (hF : Fr x y μ μ') (hd : a + 52 ≤ x ∨ y ≤ a) : SAg μ' a f h rc sc lr ls := by
  obtain ⟨q0, q1, q2, q3, q4, q5, q6⟩ := F
  exact ⟨q0, q1.fr hF (by omega), q2.fr hF (by omega), q3.fr hF (by omega), q4.fr hF (by omega), fun i hi => (q5 i hi).fr hF (by omega), fun n hn => (q6 n hn).fr hF (by omega)⟩
/-- where two rows are alike for a State of so many entries, readers, snapshots -/
def LE (f f' : Nat → Int32) (h rc sc : Nat) : Prop := ∀ j, j ≠ 6 → j ≠ 7 → j ≠ 8 → (j < 21 + 4 * h ∨ 261 ≤ j ∧ j < 261 + 27 * rc ∨ 423 ≤ j ∧ j < 423 + 13 * sc) → f j = f' j
theorem SA.to (F : SA μ a f h rc sc) (q : LE f f' h rc sc) : SA μ a f' h rc sc := by
  obtain ⟨q0, q1, q2, q3, q4, q5, q6⟩ := F
  exact ⟨q0, q1.to ⟨q _ (by omega) (by omega) (by omega) (by omega), q _ (by omega) (by omega) (by omega) (by omega), q _ (by omega) (by omega) (by omega) (by omega)⟩, q2, q3.to (fun j hj => q _ (by omega) (by omega) (by omega) (by omega)), q4.to ⟨q _ (by omega) (by omega) (by omega) (by omega), q _ (by omega) (by omega) (by omega) (by omega), q _ (by omega) (by omega) (by omega) (by omega)⟩ (fun j h1 h2 => q _ (by omega) (by omega) (by omega) (by omega)), fun i hi => (q5 i hi).to (fun z => z) (fun hl j h1 h2 => q _ (by omega) (by omega) (by omega) (by omega)), fun n hn => (q6 n hn).to (fun z => z) (fun hl j h1 h2 => q _ (by omega) (by omega) (by omega) (by omega))⟩
end STM
section STATE
variable {G : GG} {μ : Mm} {sz : Nat} {a h rc sc lr ls : Nat} {f : Nat → Int32}
theorem eX6_readerAt_y {j : Nat} {i : Int32} (F : SAg μ a f h rc sc lr ls) (hi : i = nI j) (hj : j < rc) : EvA G 0 kX6_readerAt [.ref a, .int i] μ sz 0 0 (rR fun o μ' => o = some (a + 10 + 5 * j) ∧ μ' = μ) := by
  obtain ⟨q0, q1, ⟨⟨r, r1, r2⟩, -⟩, -⟩ := F
  have hO : μ a = _ := q1
  have hj6 : j < 6 := by omega
  refine EvA.of (L := [some (.ref a), some (.int i)]) (by decide +kernel) (Nat.le_of_ble_eq_true rfl) rfl ?_
  subst hi
  refine Rn.iload_n (pc1 := 1)  dX6_readerAt_0 rfl rfl rfl ?_
  refine Rn.if_lt (pc1 := 4) 21 dX6_readerAt_1 rfl (by decide) (fun c1 => ?_) (fun c1 => ?_)
  · exact absurd c1 (nI_nlt (Nat.zero_le _) (by omega))
  · refine Rn.iload_n (pc1 := 5)  dX6_readerAt_4 rfl rfl rfl ?_
    refine Rn.aload_n (pc1 := 6)  dX6_readerAt_5 rfl rfl rfl ?_
    refine Rn.getfield (pc1 := 9)  dX6_readerAt_6 rfl fX6_21 (by first | assumption | exact mset_same | exact mget_ne (by omega) (by assumption)) rfl ?_
    refine Rn.icmp_ge (pc1 := 12) 21 dX6_readerAt_9 rfl (by decide) (fun c9 => ?_) (fun c9 => ?_)
    · exact absurd c9 (nI_ge hj (by omega))
    · refine Rn.iload_n (pc1 := 13)  dX6_readerAt_12 rfl rfl rfl ?_
      refine Rn.aload_n (pc1 := 14)  dX6_readerAt_13 rfl rfl rfl ?_
      refine Rn.getfield (pc1 := 17)  dX6_readerAt_14 rfl fX6_43 (by first | assumption | exact mset_same | exact mget_ne (by omega) (by assumption)) rfl ?_
      refine Rn.alen (pc1 := 18) (v := nI 6)  dX6_readerAt_17 rfl (by first | assumption | exact mset_same | exact mget_ne (by omega) (by assumption)) (fun _ => rfl) rfl ?_
      refine Rn.icmp_lt (pc1 := 21) 25 dX6_readerAt_18 rfl (by decide) (fun c18 => ?_) (fun c18 => ?_)
      · refine Rn.aload_n (pc1 := 26)  dX6_readerAt_25 rfl rfl rfl ?_
        refine Rn.getfield (pc1 := 29)  dX6_readerAt_26 rfl fX6_43 (by first | assumption | exact mset_same | exact mget_ne (by omega) (by assumption)) rfl ?_
        refine Rn.iload_n (pc1 := 30)  dX6_readerAt_29 rfl rfl rfl ?_
        refine Rn.aaload (pc1 := 31)  dX6_readerAt_30 rfl (by assumption) (fun _ => rfl) (vp_nI rfl hj6 (by decide)) rfl ?_
        exact Rn.areturn dX6_readerAt_31 rfl ⟨_, rfl, by rw [nI_clamp (by omega)]; exact r2 j hj6, rfl⟩
      · exact absurd (nI_lt hj6 (by decide)) c18
theorem eX6_readerAt_n {i : Int32} (F : SAg μ a f h rc sc lr ls) (hi : ∀ j, j < rc → i ≠ nI j) : EvA G 0 kX6_readerAt [.ref a, .int i] μ sz 0 0 (rR fun o μ' => o = none ∧ μ' = μ) := by
  obtain ⟨q0, q1, ⟨⟨r, r1, r2⟩, -⟩, -⟩ := F
  have hO : μ a = _ := q1
  refine EvA.of (L := [some (.ref a), some (.int i)]) (by decide +kernel) (Nat.le_of_ble_eq_true rfl) rfl ?_
  refine Rn.iload_n (pc1 := 1)  dX6_readerAt_0 rfl rfl rfl ?_
  refine Rn.if_lt (pc1 := 4) 21 dX6_readerAt_1 rfl (by decide) (fun c1 => ?_) (fun c1 => ?_)
  · refine Rn.null (pc1 := 22)  dX6_readerAt_21 rfl ?_
    refine Rn.goto 31 dX6_readerAt_22 (by decide) ?_
    show Rn G 0 kX6_readerAt 31 _ [va_rf none] _ _ _ _ _
    exact Rn.areturn dX6_readerAt_31 rfl ⟨_, rfl, rfl, rfl⟩
  · refine Rn.iload_n (pc1 := 5)  dX6_readerAt_4 rfl rfl rfl ?_
    refine Rn.aload_n (pc1 := 6)  dX6_readerAt_5 rfl rfl rfl ?_
    refine Rn.getfield (pc1 := 9)  dX6_readerAt_6 rfl fX6_21 (by first | assumption | exact mset_same | exact mget_ne (by omega) (by assumption)) rfl ?_
    refine Rn.icmp_ge (pc1 := 12) 21 dX6_readerAt_9 rfl (by decide) (fun c9 => ?_) (fun c9 => ?_)
    · refine Rn.null (pc1 := 22)  dX6_readerAt_21 rfl ?_
      refine Rn.goto 31 dX6_readerAt_22 (by decide) ?_
      show Rn G 0 kX6_readerAt 31 _ [va_rf none] _ _ _ _ _
      exact Rn.areturn dX6_readerAt_31 rfl ⟨_, rfl, rfl, rfl⟩
    · obtain ⟨j, hj, rfl⟩ := nI_of (x := i) c1
      rw [i32_nle, nI_ltI hj (by omega)] at c9
      exact absurd rfl (hi j c9)
theorem eX6_snapshotAt_y {j : Nat} {i : Int32} (F : SAg μ a f h rc sc lr ls) (hi : i = nI j) (hj : j < sc) : EvA G 0 kX6_snapshotAt [.ref a, .int i] μ sz 0 0 (rR fun o μ' => o = some (a + 40 + 3 * j) ∧ μ' = μ) := by
  obtain ⟨q0, q1, ⟨-, ⟨r, r1, r2⟩⟩, -⟩ := F
  have hO : μ a = _ := q1
  have hj6 : j < 4 := by omega
  refine EvA.of (L := [some (.ref a), some (.int i)]) (by decide +kernel) (Nat.le_of_ble_eq_true rfl) rfl ?_
  subst hi
  refine Rn.iload_n (pc1 := 1)  dX6_snapshotAt_0 rfl rfl rfl ?_
  refine Rn.if_lt (pc1 := 4) 21 dX6_snapshotAt_1 rfl (by decide) (fun c1 => ?_) (fun c1 => ?_)
  · exact absurd c1 (nI_nlt (Nat.zero_le _) (by omega))
  · refine Rn.iload_n (pc1 := 5)  dX6_snapshotAt_4 rfl rfl rfl ?_
    refine Rn.aload_n (pc1 := 6)  dX6_snapshotAt_5 rfl rfl rfl ?_
    refine Rn.getfield (pc1 := 9)  dX6_snapshotAt_6 rfl fX6_24 (by first | assumption | exact mset_same | exact mget_ne (by omega) (by assumption)) rfl ?_
    refine Rn.icmp_ge (pc1 := 12) 21 dX6_snapshotAt_9 rfl (by decide) (fun c9 => ?_) (fun c9 => ?_)
    · exact absurd c9 (nI_ge hj (by omega))
    · refine Rn.iload_n (pc1 := 13)  dX6_snapshotAt_12 rfl rfl rfl ?_
      refine Rn.aload_n (pc1 := 14)  dX6_snapshotAt_13 rfl rfl rfl ?_
      refine Rn.getfield (pc1 := 17)  dX6_snapshotAt_14 rfl fX6_49 (by first | assumption | exact mset_same | exact mget_ne (by omega) (by assumption)) rfl ?_
      refine Rn.alen (pc1 := 18) (v := nI 4)  dX6_snapshotAt_17 rfl (by first | assumption | exact mset_same | exact mget_ne (by omega) (by assumption)) (fun _ => rfl) rfl ?_
      refine Rn.icmp_lt (pc1 := 21) 25 dX6_snapshotAt_18 rfl (by decide) (fun c18 => ?_) (fun c18 => ?_)
      · refine Rn.aload_n (pc1 := 26)  dX6_snapshotAt_25 rfl rfl rfl ?_
        refine Rn.getfield (pc1 := 29)  dX6_snapshotAt_26 rfl fX6_49 (by first | assumption | exact mset_same | exact mget_ne (by omega) (by assumption)) rfl ?_
        refine Rn.iload_n (pc1 := 30)  dX6_snapshotAt_29 rfl rfl rfl ?_
        refine Rn.aaload (pc1 := 31)  dX6_snapshotAt_30 rfl (by assumption) (fun _ => rfl) (vp_nI rfl hj6 (by decide)) rfl ?_
        exact Rn.areturn dX6_snapshotAt_31 rfl ⟨_, rfl, by rw [nI_clamp (by omega)]; exact r2 j hj6, rfl⟩
      · exact absurd (nI_lt hj6 (by decide)) c18
theorem eX6_snapshotAt_n {i : Int32} (F : SAg μ a f h rc sc lr ls) (hi : ∀ j, j < sc → i ≠ nI j) : EvA G 0 kX6_snapshotAt [.ref a, .int i] μ sz 0 0 (rR fun o μ' => o = none ∧ μ' = μ) := by
  obtain ⟨q0, q1, ⟨-, ⟨r, r1, r2⟩⟩, -⟩ := F
  have hO : μ a = _ := q1
  refine EvA.of (L := [some (.ref a), some (.int i)]) (by decide +kernel) (Nat.le_of_ble_eq_true rfl) rfl ?_
  refine Rn.iload_n (pc1 := 1)  dX6_snapshotAt_0 rfl rfl rfl ?_
  refine Rn.if_lt (pc1 := 4) 21 dX6_snapshotAt_1 rfl (by decide) (fun c1 => ?_) (fun c1 => ?_)
  · refine Rn.null (pc1 := 22)  dX6_snapshotAt_21 rfl ?_
    refine Rn.goto 31 dX6_snapshotAt_22 (by decide) ?_
    show Rn G 0 kX6_snapshotAt 31 _ [va_rf none] _ _ _ _ _
    exact Rn.areturn dX6_snapshotAt_31 rfl ⟨_, rfl, rfl, rfl⟩
  · refine Rn.iload_n (pc1 := 5)  dX6_snapshotAt_4 rfl rfl rfl ?_
    refine Rn.aload_n (pc1 := 6)  dX6_snapshotAt_5 rfl rfl rfl ?_
    refine Rn.getfield (pc1 := 9)  dX6_snapshotAt_6 rfl fX6_24 (by first | assumption | exact mset_same | exact mget_ne (by omega) (by assumption)) rfl ?_
    refine Rn.icmp_ge (pc1 := 12) 21 dX6_snapshotAt_9 rfl (by decide) (fun c9 => ?_) (fun c9 => ?_)
    · refine Rn.null (pc1 := 22)  dX6_snapshotAt_21 rfl ?_
      refine Rn.goto 31 dX6_snapshotAt_22 (by decide) ?_
      show Rn G 0 kX6_snapshotAt 31 _ [va_rf none] _ _ _ _ _
      exact Rn.areturn dX6_snapshotAt_31 rfl ⟨_, rfl, rfl, rfl⟩
    · obtain ⟨j, hj, rfl⟩ := nI_of (x := i) c1
      rw [i32_nle, nI_ltI hj (by omega)] at c9
      exact absurd rfl (hi j c9)
theorem eX6_copySnapshot {x y : Nat} {n n' : Int32} {tb tb' : Nat → Int32} (K : SN μ x n' tb') (F : SN μ y n tb) (hd : y + 3 ≤ x ∨ x + 3 ≤ y) : EvA G 3 kX6_copySnapshot [.ref x, .ref y] μ sz 0 0 (rV fun μ' => SN μ' y n' tb' ∧ Fr y (y + 3) μ μ') := by
  have hO := F.1
  have kO := K.1
  refine EvA.of (L := [some (.ref x), some (.ref y)]) (by decide +kernel) (Nat.le_of_ble_eq_true rfl) rfl ?_
  refine Rn.aload_n (pc1 := 1)  dX6_copySnapshot_0 rfl rfl rfl ?_
  refine Rn.ifnull (pc1 := 4) dX6_copySnapshot_1 rfl ?_
  refine Rn.aload_n (pc1 := 5)  dX6_copySnapshot_4 rfl rfl rfl ?_
  refine Rn.ifnull (pc1 := 8) dX6_copySnapshot_5 rfl ?_
  refine Rn.aload_n (pc1 := 9)  dX6_copySnapshot_8 rfl rfl rfl ?_
  refine Rn.aload_n (pc1 := 10)  dX6_copySnapshot_9 rfl rfl rfl ?_
  refine Rn.cV_v (pc1 := 13) (eX5_copyFrom F K hd) dX6_copySnapshot_10 rfl qX6_77 oX5_copyFrom (by first | assumption | exact mset_same | exact mget_ne (by omega) (by assumption)) rfl rfl rfl rfl (Nat.le_of_ble_eq_true rfl) (by decide) (by decide) (fun μ10 h10 => ?_)
  obtain ⟨W1, w1⟩ := h10
  exact Rn.vreturn dX6_copySnapshot_13 rfl ⟨rfl, W1, w1⟩
/-- the loop over the snapshots of copyFrom -/
theorem lX6_copyFrom2 {b h' rc' sc' : Nat} {f' : Nat → Int32} {μ0 : Mm} (K : SA μ0 b f' h' rc' sc') (hd : a + 52 ≤ b ∨ b + 52 ≤ a) {o3 o4 : Option Value} : ∀ (m i : Nat), i + m = sc' → ∀ (μ1 : Mm), SAg μ1 a f' h' rc' sc' rc' i → Fr a (a + 52) μ0 μ1 → Rn G 4 kX6_copyFrom 108 [some (.ref a), some (.ref b), some (.int (nI i)), o3, o4] [] μ1 sz 0 0 (rV fun μ' => SA μ' a f' h' rc' sc' ∧ Fr a (a + 52) μ0 μ') := by
  intro m
  induction m with
  | zero =>
    intro i hi μ1 F1 q1
    obtain rfl : i = sc' := by omega
    obtain ⟨w0, w1, -⟩ := id F1
    have hO : μ1 a = _ := w1
    refine Rn.iload_n (pc1 := 109)  dX6_copyFrom_108 rfl rfl rfl ?_
    refine Rn.aload_n (pc1 := 110)  dX6_copyFrom_109 rfl rfl rfl ?_
    refine Rn.getfield (pc1 := 113)  dX6_copyFrom_110 rfl fX6_24 (by first | assumption | exact mset_same | exact mget_ne (by omega) (by assumption)) rfl ?_
    refine Rn.icmp_ge (pc1 := 116) 135 dX6_copyFrom_113 rfl (by decide) (fun c113 => ?_) (fun c113 => ?_)
    · exact Rn.vreturn dX6_copyFrom_135 rfl ⟨rfl, F1, q1⟩
    · exact absurd (nI_le (Nat.le_refl _) (by omega)) c113
  | succ m ih =>
    intro i hi μ1 F1 q1
    have K1 := K.fr q1 (by omega)
    obtain ⟨w0, w1, w2, w3, w4, w5, w6⟩ := id F1
    obtain ⟨v0, v1, v2, v3, v4, v5, v6⟩ := id K1
    have hO : μ1 a = _ := w1
    have kO : μ1 b = _ := v1
    obtain ⟨nu, tb, s1, s2⟩ := w6 i (by omega)
    obtain ⟨nu', tb', s1', s2'⟩ := v6 i (by omega)
    refine Rn.iload_n (pc1 := 109)  dX6_copyFrom_108 rfl rfl rfl ?_
    refine Rn.aload_n (pc1 := 110)  dX6_copyFrom_109 rfl rfl rfl ?_
    refine Rn.getfield (pc1 := 113)  dX6_copyFrom_110 rfl fX6_24 (by first | assumption | exact mset_same | exact mget_ne (by omega) (by assumption)) rfl ?_
    refine Rn.icmp_ge (pc1 := 116) 135 dX6_copyFrom_113 rfl (by decide) (fun c113 => ?_) (fun c113 => ?_)
    · exact absurd c113 (nI_ge (by omega) (by omega))
    · refine Rn.aload_n (pc1 := 117)  dX6_copyFrom_116 rfl rfl rfl ?_
      refine Rn.iload_n (pc1 := 118)  dX6_copyFrom_117 rfl rfl rfl ?_
      refine Rn.cV_r (pc1 := 121) (eX6_snapshotAt_y K1 rfl (show i < sc' by omega)) dX6_copyFrom_118 rfl qX6_69 oX6_snapshotAt (by first | assumption | exact mset_same | exact mget_ne (by omega) (by assumption)) rfl rfl rfl rfl (Nat.le_of_ble_eq_true rfl) (by decide) (by decide) (fun v118 μ118 h118 => ?_)
      obtain ⟨rfl, rfl⟩ := h118
      refine Rn.aload_n (pc1 := 122)  dX6_copyFrom_121 rfl rfl rfl ?_
      refine Rn.iload_n (pc1 := 123)  dX6_copyFrom_122 rfl rfl rfl ?_
      refine Rn.cV_r (pc1 := 126) (eX6_snapshotAt_y F1 rfl (show i < sc' by omega)) dX6_copyFrom_123 rfl qX6_69 oX6_snapshotAt (by first | assumption | exact mset_same | exact mget_ne (by omega) (by assumption)) rfl rfl rfl rfl (Nat.le_of_ble_eq_true rfl) (by decide) (by decide) (fun v123 μ123 h123 => ?_)
      obtain ⟨rfl, rfl⟩ := h123
      refine Rn.cS_v (pc1 := 129) (eX6_copySnapshot s1' s1 (by omega)) dX6_copyFrom_126 rfl qX6_73 oX6_copySnapshot rfl rfl (Nat.le_of_ble_eq_true rfl) (by decide) (by decide) (fun μ126 h126 => ?_)
      obtain ⟨W1, z1⟩ := h126
      refine Rn.iinc (pc1 := 132)  dX6_copyFrom_129 rfl rfl (nI_1 i) (by decide) rfl rfl ?_
      refine Rn.goto 108 dX6_copyFrom_132 (by decide) ?_
      refine ih (i + 1) (by omega) _ ⟨w0, w1.fr z1 (by omega), w2.fr z1 (by omega), w3.fr z1 (by omega), w4.fr z1 (by omega), fun k hk => (w5 k hk).fr z1 (by omega), fun k hk => ?_⟩ (q1.trans (z1.wide (by omega) (by omega)))
      by_cases e : k = i
      · subst e
        exact ⟨nu', tb', W1, fun _ => s2' (by omega)⟩
      · exact ((w6 k hk).fr z1 (by omega)).to (fun z => by omega) (fun _ _ _ _ => rfl)
/-- the loop over the readers -/
theorem lX6_copyFrom1 {b h' rc' sc' : Nat} {f' : Nat → Int32} {μ0 : Mm} (K : SA μ0 b f' h' rc' sc') (hd : a + 52 ≤ b ∨ b + 52 ≤ a) : ∀ (m i : Nat), i + m = rc' → ∀ (o3 o4 : Option Value) (μ1 : Mm), SAg μ1 a f' h' rc' sc' i 0 → Fr a (a + 52) μ0 μ1 → Rn G 4 kX6_copyFrom 64 [some (.ref a), some (.ref b), some (.int (nI i)), o3, o4] [] μ1 sz 0 0 (rV fun μ' => SA μ' a f' h' rc' sc' ∧ Fr a (a + 52) μ0 μ') := by
  intro m
  induction m with
  | zero =>
    intro i hi o3 o4 μ1 F1 q1
    obtain rfl : i = rc' := by omega
    obtain ⟨w0, w1, -⟩ := id F1
    have hO : μ1 a = _ := w1
    refine Rn.iload_n (pc1 := 65)  dX6_copyFrom_64 rfl rfl rfl ?_
    refine Rn.aload_n (pc1 := 66)  dX6_copyFrom_65 rfl rfl rfl ?_
    refine Rn.getfield (pc1 := 69)  dX6_copyFrom_66 rfl fX6_21 (by first | assumption | exact mset_same | exact mget_ne (by omega) (by assumption)) rfl ?_
    refine Rn.icmp_ge (pc1 := 72) 106 dX6_copyFrom_69 rfl (by decide) (fun c69 => ?_) (fun c69 => ?_)
    · refine Rn.iconst (pc1 := 107) (v := nI 0) dX6_copyFrom_106 rfl (by decide) ?_
      refine Rn.istore_n (pc1 := 108)  dX6_copyFrom_107 rfl rfl (by decide) rfl rfl ?_
      exact lX6_copyFrom2 K hd sc' 0 (by omega) _ F1 q1
    · exact absurd (nI_le (Nat.le_refl _) (by omega)) c69
  | succ m ih =>
    intro i hi o3 o4 μ1 F1 q1
    have K1 := K.fr q1 (by omega)
    obtain ⟨w0, w1, w2, w3, w4, w5, w6⟩ := id F1
    obtain ⟨v0, v1, v2, v3, v4, v5, v6⟩ := id K1
    have hO : μ1 a = _ := w1
    have kO : μ1 b = _ := v1
    obtain ⟨pl, cp, rs, vw, cv, s1, s2⟩ := w5 i (by omega)
    obtain ⟨pl', cp', rs', vw', cv', s1', s2'⟩ := v5 i (by omega)
    have sO := s1.1
    refine Rn.iload_n (pc1 := 65)  dX6_copyFrom_64 rfl rfl rfl ?_
    refine Rn.aload_n (pc1 := 66)  dX6_copyFrom_65 rfl rfl rfl ?_
    refine Rn.getfield (pc1 := 69)  dX6_copyFrom_66 rfl fX6_21 (by first | assumption | exact mset_same | exact mget_ne (by omega) (by assumption)) rfl ?_
    refine Rn.icmp_ge (pc1 := 72) 106 dX6_copyFrom_69 rfl (by decide) (fun c69 => ?_) (fun c69 => ?_)
    · exact absurd c69 (nI_ge (by omega) (by omega))
    · refine Rn.aload_n (pc1 := 73)  dX6_copyFrom_72 rfl rfl rfl ?_
      refine Rn.iload_n (pc1 := 74)  dX6_copyFrom_73 rfl rfl rfl ?_
      refine Rn.cV_r (pc1 := 77) (eX6_readerAt_y F1 rfl (show i < rc' by omega)) dX6_copyFrom_74 rfl qX6_62 oX6_readerAt (by first | assumption | exact mset_same | exact mget_ne (by omega) (by assumption)) rfl rfl rfl rfl (Nat.le_of_ble_eq_true rfl) (by decide) (by decide) (fun v74 μ74 h74 => ?_)
      obtain ⟨rfl, rfl⟩ := h74
      refine Rn.astore_n (pc1 := 78) (x := a + 10 + 5 * i)  dX6_copyFrom_77 rfl rfl (by decide) rfl rfl ?_
      refine Rn.aload_n (pc1 := 79)  dX6_copyFrom_78 rfl rfl rfl ?_
      refine Rn.iload_n (pc1 := 80)  dX6_copyFrom_79 rfl rfl rfl ?_
      refine Rn.cV_r (pc1 := 83) (eX6_readerAt_y K1 rfl (show i < rc' by omega)) dX6_copyFrom_80 rfl qX6_62 oX6_readerAt (by first | assumption | exact mset_same | exact mget_ne (by omega) (by assumption)) rfl rfl rfl rfl (Nat.le_of_ble_eq_true rfl) (by decide) (by decide) (fun v80 μ80 h80 => ?_)
      obtain ⟨rfl, rfl⟩ := h80
      refine Rn.astore (pc1 := 85) (x := b + 10 + 5 * i)  dX6_copyFrom_83 rfl (by decide) rfl rfl ?_
      refine Rn.aload_n (pc1 := 86)  dX6_copyFrom_85 rfl rfl rfl ?_
      refine Rn.ifnull (pc1 := 89) dX6_copyFrom_86 rfl ?_
      refine Rn.aload (pc1 := 91)  dX6_copyFrom_89 rfl rfl ?_
      refine Rn.ifnull (pc1 := 94) dX6_copyFrom_91 rfl ?_
      refine Rn.aload_n (pc1 := 95)  dX6_copyFrom_94 rfl rfl rfl ?_
      refine Rn.aload (pc1 := 97)  dX6_copyFrom_95 rfl rfl ?_
      refine Rn.cV_v (pc1 := 100) (eX3_copyFrom s1 s1' (by omega)) dX6_copyFrom_97 rfl qX6_66 oX3_copyFrom (by first | assumption | exact mset_same | exact mget_ne (by omega) (by assumption)) rfl rfl rfl rfl (Nat.le_of_ble_eq_true rfl) (by decide) (by decide) (fun μ97 h97 => ?_)
      obtain ⟨W1, z1⟩ := h97
      refine Rn.iinc (pc1 := 103)  dX6_copyFrom_100 rfl rfl (nI_1 i) (by decide) rfl rfl ?_
      refine Rn.goto 64 dX6_copyFrom_103 (by decide) ?_
      refine ih (i + 1) (by omega) _ _ _ ⟨w0, w1.fr z1 (by omega), w2.fr z1 (by omega), w3.fr z1 (by omega), w4.fr z1 (by omega), fun k hk => ?_, fun k hk => (w6 k hk).fr z1 (by omega)⟩ (q1.trans (z1.wide (by omega) (by omega)))
      by_cases e : k = i
      · subst e
        exact ⟨pl', cp', rs', vw', cv', W1, fun _ => s2' (by omega)⟩
      · exact ((w5 k hk).fr z1 (by omega)).to (fun z => by omega) (fun _ _ _ _ => rfl)
theorem eX6_copyFrom {b h' rc' sc' : Nat} {f' : Nat → Int32} (F : SAg μ a f h rc sc lr ls) (K : SA μ b f' h' rc' sc') (hd : a + 52 ≤ b ∨ b + 52 ≤ a) : EvA G 4 kX6_copyFrom [.ref a, .ref b] μ sz 0 0 (rV fun μ' => SA μ' a f' h' rc' sc' ∧ Fr a (a + 52) μ μ') := by
  obtain ⟨w0, w1, w2, w3, w4, w5, w6⟩ := id F
  obtain ⟨v0, v1, v2, v3, v4, v5, v6⟩ := id K
  have hO : μ a = _ := w1
  have kO : μ b = _ := v1
  have vO := w3.1
  obtain ⟨g0, g1, g2, g3, fd1, fd2⟩ := w4
  obtain ⟨k0, k1, k2, k3, kd1, kd2⟩ := v4
  have fO := fd1.1
  refine EvA.of (L := [some (.ref a), some (.ref b), none, none, none]) (by decide +kernel) (Nat.le_of_ble_eq_true rfl) rfl ?_
  refine Rn.aload_n (pc1 := 1)  dX6_copyFrom_0 rfl rfl rfl ?_
  refine Rn.aload_n (pc1 := 2)  dX6_copyFrom_1 rfl rfl rfl ?_
  refine Rn.getfield (pc1 := 5)  dX6_copyFrom_2 rfl fX6_9 (by first | assumption | exact mset_same | exact mget_ne (by omega) (by assumption)) rfl ?_
  refine Rn.putfield (pc1 := 8)  dX6_copyFrom_5 rfl pX6_9 (fun h => Bool.noConfusion h) (by first | assumption | exact mset_same | exact mget_ne (by omega) (by assumption)) (Nat.le_of_ble_eq_true rfl) rfl rfl rfl ?_
  refine Rn.aload_n (pc1 := 9)  dX6_copyFrom_8 rfl rfl rfl ?_
  refine Rn.aload_n (pc1 := 10)  dX6_copyFrom_9 rfl rfl rfl ?_
  refine Rn.getfield (pc1 := 13)  dX6_copyFrom_10 rfl fX6_15 (by first | assumption | exact mset_same | exact mget_ne (by omega) (by assumption)) rfl ?_
  refine Rn.putfield (pc1 := 16)  dX6_copyFrom_13 rfl pX6_15 (fun h => Bool.noConfusion h) (by first | assumption | exact mset_same | exact mget_ne (by omega) (by assumption)) (Nat.le_of_ble_eq_true rfl) rfl rfl rfl ?_
  rw [mset_mset]
  refine Rn.aload_n (pc1 := 17)  dX6_copyFrom_16 rfl rfl rfl ?_
  refine Rn.aload_n (pc1 := 18)  dX6_copyFrom_17 rfl rfl rfl ?_
  refine Rn.getfield (pc1 := 21)  dX6_copyFrom_18 rfl fX6_18 (by first | assumption | exact mset_same | exact mget_ne (by omega) (by assumption)) rfl ?_
  refine Rn.putfield (pc1 := 24)  dX6_copyFrom_21 rfl pX6_18 (fun h => Bool.noConfusion h) (by first | assumption | exact mset_same | exact mget_ne (by omega) (by assumption)) (Nat.le_of_ble_eq_true rfl) rfl rfl rfl ?_
  rw [mset_mset]
  refine Rn.aload_n (pc1 := 25)  dX6_copyFrom_24 rfl rfl rfl ?_
  refine Rn.aload_n (pc1 := 26)  dX6_copyFrom_25 rfl rfl rfl ?_
  refine Rn.getfield (pc1 := 29)  dX6_copyFrom_26 rfl fX6_21 (by first | assumption | exact mset_same | exact mget_ne (by omega) (by assumption)) rfl ?_
  refine Rn.putfield (pc1 := 32)  dX6_copyFrom_29 rfl pX6_21 (fun h => Bool.noConfusion h) (by first | assumption | exact mset_same | exact mget_ne (by omega) (by assumption)) (Nat.le_of_ble_eq_true rfl) rfl rfl rfl ?_
  rw [mset_mset]
  refine Rn.aload_n (pc1 := 33)  dX6_copyFrom_32 rfl rfl rfl ?_
  refine Rn.aload_n (pc1 := 34)  dX6_copyFrom_33 rfl rfl rfl ?_
  refine Rn.getfield (pc1 := 37)  dX6_copyFrom_34 rfl fX6_24 (by first | assumption | exact mset_same | exact mget_ne (by omega) (by assumption)) rfl ?_
  refine Rn.putfield (pc1 := 40)  dX6_copyFrom_37 rfl pX6_24 (fun h => Bool.noConfusion h) (by first | assumption | exact mset_same | exact mget_ne (by omega) (by assumption)) (Nat.le_of_ble_eq_true rfl) rfl rfl rfl ?_
  rw [mset_mset]
  refine Rn.aload_n (pc1 := 41)  dX6_copyFrom_40 rfl rfl rfl ?_
  have s1 : SO (mset μ a (obj 6 [.int (f' 0), .int (f' 1), .int (f' 2), .int (nI rc'), .int (nI sc'), .ref (a + 1), .ref (a + 3), .ref (a + 8), .ref (a + 9)])) a f' rc' sc' := mset_same
  have z1 : Fr a (a + 1) μ (mset μ a (obj 6 [.int (f' 0), .int (f' 1), .int (f' 2), .int (nI rc'), .int (nI sc'), .ref (a + 1), .ref (a + 3), .ref (a + 8), .ref (a + 9)])) := Fr.set (by omega) (by omega)
  show Rn G 4 kX6_copyFrom 41 _ _ (mset μ a (obj 6 [.int (f' 0), .int (f' 1), .int (f' 2), .int (nI rc'), .int (nI sc'), .ref (a + 1), .ref (a + 3), .ref (a + 8), .ref (a + 9)])) _ _ _ _
  generalize (mset μ a (obj 6 [.int (f' 0), .int (f' 1), .int (f' 2), .int (nI rc'), .int (nI sc'), .ref (a + 1), .ref (a + 3), .ref (a + 8), .ref (a + 9)])) = μ1 at s1 z1 ⊢
  have hO1 : μ1 a = _ := s1
  have kO1 : μ1 b = _ := v1.fr z1 (by omega)
  have V1 := w3.fr z1 (by omega)
  have V2 := v3.fr z1 (by omega)
  have vO1 := V1.1
  refine Rn.getfield (pc1 := 44)  dX6_copyFrom_41 rfl fX6_30 (by first | assumption | exact mset_same | exact mget_ne (by omega) (by assumption)) rfl ?_
  refine Rn.aload_n (pc1 := 45)  dX6_copyFrom_44 rfl rfl rfl ?_
  refine Rn.getfield (pc1 := 48)  dX6_copyFrom_45 rfl fX6_30 (by first | assumption | exact mset_same | exact mget_ne (by omega) (by assumption)) rfl ?_
  refine Rn.cV_v (pc1 := 51) (eX7_copyFrom V1 V2 (by omega)) dX6_copyFrom_48 rfl qX6_55 oX7_copyFrom (by first | assumption | exact mset_same | exact mget_ne (by omega) (by assumption)) rfl rfl rfl rfl (Nat.le_of_ble_eq_true rfl) (by decide) (by decide) (fun μ48 h48 => ?_)
  obtain ⟨W1, z2⟩ := h48
  have hO2 := (z2 a (by omega)).trans hO1
  have kO2 := (z2 b (by omega)).trans kO1
  have z12 := (z1.wide (a' := a) (b' := a + 3) (by omega) (by omega)).trans (z2.wide (by omega) (by omega))
  have D1 := fd1.fr z12 (by omega)
  have D2 := kd1.fr z12 (by omega)
  have fO1 := D1.1
  refine Rn.aload_n (pc1 := 52)  dX6_copyFrom_51 rfl rfl rfl ?_
  refine Rn.getfield (pc1 := 55)  dX6_copyFrom_52 rfl fX6_37 (by first | assumption | exact mset_same | exact mget_ne (by omega) (by assumption)) rfl ?_
  refine Rn.aload_n (pc1 := 56)  dX6_copyFrom_55 rfl rfl rfl ?_
  refine Rn.getfield (pc1 := 59)  dX6_copyFrom_56 rfl fX6_37 (by first | assumption | exact mset_same | exact mget_ne (by omega) (by assumption)) rfl ?_
  refine Rn.cV_v (pc1 := 62) (eX0_copyFrom D1 D2 (by omega)) dX6_copyFrom_59 rfl qX6_59 oX0_copyFrom (by first | assumption | exact mset_same | exact mget_ne (by omega) (by assumption)) rfl rfl rfl rfl (Nat.le_of_ble_eq_true rfl) (by decide) (by decide) (fun μ59 h59 => ?_)
  obtain ⟨W2, z3⟩ := h59
  have z13 := (z12.wide (a' := a) (b' := a + 10) (by omega) (by omega)).trans (z3.wide (by omega) (by omega))
  refine Rn.iconst (pc1 := 63) (v := nI 0) dX6_copyFrom_62 rfl (by decide) ?_
  refine Rn.istore_n (pc1 := 64)  dX6_copyFrom_63 rfl rfl (by decide) rfl rfl ?_
  refine lX6_copyFrom1 K hd rc' 0 (by omega) _ _ _ ⟨v0, (s1.fr z2 (by omega)).fr z3 (by omega), (w2.fr z12 (by omega)).fr z3 (by omega), W1.fr z3 (by omega), ⟨_, _, _, _, W2, fun j hj => ?_⟩, fun i hi => ?_, fun n hn => ?_⟩ (z13.wide (by omega) (by omega))
  · rw [cpy_lt (by omega), cpy_lt (by omega), cpy_lt (by omega), cpy_lt (by omega)]
    exact kd2 j hj
  · exact ((w5 i hi).fr z13 (by omega)).to (fun z => by omega) (fun z => by omega)
  · exact ((w6 n hn).fr z13 (by omega)).to (fun z => by omega) (fun z => by omega)
end STATE
end
