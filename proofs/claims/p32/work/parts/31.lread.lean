/-! ===== the law's readers ===== -/
-- LOOK2
def lnB (b : Nat → Bool) : Nat → Int32
  | 0 => nI 0
  | n + 1 => if b n = true then lnB b n ||| (nI 1 <<< (nI n &&& 31)) else lnB b n
theorem lnB_congr {b c : Nat → Bool} : ∀ n, (∀ i, i < n → b i = c i) → lnB b n = lnB c n
  | 0, _ => rfl
  | n + 1, h => by unfold lnB; rw [lnB_congr n (fun i hi => h i (by omega)), h n (by omega)]
theorem lateN_lnB {f : Nat → Int32} {fl : Int32} : ∀ n, lateN f fl n = lnB (fun i => lateB (f (261 + 27 * i)) fl) n
  | 0 => rfl
  | n + 1 => by unfold lateN lnB; rw [lateN_lnB n]
def bf6 (b0 b1 b2 b3 b4 b5 : Bool) : Nat → Bool := fun i => match i with
  | 0 => b0
  | 1 => b1
  | 2 => b2
  | 3 => b3
  | 4 => b4
  | _ => b5
theorem ln_tab : ∀ b0 b1 b2 b3 b4 b5 : Bool, ∀ n : Fin 7, ∀ r : Fin 6, r.val < n.val → (lnB (bf6 b0 b1 b2 b3 b4 b5) n.val >>> (nI r.val &&& 31)) &&& nI 1 = bI (bf6 b0 b1 b2 b3 b4 b5 r.val) := by decide +kernel
theorem late_bit {f : Nat → Int32} {fl : Int32} {rc i : Nat} (hrc : rc ≤ 6) (hi : i < rc) : (lateN f fl rc >>> (nI i &&& 31)) &&& nI 1 = bI (lateB (f (261 + 27 * i)) fl) := by
  have e : ∀ j, j < 6 → (fun i => lateB (f (261 + 27 * i)) fl) j = bf6 (lateB (f (261 + 27 * 0)) fl) (lateB (f (261 + 27 * 1)) fl) (lateB (f (261 + 27 * 2)) fl) (lateB (f (261 + 27 * 3)) fl) (lateB (f (261 + 27 * 4)) fl) (lateB (f (261 + 27 * 5)) fl) j := by
    intro j hj
    match j, hj with
    | 0, _ => rfl
    | 1, _ => rfl
    | 2, _ => rfl
    | 3, _ => rfl
    | 4, _ => rfl
    | 5, _ => rfl
    | j + 6, hj => omega
  rw [lateN_lnB, lnB_congr rc (fun j hj => e j (by omega))]
  have := ln_tab (lateB (f (261 + 27 * 0)) fl) (lateB (f (261 + 27 * 1)) fl) (lateB (f (261 + 27 * 2)) fl) (lateB (f (261 + 27 * 3)) fl) (lateB (f (261 + 27 * 4)) fl) (lateB (f (261 + 27 * 5)) fl) ⟨rc, by omega⟩ ⟨i, by omega⟩ hi
  rw [this, ← e i (by omega)]
theorem difN_zero {f g : Nat → Int32} : ∀ n, (∀ j, j < n → f j = g j) → difN f g n = nI 0
  | 0, _ => rfl
  | n + 1, h => by unfold difN; rw [if_pos (h n (by omega)), difN_zero n (fun j hj => h j (by omega))]
theorem shN_le {f : Nat → Int32} {h sc i : Nat} : ∀ n, (shN f h sc i n).2 ≤ nI h
  | 0 => Int32.le_refl _
  | n + 1 => by
    unfold shN
    split
    · rename_i q
      exact Int32.le_trans q.2 (shN_le n)
    · exact shN_le n
section LAWR
variable {G : GG} {μ : Mm} {sz x held len B : Nat} {f : Nat → Int32} {P : Nat → Nat → Int32} {Pp : Nat → Int32} {u : Nat → Bool} {S : Nat → Nat → Int32} {h rc sc N g fl m : Nat} {n t : Nat → Nat}
theorem FA.hr (A : FA f h rc sc B N n t g fl m) : rF f ≤ 6 := by rw [A.2.1.2.1]; exact A.1.2.1
theorem FA.ri {i : Nat} (A : FA f h rc sc B N n t g fl m) (hi : i < rc) : i < rF f := by rw [A.2.1.2.1]; exact hi
theorem FA.hs (A : FA f h rc sc B N n t g fl m) : sF f ≤ 4 := by rw [A.2.1.2.2]; exact A.1.2.2.1
theorem FA.si {i : Nat} (A : FA f h rc sc B N n t g fl m) (hi : i < sc) : i < sF f := by rw [A.2.1.2.2]; exact hi
theorem FA.dif {i : Nat} (A : FA f h rc sc B N n t g fl m) (hi : i < rc) (hl : lateB (f (261 + 27 * i)) (f 4) = false) (h0 : ¬ nI 0 < nI (cntA f (f (261 + 27 * i)) h)) : difN (fun k => f (261 + 27 * i + 3 + k)) (fun k => f (9 + k)) 12 = nI 0 := by
  have L := A.le
  obtain ⟨b, -, -, ⟨⟨a1, a2, a3, a4, a5, a6, a7⟩, e, c⟩, r, s, d⟩ := A
  obtain ⟨p, p1, p2⟩ := (r i hi).1
  have hp := p2.1
  obtain ⟨K, k1, k2, k3, k4⟩ := cntA_at (fun j hj => ⟨(e j hj).1, (c.1 j hj).1⟩) (fun i j h1 h2 => (c.2.1 i j h1 h2).1) p2.1 (by omega) h (Nat.le_refl _)
  have hz : cntA f (f (261 + 27 * i)) h = 0 := by
    have h1 := cntA_le f (f (261 + 27 * i)) h
    by_cases q : cntA f (f (261 + 27 * i)) h = 0
    · exact q
    · exact absurd (nI_lt (show 0 < cntA f (f (261 + 27 * i)) h by omega) (by omega)) h0
  rw [p1] at hz hl
  rw [a5] at hl
  refine difN_zero 12 (fun k hk => p2.2.2 (lateB_f (by omega) (by omega) hl) k hk (fun j hj _ => k2 j (by omega)))
theorem lR_26 (C : CW μ x f held P Pp len u S B) (A : FA f h rc sc B N n t g fl m) {i : Nat} (hi : i < rc) (K : Rn G 7 kL_readers 66 [some (.ref x), some (.int (nI 1)), some (.int (nI i)), some (.int (nI (cntA f (f (261 + 27 * i)) h))), some (.int (nI 0)), some (.int (nI h))] [] μ sz 0 0 (QT μ)) : ∀ (r e : Nat), e + r = h → Rn G 7 kL_readers 26 [some (.ref x), some (.int (nI 1)), some (.int (nI i)), some (.int (nI (cntA f (f (261 + 27 * i)) e))), some (.int (nI 0)), some (.int (nI e))] [] μ sz 0 0 (QT μ) := by
  have hO := C.1
  have hl := A.le
  intro r
  induction r with
  | zero =>
    intro e he
    obtain rfl : e = h := by omega
    refine Rn.iload (pc1 := 28)  dL_readers_26 rfl rfl ?_
    refine Rn.aload_n (pc1 := 29)  dL_readers_28 rfl rfl rfl ?_
    refine Rn.iconst (pc1 := 30) (v := nI 0) dL_readers_29 rfl (by decide) ?_
    refine Rn.cV_i (pc1 := 33) (k_cnt C (w := 0) (by omega) A.c0) dL_readers_30 rfl qL_59 oX8_count (by first | assumption | exact mset_same | exact mget_ne (by omega) (by assumption) | exact mget_ne (by omega) mset_same) rfl rfl rfl rfl (Nat.le_of_ble_eq_true rfl) (by decide) (by decide) (fun v30 μ30 h30 => ?_)
    obtain ⟨rfl, rfl⟩ := h30
    refine Rn.icmp_ge (pc1 := 36) 66 dL_readers_33 rfl (by decide) (fun c33 => ?_) (fun c33 => ?_)
    · exact K
    · exact absurd (nI_le (Nat.le_refl _) (by omega)) c33
  | succ r ih =>
    intro e he
    have he2 : e < h := by omega
    refine Rn.iload (pc1 := 28)  dL_readers_26 rfl rfl ?_
    refine Rn.aload_n (pc1 := 29)  dL_readers_28 rfl rfl rfl ?_
    refine Rn.iconst (pc1 := 30) (v := nI 0) dL_readers_29 rfl (by decide) ?_
    refine Rn.cV_i (pc1 := 33) (k_cnt C (w := 0) (by omega) A.c0) dL_readers_30 rfl qL_59 oX8_count (by first | assumption | exact mset_same | exact mget_ne (by omega) (by assumption) | exact mget_ne (by omega) mset_same) rfl rfl rfl rfl (Nat.le_of_ble_eq_true rfl) (by decide) (by decide) (fun v30 μ30 h30 => ?_)
    obtain ⟨rfl, rfl⟩ := h30
    refine Rn.icmp_ge (pc1 := 36) 66 dL_readers_33 rfl (by decide) (fun c33 => ?_) (fun c33 => ?_)
    · exact absurd c33 (nI_ge he2 (by omega))
    · refine Rn.iload_n (pc1 := 37)  dL_readers_36 rfl rfl rfl ?_
      refine Rn.aload_n (pc1 := 38)  dL_readers_37 rfl rfl rfl ?_
      refine Rn.iload (pc1 := 40)  dL_readers_38 rfl rfl ?_
      refine Rn.iconst (pc1 := 41) (v := nI 0) dL_readers_40 rfl (by decide) ?_
      refine Rn.cV_i (pc1 := 44) (k_ent C A.hh (A.he he2) (w := 0) (y := e0 f e) (by omega) rfl) dL_readers_41 rfl qL_62 oX8_entry (by first | assumption | exact mset_same | exact mget_ne (by omega) (by assumption) | exact mget_ne (by omega) mset_same) rfl rfl rfl rfl (Nat.le_of_ble_eq_true rfl) (by decide) (by decide) (fun v41 μ41 h41 => ?_)
      obtain ⟨rfl, rfl⟩ := h41
      refine Rn.aload_n (pc1 := 45)  dL_readers_44 rfl rfl rfl ?_
      refine Rn.iload_n (pc1 := 46)  dL_readers_45 rfl rfl rfl ?_
      refine Rn.iconst (pc1 := 47) (v := nI 0) dL_readers_46 rfl (by decide) ?_
      refine Rn.cV_i (pc1 := 50) (k_ofr hl.2.1 C A.hr (A.ri hi) (w := 0) (y := f (261 + 27 * i)) (by omega) rfl) dL_readers_47 rfl qL_68 oX8_ofReader (by first | assumption | exact mset_same | exact mget_ne (by omega) (by assumption) | exact mget_ne (by omega) mset_same) rfl rfl rfl rfl (Nat.le_of_ble_eq_true rfl) (by decide) (by decide) (fun v47 μ47 h47 => ?_)
      obtain ⟨rfl, rfl⟩ := h47
      refine Rn.icmp_lt (pc1 := 53) 57 dL_readers_50 rfl (by decide) (fun c50 => ?_) (fun c50 => ?_)
      · have ee : cntA f (f (261 + 27 * i)) (e + 1) = cntA f (f (261 + 27 * i)) e + 0 := by show _ + (if f (261 + 27 * i) ≤ e0 f e then 1 else 0) = _; rw [if_neg (i32_nle.mpr c50)]
        refine Rn.iconst (pc1 := 58) (v := nI 0) dL_readers_57 rfl (by decide) ?_
        refine Rn.iadd (pc1 := 59)  dL_readers_58 rfl (nI_add _ _) ?_
        refine Rn.istore_n (pc1 := 60)  dL_readers_59 rfl rfl (by decide) rfl rfl ?_
        refine Rn.iinc (pc1 := 63)  dL_readers_60 rfl rfl (nI_1 e) (by decide) rfl rfl ?_
        refine Rn.goto 26 dL_readers_63 (by decide) ?_
        have := ih (e + 1) (by omega); rw [ee] at this; exact this
      · have ee : cntA f (f (261 + 27 * i)) (e + 1) = cntA f (f (261 + 27 * i)) e + 1 := by show _ + (if f (261 + 27 * i) ≤ e0 f e then 1 else 0) = _; rw [if_pos (i32_nlt.mp c50)]
        refine Rn.iconst (pc1 := 54) (v := nI 1) dL_readers_53 rfl (by decide) ?_
        refine Rn.goto 58 dL_readers_54 (by decide) ?_
        refine Rn.iadd (pc1 := 59)  dL_readers_58 rfl (nI_add _ _) ?_
        refine Rn.istore_n (pc1 := 60)  dL_readers_59 rfl rfl (by decide) rfl rfl ?_
        refine Rn.iinc (pc1 := 63)  dL_readers_60 rfl rfl (nI_1 e) (by decide) rfl rfl ?_
        refine Rn.goto 26 dL_readers_63 (by decide) ?_
        have := ih (e + 1) (by omega); rw [ee] at this; exact this
theorem lR_69 (C : CW μ x f held P Pp len u S B) (A : FA f h rc sc B N n t g fl m) {i : Nat} (hi : i < rc) {ah : Int32} (K : Rn G 7 kL_readers 111 [some (.ref x), some (.int (nI 1)), some (.int (nI i)), some (.int ah), some (.int (difN (fun k => f (261 + 27 * i + 3 + k)) (fun k => f (9 + k)) 12)), some (.int (nI 12))] [] μ sz 0 0 (QT μ)) : ∀ (r k : Nat), k + r = 12 → Rn G 7 kL_readers 69 [some (.ref x), some (.int (nI 1)), some (.int (nI i)), some (.int ah), some (.int (difN (fun k => f (261 + 27 * i + 3 + k)) (fun k => f (9 + k)) k)), some (.int (nI k))] [] μ sz 0 0 (QT μ) := by
  have hO := C.1
  have hl := A.le
  intro r
  induction r with
  | zero =>
    intro k hk
    obtain rfl : k = 12 := by omega
    refine Rn.iload (pc1 := 71)  dL_readers_69 rfl rfl ?_
    refine Rn.bipush (pc1 := 73) (v := nI 12) dL_readers_71 rfl (by decide) ?_
    refine Rn.icmp_ge (pc1 := 76) 111 dL_readers_73 rfl (by decide) (fun c73 => ?_) (fun c73 => ?_)
    · exact K
    · exact absurd (nI_le (Nat.le_refl _) (by omega)) c73
  | succ r ih =>
    intro k hk
    have hk2 : k < 12 := by omega
    refine Rn.iload (pc1 := 71)  dL_readers_69 rfl rfl ?_
    refine Rn.bipush (pc1 := 73) (v := nI 12) dL_readers_71 rfl (by decide) ?_
    refine Rn.icmp_ge (pc1 := 76) 111 dL_readers_73 rfl (by decide) (fun c73 => ?_) (fun c73 => ?_)
    · exact absurd c73 (nI_ge hk2 (by omega))
    · refine Rn.iload (pc1 := 78)  dL_readers_76 rfl rfl ?_
      refine Rn.aload_n (pc1 := 79)  dL_readers_78 rfl rfl rfl ?_
      refine Rn.iload_n (pc1 := 80)  dL_readers_79 rfl rfl rfl ?_
      refine Rn.iload (pc1 := 82)  dL_readers_80 rfl rfl ?_
      refine Rn.cV_i (pc1 := 85) (k_view C A.hr (A.ri hi) hk2 rfl) dL_readers_82 rfl qL_71 oX8_view (by first | assumption | exact mset_same | exact mget_ne (by omega) (by assumption) | exact mget_ne (by omega) mset_same) rfl rfl rfl rfl (Nat.le_of_ble_eq_true rfl) (by decide) (by decide) (fun v82 μ82 h82 => ?_)
      obtain ⟨rfl, rfl⟩ := h82
      refine Rn.aload_n (pc1 := 86)  dL_readers_85 rfl rfl rfl ?_
      refine Rn.iload (pc1 := 88)  dL_readers_86 rfl rfl ?_
      refine Rn.cV_i (pc1 := 91) (k_tab C hk2 rfl) dL_readers_88 rfl qL_65 oX8_table (by first | assumption | exact mset_same | exact mget_ne (by omega) (by assumption) | exact mget_ne (by omega) mset_same) rfl rfl rfl rfl (Nat.le_of_ble_eq_true rfl) (by decide) (by decide) (fun v88 μ88 h88 => ?_)
      obtain ⟨rfl, rfl⟩ := h88
      refine Rn.icmp_ne (pc1 := 94) 98 dL_readers_91 rfl (by decide) (fun c91 => ?_) (fun c91 => ?_)
      · have ee : difN (fun k => f (261 + 27 * i + 3 + k)) (fun k => f (9 + k)) (k + 1) = difN (fun k => f (261 + 27 * i + 3 + k)) (fun k => f (9 + k)) k ||| (nI 1 <<< (nI k &&& 31)) := by show (if f (261 + 27 * i + 3 + k) = f (9 + k) then _ else _) = _; rw [if_neg c91]
        refine Rn.iconst (pc1 := 99) (v := nI 1) dL_readers_98 rfl (by decide) ?_
        refine Rn.iload (pc1 := 101)  dL_readers_99 rfl rfl ?_
        refine Rn.ishl (pc1 := 102)  dL_readers_101 rfl rfl ?_
        refine Rn.ior (pc1 := 103)  dL_readers_102 rfl rfl ?_
        refine Rn.istore (pc1 := 105)  dL_readers_103 rfl (by decide) rfl rfl ?_
        refine Rn.iinc (pc1 := 108)  dL_readers_105 rfl rfl (nI_1 k) (by decide) rfl rfl ?_
        refine Rn.goto 69 dL_readers_108 (by decide) ?_
        have := ih (k + 1) (by omega); rw [ee] at this; exact this
      · have ee : difN (fun k => f (261 + 27 * i + 3 + k)) (fun k => f (9 + k)) (k + 1) = difN (fun k => f (261 + 27 * i + 3 + k)) (fun k => f (9 + k)) k ||| nI 0 := by show (if f (261 + 27 * i + 3 + k) = f (9 + k) then _ else _) = _; rw [if_pos c91, nI_0, Int32.or_zero]
        refine Rn.iconst (pc1 := 95) (v := nI 0) dL_readers_94 rfl (by decide) ?_
        refine Rn.goto 102 dL_readers_95 (by decide) ?_
        refine Rn.ior (pc1 := 103)  dL_readers_102 rfl rfl ?_
        refine Rn.istore (pc1 := 105)  dL_readers_103 rfl (by decide) rfl rfl ?_
        refine Rn.iinc (pc1 := 108)  dL_readers_105 rfl rfl (nI_1 k) (by decide) rfl rfl ?_
        refine Rn.goto 69 dL_readers_108 (by decide) ?_
        have := ih (k + 1) (by omega); rw [ee] at this; exact this
theorem lR_111 (C : CW μ x f held P Pp len u S B) (A : FA f h rc sc B N n t g fl m) {i : Nat} (hi : i < rc) {ah un e5 : Int32} (K : Rn G 7 kL_readers 141 [some (.ref x), some (.int (nI 1)), some (.int (nI i)), some (.int ah), some (.int un), some (.int (bI (lateB (f (261 + 27 * i)) (f 4))))] [] μ sz 0 0 (QT μ)) : Rn G 7 kL_readers 111 [some (.ref x), some (.int (nI 1)), some (.int (nI i)), some (.int ah), some (.int un), some (.int e5)] [] μ sz 0 0 (QT μ) := by
  have hO := C.1
  have hl := A.le
  refine Rn.aload_n (pc1 := 112)  dL_readers_111 rfl rfl rfl ?_
  refine Rn.iload_n (pc1 := 113)  dL_readers_112 rfl rfl rfl ?_
  refine Rn.iconst (pc1 := 114) (v := nI 0) dL_readers_113 rfl (by decide) ?_
  refine Rn.cV_i (pc1 := 117) (k_ofr hl.2.1 C A.hr (A.ri hi) (w := 0) (y := f (261 + 27 * i)) (by omega) rfl) dL_readers_114 rfl qL_68 oX8_ofReader (by first | assumption | exact mset_same | exact mget_ne (by omega) (by assumption) | exact mget_ne (by omega) mset_same) rfl rfl rfl rfl (Nat.le_of_ble_eq_true rfl) (by decide) (by decide) (fun v114 μ114 h114 => ?_)
  obtain ⟨rfl, rfl⟩ := h114
  refine Rn.if_le (pc1 := 120) 138 dL_readers_117 rfl (by decide) (fun c117 => ?_) (fun c117 => ?_)
  · have ee : bI (lateB (f (261 + 27 * i)) (f 4)) = nI 0 := by unfold lateB; rw [decide_eq_false (i32_nlt.mpr c117)]; rfl
    refine Rn.iconst (pc1 := 139) (v := nI 0) dL_readers_138 rfl (by decide) ?_
    refine Rn.istore (pc1 := 141)  dL_readers_139 rfl (by decide) rfl rfl ?_
    rw [ee] at K; exact K
  · refine Rn.aload_n (pc1 := 121)  dL_readers_120 rfl rfl rfl ?_
    refine Rn.iload_n (pc1 := 122)  dL_readers_121 rfl rfl rfl ?_
    refine Rn.iconst (pc1 := 123) (v := nI 0) dL_readers_122 rfl (by decide) ?_
    refine Rn.cV_i (pc1 := 126) (k_ofr hl.2.1 C A.hr (A.ri hi) (w := 0) (y := f (261 + 27 * i)) (by omega) rfl) dL_readers_123 rfl qL_68 oX8_ofReader (by first | assumption | exact mset_same | exact mget_ne (by omega) (by assumption) | exact mget_ne (by omega) mset_same) rfl rfl rfl rfl (Nat.le_of_ble_eq_true rfl) (by decide) (by decide) (fun v123 μ123 h123 => ?_)
    obtain ⟨rfl, rfl⟩ := h123
    refine Rn.aload_n (pc1 := 127)  dL_readers_126 rfl rfl rfl ?_
    refine Rn.iconst (pc1 := 128) (v := nI 4) dL_readers_127 rfl (by decide) ?_
    refine Rn.cV_i (pc1 := 131) (k_cnt C (w := 4) (y := f 4) (by omega) rfl) dL_readers_128 rfl qL_59 oX8_count (by first | assumption | exact mset_same | exact mget_ne (by omega) (by assumption) | exact mget_ne (by omega) mset_same) rfl rfl rfl rfl (Nat.le_of_ble_eq_true rfl) (by decide) (by decide) (fun v128 μ128 h128 => ?_)
    obtain ⟨rfl, rfl⟩ := h128
    refine Rn.icmp_ge (pc1 := 134) 138 dL_readers_131 rfl (by decide) (fun c131 => ?_) (fun c131 => ?_)
    · have ee : bI (lateB (f (261 + 27 * i)) (f 4)) = nI 0 := by unfold lateB; rw [decide_eq_false (i32_nlt.mpr c131), Bool.and_false]; rfl
      refine Rn.iconst (pc1 := 139) (v := nI 0) dL_readers_138 rfl (by decide) ?_
      refine Rn.istore (pc1 := 141)  dL_readers_139 rfl (by decide) rfl rfl ?_
      rw [ee] at K; exact K
    · have ee : bI (lateB (f (261 + 27 * i)) (f 4)) = nI 1 := by unfold lateB; rw [decide_eq_true (i32_nle.mp c117), decide_eq_true (i32_nle.mp c131)]; rfl
      refine Rn.iconst (pc1 := 135) (v := nI 1) dL_readers_134 rfl (by decide) ?_
      refine Rn.goto 139 dL_readers_135 (by decide) ?_
      refine Rn.istore (pc1 := 141)  dL_readers_139 rfl (by decide) rfl rfl ?_
      rw [ee] at K; exact K
theorem bI_1 {b : Bool} (h : ¬ bI b = nI 1) : nI 0 = bI b := by cases b <;> first | rfl | exact absurd rfl h
theorem lR_141 (C : CW μ x f held P Pp len u S B) (A : FA f h rc sc B N n t g fl m) {i : Nat} (hi : i < rc) (K : ∀ o3 o4 o5 : Option Value, Rn G 7 kL_readers 4 [some (.ref x), some (.int (nI 1)), some (.int (nI (i + 1))), o3, o4, o5] [] μ sz 0 0 (QT μ)) : Rn G 7 kL_readers 141 [some (.ref x), some (.int (nI 1)), some (.int (nI i)), some (.int (nI (cntA f (f (261 + 27 * i)) h))), some (.int (difN (fun k => f (261 + 27 * i + 3 + k)) (fun k => f (9 + k)) 12)), some (.int (bI (lateB (f (261 + 27 * i)) (f 4))))] [] μ sz 0 0 (QT μ) := by
  have hO := C.1
  have hl := A.le
  obtain ⟨p, p1, p2⟩ := (A.2.2.2.2.1 i hi).1
  have hp := p2.1
  refine Rn.aload_n (pc1 := 142)  dL_readers_141 rfl rfl rfl ?_
  refine Rn.iload_n (pc1 := 143)  dL_readers_142 rfl rfl rfl ?_
  refine Rn.iconst (pc1 := 144) (v := nI 2) dL_readers_143 rfl (by decide) ?_
  refine Rn.cV_i (pc1 := 147) (k_ofr hl.2.1 C A.hr (A.ri hi) (w := 2) (y := nI (cntA f (f (261 + 27 * i)) h)) (by omega) (by show nI (cntA f _ (hF f)) = _; rw [A.2.1.1])) dL_readers_144 rfl qL_68 oX8_ofReader (by first | assumption | exact mset_same | exact mget_ne (by omega) (by assumption) | exact mget_ne (by omega) mset_same) rfl rfl rfl rfl (Nat.le_of_ble_eq_true rfl) (by decide) (by decide) (fun v144 μ144 h144 => ?_)
  obtain ⟨rfl, rfl⟩ := h144
  refine Rn.iload_n (pc1 := 148)  dL_readers_147 rfl rfl rfl ?_
  refine Rn.icmp_ne (pc1 := 151) 205 dL_readers_148 rfl (by decide) (fun c148 => ?_) (fun c148 => ?_)
  · exact absurd rfl c148
  · refine Rn.aload_n (pc1 := 152)  dL_readers_151 rfl rfl rfl ?_
    refine Rn.iload_n (pc1 := 153)  dL_readers_152 rfl rfl rfl ?_
    refine Rn.iconst (pc1 := 154) (v := nI 5) dL_readers_153 rfl (by decide) ?_
    refine Rn.cV_i (pc1 := 157) (k_ofr hl.2.1 C A.hr (A.ri hi) (w := 5) (y := difN (fun k => f (261 + 27 * i + 3 + k)) (fun k => f (9 + k)) 12) (by omega) rfl) dL_readers_154 rfl qL_68 oX8_ofReader (by first | assumption | exact mset_same | exact mget_ne (by omega) (by assumption) | exact mget_ne (by omega) mset_same) rfl rfl rfl rfl (Nat.le_of_ble_eq_true rfl) (by decide) (by decide) (fun v154 μ154 h154 => ?_)
    obtain ⟨rfl, rfl⟩ := h154
    refine Rn.iload (pc1 := 159)  dL_readers_157 rfl rfl ?_
    refine Rn.icmp_ne (pc1 := 162) 205 dL_readers_159 rfl (by decide) (fun c159 => ?_) (fun c159 => ?_)
    · exact absurd rfl c159
    · refine Rn.aload_n (pc1 := 163)  dL_readers_162 rfl rfl rfl ?_
      refine Rn.iload_n (pc1 := 164)  dL_readers_163 rfl rfl rfl ?_
      refine Rn.iconst (pc1 := 165) (v := nI 3) dL_readers_164 rfl (by decide) ?_
      refine Rn.cV_i (pc1 := 168) (k_ofr hl.2.1 C A.hr (A.ri hi) (w := 3) (y := bI (lateB (f (261 + 27 * i)) (f 4))) (by omega) rfl) dL_readers_165 rfl qL_68 oX8_ofReader (by first | assumption | exact mset_same | exact mget_ne (by omega) (by assumption) | exact mget_ne (by omega) mset_same) rfl rfl rfl rfl (Nat.le_of_ble_eq_true rfl) (by decide) (by decide) (fun v165 μ165 h165 => ?_)
      obtain ⟨rfl, rfl⟩ := h165
      refine Rn.iconst (pc1 := 169) (v := nI 1) dL_readers_168 rfl (by decide) ?_
      refine Rn.icmp_ne (pc1 := 172) 176 dL_readers_169 rfl (by decide) (fun c169 => ?_) (fun c169 => ?_)
      · have hx := bI_1 c169
        refine Rn.iconst (pc1 := 177) (v := nI 0) dL_readers_176 rfl (by decide) ?_
        refine Rn.iload (pc1 := 179)  dL_readers_177 rfl rfl ?_
        refine Rn.icmp_ne (pc1 := 182) 205 dL_readers_179 rfl (by decide) (fun c179 => ?_) (fun c179 => ?_)
        · exact absurd hx c179
        · refine Rn.aload_n (pc1 := 183)  dL_readers_182 rfl rfl rfl ?_
          refine Rn.bipush (pc1 := 185) (v := nI 7) dL_readers_183 rfl (by decide) ?_
          refine Rn.cV_i (pc1 := 188) (k_cnt C (w := 7) (y := lateN f (f 4) rc) (by omega) (by show lateN f (f 4) (rF f) = _; rw [A.2.1.2.1])) dL_readers_185 rfl qL_59 oX8_count (by first | assumption | exact mset_same | exact mget_ne (by omega) (by assumption) | exact mget_ne (by omega) mset_same) rfl rfl rfl rfl (Nat.le_of_ble_eq_true rfl) (by decide) (by decide) (fun v185 μ185 h185 => ?_)
          obtain ⟨rfl, rfl⟩ := h185
          refine Rn.iload_n (pc1 := 189)  dL_readers_188 rfl rfl rfl ?_
          refine Rn.ishr (pc1 := 190)  dL_readers_189 rfl rfl ?_
          refine Rn.iconst (pc1 := 191) (v := nI 1) dL_readers_190 rfl (by decide) ?_
          refine Rn.iand (pc1 := 192)  dL_readers_191 rfl rfl ?_
          refine Rn.aload_n (pc1 := 193)  dL_readers_192 rfl rfl rfl ?_
          refine Rn.iload_n (pc1 := 194)  dL_readers_193 rfl rfl rfl ?_
          refine Rn.iconst (pc1 := 195) (v := nI 3) dL_readers_194 rfl (by decide) ?_
          refine Rn.cV_i (pc1 := 198) (k_ofr hl.2.1 C A.hr (A.ri hi) (w := 3) (y := bI (lateB (f (261 + 27 * i)) (f 4))) (by omega) rfl) dL_readers_195 rfl qL_68 oX8_ofReader (by first | assumption | exact mset_same | exact mget_ne (by omega) (by assumption) | exact mget_ne (by omega) mset_same) rfl rfl rfl rfl (Nat.le_of_ble_eq_true rfl) (by decide) (by decide) (fun v195 μ195 h195 => ?_)
          obtain ⟨rfl, rfl⟩ := h195
          refine Rn.icmp_ne (pc1 := 201) 205 dL_readers_198 rfl (by decide) (fun c198 => ?_) (fun c198 => ?_)
          · exact absurd (late_bit hl.1.2.1 hi) c198
          · refine Rn.iconst (pc1 := 202) (v := nI 1) dL_readers_201 rfl (by decide) ?_
            refine Rn.goto 206 dL_readers_202 (by decide) ?_
            refine Rn.istore_n (pc1 := 207)  dL_readers_206 rfl rfl (by decide) rfl rfl ?_
            refine Rn.iload_n (pc1 := 208)  dL_readers_207 rfl rfl rfl ?_
            refine Rn.if_eq (pc1 := 211) 257 dL_readers_208 rfl (by decide) (fun c208 => ?_) (fun c208 => ?_)
            · exact absurd c208 (by decide)
            · refine Rn.aload_n (pc1 := 212)  dL_readers_211 rfl rfl rfl ?_
              refine Rn.iload_n (pc1 := 213)  dL_readers_212 rfl rfl rfl ?_
              refine Rn.iconst (pc1 := 214) (v := nI 0) dL_readers_213 rfl (by decide) ?_
              refine Rn.cV_i (pc1 := 217) (k_ofr hl.2.1 C A.hr (A.ri hi) (w := 0) (y := nI p) (by omega) p1) dL_readers_214 rfl qL_68 oX8_ofReader (by first | assumption | exact mset_same | exact mget_ne (by omega) (by assumption) | exact mget_ne (by omega) mset_same) rfl rfl rfl rfl (Nat.le_of_ble_eq_true rfl) (by decide) (by decide) (fun v214 μ214 h214 => ?_)
              obtain ⟨rfl, rfl⟩ := h214
              refine Rn.aload_n (pc1 := 218)  dL_readers_217 rfl rfl rfl ?_
              refine Rn.iconst (pc1 := 219) (v := nI 1) dL_readers_218 rfl (by decide) ?_
              refine Rn.cV_i (pc1 := 222) (k_cnt C (w := 1) (by omega) A.c1) dL_readers_219 rfl qL_59 oX8_count (by first | assumption | exact mset_same | exact mget_ne (by omega) (by assumption) | exact mget_ne (by omega) mset_same) rfl rfl rfl rfl (Nat.le_of_ble_eq_true rfl) (by decide) (by decide) (fun v219 μ219 h219 => ?_)
              obtain ⟨rfl, rfl⟩ := h219
              refine Rn.icmp_gt (pc1 := 225) 257 dL_readers_222 rfl (by decide) (fun c222 => ?_) (fun c222 => ?_)
              · exact absurd c222 (nI_nlt hp (by omega))
              · refine Rn.iload (pc1 := 227)  dL_readers_225 rfl rfl ?_
                refine Rn.if_ne (pc1 := 230) 239 dL_readers_227 rfl (by decide) (fun c227 => ?_) (fun c227 => ?_)
                · refine Rn.aload_n (pc1 := 240)  dL_readers_239 rfl rfl rfl ?_
                  refine Rn.iload_n (pc1 := 241)  dL_readers_240 rfl rfl rfl ?_
                  refine Rn.iconst (pc1 := 242) (v := nI 1) dL_readers_241 rfl (by decide) ?_
                  refine Rn.cV_i (pc1 := 245) (k_short hl.2.1 C A.hr (A.ri hi) rfl) dL_readers_242 rfl qL_74 oX8_shortest (by first | assumption | exact mset_same | exact mget_ne (by omega) (by assumption) | exact mget_ne (by omega) mset_same) rfl rfl rfl rfl (Nat.le_of_ble_eq_true rfl) (by decide) (by decide) (fun v242 μ242 h242 => ?_)
                  obtain ⟨rfl, rfl⟩ := h242
                  refine Rn.aload_n (pc1 := 246)  dL_readers_245 rfl rfl rfl ?_
                  refine Rn.iconst (pc1 := 247) (v := nI 0) dL_readers_246 rfl (by decide) ?_
                  refine Rn.cV_i (pc1 := 250) (k_cnt C (w := 0) (y := nI (hF f)) (by omega) (by rw [A.2.1.1]; exact A.c0)) dL_readers_247 rfl qL_59 oX8_count (by first | assumption | exact mset_same | exact mget_ne (by omega) (by assumption) | exact mget_ne (by omega) mset_same) rfl rfl rfl rfl (Nat.le_of_ble_eq_true rfl) (by decide) (by decide) (fun v247 μ247 h247 => ?_)
                  obtain ⟨rfl, rfl⟩ := h247
                  refine Rn.icmp_gt (pc1 := 253) 257 dL_readers_250 rfl (by decide) (fun c250 => ?_) (fun c250 => ?_)
                  · exact absurd c250 (i32_nlt.mpr (shN_le 5))
                  · refine Rn.iconst (pc1 := 254) (v := nI 1) dL_readers_253 rfl (by decide) ?_
                    refine Rn.goto 258 dL_readers_254 (by decide) ?_
                    refine Rn.istore_n (pc1 := 259)  dL_readers_258 rfl rfl (by decide) rfl rfl ?_
                    refine Rn.iinc (pc1 := 262)  dL_readers_259 rfl rfl (nI_1 i) (by decide) rfl rfl ?_
                    refine Rn.goto 4 dL_readers_262 (by decide) ?_
                    exact K _ _ _
                · refine Rn.iload_n (pc1 := 231)  dL_readers_230 rfl rfl rfl ?_
                  refine Rn.if_gt (pc1 := 234) 239 dL_readers_231 rfl (by decide) (fun c231 => ?_) (fun c231 => ?_)
                  · refine Rn.aload_n (pc1 := 240)  dL_readers_239 rfl rfl rfl ?_
                    refine Rn.iload_n (pc1 := 241)  dL_readers_240 rfl rfl rfl ?_
                    refine Rn.iconst (pc1 := 242) (v := nI 1) dL_readers_241 rfl (by decide) ?_
                    refine Rn.cV_i (pc1 := 245) (k_short hl.2.1 C A.hr (A.ri hi) rfl) dL_readers_242 rfl qL_74 oX8_shortest (by first | assumption | exact mset_same | exact mget_ne (by omega) (by assumption) | exact mget_ne (by omega) mset_same) rfl rfl rfl rfl (Nat.le_of_ble_eq_true rfl) (by decide) (by decide) (fun v242 μ242 h242 => ?_)
                    obtain ⟨rfl, rfl⟩ := h242
                    refine Rn.aload_n (pc1 := 246)  dL_readers_245 rfl rfl rfl ?_
                    refine Rn.iconst (pc1 := 247) (v := nI 0) dL_readers_246 rfl (by decide) ?_
                    refine Rn.cV_i (pc1 := 250) (k_cnt C (w := 0) (y := nI (hF f)) (by omega) (by rw [A.2.1.1]; exact A.c0)) dL_readers_247 rfl qL_59 oX8_count (by first | assumption | exact mset_same | exact mget_ne (by omega) (by assumption) | exact mget_ne (by omega) mset_same) rfl rfl rfl rfl (Nat.le_of_ble_eq_true rfl) (by decide) (by decide) (fun v247 μ247 h247 => ?_)
                    obtain ⟨rfl, rfl⟩ := h247
                    refine Rn.icmp_gt (pc1 := 253) 257 dL_readers_250 rfl (by decide) (fun c250 => ?_) (fun c250 => ?_)
                    · exact absurd c250 (i32_nlt.mpr (shN_le 5))
                    · refine Rn.iconst (pc1 := 254) (v := nI 1) dL_readers_253 rfl (by decide) ?_
                      refine Rn.goto 258 dL_readers_254 (by decide) ?_
                      refine Rn.istore_n (pc1 := 259)  dL_readers_258 rfl rfl (by decide) rfl rfl ?_
                      refine Rn.iinc (pc1 := 262)  dL_readers_259 rfl rfl (nI_1 i) (by decide) rfl rfl ?_
                      refine Rn.goto 4 dL_readers_262 (by decide) ?_
                      exact K _ _ _
                  · refine Rn.iload (pc1 := 236)  dL_readers_234 rfl rfl ?_
                    refine Rn.if_ne (pc1 := 239) 257 dL_readers_236 rfl (by decide) (fun c236 => ?_) (fun c236 => ?_)
                    · exact absurd (A.dif hi (bI_0 c227) c231) c236
                    · refine Rn.aload_n (pc1 := 240)  dL_readers_239 rfl rfl rfl ?_
                      refine Rn.iload_n (pc1 := 241)  dL_readers_240 rfl rfl rfl ?_
                      refine Rn.iconst (pc1 := 242) (v := nI 1) dL_readers_241 rfl (by decide) ?_
                      refine Rn.cV_i (pc1 := 245) (k_short hl.2.1 C A.hr (A.ri hi) rfl) dL_readers_242 rfl qL_74 oX8_shortest (by first | assumption | exact mset_same | exact mget_ne (by omega) (by assumption) | exact mget_ne (by omega) mset_same) rfl rfl rfl rfl (Nat.le_of_ble_eq_true rfl) (by decide) (by decide) (fun v242 μ242 h242 => ?_)
                      obtain ⟨rfl, rfl⟩ := h242
                      refine Rn.aload_n (pc1 := 246)  dL_readers_245 rfl rfl rfl ?_
                      refine Rn.iconst (pc1 := 247) (v := nI 0) dL_readers_246 rfl (by decide) ?_
                      refine Rn.cV_i (pc1 := 250) (k_cnt C (w := 0) (y := nI (hF f)) (by omega) (by rw [A.2.1.1]; exact A.c0)) dL_readers_247 rfl qL_59 oX8_count (by first | assumption | exact mset_same | exact mget_ne (by omega) (by assumption) | exact mget_ne (by omega) mset_same) rfl rfl rfl rfl (Nat.le_of_ble_eq_true rfl) (by decide) (by decide) (fun v247 μ247 h247 => ?_)
                      obtain ⟨rfl, rfl⟩ := h247
                      refine Rn.icmp_gt (pc1 := 253) 257 dL_readers_250 rfl (by decide) (fun c250 => ?_) (fun c250 => ?_)
                      · exact absurd c250 (i32_nlt.mpr (shN_le 5))
                      · refine Rn.iconst (pc1 := 254) (v := nI 1) dL_readers_253 rfl (by decide) ?_
                        refine Rn.goto 258 dL_readers_254 (by decide) ?_
                        refine Rn.istore_n (pc1 := 259)  dL_readers_258 rfl rfl (by decide) rfl rfl ?_
                        refine Rn.iinc (pc1 := 262)  dL_readers_259 rfl rfl (nI_1 i) (by decide) rfl rfl ?_
                        refine Rn.goto 4 dL_readers_262 (by decide) ?_
                        exact K _ _ _
      · have hx := c169.symm
        refine Rn.iconst (pc1 := 173) (v := nI 1) dL_readers_172 rfl (by decide) ?_
        refine Rn.goto 177 dL_readers_173 (by decide) ?_
        refine Rn.iload (pc1 := 179)  dL_readers_177 rfl rfl ?_
        refine Rn.icmp_ne (pc1 := 182) 205 dL_readers_179 rfl (by decide) (fun c179 => ?_) (fun c179 => ?_)
        · exact absurd hx c179
        · refine Rn.aload_n (pc1 := 183)  dL_readers_182 rfl rfl rfl ?_
          refine Rn.bipush (pc1 := 185) (v := nI 7) dL_readers_183 rfl (by decide) ?_
          refine Rn.cV_i (pc1 := 188) (k_cnt C (w := 7) (y := lateN f (f 4) rc) (by omega) (by show lateN f (f 4) (rF f) = _; rw [A.2.1.2.1])) dL_readers_185 rfl qL_59 oX8_count (by first | assumption | exact mset_same | exact mget_ne (by omega) (by assumption) | exact mget_ne (by omega) mset_same) rfl rfl rfl rfl (Nat.le_of_ble_eq_true rfl) (by decide) (by decide) (fun v185 μ185 h185 => ?_)
          obtain ⟨rfl, rfl⟩ := h185
          refine Rn.iload_n (pc1 := 189)  dL_readers_188 rfl rfl rfl ?_
          refine Rn.ishr (pc1 := 190)  dL_readers_189 rfl rfl ?_
          refine Rn.iconst (pc1 := 191) (v := nI 1) dL_readers_190 rfl (by decide) ?_
          refine Rn.iand (pc1 := 192)  dL_readers_191 rfl rfl ?_
          refine Rn.aload_n (pc1 := 193)  dL_readers_192 rfl rfl rfl ?_
          refine Rn.iload_n (pc1 := 194)  dL_readers_193 rfl rfl rfl ?_
          refine Rn.iconst (pc1 := 195) (v := nI 3) dL_readers_194 rfl (by decide) ?_
          refine Rn.cV_i (pc1 := 198) (k_ofr hl.2.1 C A.hr (A.ri hi) (w := 3) (y := bI (lateB (f (261 + 27 * i)) (f 4))) (by omega) rfl) dL_readers_195 rfl qL_68 oX8_ofReader (by first | assumption | exact mset_same | exact mget_ne (by omega) (by assumption) | exact mget_ne (by omega) mset_same) rfl rfl rfl rfl (Nat.le_of_ble_eq_true rfl) (by decide) (by decide) (fun v195 μ195 h195 => ?_)
          obtain ⟨rfl, rfl⟩ := h195
          refine Rn.icmp_ne (pc1 := 201) 205 dL_readers_198 rfl (by decide) (fun c198 => ?_) (fun c198 => ?_)
          · exact absurd (late_bit hl.1.2.1 hi) c198
          · refine Rn.iconst (pc1 := 202) (v := nI 1) dL_readers_201 rfl (by decide) ?_
            refine Rn.goto 206 dL_readers_202 (by decide) ?_
            refine Rn.istore_n (pc1 := 207)  dL_readers_206 rfl rfl (by decide) rfl rfl ?_
            refine Rn.iload_n (pc1 := 208)  dL_readers_207 rfl rfl rfl ?_
            refine Rn.if_eq (pc1 := 211) 257 dL_readers_208 rfl (by decide) (fun c208 => ?_) (fun c208 => ?_)
            · exact absurd c208 (by decide)
            · refine Rn.aload_n (pc1 := 212)  dL_readers_211 rfl rfl rfl ?_
              refine Rn.iload_n (pc1 := 213)  dL_readers_212 rfl rfl rfl ?_
              refine Rn.iconst (pc1 := 214) (v := nI 0) dL_readers_213 rfl (by decide) ?_
              refine Rn.cV_i (pc1 := 217) (k_ofr hl.2.1 C A.hr (A.ri hi) (w := 0) (y := nI p) (by omega) p1) dL_readers_214 rfl qL_68 oX8_ofReader (by first | assumption | exact mset_same | exact mget_ne (by omega) (by assumption) | exact mget_ne (by omega) mset_same) rfl rfl rfl rfl (Nat.le_of_ble_eq_true rfl) (by decide) (by decide) (fun v214 μ214 h214 => ?_)
              obtain ⟨rfl, rfl⟩ := h214
              refine Rn.aload_n (pc1 := 218)  dL_readers_217 rfl rfl rfl ?_
              refine Rn.iconst (pc1 := 219) (v := nI 1) dL_readers_218 rfl (by decide) ?_
              refine Rn.cV_i (pc1 := 222) (k_cnt C (w := 1) (by omega) A.c1) dL_readers_219 rfl qL_59 oX8_count (by first | assumption | exact mset_same | exact mget_ne (by omega) (by assumption) | exact mget_ne (by omega) mset_same) rfl rfl rfl rfl (Nat.le_of_ble_eq_true rfl) (by decide) (by decide) (fun v219 μ219 h219 => ?_)
              obtain ⟨rfl, rfl⟩ := h219
              refine Rn.icmp_gt (pc1 := 225) 257 dL_readers_222 rfl (by decide) (fun c222 => ?_) (fun c222 => ?_)
              · exact absurd c222 (nI_nlt hp (by omega))
              · refine Rn.iload (pc1 := 227)  dL_readers_225 rfl rfl ?_
                refine Rn.if_ne (pc1 := 230) 239 dL_readers_227 rfl (by decide) (fun c227 => ?_) (fun c227 => ?_)
                · refine Rn.aload_n (pc1 := 240)  dL_readers_239 rfl rfl rfl ?_
                  refine Rn.iload_n (pc1 := 241)  dL_readers_240 rfl rfl rfl ?_
                  refine Rn.iconst (pc1 := 242) (v := nI 1) dL_readers_241 rfl (by decide) ?_
                  refine Rn.cV_i (pc1 := 245) (k_short hl.2.1 C A.hr (A.ri hi) rfl) dL_readers_242 rfl qL_74 oX8_shortest (by first | assumption | exact mset_same | exact mget_ne (by omega) (by assumption) | exact mget_ne (by omega) mset_same) rfl rfl rfl rfl (Nat.le_of_ble_eq_true rfl) (by decide) (by decide) (fun v242 μ242 h242 => ?_)
                  obtain ⟨rfl, rfl⟩ := h242
                  refine Rn.aload_n (pc1 := 246)  dL_readers_245 rfl rfl rfl ?_
                  refine Rn.iconst (pc1 := 247) (v := nI 0) dL_readers_246 rfl (by decide) ?_
                  refine Rn.cV_i (pc1 := 250) (k_cnt C (w := 0) (y := nI (hF f)) (by omega) (by rw [A.2.1.1]; exact A.c0)) dL_readers_247 rfl qL_59 oX8_count (by first | assumption | exact mset_same | exact mget_ne (by omega) (by assumption) | exact mget_ne (by omega) mset_same) rfl rfl rfl rfl (Nat.le_of_ble_eq_true rfl) (by decide) (by decide) (fun v247 μ247 h247 => ?_)
                  obtain ⟨rfl, rfl⟩ := h247
                  refine Rn.icmp_gt (pc1 := 253) 257 dL_readers_250 rfl (by decide) (fun c250 => ?_) (fun c250 => ?_)
                  · exact absurd c250 (i32_nlt.mpr (shN_le 5))
                  · refine Rn.iconst (pc1 := 254) (v := nI 1) dL_readers_253 rfl (by decide) ?_
                    refine Rn.goto 258 dL_readers_254 (by decide) ?_
                    refine Rn.istore_n (pc1 := 259)  dL_readers_258 rfl rfl (by decide) rfl rfl ?_
                    refine Rn.iinc (pc1 := 262)  dL_readers_259 rfl rfl (nI_1 i) (by decide) rfl rfl ?_
                    refine Rn.goto 4 dL_readers_262 (by decide) ?_
                    exact K _ _ _
                · refine Rn.iload_n (pc1 := 231)  dL_readers_230 rfl rfl rfl ?_
                  refine Rn.if_gt (pc1 := 234) 239 dL_readers_231 rfl (by decide) (fun c231 => ?_) (fun c231 => ?_)
                  · refine Rn.aload_n (pc1 := 240)  dL_readers_239 rfl rfl rfl ?_
                    refine Rn.iload_n (pc1 := 241)  dL_readers_240 rfl rfl rfl ?_
                    refine Rn.iconst (pc1 := 242) (v := nI 1) dL_readers_241 rfl (by decide) ?_
                    refine Rn.cV_i (pc1 := 245) (k_short hl.2.1 C A.hr (A.ri hi) rfl) dL_readers_242 rfl qL_74 oX8_shortest (by first | assumption | exact mset_same | exact mget_ne (by omega) (by assumption) | exact mget_ne (by omega) mset_same) rfl rfl rfl rfl (Nat.le_of_ble_eq_true rfl) (by decide) (by decide) (fun v242 μ242 h242 => ?_)
                    obtain ⟨rfl, rfl⟩ := h242
                    refine Rn.aload_n (pc1 := 246)  dL_readers_245 rfl rfl rfl ?_
                    refine Rn.iconst (pc1 := 247) (v := nI 0) dL_readers_246 rfl (by decide) ?_
                    refine Rn.cV_i (pc1 := 250) (k_cnt C (w := 0) (y := nI (hF f)) (by omega) (by rw [A.2.1.1]; exact A.c0)) dL_readers_247 rfl qL_59 oX8_count (by first | assumption | exact mset_same | exact mget_ne (by omega) (by assumption) | exact mget_ne (by omega) mset_same) rfl rfl rfl rfl (Nat.le_of_ble_eq_true rfl) (by decide) (by decide) (fun v247 μ247 h247 => ?_)
                    obtain ⟨rfl, rfl⟩ := h247
                    refine Rn.icmp_gt (pc1 := 253) 257 dL_readers_250 rfl (by decide) (fun c250 => ?_) (fun c250 => ?_)
                    · exact absurd c250 (i32_nlt.mpr (shN_le 5))
                    · refine Rn.iconst (pc1 := 254) (v := nI 1) dL_readers_253 rfl (by decide) ?_
                      refine Rn.goto 258 dL_readers_254 (by decide) ?_
                      refine Rn.istore_n (pc1 := 259)  dL_readers_258 rfl rfl (by decide) rfl rfl ?_
                      refine Rn.iinc (pc1 := 262)  dL_readers_259 rfl rfl (nI_1 i) (by decide) rfl rfl ?_
                      refine Rn.goto 4 dL_readers_262 (by decide) ?_
                      exact K _ _ _
                  · refine Rn.iload (pc1 := 236)  dL_readers_234 rfl rfl ?_
                    refine Rn.if_ne (pc1 := 239) 257 dL_readers_236 rfl (by decide) (fun c236 => ?_) (fun c236 => ?_)
                    · exact absurd (A.dif hi (bI_0 c227) c231) c236
                    · refine Rn.aload_n (pc1 := 240)  dL_readers_239 rfl rfl rfl ?_
                      refine Rn.iload_n (pc1 := 241)  dL_readers_240 rfl rfl rfl ?_
                      refine Rn.iconst (pc1 := 242) (v := nI 1) dL_readers_241 rfl (by decide) ?_
                      refine Rn.cV_i (pc1 := 245) (k_short hl.2.1 C A.hr (A.ri hi) rfl) dL_readers_242 rfl qL_74 oX8_shortest (by first | assumption | exact mset_same | exact mget_ne (by omega) (by assumption) | exact mget_ne (by omega) mset_same) rfl rfl rfl rfl (Nat.le_of_ble_eq_true rfl) (by decide) (by decide) (fun v242 μ242 h242 => ?_)
                      obtain ⟨rfl, rfl⟩ := h242
                      refine Rn.aload_n (pc1 := 246)  dL_readers_245 rfl rfl rfl ?_
                      refine Rn.iconst (pc1 := 247) (v := nI 0) dL_readers_246 rfl (by decide) ?_
                      refine Rn.cV_i (pc1 := 250) (k_cnt C (w := 0) (y := nI (hF f)) (by omega) (by rw [A.2.1.1]; exact A.c0)) dL_readers_247 rfl qL_59 oX8_count (by first | assumption | exact mset_same | exact mget_ne (by omega) (by assumption) | exact mget_ne (by omega) mset_same) rfl rfl rfl rfl (Nat.le_of_ble_eq_true rfl) (by decide) (by decide) (fun v247 μ247 h247 => ?_)
                      obtain ⟨rfl, rfl⟩ := h247
                      refine Rn.icmp_gt (pc1 := 253) 257 dL_readers_250 rfl (by decide) (fun c250 => ?_) (fun c250 => ?_)
                      · exact absurd c250 (i32_nlt.mpr (shN_le 5))
                      · refine Rn.iconst (pc1 := 254) (v := nI 1) dL_readers_253 rfl (by decide) ?_
                        refine Rn.goto 258 dL_readers_254 (by decide) ?_
                        refine Rn.istore_n (pc1 := 259)  dL_readers_258 rfl rfl (by decide) rfl rfl ?_
                        refine Rn.iinc (pc1 := 262)  dL_readers_259 rfl rfl (nI_1 i) (by decide) rfl rfl ?_
                        refine Rn.goto 4 dL_readers_262 (by decide) ?_
                        exact K _ _ _
theorem lR_273 (C : CW μ x f held P Pp len u S B) (A : FA f h rc sc B N n t g fl m) : ∀ (r s : Nat), s + r = sc → ∀ (nu : Int32) (o4 o5 : Option Value), (s < sc → f (423 + 13 * s) ≤ nu) → Rn G 7 kL_readers 273 [some (.ref x), some (.int (nI 1)), some (.int nu), some (.int (nI s)), o4, o5] [] μ sz 0 0 (QT μ) := by
  have hO := C.1
  have hl := A.le
  intro r
  induction r with
  | zero =>
    intro s hs nu o4 o5 hnu
    obtain rfl : s = sc := by omega
    refine Rn.iload_n (pc1 := 274)  dL_readers_273 rfl rfl rfl ?_
    refine Rn.aload_n (pc1 := 275)  dL_readers_274 rfl rfl rfl ?_
    refine Rn.bipush (pc1 := 277) (v := nI 8) dL_readers_275 rfl (by decide) ?_
    refine Rn.cV_i (pc1 := 280) (k_cnt C (w := 8) (by omega) A.c8) dL_readers_277 rfl qL_59 oX8_count (by first | assumption | exact mset_same | exact mget_ne (by omega) (by assumption) | exact mget_ne (by omega) mset_same) rfl rfl rfl rfl (Nat.le_of_ble_eq_true rfl) (by decide) (by decide) (fun v277 μ277 h277 => ?_)
    obtain ⟨rfl, rfl⟩ := h277
    refine Rn.icmp_ge (pc1 := 283) 327 dL_readers_280 rfl (by decide) (fun c280 => ?_) (fun c280 => ?_)
    · refine Rn.iload_n (pc1 := 328)  dL_readers_327 rfl rfl rfl ?_
      refine Rn.if_eq (pc1 := 331) 345 dL_readers_328 rfl (by decide) (fun c328 => ?_) (fun c328 => ?_)
      · exact absurd c328 (by decide)
      · refine Rn.aload_n (pc1 := 332)  dL_readers_331 rfl rfl rfl ?_
        refine Rn.bipush (pc1 := 334) (v := nI 8) dL_readers_332 rfl (by decide) ?_
        refine Rn.cV_i (pc1 := 337) (k_cnt C (w := 8) (by omega) A.c8) dL_readers_334 rfl qL_59 oX8_count (by first | assumption | exact mset_same | exact mget_ne (by omega) (by assumption) | exact mget_ne (by omega) mset_same) rfl rfl rfl rfl (Nat.le_of_ble_eq_true rfl) (by decide) (by decide) (fun v334 μ334 h334 => ?_)
        obtain ⟨rfl, rfl⟩ := h334
        refine Rn.iconst (pc1 := 338) (v := nI 4) dL_readers_337 rfl (by decide) ?_
        refine Rn.icmp_gt (pc1 := 341) 345 dL_readers_338 rfl (by decide) (fun c338 => ?_) (fun c338 => ?_)
        · exact absurd c338 (nI_nlt hl.1.2.2 (by omega))
        · refine Rn.iconst (pc1 := 342) (v := nI 1) dL_readers_341 rfl (by decide) ?_
          refine Rn.goto 346 dL_readers_342 (by decide) ?_
          exact Rn.ireturn dL_readers_346 rfl rfl ⟨_, rfl, rfl, rfl⟩
    · exact absurd (nI_le (Nat.le_refl _) (by omega)) c280
  | succ r ih =>
    intro s hs nu o4 o5 hnu
    have hs2 : s < sc := by omega
    refine Rn.iload_n (pc1 := 274)  dL_readers_273 rfl rfl rfl ?_
    refine Rn.aload_n (pc1 := 275)  dL_readers_274 rfl rfl rfl ?_
    refine Rn.bipush (pc1 := 277) (v := nI 8) dL_readers_275 rfl (by decide) ?_
    refine Rn.cV_i (pc1 := 280) (k_cnt C (w := 8) (by omega) A.c8) dL_readers_277 rfl qL_59 oX8_count (by first | assumption | exact mset_same | exact mget_ne (by omega) (by assumption) | exact mget_ne (by omega) mset_same) rfl rfl rfl rfl (Nat.le_of_ble_eq_true rfl) (by decide) (by decide) (fun v277 μ277 h277 => ?_)
    obtain ⟨rfl, rfl⟩ := h277
    refine Rn.icmp_ge (pc1 := 283) 327 dL_readers_280 rfl (by decide) (fun c280 => ?_) (fun c280 => ?_)
    · exact absurd c280 (nI_ge hs2 (by omega))
    · refine Rn.iload_n (pc1 := 284)  dL_readers_283 rfl rfl rfl ?_
      refine Rn.if_eq (pc1 := 287) 327 dL_readers_284 rfl (by decide) (fun c284 => ?_) (fun c284 => ?_)
      · exact absurd c284 (by decide)
      · refine Rn.aload_n (pc1 := 288)  dL_readers_287 rfl rfl rfl ?_
        refine Rn.iload_n (pc1 := 289)  dL_readers_288 rfl rfl rfl ?_
        refine Rn.iconst (pc1 := 290) (v := nI 0) dL_readers_289 rfl (by decide) ?_
        refine Rn.cV_i (pc1 := 293) (k_ofs hl.2.1 C A.hs (A.si hs2) (w := 0) (by omega) rfl) dL_readers_290 rfl qL_77 oX8_ofSnapshot (by first | assumption | exact mset_same | exact mget_ne (by omega) (by assumption) | exact mget_ne (by omega) mset_same) rfl rfl rfl rfl (Nat.le_of_ble_eq_true rfl) (by decide) (by decide) (fun v290 μ290 h290 => ?_)
        obtain ⟨rfl, rfl⟩ := h290
        refine Rn.iload_n (pc1 := 294)  dL_readers_293 rfl rfl rfl ?_
        refine Rn.icmp_gt (pc1 := 297) 312 dL_readers_294 rfl (by decide) (fun c294 => ?_) (fun c294 => ?_)
        · exact absurd c294 (i32_nlt.mpr (hnu hs2))
        · refine Rn.aload_n (pc1 := 298)  dL_readers_297 rfl rfl rfl ?_
          refine Rn.iload_n (pc1 := 299)  dL_readers_298 rfl rfl rfl ?_
          refine Rn.iconst (pc1 := 300) (v := nI 1) dL_readers_299 rfl (by decide) ?_
          refine Rn.cV_i (pc1 := 303) (k_ofs hl.2.1 C A.hs (A.si hs2) (w := 1) (y := nI (cntN (fun k => f (423 + 13 * s + 1 + k)) 12)) (by omega) rfl) dL_readers_300 rfl qL_77 oX8_ofSnapshot (by first | assumption | exact mset_same | exact mget_ne (by omega) (by assumption) | exact mget_ne (by omega) mset_same) rfl rfl rfl rfl (Nat.le_of_ble_eq_true rfl) (by decide) (by decide) (fun v300 μ300 h300 => ?_)
          obtain ⟨rfl, rfl⟩ := h300
          refine Rn.bipush (pc1 := 305) (v := nI 12) dL_readers_303 rfl (by decide) ?_
          refine Rn.icmp_gt (pc1 := 308) 312 dL_readers_305 rfl (by decide) (fun c305 => ?_) (fun c305 => ?_)
          · exact absurd c305 (nI_nlt (cntN_le _ 12) (by omega))
          · refine Rn.iconst (pc1 := 309) (v := nI 1) dL_readers_308 rfl (by decide) ?_
            refine Rn.goto 313 dL_readers_309 (by decide) ?_
            refine Rn.istore_n (pc1 := 314)  dL_readers_313 rfl rfl (by decide) rfl rfl ?_
            refine Rn.aload_n (pc1 := 315)  dL_readers_314 rfl rfl rfl ?_
            refine Rn.iload_n (pc1 := 316)  dL_readers_315 rfl rfl rfl ?_
            refine Rn.iconst (pc1 := 317) (v := nI 0) dL_readers_316 rfl (by decide) ?_
            refine Rn.cV_i (pc1 := 320) (k_ofs hl.2.1 C A.hs (A.si hs2) (w := 0) (by omega) rfl) dL_readers_317 rfl qL_77 oX8_ofSnapshot (by first | assumption | exact mset_same | exact mget_ne (by omega) (by assumption) | exact mget_ne (by omega) mset_same) rfl rfl rfl rfl (Nat.le_of_ble_eq_true rfl) (by decide) (by decide) (fun v317 μ317 h317 => ?_)
            obtain ⟨rfl, rfl⟩ := h317
            refine Rn.istore_n (pc1 := 321)  dL_readers_320 rfl rfl (by decide) rfl rfl ?_
            refine Rn.iinc (pc1 := 324)  dL_readers_321 rfl rfl (nI_1 s) (by decide) rfl rfl ?_
            refine Rn.goto 273 dL_readers_324 (by decide) ?_
            exact ih (s + 1) (by omega) _ _ _ (fun q => A.2.2.2.2.2.2 s q)
theorem lR_4 (C : CW μ x f held P Pp len u S B) (A : FA f h rc sc B N n t g fl m) : ∀ (r i : Nat), i + r = rc → ∀ (o3 o4 o5 : Option Value), Rn G 7 kL_readers 4 [some (.ref x), some (.int (nI 1)), some (.int (nI i)), o3, o4, o5] [] μ sz 0 0 (QT μ) := by
  have hO := C.1
  have hl := A.le
  intro r
  induction r with
  | zero =>
    intro i hi o3 o4 o5
    obtain rfl : i = rc := by omega
    refine Rn.iload_n (pc1 := 5)  dL_readers_4 rfl rfl rfl ?_
    refine Rn.aload_n (pc1 := 6)  dL_readers_5 rfl rfl rfl ?_
    refine Rn.bipush (pc1 := 8) (v := nI 6) dL_readers_6 rfl (by decide) ?_
    refine Rn.cV_i (pc1 := 11) (k_cnt C (w := 6) (by omega) A.c6) dL_readers_8 rfl qL_59 oX8_count (by first | assumption | exact mset_same | exact mget_ne (by omega) (by assumption) | exact mget_ne (by omega) mset_same) rfl rfl rfl rfl (Nat.le_of_ble_eq_true rfl) (by decide) (by decide) (fun v8 μ8 h8 => ?_)
    obtain ⟨rfl, rfl⟩ := h8
    refine Rn.icmp_ge (pc1 := 14) 265 dL_readers_11 rfl (by decide) (fun c11 => ?_) (fun c11 => ?_)
    · refine Rn.aload_n (pc1 := 266)  dL_readers_265 rfl rfl rfl ?_
      refine Rn.iconst (pc1 := 267) (v := nI 1) dL_readers_266 rfl (by decide) ?_
      refine Rn.cV_i (pc1 := 270) (k_cnt C (w := 1) (by omega) A.c1) dL_readers_267 rfl qL_59 oX8_count (by first | assumption | exact mset_same | exact mget_ne (by omega) (by assumption) | exact mget_ne (by omega) mset_same) rfl rfl rfl rfl (Nat.le_of_ble_eq_true rfl) (by decide) (by decide) (fun v267 μ267 h267 => ?_)
      obtain ⟨rfl, rfl⟩ := h267
      refine Rn.istore_n (pc1 := 271)  dL_readers_270 rfl rfl (by decide) rfl rfl ?_
      refine Rn.iconst (pc1 := 272) (v := nI 0) dL_readers_271 rfl (by decide) ?_
      refine Rn.istore_n (pc1 := 273)  dL_readers_272 rfl rfl (by decide) rfl rfl ?_
      exact lR_273 C A sc 0 (by omega) _ _ _ (fun q => by obtain ⟨p, p1, p2⟩ := A.2.2.2.2.2.1 0 q; rw [p1]; exact nI_le p2.1 (by omega))
    · exact absurd (nI_le (Nat.le_refl _) (by omega)) c11
  | succ r ih =>
    intro i hi o3 o4 o5
    have hi2 : i < rc := by omega
    have K111 := lR_111 (e5 := nI 12) C A hi2 (lR_141 C A hi2 (ih (i + 1) (by omega)))
    have K66 : Rn G 7 kL_readers 66 [some (.ref x), some (.int (nI 1)), some (.int (nI i)), some (.int (nI (cntA f (f (261 + 27 * i)) h))), some (.int (nI 0)), some (.int (nI h))] [] μ sz 0 0 (QT μ) := by
      refine Rn.iconst (pc1 := 67) (v := nI 0) dL_readers_66 rfl (by decide) ?_
      refine Rn.istore (pc1 := 69)  dL_readers_67 rfl (by decide) rfl rfl ?_
      exact lR_69 C A hi2 K111 12 0 (by omega)
    refine Rn.iload_n (pc1 := 5)  dL_readers_4 rfl rfl rfl ?_
    refine Rn.aload_n (pc1 := 6)  dL_readers_5 rfl rfl rfl ?_
    refine Rn.bipush (pc1 := 8) (v := nI 6) dL_readers_6 rfl (by decide) ?_
    refine Rn.cV_i (pc1 := 11) (k_cnt C (w := 6) (by omega) A.c6) dL_readers_8 rfl qL_59 oX8_count (by first | assumption | exact mset_same | exact mget_ne (by omega) (by assumption) | exact mget_ne (by omega) mset_same) rfl rfl rfl rfl (Nat.le_of_ble_eq_true rfl) (by decide) (by decide) (fun v8 μ8 h8 => ?_)
    obtain ⟨rfl, rfl⟩ := h8
    refine Rn.icmp_ge (pc1 := 14) 265 dL_readers_11 rfl (by decide) (fun c11 => ?_) (fun c11 => ?_)
    · exact absurd c11 (nI_ge hi2 (by omega))
    · refine Rn.iload_n (pc1 := 15)  dL_readers_14 rfl rfl rfl ?_
      refine Rn.if_eq (pc1 := 18) 265 dL_readers_15 rfl (by decide) (fun c15 => ?_) (fun c15 => ?_)
      · exact absurd c15 (by decide)
      · refine Rn.iconst (pc1 := 19) (v := nI 0) dL_readers_18 rfl (by decide) ?_
        refine Rn.istore_n (pc1 := 20)  dL_readers_19 rfl rfl (by decide) rfl rfl ?_
        refine Rn.iconst (pc1 := 21) (v := nI 0) dL_readers_20 rfl (by decide) ?_
        refine Rn.istore (pc1 := 23)  dL_readers_21 rfl (by decide) rfl rfl ?_
        refine Rn.iconst (pc1 := 24) (v := nI 0) dL_readers_23 rfl (by decide) ?_
        refine Rn.istore (pc1 := 26)  dL_readers_24 rfl (by decide) rfl rfl ?_
        exact lR_26 C A hi2 K66 h 0 (by omega)
theorem eL_readers (C : CW μ x f held P Pp len u S B) (A : FA f h rc sc B N n t g fl m) : EvA G 7 kL_readers [.ref x] μ sz 0 0 (QT μ) := by
  have hO := C.1
  refine EvA.of (L := [some (.ref x), none, none, none, none, none]) (by decide +kernel) (Nat.le_of_ble_eq_true rfl) rfl ?_
  refine Rn.iconst (pc1 := 1) (v := nI 1) dL_readers_0 rfl (by decide) ?_
  refine Rn.istore_n (pc1 := 2)  dL_readers_1 rfl rfl (by decide) rfl rfl ?_
  refine Rn.iconst (pc1 := 3) (v := nI 0) dL_readers_2 rfl (by decide) ?_
  refine Rn.istore_n (pc1 := 4)  dL_readers_3 rfl rfl (by decide) rfl rfl ?_
  exact lR_4 C A rc 0 (by omega) _ _ _
end LAWR
