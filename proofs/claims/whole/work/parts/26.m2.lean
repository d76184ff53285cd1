/-! ===== the reference: its changes do to its row what the class's State does ===== -/
theorem blk_upd_out {f g : Nat → Int32} {lo n j : Nat} {x : Int32} (h : j < lo ∨ lo + n ≤ j) : upd (blk f lo n g) j x = blk (upd f j x) lo n g := by
  funext q
  by_cases e : q = j
  · subst e; rw [upd_at rfl, blk_out h, upd_at rfl]
  · rw [upd_ne e]
    by_cases e2 : lo ≤ q ∧ q < lo + n
    · unfold blk; rw [if_pos e2, if_pos e2]
    · unfold blk; rw [if_neg e2, if_neg e2, upd_ne e]
theorem blk_congr {f g g' : Nat → Int32} {lo n : Nat} (h : ∀ k, k < n → g k = g' k) : blk f lo n g = blk f lo n g' := by
  funext q
  unfold blk
  by_cases e : lo ≤ q ∧ q < lo + n
  · rw [if_pos e, if_pos e, h _ (by omega)]
  · rw [if_neg e, if_neg e]
theorem blk_self {f : Nat → Int32} {lo n : Nat} : blk f lo n (fun q => f (lo + q)) = f := by
  funext q
  unfold blk
  by_cases e : lo ≤ q ∧ q < lo + n
  · rw [if_pos e]; show f (lo + (q - lo)) = f q; congr 1; omega
  · rw [if_neg e]
section M2
variable {G : GG} {μ : Mm} {sz m kept padded at_ ordered h rc sc B : Nat} {f f2 p sl pd od : Nat → Int32} {u : Nat → Bool}
theorem eX9_isReader {r : Int32} (F : MR μ m f f2 p kept sl u pd padded at_ od ordered) (I : IV f h rc sc B) : EvA G 1 kX9_isReader [.ref m, .int r] μ sz 0 0 (rI fun v μ' => v = bI (isRdB rc r) ∧ μ' = μ) := by
  have hO := F.1
  have hA := F.2.1
  have h7 := I.1.2.1
  refine EvA.of (L := [some (.ref m), some (.int r)]) (by decide +kernel) (Nat.le_of_ble_eq_true rfl) rfl ?_
  refine Rn.iload_n (pc1 := 1)  dX9_isReader_0 rfl rfl rfl ?_
  refine Rn.iconst (pc1 := 2) (v := nI 0) dX9_isReader_1 rfl (by decide) ?_
  refine Rn.aload_n (pc1 := 3)  dX9_isReader_2 rfl rfl rfl ?_
  refine Rn.getfield (pc1 := 6)  dX9_isReader_3 rfl fX9_7 (by first | assumption | exact mset_same | exact mget_ne (by omega) (by assumption)) rfl ?_
  refine Rn.bipush (pc1 := 8) (v := nI 7) dX9_isReader_6 rfl (by decide) ?_
  refine Rn.iaload (pc1 := 9) (v := nI rc)  dX9_isReader_8 rfl (by first | assumption | exact mset_same | exact mget_ne (by omega) (by assumption)) (vp_nI (j := 7) rfl (by omega) (by decide)) (by rw [nI_clamp (by omega)] <;> (first | rfl | assumption | (simp (disch := omega) only [upd_ne, upd_at, blk_out]; done) | (simp (disch := omega) only [upd_ne, upd_at, blk_out]; assumption))) ?_
  refine Rn.iconst (pc1 := 10) (v := nI 1) dX9_isReader_9 rfl (by decide) ?_
  refine Rn.isub (pc1 := 11)  dX9_isReader_10 rfl rfl ?_
  refine Rn.cS_i (pc1 := 14) (eX9_in) dX9_isReader_11 rfl qX9_32 oX9_in rfl rfl (Nat.le_of_ble_eq_true rfl) (by decide) (by decide) (fun v11 μ11 h11 => ?_)
  obtain ⟨rfl, rfl⟩ := h11
  exact Rn.ireturn dX9_isReader_14 rfl (bI_nar _) ⟨_, rfl, rfl, rfl⟩
theorem eX9_isShot {r : Int32} (F : MR μ m f f2 p kept sl u pd padded at_ od ordered) (I : IV f h rc sc B) : EvA G 1 kX9_isShot [.ref m, .int r] μ sz 0 0 (rI fun v μ' => v = bI (isRdB sc r) ∧ μ' = μ) := by
  have hO := F.1
  have hA := F.2.1
  have h8 := I.1.2.2
  refine EvA.of (L := [some (.ref m), some (.int r)]) (by decide +kernel) (Nat.le_of_ble_eq_true rfl) rfl ?_
  refine Rn.iload_n (pc1 := 1)  dX9_isShot_0 rfl rfl rfl ?_
  refine Rn.iconst (pc1 := 2) (v := nI 0) dX9_isShot_1 rfl (by decide) ?_
  refine Rn.aload_n (pc1 := 3)  dX9_isShot_2 rfl rfl rfl ?_
  refine Rn.getfield (pc1 := 6)  dX9_isShot_3 rfl fX9_7 (by first | assumption | exact mset_same | exact mget_ne (by omega) (by assumption)) rfl ?_
  refine Rn.bipush (pc1 := 8) (v := nI 8) dX9_isShot_6 rfl (by decide) ?_
  refine Rn.iaload (pc1 := 9) (v := nI sc)  dX9_isShot_8 rfl (by first | assumption | exact mset_same | exact mget_ne (by omega) (by assumption)) (vp_nI (j := 8) rfl (by omega) (by decide)) (by rw [nI_clamp (by omega)] <;> (first | rfl | assumption | (simp (disch := omega) only [upd_ne, upd_at, blk_out]; done) | (simp (disch := omega) only [upd_ne, upd_at, blk_out]; assumption))) ?_
  refine Rn.iconst (pc1 := 10) (v := nI 1) dX9_isShot_9 rfl (by decide) ?_
  refine Rn.isub (pc1 := 11)  dX9_isShot_10 rfl rfl ?_
  refine Rn.cS_i (pc1 := 14) (eX9_in) dX9_isShot_11 rfl qX9_32 oX9_in rfl rfl (Nat.le_of_ble_eq_true rfl) (by decide) (by decide) (fun v11 μ11 h11 => ?_)
  obtain ⟨rfl, rfl⟩ := h11
  exact Rn.ireturn dX9_isShot_14 rfl (bI_nar _) ⟨_, rfl, rfl, rfl⟩
theorem eX9_ahead {pl : Int32} (F : MR μ m f f2 p kept sl u pd padded at_ od ordered) (I : IV f h rc sc B) : EvA G 1 kX9_ahead [.ref m, .int pl] μ sz 0 0 (rI fun v μ' => v = nI (cntA f pl h) ∧ μ' = μ) := by
  have hO := F.1
  have hA := F.2.1
  have h6 := I.1.1
  have hh := I.2.1.1
  have loop : ∀ (n e : Nat), e + n = h → Rn G 1 kX9_ahead 4 [some (.ref m), some (.int pl), some (.int (nI (cntA f pl e))), some (.int (nI e))] [] μ sz 0 0 (rI fun v μ' => v = nI (cntA f pl h) ∧ μ' = μ) := by
    intro n
    induction n with
    | zero =>
      intro e he
      obtain rfl : e = h := by omega
      refine Rn.iload_n (pc1 := 5)  dX9_ahead_4 rfl rfl rfl ?_
      refine Rn.aload_n (pc1 := 6)  dX9_ahead_5 rfl rfl rfl ?_
      refine Rn.getfield (pc1 := 9)  dX9_ahead_6 rfl fX9_7 (by first | assumption | exact mset_same | exact mget_ne (by omega) (by assumption)) rfl ?_
      refine Rn.bipush (pc1 := 11) (v := nI 6) dX9_ahead_9 rfl (by decide) ?_
      refine Rn.iaload (pc1 := 12) (v := nI e)  dX9_ahead_11 rfl (by first | assumption | exact mset_same | exact mget_ne (by omega) (by assumption)) (vp_nI (j := 6) rfl (by omega) (by decide)) (by rw [nI_clamp (by omega)] <;> (first | rfl | assumption | (simp (disch := omega) only [upd_ne, upd_at, blk_out]; done) | (simp (disch := omega) only [upd_ne, upd_at, blk_out]; assumption))) ?_
      refine Rn.icmp_ge (pc1 := 15) 42 dX9_ahead_12 rfl (by decide) (fun c12 => ?_) (fun c12 => ?_)
      · refine Rn.iload_n (pc1 := 43)  dX9_ahead_42 rfl rfl rfl ?_
        exact Rn.ireturn dX9_ahead_43 rfl rfl ⟨_, rfl, rfl, rfl⟩
      · exact absurd (nI_le (Nat.le_refl _) (by omega)) c12
    | succ n ih =>
      intro e he
      refine Rn.iload_n (pc1 := 5)  dX9_ahead_4 rfl rfl rfl ?_
      refine Rn.aload_n (pc1 := 6)  dX9_ahead_5 rfl rfl rfl ?_
      refine Rn.getfield (pc1 := 9)  dX9_ahead_6 rfl fX9_7 (by first | assumption | exact mset_same | exact mget_ne (by omega) (by assumption)) rfl ?_
      refine Rn.bipush (pc1 := 11) (v := nI 6) dX9_ahead_9 rfl (by decide) ?_
      refine Rn.iaload (pc1 := 12) (v := nI h)  dX9_ahead_11 rfl (by first | assumption | exact mset_same | exact mget_ne (by omega) (by assumption)) (vp_nI (j := 6) rfl (by omega) (by decide)) (by rw [nI_clamp (by omega)] <;> (first | rfl | assumption | (simp (disch := omega) only [upd_ne, upd_at, blk_out]; done) | (simp (disch := omega) only [upd_ne, upd_at, blk_out]; assumption))) ?_
      refine Rn.icmp_ge (pc1 := 15) 42 dX9_ahead_12 rfl (by decide) (fun c12 => ?_) (fun c12 => ?_)
      · exact absurd c12 (nI_ge (by omega) (by omega))
      · refine Rn.iload_n (pc1 := 16)  dX9_ahead_15 rfl rfl rfl ?_
        refine Rn.aload_n (pc1 := 17)  dX9_ahead_16 rfl rfl rfl ?_
        refine Rn.getfield (pc1 := 20)  dX9_ahead_17 rfl fX9_7 (by first | assumption | exact mset_same | exact mget_ne (by omega) (by assumption)) rfl ?_
        refine Rn.iload_n (pc1 := 21)  dX9_ahead_20 rfl rfl rfl ?_
        refine Rn.iconst (pc1 := 22) (v := nI 0) dX9_ahead_21 rfl (by decide) ?_
        refine Rn.cS_i (pc1 := 25) (eX9_of hA (show 21 + 4 * e + 0 < 475 by omega)) dX9_ahead_22 rfl qX9_47 oX9_of rfl rfl (Nat.le_of_ble_eq_true rfl) (by decide) (by decide) (fun v22 μ22 h22 => ?_)
        obtain ⟨rfl, rfl⟩ := h22
        rw [Nat.add_zero]
        refine Rn.iload_n (pc1 := 26)  dX9_ahead_25 rfl rfl rfl ?_
        refine Rn.icmp_lt (pc1 := 29) 33 dX9_ahead_26 rfl (by decide) (fun c26 => ?_) (fun c26 => ?_)
        · have e2 : nI (cntA f pl e) + nI 0 = nI (cntA f pl (e + 1)) := by rw [nI_add]; show _ = nI (_ + _); rw [if_neg (fun q => i32_nlt.mpr q c26)]
          refine Rn.iconst (pc1 := 34) (v := nI 0) dX9_ahead_33 rfl (by decide) ?_
          refine Rn.iadd (pc1 := 35)  dX9_ahead_34 rfl e2 ?_
          refine Rn.istore_n (pc1 := 36)  dX9_ahead_35 rfl rfl (by decide) rfl rfl ?_
          refine Rn.iinc (pc1 := 39)  dX9_ahead_36 rfl rfl (nI_1 e) (by decide) rfl rfl ?_
          refine Rn.goto 4 dX9_ahead_39 (by decide) ?_
          exact ih (e + 1) (by omega)
        · have e2 : nI (cntA f pl e) + nI 1 = nI (cntA f pl (e + 1)) := by rw [nI_add]; show _ = nI (_ + _); rw [if_pos (i32_nlt.mp c26)]
          refine Rn.iconst (pc1 := 30) (v := nI 1) dX9_ahead_29 rfl (by decide) ?_
          refine Rn.goto 34 dX9_ahead_30 (by decide) ?_
          refine Rn.iadd (pc1 := 35)  dX9_ahead_34 rfl e2 ?_
          refine Rn.istore_n (pc1 := 36)  dX9_ahead_35 rfl rfl (by decide) rfl rfl ?_
          refine Rn.iinc (pc1 := 39)  dX9_ahead_36 rfl rfl (nI_1 e) (by decide) rfl rfl ?_
          refine Rn.goto 4 dX9_ahead_39 (by decide) ?_
          exact ih (e + 1) (by omega)
  refine EvA.of (L := [some (.ref m), some (.int pl), none, none]) (by decide +kernel) (Nat.le_of_ble_eq_true rfl) rfl ?_
  refine Rn.iconst (pc1 := 1) (v := nI 0) dX9_ahead_0 rfl (by decide) ?_
  refine Rn.istore_n (pc1 := 2)  dX9_ahead_1 rfl rfl (by decide) rfl rfl ?_
  refine Rn.iconst (pc1 := 3) (v := nI 0) dX9_ahead_2 rfl (by decide) ?_
  refine Rn.istore_n (pc1 := 4)  dX9_ahead_3 rfl rfl (by decide) rfl rfl ?_
  exact loop h 0 (by omega)
theorem eX9_maySet {k v : Int32} (F : MR μ m f f2 p kept sl u pd padded at_ od ordered) (I : IV f h rc sc B) : EvA G 2 kX9_maySet [.ref m, .int k, .int v] μ sz 0 0 (rI fun r μ' => r = maySetF h k v ∧ μ' = μ) := by
  have hO := F.1
  have hA := F.2.1
  have h6 := I.1.1
  have hh := I.2.1.1
  refine EvA.of (L := [some (.ref m), some (.int k), some (.int v)]) (by decide +kernel) (Nat.le_of_ble_eq_true rfl) rfl ?_
  refine Rn.iload_n (pc1 := 1)  dX9_maySet_0 rfl rfl rfl ?_
  refine Rn.cS_i (pc1 := 4) (eX9_isKey) dX9_maySet_1 rfl qX9_72 oX9_isKey rfl rfl (Nat.le_of_ble_eq_true rfl) (by decide) (by decide) (fun v1 μ1 h1 => ?_)
  obtain ⟨rfl, rfl⟩ := h1
  refine Rn.if_ne (pc1 := 7) 9 dX9_maySet_4 rfl (by decide) (fun c4 => ?_) (fun c4 => ?_)
  · refine Rn.iload_n (pc1 := 10)  dX9_maySet_9 rfl rfl rfl ?_
    refine Rn.iconst (pc1 := 11) (v := nI 0) dX9_maySet_10 rfl (by decide) ?_
    refine Rn.sipush (pc1 := 14) (v := nI 999) dX9_maySet_11 rfl (by decide) ?_
    refine Rn.cS_i (pc1 := 17) (eX9_in) dX9_maySet_14 rfl qX9_32 oX9_in rfl rfl (Nat.le_of_ble_eq_true rfl) (by decide) (by decide) (fun v14 μ14 h14 => ?_)
    obtain ⟨rfl, rfl⟩ := h14
    refine Rn.if_ne (pc1 := 20) 25 dX9_maySet_17 rfl (by decide) (fun c17 => ?_) (fun c17 => ?_)
    · refine Rn.aload_n (pc1 := 26)  dX9_maySet_25 rfl rfl rfl ?_
      refine Rn.getfield (pc1 := 29)  dX9_maySet_26 rfl fX9_7 (by first | assumption | exact mset_same | exact mget_ne (by omega) (by assumption)) rfl ?_
      refine Rn.bipush (pc1 := 31) (v := nI 6) dX9_maySet_29 rfl (by decide) ?_
      refine Rn.iaload (pc1 := 32) (v := nI h)  dX9_maySet_31 rfl (by first | assumption | exact mset_same | exact mget_ne (by omega) (by assumption)) (vp_nI (j := 6) rfl (by omega) (by decide)) (by rw [nI_clamp (by omega)] <;> (first | rfl | assumption | (simp (disch := omega) only [upd_ne, upd_at, blk_out]; done) | (simp (disch := omega) only [upd_ne, upd_at, blk_out]; assumption))) ?_
      refine Rn.bipush (pc1 := 34) (v := nI 60) dX9_maySet_32 rfl (by decide) ?_
      refine Rn.icmp_ne (pc1 := 37) 42 dX9_maySet_34 rfl (by decide) (fun c34 => ?_) (fun c34 => ?_)
      · rw [show maySetF h k v = nI 0 by unfold maySetF; rw [bI_n c4, bI_n c17, if_pos rfl, if_pos rfl, if_neg (fun q => c34 (by rw [q]))]]
        refine Rn.iconst (pc1 := 43) (v := nI 0) dX9_maySet_42 rfl (by decide) ?_
        exact Rn.ireturn dX9_maySet_43 rfl rfl ⟨_, rfl, rfl, rfl⟩
      · rw [show maySetF h k v = -4 by unfold maySetF; rw [bI_n c4, bI_n c17, if_pos rfl, if_pos rfl, if_pos ((nI_eq (by omega) (by decide)).mp c34)]]
        refine Rn.bipush (pc1 := 39) (v := (-4)) dX9_maySet_37 rfl (by decide) ?_
        refine Rn.goto 43 dX9_maySet_39 (by decide) ?_
        exact Rn.ireturn dX9_maySet_43 rfl rfl ⟨_, rfl, rfl, rfl⟩
    · rw [show maySetF h k v = -2 by unfold maySetF; rw [bI_n c4, bI_0 c17]; rfl]
      refine Rn.bipush (pc1 := 22) (v := (-2)) dX9_maySet_20 rfl (by decide) ?_
      refine Rn.goto 43 dX9_maySet_22 (by decide) ?_
      exact Rn.ireturn dX9_maySet_43 rfl rfl ⟨_, rfl, rfl, rfl⟩
  · rw [show maySetF h k v = -1 by unfold maySetF; rw [bI_0 c4]; rfl]
    refine Rn.iconst (pc1 := 8) (v := (-1)) dX9_maySet_7 rfl (by decide) ?_
    exact Rn.ireturn dX9_maySet_8 rfl rfl ⟨_, rfl, rfl, rfl⟩
theorem eX9_mayRemove {k : Int32} (F : MR μ m f f2 p kept sl u pd padded at_ od ordered) (I : IV f h rc sc B) : EvA G 2 kX9_mayRemove [.ref m, .int k] μ sz 0 0 (rI fun r μ' => r = mayRemoveF f h k ∧ μ' = μ) := by
  have hO := F.1
  have hA := F.2.1
  have h6 := I.1.1
  have hh := I.2.1.1
  refine EvA.of (L := [some (.ref m), some (.int k)]) (by decide +kernel) (Nat.le_of_ble_eq_true rfl) rfl ?_
  refine Rn.iload_n (pc1 := 1)  dX9_mayRemove_0 rfl rfl rfl ?_
  refine Rn.cS_i (pc1 := 4) (eX9_isKey) dX9_mayRemove_1 rfl qX9_72 oX9_isKey rfl rfl (Nat.le_of_ble_eq_true rfl) (by decide) (by decide) (fun v1 μ1 h1 => ?_)
  obtain ⟨rfl, rfl⟩ := h1
  refine Rn.if_ne (pc1 := 7) 9 dX9_mayRemove_4 rfl (by decide) (fun c4 => ?_) (fun c4 => ?_)
  · have n0 := bI_n c4
    obtain ⟨j, hj, rfl⟩ := inB_nI (by decide) n0
    refine Rn.aload_n (pc1 := 10)  dX9_mayRemove_9 rfl rfl rfl ?_
    refine Rn.getfield (pc1 := 13)  dX9_mayRemove_10 rfl fX9_7 (by first | assumption | exact mset_same | exact mget_ne (by omega) (by assumption)) rfl ?_
    refine Rn.bipush (pc1 := 15) (v := nI 6) dX9_mayRemove_13 rfl (by decide) ?_
    refine Rn.iaload (pc1 := 16) (v := nI h)  dX9_mayRemove_15 rfl (by first | assumption | exact mset_same | exact mget_ne (by omega) (by assumption)) (vp_nI (j := 6) rfl (by omega) (by decide)) (by rw [nI_clamp (by omega)] <;> (first | rfl | assumption | (simp (disch := omega) only [upd_ne, upd_at, blk_out]; done) | (simp (disch := omega) only [upd_ne, upd_at, blk_out]; assumption))) ?_
    refine Rn.bipush (pc1 := 18) (v := nI 60) dX9_mayRemove_16 rfl (by decide) ?_
    refine Rn.icmp_ne (pc1 := 21) 26 dX9_mayRemove_18 rfl (by decide) (fun c18 => ?_) (fun c18 => ?_)
    · have n1 : ¬ h = 60 := fun q => c18 (by rw [q])
      refine Rn.aload_n (pc1 := 27)  dX9_mayRemove_26 rfl rfl rfl ?_
      refine Rn.getfield (pc1 := 30)  dX9_mayRemove_27 rfl fX9_7 (by first | assumption | exact mset_same | exact mget_ne (by omega) (by assumption)) rfl ?_
      refine Rn.bipush (pc1 := 32) (v := nI 9) dX9_mayRemove_30 rfl (by decide) ?_
      refine Rn.iload_n (pc1 := 33)  dX9_mayRemove_32 rfl rfl rfl ?_
      refine Rn.iadd (pc1 := 34)  dX9_mayRemove_33 rfl (nI_add 9 j) ?_
      refine Rn.iaload (pc1 := 35) (v := f (9 + j))  dX9_mayRemove_34 rfl (by first | assumption | exact mset_same | exact mget_ne (by omega) (by assumption)) (vp_nI (j := 9 + j) rfl (by omega) (by decide)) (by rw [nI_clamp (by omega)] <;> (first | rfl | assumption | (simp (disch := omega) only [upd_ne, upd_at, blk_out]; done) | (simp (disch := omega) only [upd_ne, upd_at, blk_out]; assumption))) ?_
      refine Rn.bipush (pc1 := 37) (v := (-6)) dX9_mayRemove_35 rfl (by decide) ?_
      refine Rn.icmp_ne (pc1 := 40) 45 dX9_mayRemove_37 rfl (by decide) (fun c37 => ?_) (fun c37 => ?_)
      · rw [show mayRemoveF f h (nI j) = nI 0 by unfold mayRemoveF; rw [n0, if_pos rfl, if_neg n1, nI_clamp (by omega), if_neg c37]]
        refine Rn.iconst (pc1 := 46) (v := nI 0) dX9_mayRemove_45 rfl (by decide) ?_
        exact Rn.ireturn dX9_mayRemove_46 rfl rfl ⟨_, rfl, rfl, rfl⟩
      · rw [show mayRemoveF f h (nI j) = -5 by unfold mayRemoveF; rw [n0, if_pos rfl, if_neg n1, nI_clamp (by omega), if_pos c37]]
        refine Rn.bipush (pc1 := 42) (v := (-5)) dX9_mayRemove_40 rfl (by decide) ?_
        refine Rn.goto 46 dX9_mayRemove_42 (by decide) ?_
        exact Rn.ireturn dX9_mayRemove_46 rfl rfl ⟨_, rfl, rfl, rfl⟩
    · rw [show mayRemoveF f h (nI j) = -4 by unfold mayRemoveF; rw [n0, if_pos rfl, if_pos ((nI_eq (by omega) (by decide)).mp c18)]]
      refine Rn.bipush (pc1 := 23) (v := (-4)) dX9_mayRemove_21 rfl (by decide) ?_
      refine Rn.goto 46 dX9_mayRemove_23 (by decide) ?_
      exact Rn.ireturn dX9_mayRemove_46 rfl rfl ⟨_, rfl, rfl, rfl⟩
  · rw [show mayRemoveF f h k = -1 by unfold mayRemoveF; rw [bI_0 c4]; rfl]
    refine Rn.iconst (pc1 := 8) (v := (-1)) dX9_mayRemove_7 rfl (by decide) ?_
    exact Rn.ireturn dX9_mayRemove_8 rfl rfl ⟨_, rfl, rfl, rfl⟩
theorem eX9_mayPass {k : Int32} (F : MR μ m f f2 p kept sl u pd padded at_ od ordered) : EvA G 2 kX9_mayPass [.ref m, .int k] μ sz 0 0 (rI fun r μ' => r = mayPassF f k ∧ μ' = μ) := by
  have hO := F.1
  have hA := F.2.1
  refine EvA.of (L := [some (.ref m), some (.int k)]) (by decide +kernel) (Nat.le_of_ble_eq_true rfl) rfl ?_
  refine Rn.iload_n (pc1 := 1)  dX9_mayPass_0 rfl rfl rfl ?_
  refine Rn.iconst (pc1 := 2) (v := nI 1) dX9_mayPass_1 rfl (by decide) ?_
  refine Rn.sipush (pc1 := 5) (v := nI 999) dX9_mayPass_2 rfl (by decide) ?_
  refine Rn.cS_i (pc1 := 8) (eX9_in) dX9_mayPass_5 rfl qX9_32 oX9_in rfl rfl (Nat.le_of_ble_eq_true rfl) (by decide) (by decide) (fun v5 μ5 h5 => ?_)
  obtain ⟨rfl, rfl⟩ := h5
  refine Rn.if_ne (pc1 := 11) 16 dX9_mayPass_8 rfl (by decide) (fun c8 => ?_) (fun c8 => ?_)
  · refine Rn.aload_n (pc1 := 17)  dX9_mayPass_16 rfl rfl rfl ?_
    refine Rn.getfield (pc1 := 20)  dX9_mayPass_17 rfl fX9_7 (by first | assumption | exact mset_same | exact mget_ne (by omega) (by assumption)) rfl ?_
    refine Rn.iconst (pc1 := 21) (v := nI 2) dX9_mayPass_20 rfl (by decide) ?_
    refine Rn.iaload (pc1 := 22) (v := f 2)  dX9_mayPass_21 rfl (by first | assumption | exact mset_same | exact mget_ne (by omega) (by assumption)) (vp_nI (j := 2) rfl (by omega) (by decide)) (by rw [nI_clamp (by omega)] <;> (first | rfl | assumption | (simp (disch := omega) only [upd_ne, upd_at, blk_out]; done) | (simp (disch := omega) only [upd_ne, upd_at, blk_out]; assumption))) ?_
    refine Rn.iload_n (pc1 := 23)  dX9_mayPass_22 rfl rfl rfl ?_
    refine Rn.iadd (pc1 := 24)  dX9_mayPass_23 rfl rfl ?_
    refine Rn.ldc (pc1 := 26) dX9_mayPass_24 rfl qX9_86 ?_
    refine Rn.icmp_le (pc1 := 29) 34 dX9_mayPass_26 rfl (by decide) (fun c26 => ?_) (fun c26 => ?_)
    · rw [show mayPassF f k = nI 0 by unfold mayPassF; rw [bI_n c8, if_pos rfl, if_pos c26]]
      refine Rn.iconst (pc1 := 35) (v := nI 0) dX9_mayPass_34 rfl (by decide) ?_
      exact Rn.ireturn dX9_mayPass_35 rfl rfl ⟨_, rfl, rfl, rfl⟩
    · rw [show mayPassF f k = -4 by unfold mayPassF; rw [bI_n c8, if_pos rfl, if_neg c26]]
      refine Rn.bipush (pc1 := 31) (v := (-4)) dX9_mayPass_29 rfl (by decide) ?_
      refine Rn.goto 35 dX9_mayPass_31 (by decide) ?_
      exact Rn.ireturn dX9_mayPass_35 rfl rfl ⟨_, rfl, rfl, rfl⟩
  · rw [show mayPassF f k = -2 by unfold mayPassF; rw [bI_0 c8]; rfl]
    refine Rn.bipush (pc1 := 13) (v := (-2)) dX9_mayPass_11 rfl (by decide) ?_
    refine Rn.goto 35 dX9_mayPass_13 (by decide) ?_
    exact Rn.ireturn dX9_mayPass_35 rfl rfl ⟨_, rfl, rfl, rfl⟩
theorem eX9_mayRead {r v : Int32} (F : MR μ m f f2 p kept sl u pd padded at_ od ordered) (I : IV f h rc sc B) : EvA G 2 kX9_mayRead [.ref m, .int r, .int v] μ sz 0 0 (rI fun w μ' => w = mayReadF f rc r v ∧ μ' = μ) := by
  have hO := F.1
  have hA := F.2.1
  have hrc := I.2.1.2.1
  refine EvA.of (L := [some (.ref m), some (.int r), some (.int v)]) (by decide +kernel) (Nat.le_of_ble_eq_true rfl) rfl ?_
  refine Rn.aload_n (pc1 := 1)  dX9_mayRead_0 rfl rfl rfl ?_
  refine Rn.iload_n (pc1 := 2)  dX9_mayRead_1 rfl rfl rfl ?_
  refine Rn.cV_i (pc1 := 5) (eX9_isReader F I) dX9_mayRead_2 rfl qX9_105 oX9_isReader (by first | assumption | exact mset_same | exact mget_ne (by omega) (by assumption)) rfl rfl rfl rfl (Nat.le_of_ble_eq_true rfl) (by decide) (by decide) (fun v2 μ2 h2 => ?_)
  obtain ⟨rfl, rfl⟩ := h2
  refine Rn.if_ne (pc1 := 8) 10 dX9_mayRead_5 rfl (by decide) (fun c5 => ?_) (fun c5 => ?_)
  · have n0 := bI_n c5
    obtain ⟨i, hi, rfl⟩ := isRdB_t (by omega) n0
    refine Rn.iload_n (pc1 := 11)  dX9_mayRead_10 rfl rfl rfl ?_
    refine Rn.iconst (pc1 := 12) (v := nI 1) dX9_mayRead_11 rfl (by decide) ?_
    refine Rn.bipush (pc1 := 14) (v := nI 99) dX9_mayRead_12 rfl (by decide) ?_
    refine Rn.cS_i (pc1 := 17) (eX9_in) dX9_mayRead_14 rfl qX9_32 oX9_in rfl rfl (Nat.le_of_ble_eq_true rfl) (by decide) (by decide) (fun v14 μ14 h14 => ?_)
    obtain ⟨rfl, rfl⟩ := h14
    refine Rn.if_ne (pc1 := 20) 25 dX9_mayRead_17 rfl (by decide) (fun c17 => ?_) (fun c17 => ?_)
    · refine Rn.aload_n (pc1 := 26)  dX9_mayRead_25 rfl rfl rfl ?_
      refine Rn.getfield (pc1 := 29)  dX9_mayRead_26 rfl fX9_7 (by first | assumption | exact mset_same | exact mget_ne (by omega) (by assumption)) rfl ?_
      refine Rn.iload_n (pc1 := 30)  dX9_mayRead_29 rfl rfl rfl ?_
      refine Rn.cS_i (pc1 := 33) (eX9_isLate hA (show i < 6 by omega)) dX9_mayRead_30 rfl qX9_69 oX9_isLate rfl rfl (Nat.le_of_ble_eq_true rfl) (by decide) (by decide) (fun v30 μ30 h30 => ?_)
      obtain ⟨rfl, rfl⟩ := h30
      refine Rn.if_eq (pc1 := 36) 41 dX9_mayRead_33 rfl (by decide) (fun c33 => ?_) (fun c33 => ?_)
      · rw [show mayReadF f rc (nI i) v = nI 0 by unfold mayReadF; rw [n0, bI_n c17, if_pos rfl, if_pos rfl, nI_clamp (by omega), bI_0 c33]; rfl]
        refine Rn.iconst (pc1 := 42) (v := nI 0) dX9_mayRead_41 rfl (by decide) ?_
        exact Rn.ireturn dX9_mayRead_42 rfl rfl ⟨_, rfl, rfl, rfl⟩
      · rw [show mayReadF f rc (nI i) v = -5 by unfold mayReadF; rw [n0, bI_n c17, if_pos rfl, if_pos rfl, nI_clamp (by omega), if_pos (bI_n c33)]]
        refine Rn.bipush (pc1 := 38) (v := (-5)) dX9_mayRead_36 rfl (by decide) ?_
        refine Rn.goto 42 dX9_mayRead_38 (by decide) ?_
        exact Rn.ireturn dX9_mayRead_42 rfl rfl ⟨_, rfl, rfl, rfl⟩
    · rw [show mayReadF f rc (nI i) v = -2 by unfold mayReadF; rw [n0, bI_0 c17]; rfl]
      refine Rn.bipush (pc1 := 22) (v := (-2)) dX9_mayRead_20 rfl (by decide) ?_
      refine Rn.goto 42 dX9_mayRead_22 (by decide) ?_
      exact Rn.ireturn dX9_mayRead_42 rfl rfl ⟨_, rfl, rfl, rfl⟩
  · rw [show mayReadF f rc r v = -1 by unfold mayReadF; rw [bI_0 c5]; rfl]
    refine Rn.iconst (pc1 := 9) (v := (-1)) dX9_mayRead_8 rfl (by decide) ?_
    exact Rn.ireturn dX9_mayRead_9 rfl rfl ⟨_, rfl, rfl, rfl⟩
theorem eX9_mayLoad {r s : Int32} (F : MR μ m f f2 p kept sl u pd padded at_ od ordered) (I : IV f h rc sc B) : EvA G 2 kX9_mayLoad [.ref m, .int r, .int s] μ sz 0 0 (rI fun w μ' => w = mayLoadF f rc sc r s ∧ μ' = μ) := by
  have hO := F.1
  have hA := F.2.1
  have hrc := I.2.1.2.1
  have hsc := I.2.1.2.2
  refine EvA.of (L := [some (.ref m), some (.int r), some (.int s)]) (by decide +kernel) (Nat.le_of_ble_eq_true rfl) rfl ?_
  refine Rn.aload_n (pc1 := 1)  dX9_mayLoad_0 rfl rfl rfl ?_
  refine Rn.iload_n (pc1 := 2)  dX9_mayLoad_1 rfl rfl rfl ?_
  refine Rn.cV_i (pc1 := 5) (eX9_isReader F I) dX9_mayLoad_2 rfl qX9_105 oX9_isReader (by first | assumption | exact mset_same | exact mget_ne (by omega) (by assumption)) rfl rfl rfl rfl (Nat.le_of_ble_eq_true rfl) (by decide) (by decide) (fun v2 μ2 h2 => ?_)
  obtain ⟨rfl, rfl⟩ := h2
  refine Rn.if_eq (pc1 := 8) 16 dX9_mayLoad_5 rfl (by decide) (fun c5 => ?_) (fun c5 => ?_)
  · rw [show mayLoadF f rc sc r s = -1 by unfold mayLoadF; rw [if_neg (fun q => by rw [bI_0 c5] at q; cases q.1)]]
    refine Rn.iconst (pc1 := 17) (v := (-1)) dX9_mayLoad_16 rfl (by decide) ?_
    exact Rn.ireturn dX9_mayLoad_17 rfl rfl ⟨_, rfl, rfl, rfl⟩
  · refine Rn.aload_n (pc1 := 9)  dX9_mayLoad_8 rfl rfl rfl ?_
    refine Rn.iload_n (pc1 := 10)  dX9_mayLoad_9 rfl rfl rfl ?_
    refine Rn.cV_i (pc1 := 13) (eX9_isShot F I) dX9_mayLoad_10 rfl qX9_118 oX9_isShot (by first | assumption | exact mset_same | exact mget_ne (by omega) (by assumption)) rfl rfl rfl rfl (Nat.le_of_ble_eq_true rfl) (by decide) (by decide) (fun v10 μ10 h10 => ?_)
    obtain ⟨rfl, rfl⟩ := h10
    refine Rn.if_ne (pc1 := 16) 18 dX9_mayLoad_13 rfl (by decide) (fun c13 => ?_) (fun c13 => ?_)
    · have n0 : mayLoadF f rc sc r s = if lateB (f (423 + 13 * s.toNatClampNeg)) (f 4) = true then -5 else nI 0 := if_pos ⟨bI_n c5, bI_n c13⟩
      obtain ⟨n, hn, rfl⟩ := isRdB_t (by omega) (bI_n c13)
      rw [nI_clamp (by omega)] at n0
      refine Rn.aload_n (pc1 := 19)  dX9_mayLoad_18 rfl rfl rfl ?_
      refine Rn.getfield (pc1 := 22)  dX9_mayLoad_19 rfl fX9_7 (by first | assumption | exact mset_same | exact mget_ne (by omega) (by assumption)) rfl ?_
      refine Rn.aload_n (pc1 := 23)  dX9_mayLoad_22 rfl rfl rfl ?_
      refine Rn.getfield (pc1 := 26)  dX9_mayLoad_23 rfl fX9_7 (by first | assumption | exact mset_same | exact mget_ne (by omega) (by assumption)) rfl ?_
      refine Rn.sipush (pc1 := 29) (v := nI 423) dX9_mayLoad_26 rfl (by decide) ?_
      refine Rn.bipush (pc1 := 31) (v := nI 13) dX9_mayLoad_29 rfl (by decide) ?_
      refine Rn.iload_n (pc1 := 32)  dX9_mayLoad_31 rfl rfl rfl ?_
      refine Rn.imul (pc1 := 33)  dX9_mayLoad_32 rfl (nI_mul 13 n) ?_
      refine Rn.iadd (pc1 := 34)  dX9_mayLoad_33 rfl (nI_add 423 (13 * n)) ?_
      refine Rn.iaload (pc1 := 35) (v := f (423 + 13 * n))  dX9_mayLoad_34 rfl (by first | assumption | exact mset_same | exact mget_ne (by omega) (by assumption)) (vp_nI (j := 423 + 13 * n) rfl (by omega) (by decide)) (by rw [nI_clamp (by omega)] <;> (first | rfl | assumption | (simp (disch := omega) only [upd_ne, upd_at, blk_out]; done) | (simp (disch := omega) only [upd_ne, upd_at, blk_out]; assumption))) ?_
      refine Rn.cS_i (pc1 := 38) (eX9_isLatePlace hA) dX9_mayLoad_35 rfl qX9_66 oX9_isLatePlace rfl rfl (Nat.le_of_ble_eq_true rfl) (by decide) (by decide) (fun v35 μ35 h35 => ?_)
      obtain ⟨rfl, rfl⟩ := h35
      refine Rn.if_eq (pc1 := 41) 46 dX9_mayLoad_38 rfl (by decide) (fun c38 => ?_) (fun c38 => ?_)
      · rw [n0, bI_0 c38, if_neg (by decide)]
        refine Rn.iconst (pc1 := 47) (v := nI 0) dX9_mayLoad_46 rfl (by decide) ?_
        exact Rn.ireturn dX9_mayLoad_47 rfl rfl ⟨_, rfl, rfl, rfl⟩
      · rw [n0, if_pos (bI_n c38)]
        refine Rn.bipush (pc1 := 43) (v := (-5)) dX9_mayLoad_41 rfl (by decide) ?_
        refine Rn.goto 47 dX9_mayLoad_43 (by decide) ?_
        exact Rn.ireturn dX9_mayLoad_47 rfl rfl ⟨_, rfl, rfl, rfl⟩
    · rw [show mayLoadF f rc sc r s = -1 by unfold mayLoadF; rw [if_neg (fun q => by rw [bI_0 c13] at q; cases q.2)]]
      refine Rn.iconst (pc1 := 17) (v := (-1)) dX9_mayLoad_16 rfl (by decide) ?_
      exact Rn.ireturn dX9_mayLoad_17 rfl rfl ⟨_, rfl, rfl, rfl⟩
abbrev QR (m : Nat) (f' f2 p : Nat → Int32) (kept : Nat) (sl : Nat → Int32) (u : Nat → Bool) (pd : Nat → Int32) (padded at_ : Nat) (od : Nat → Int32) (ordered : Nat) (val : Int32) (μ : Mm) : Option Value → Mm → Prop := rI fun v μ' => v = val ∧ MR μ' m f' f2 p kept sl u pd padded at_ od ordered ∧ Fr m (m + 8) μ μ'
theorem eX9_sets {k : Nat} {v : Int32} (F : MR μ m f f2 p kept sl u pd padded at_ od ordered) (I : IV f h rc sc B) (hk : k < 12) (hh : h < 60) : EvA G 1 kX9_sets [.ref m, .int (nI k), .int v] μ sz 0 0 (QR m (setsF f h k v) f2 p kept sl u pd padded at_ od ordered (f 3) μ) := by
  have hO := F.1
  have hA := F.2.1
  have h6 := I.1.1
  refine EvA.of (L := [some (.ref m), some (.int (nI k)), some (.int v), none]) (by decide +kernel) (Nat.le_of_ble_eq_true rfl) rfl ?_
  refine Rn.bipush (pc1 := 2) (v := nI 21) dX9_sets_0 rfl (by decide) ?_
  refine Rn.iconst (pc1 := 3) (v := nI 4) dX9_sets_2 rfl (by decide) ?_
  refine Rn.aload_n (pc1 := 4)  dX9_sets_3 rfl rfl rfl ?_
  refine Rn.getfield (pc1 := 7)  dX9_sets_4 rfl fX9_7 (by first | assumption | exact mset_same | exact mget_ne (by omega) (by assumption)) rfl ?_
  refine Rn.bipush (pc1 := 9) (v := nI 6) dX9_sets_7 rfl (by decide) ?_
  refine Rn.iaload (pc1 := 10) (v := nI h)  dX9_sets_9 rfl (by first | assumption | exact mset_same | exact mget_ne (by omega) (by assumption)) (vp_nI (j := 6) rfl (by omega) (by decide)) (by rw [nI_clamp (by omega)] <;> (first | rfl | assumption | (simp (disch := omega) only [upd_ne, upd_at, blk_out]; done) | (simp (disch := omega) only [upd_ne, upd_at, blk_out]; assumption))) ?_
  refine Rn.imul (pc1 := 11)  dX9_sets_10 rfl (nI_mul 4 h) ?_
  refine Rn.iadd (pc1 := 12)  dX9_sets_11 rfl (nI_add 21 (4 * h)) ?_
  refine Rn.istore_n (pc1 := 13)  dX9_sets_12 rfl rfl (by decide) rfl rfl ?_
  refine Rn.aload_n (pc1 := 14)  dX9_sets_13 rfl rfl rfl ?_
  refine Rn.getfield (pc1 := 17)  dX9_sets_14 rfl fX9_7 (by first | assumption | exact mset_same | exact mget_ne (by omega) (by assumption)) rfl ?_
  refine Rn.iload_n (pc1 := 18)  dX9_sets_17 rfl rfl rfl ?_
  refine Rn.aload_n (pc1 := 19)  dX9_sets_18 rfl rfl rfl ?_
  refine Rn.getfield (pc1 := 22)  dX9_sets_19 rfl fX9_7 (by first | assumption | exact mset_same | exact mget_ne (by omega) (by assumption)) rfl ?_
  refine Rn.iconst (pc1 := 23) (v := nI 3) dX9_sets_22 rfl (by decide) ?_
  refine Rn.iaload (pc1 := 24) (v := f 3)  dX9_sets_23 rfl (by first | assumption | exact mset_same | exact mget_ne (by omega) (by assumption)) (vp_nI (j := 3) rfl (by omega) (by decide)) (by rw [nI_clamp (by omega)] <;> (first | rfl | assumption | (simp (disch := omega) only [upd_ne, upd_at, blk_out]; done) | (simp (disch := omega) only [upd_ne, upd_at, blk_out]; assumption))) ?_
  refine Rn.iastore (pc1 := 25)  dX9_sets_24 rfl (by first | assumption | exact mset_same | exact mget_ne (by omega) (by assumption)) (vp_nI (j := 21 + 4 * h) rfl (by omega) (by decide)) (updI (j := 21 + 4 * h) rfl (by omega)) ?_
  refine Rn.aload_n (pc1 := 26)  dX9_sets_25 rfl rfl rfl ?_
  refine Rn.getfield (pc1 := 29)  dX9_sets_26 rfl fX9_7 (by first | assumption | exact mset_same | exact mget_ne (by omega) (by assumption)) rfl ?_
  refine Rn.iload_n (pc1 := 30)  dX9_sets_29 rfl rfl rfl ?_
  refine Rn.iconst (pc1 := 31) (v := nI 1) dX9_sets_30 rfl (by decide) ?_
  refine Rn.iadd (pc1 := 32)  dX9_sets_31 rfl (nI_add (21 + 4 * h) 1) ?_
  refine Rn.iload_n (pc1 := 33)  dX9_sets_32 rfl rfl rfl ?_
  refine Rn.iastore (pc1 := 34)  dX9_sets_33 rfl (by first | assumption | exact mset_same | exact mget_ne (by omega) (by assumption)) (vp_nI (j := 21 + 4 * h + 1) rfl (by omega) (by decide)) (updI (j := 21 + 4 * h + 1) rfl (by omega)) ?_
  rw [mset_mset]
  refine Rn.aload_n (pc1 := 35)  dX9_sets_34 rfl rfl rfl ?_
  refine Rn.getfield (pc1 := 38)  dX9_sets_35 rfl fX9_7 (by first | assumption | exact mset_same | exact mget_ne (by omega) (by assumption)) rfl ?_
  refine Rn.iload_n (pc1 := 39)  dX9_sets_38 rfl rfl rfl ?_
  refine Rn.iconst (pc1 := 40) (v := nI 2) dX9_sets_39 rfl (by decide) ?_
  refine Rn.iadd (pc1 := 41)  dX9_sets_40 rfl (nI_add (21 + 4 * h) 2) ?_
  refine Rn.iload_n (pc1 := 42)  dX9_sets_41 rfl rfl rfl ?_
  refine Rn.iastore (pc1 := 43)  dX9_sets_42 rfl (by first | assumption | exact mset_same | exact mget_ne (by omega) (by assumption)) (vp_nI (j := 21 + 4 * h + 2) rfl (by omega) (by decide)) (updI (j := 21 + 4 * h + 2) rfl (by omega)) ?_
  rw [mset_mset]
  refine Rn.aload_n (pc1 := 44)  dX9_sets_43 rfl rfl rfl ?_
  refine Rn.getfield (pc1 := 47)  dX9_sets_44 rfl fX9_7 (by first | assumption | exact mset_same | exact mget_ne (by omega) (by assumption)) rfl ?_
  refine Rn.iload_n (pc1 := 48)  dX9_sets_47 rfl rfl rfl ?_
  refine Rn.iconst (pc1 := 49) (v := nI 3) dX9_sets_48 rfl (by decide) ?_
  refine Rn.iadd (pc1 := 50)  dX9_sets_49 rfl (nI_add (21 + 4 * h) 3) ?_
  refine Rn.aload_n (pc1 := 51)  dX9_sets_50 rfl rfl rfl ?_
  refine Rn.getfield (pc1 := 54)  dX9_sets_51 rfl fX9_7 (by first | assumption | exact mset_same | exact mget_ne (by omega) (by assumption)) rfl ?_
  refine Rn.iconst (pc1 := 55) (v := nI 2) dX9_sets_54 rfl (by decide) ?_
  refine Rn.iaload (pc1 := 56) (v := f 2)  dX9_sets_55 rfl (by first | assumption | exact mset_same | exact mget_ne (by omega) (by assumption)) (vp_nI (j := 2) rfl (by omega) (by decide)) (by rw [nI_clamp (by omega)] <;> (first | rfl | assumption | (simp (disch := omega) only [upd_ne, upd_at, blk_out]; done) | (simp (disch := omega) only [upd_ne, upd_at, blk_out]; assumption))) ?_
  refine Rn.iastore (pc1 := 57)  dX9_sets_56 rfl (by first | assumption | exact mset_same | exact mget_ne (by omega) (by assumption)) (vp_nI (j := 21 + 4 * h + 3) rfl (by omega) (by decide)) (updI (j := 21 + 4 * h + 3) rfl (by omega)) ?_
  rw [mset_mset]
  refine Rn.aload_n (pc1 := 58)  dX9_sets_57 rfl rfl rfl ?_
  refine Rn.getfield (pc1 := 61)  dX9_sets_58 rfl fX9_7 (by first | assumption | exact mset_same | exact mget_ne (by omega) (by assumption)) rfl ?_
  refine Rn.bipush (pc1 := 63) (v := nI 6) dX9_sets_61 rfl (by decide) ?_
  refine Rn.dup2 (pc1 := 64)  dX9_sets_63 rfl rfl rfl ?_
  refine Rn.iaload (pc1 := 65) (v := nI h)  dX9_sets_64 rfl (by first | assumption | exact mset_same | exact mget_ne (by omega) (by assumption)) (vp_nI (j := 6) rfl (by omega) (by decide)) (by rw [nI_clamp (by omega)] <;> (first | rfl | assumption | (simp (disch := omega) only [upd_ne, upd_at, blk_out]; done) | (simp (disch := omega) only [upd_ne, upd_at, blk_out]; assumption))) ?_
  refine Rn.iconst (pc1 := 66) (v := nI 1) dX9_sets_65 rfl (by decide) ?_
  refine Rn.iadd (pc1 := 67)  dX9_sets_66 rfl (nI_add h 1) ?_
  refine Rn.iastore (pc1 := 68)  dX9_sets_67 rfl (by first | assumption | exact mset_same | exact mget_ne (by omega) (by assumption)) (vp_nI (j := 6) rfl (by omega) (by decide)) (updI (j := 6) rfl (by omega)) ?_
  rw [mset_mset]
  refine Rn.aload_n (pc1 := 69)  dX9_sets_68 rfl rfl rfl ?_
  refine Rn.getfield (pc1 := 72)  dX9_sets_69 rfl fX9_7 (by first | assumption | exact mset_same | exact mget_ne (by omega) (by assumption)) rfl ?_
  refine Rn.bipush (pc1 := 74) (v := nI 9) dX9_sets_72 rfl (by decide) ?_
  refine Rn.iload_n (pc1 := 75)  dX9_sets_74 rfl rfl rfl ?_
  refine Rn.iadd (pc1 := 76)  dX9_sets_75 rfl (nI_add 9 k) ?_
  refine Rn.iload_n (pc1 := 77)  dX9_sets_76 rfl rfl rfl ?_
  refine Rn.iastore (pc1 := 78)  dX9_sets_77 rfl (by first | assumption | exact mset_same | exact mget_ne (by omega) (by assumption)) (vp_nI (j := 9 + k) rfl (by omega) (by decide)) (updI (j := 9 + k) rfl (by omega)) ?_
  rw [mset_mset]
  refine Rn.aload_n (pc1 := 79)  dX9_sets_78 rfl rfl rfl ?_
  refine Rn.getfield (pc1 := 82)  dX9_sets_79 rfl fX9_7 (by first | assumption | exact mset_same | exact mget_ne (by omega) (by assumption)) rfl ?_
  refine Rn.iconst (pc1 := 83) (v := nI 3) dX9_sets_82 rfl (by decide) ?_
  refine Rn.dup2 (pc1 := 84)  dX9_sets_83 rfl rfl rfl ?_
  refine Rn.iaload (pc1 := 85) (v := f 3)  dX9_sets_84 rfl (by first | assumption | exact mset_same | exact mget_ne (by omega) (by assumption)) (vp_nI (j := 3) rfl (by omega) (by decide)) (by rw [nI_clamp (by omega)] <;> (first | rfl | assumption | (simp (disch := omega) only [upd_ne, upd_at, blk_out]; done) | (simp (disch := omega) only [upd_ne, upd_at, blk_out]; assumption))) ?_
  refine Rn.iconst (pc1 := 86) (v := nI 1) dX9_sets_85 rfl (by decide) ?_
  refine Rn.iadd (pc1 := 87)  dX9_sets_86 rfl rfl ?_
  refine Rn.iastore (pc1 := 88)  dX9_sets_87 rfl (by first | assumption | exact mset_same | exact mget_ne (by omega) (by assumption)) (vp_nI (j := 3) rfl (by omega) (by decide)) (updI (j := 3) rfl (by omega)) ?_
  rw [mset_mset]
  refine Rn.aload_n (pc1 := 89)  dX9_sets_88 rfl rfl rfl ?_
  refine Rn.getfield (pc1 := 92)  dX9_sets_89 rfl fX9_7 (by first | assumption | exact mset_same | exact mget_ne (by omega) (by assumption)) rfl ?_
  refine Rn.iconst (pc1 := 93) (v := nI 3) dX9_sets_92 rfl (by decide) ?_
  refine Rn.iaload (pc1 := 94) (v := f 3 + nI 1)  dX9_sets_93 rfl (by first | assumption | exact mset_same | exact mget_ne (by omega) (by assumption)) (vp_nI (j := 3) rfl (by omega) (by decide)) (by rw [nI_clamp (by omega)] <;> (first | rfl | assumption | (simp (disch := omega) only [upd_ne, upd_at, blk_out]; done) | (simp (disch := omega) only [upd_ne, upd_at, blk_out]; assumption))) ?_
  refine Rn.iconst (pc1 := 95) (v := nI 1) dX9_sets_94 rfl (by decide) ?_
  refine Rn.isub (pc1 := 96)  dX9_sets_95 rfl (Int32.add_sub_cancel _ _) ?_
  exact Rn.ireturn dX9_sets_96 rfl rfl ⟨_, rfl, rfl, F.set1 (setsF f h k v), Fr.set (by omega) (by omega)⟩
theorem eX9_begins {i : Nat} {pl vals : Int32} {vw : Nat → Int32} (F : MR μ m f f2 p kept sl u pd padded at_ od ordered) (hi : i < 6) (hv : (vals = -1 ∧ vw = fun _ => -6) ∨ ∃ vb, vals = nI vb ∧ 423 ≤ vb ∧ vb + 12 ≤ 475 ∧ vw = fun k => f (vb + k)) : EvA G 1 kX9_begins [.ref m, .int (nI i), .int pl, .int vals] μ sz 0 0 (QR m (beginF f i pl vw) f2 p kept sl u pd padded at_ od ordered pl μ) := by
  have hO := F.1
  have hA := F.2.1
  have loop : ∀ (n k : Nat), k + n = 12 → ∀ o5 : Option Value, Rn G 1 kX9_begins 25 [some (.ref m), some (.int (nI i)), some (.int pl), some (.int vals), some (.int (nI k)), o5] [] (mset μ (m + 1) (ints 475 (blk (blk (upd (upd f (261 + 27 * i) pl) (261 + 27 * i + 1) pl) (261 + 27 * i + 3) k vw) (261 + 27 * i + 15) k vw))) sz 0 0 (QR m (beginF f i pl vw) f2 p kept sl u pd padded at_ od ordered pl μ) := by
    intro n
    induction n with
    | zero =>
      intro k hk o5
      obtain rfl : k = 12 := by omega
      refine Rn.iload (pc1 := 27)  dX9_begins_25 rfl rfl ?_
      refine Rn.bipush (pc1 := 29) (v := nI 12) dX9_begins_27 rfl (by decide) ?_
      refine Rn.icmp_ge (pc1 := 32) 91 dX9_begins_29 rfl (by decide) (fun c29 => ?_) (fun c29 => ?_)
      · refine Rn.iload_n (pc1 := 92)  dX9_begins_91 rfl rfl rfl ?_
        exact Rn.ireturn dX9_begins_92 rfl rfl ⟨_, rfl, rfl, F.set1 (beginF f i pl vw), Fr.set (by omega) (by omega)⟩
      · exact absurd (nI_le (Nat.le_refl _) (by decide)) c29
    | succ n ih =>
      intro k hk o5
      have J : ∀ x : Int32, x = vw k → Rn G 1 kX9_begins 50 [some (.ref m), some (.int (nI i)), some (.int pl), some (.int vals), some (.int (nI k)), o5] [.int x] (mset μ (m + 1) (ints 475 (blk (blk (upd (upd f (261 + 27 * i) pl) (261 + 27 * i + 1) pl) (261 + 27 * i + 3) k vw) (261 + 27 * i + 15) k vw))) sz 0 0 (QR m (beginF f i pl vw) f2 p kept sl u pd padded at_ od ordered pl μ) := by
        rintro x rfl
        refine Rn.istore (pc1 := 52)  dX9_begins_50 rfl (by decide) rfl rfl ?_
        refine Rn.aload_n (pc1 := 53)  dX9_begins_52 rfl rfl rfl ?_
        refine Rn.getfield (pc1 := 56)  dX9_begins_53 rfl fX9_7 (by first | assumption | exact mset_same | exact mget_ne (by omega) (by assumption)) rfl ?_
        refine Rn.iload_n (pc1 := 57)  dX9_begins_56 rfl rfl rfl ?_
        refine Rn.cS_i (pc1 := 60) (eX9_row) dX9_begins_57 rfl qX9_62 oX9_row rfl rfl (Nat.le_of_ble_eq_true rfl) (by decide) (by decide) (fun v57 μ57 h57 => ?_)
        obtain ⟨rfl, rfl⟩ := h57
        refine Rn.iconst (pc1 := 61) (v := nI 3) dX9_begins_60 rfl (by decide) ?_
        refine Rn.iadd (pc1 := 62)  dX9_begins_61 rfl (nI_add (261 + 27 * i) 3) ?_
        refine Rn.iload (pc1 := 64)  dX9_begins_62 rfl rfl ?_
        refine Rn.iadd (pc1 := 65)  dX9_begins_64 rfl (nI_add (261 + 27 * i + 3) k) ?_
        refine Rn.iload (pc1 := 67)  dX9_begins_65 rfl rfl ?_
        refine Rn.iastore (pc1 := 68) (f' := blk (blk (upd (upd f (261 + 27 * i) pl) (261 + 27 * i + 1) pl) (261 + 27 * i + 3) (k + 1) vw) (261 + 27 * i + 15) k vw)  dX9_begins_67 rfl mset_same (vp_nI (j := 261 + 27 * i + 3 + k) rfl (by omega) (by decide)) (by rw [updI (j := 261 + 27 * i + 3 + k) rfl (by omega), blk_upd_out (by omega), blk_upd]) ?_
        rw [mset_mset]
        refine Rn.aload_n (pc1 := 69)  dX9_begins_68 rfl rfl rfl ?_
        refine Rn.getfield (pc1 := 72)  dX9_begins_69 rfl fX9_7 (by first | assumption | exact mset_same | exact mget_ne (by omega) (by assumption)) rfl ?_
        refine Rn.iload_n (pc1 := 73)  dX9_begins_72 rfl rfl rfl ?_
        refine Rn.cS_i (pc1 := 76) (eX9_row) dX9_begins_73 rfl qX9_62 oX9_row rfl rfl (Nat.le_of_ble_eq_true rfl) (by decide) (by decide) (fun v73 μ73 h73 => ?_)
        obtain ⟨rfl, rfl⟩ := h73
        refine Rn.bipush (pc1 := 78) (v := nI 15) dX9_begins_76 rfl (by decide) ?_
        refine Rn.iadd (pc1 := 79)  dX9_begins_78 rfl (nI_add (261 + 27 * i) 15) ?_
        refine Rn.iload (pc1 := 81)  dX9_begins_79 rfl rfl ?_
        refine Rn.iadd (pc1 := 82)  dX9_begins_81 rfl (nI_add (261 + 27 * i + 15) k) ?_
        refine Rn.iload (pc1 := 84)  dX9_begins_82 rfl rfl ?_
        refine Rn.iastore (pc1 := 85) (f' := blk (blk (upd (upd f (261 + 27 * i) pl) (261 + 27 * i + 1) pl) (261 + 27 * i + 3) (k + 1) vw) (261 + 27 * i + 15) (k + 1) vw)  dX9_begins_84 rfl mset_same (vp_nI (j := 261 + 27 * i + 15 + k) rfl (by omega) (by decide)) (by rw [updI (j := 261 + 27 * i + 15 + k) rfl (by omega), blk_upd]) ?_
        rw [mset_mset]
        refine Rn.iinc (pc1 := 88)  dX9_begins_85 rfl rfl (nI_1 k) (by decide) rfl rfl ?_
        refine Rn.goto 25 dX9_begins_88 (by decide) ?_
        exact ih (k + 1) (by omega) _
      rcases hv with ⟨rfl, e⟩ | ⟨vb, rfl, v1, v2, e⟩
      · refine Rn.iload (pc1 := 27)  dX9_begins_25 rfl rfl ?_
        refine Rn.bipush (pc1 := 29) (v := nI 12) dX9_begins_27 rfl (by decide) ?_
        refine Rn.icmp_ge (pc1 := 32) 91 dX9_begins_29 rfl (by decide) (fun c29 => ?_) (fun c29 => ?_)
        · exact absurd c29 (nI_ge (by omega) (by decide))
        · refine Rn.iload_n (pc1 := 33)  dX9_begins_32 rfl rfl rfl ?_
          refine Rn.if_ge (pc1 := 36) 41 dX9_begins_33 rfl (by decide) (fun c33 => ?_) (fun c33 => ?_)
          · exact absurd c33 (by decide)
          · refine Rn.bipush (pc1 := 38) (v := (-6)) dX9_begins_36 rfl (by decide) ?_
            refine Rn.goto 50 dX9_begins_38 (by decide) ?_
            exact J _ (by rw [e])
      · refine Rn.iload (pc1 := 27)  dX9_begins_25 rfl rfl ?_
        refine Rn.bipush (pc1 := 29) (v := nI 12) dX9_begins_27 rfl (by decide) ?_
        refine Rn.icmp_ge (pc1 := 32) 91 dX9_begins_29 rfl (by decide) (fun c29 => ?_) (fun c29 => ?_)
        · exact absurd c29 (nI_ge (by omega) (by decide))
        · refine Rn.iload_n (pc1 := 33)  dX9_begins_32 rfl rfl rfl ?_
          refine Rn.if_ge (pc1 := 36) 41 dX9_begins_33 rfl (by decide) (fun c33 => ?_) (fun c33 => ?_)
          · refine Rn.aload_n (pc1 := 42)  dX9_begins_41 rfl rfl rfl ?_
            refine Rn.getfield (pc1 := 45)  dX9_begins_42 rfl fX9_7 (by first | assumption | exact mset_same | exact mget_ne (by omega) (by assumption)) rfl ?_
            refine Rn.iload_n (pc1 := 46)  dX9_begins_45 rfl rfl rfl ?_
            refine Rn.iload (pc1 := 48)  dX9_begins_46 rfl rfl ?_
            refine Rn.iadd (pc1 := 49)  dX9_begins_48 rfl (nI_add vb k) ?_
            refine Rn.iaload (pc1 := 50) (v := f (vb + k))  dX9_begins_49 rfl (by first | assumption | exact mset_same | exact mget_ne (by omega) (by assumption)) (vp_nI (j := vb + k) rfl (by omega) (by decide)) (by rw [nI_clamp (by omega)] <;> (first | rfl | assumption | (simp (disch := omega) only [upd_ne, upd_at, blk_out]; done) | (simp (disch := omega) only [upd_ne, upd_at, blk_out]; assumption))) ?_
            exact J _ (by rw [e])
          · exact absurd (nI_le (Nat.zero_le vb) (by omega)) c33
  refine EvA.of (L := [some (.ref m), some (.int (nI i)), some (.int pl), some (.int vals), none, none]) (by decide +kernel) (Nat.le_of_ble_eq_true rfl) rfl ?_
  refine Rn.aload_n (pc1 := 1)  dX9_begins_0 rfl rfl rfl ?_
  refine Rn.getfield (pc1 := 4)  dX9_begins_1 rfl fX9_7 (by first | assumption | exact mset_same | exact mget_ne (by omega) (by assumption)) rfl ?_
  refine Rn.iload_n (pc1 := 5)  dX9_begins_4 rfl rfl rfl ?_
  refine Rn.cS_i (pc1 := 8) (eX9_row) dX9_begins_5 rfl qX9_62 oX9_row rfl rfl (Nat.le_of_ble_eq_true rfl) (by decide) (by decide) (fun v5 μ5 h5 => ?_)
  obtain ⟨rfl, rfl⟩ := h5
  refine Rn.iload_n (pc1 := 9)  dX9_begins_8 rfl rfl rfl ?_
  refine Rn.iastore (pc1 := 10)  dX9_begins_9 rfl (by first | assumption | exact mset_same | exact mget_ne (by omega) (by assumption)) (vp_nI (j := 261 + 27 * i) rfl (by omega) (by decide)) (updI (j := 261 + 27 * i) rfl (by omega)) ?_
  refine Rn.aload_n (pc1 := 11)  dX9_begins_10 rfl rfl rfl ?_
  refine Rn.getfield (pc1 := 14)  dX9_begins_11 rfl fX9_7 (by first | assumption | exact mset_same | exact mget_ne (by omega) (by assumption)) rfl ?_
  refine Rn.iload_n (pc1 := 15)  dX9_begins_14 rfl rfl rfl ?_
  refine Rn.cS_i (pc1 := 18) (eX9_row) dX9_begins_15 rfl qX9_62 oX9_row rfl rfl (Nat.le_of_ble_eq_true rfl) (by decide) (by decide) (fun v15 μ15 h15 => ?_)
  obtain ⟨rfl, rfl⟩ := h15
  refine Rn.iconst (pc1 := 19) (v := nI 1) dX9_begins_18 rfl (by decide) ?_
  refine Rn.iadd (pc1 := 20)  dX9_begins_19 rfl (nI_add (261 + 27 * i) 1) ?_
  refine Rn.iload_n (pc1 := 21)  dX9_begins_20 rfl rfl rfl ?_
  refine Rn.iastore (pc1 := 22)  dX9_begins_21 rfl (by first | assumption | exact mset_same | exact mget_ne (by omega) (by assumption)) (vp_nI (j := 261 + 27 * i + 1) rfl (by omega) (by decide)) (updI (j := 261 + 27 * i + 1) rfl (by omega)) ?_
  rw [mset_mset]
  refine Rn.iconst (pc1 := 23) (v := nI 0) dX9_begins_22 rfl (by decide) ?_
  refine Rn.istore (pc1 := 25)  dX9_begins_23 rfl (by decide) rfl rfl ?_
  have := loop 12 0 (by omega); rw [blk_0, blk_0] at this; exact this _
end M2
