/-! ===== the reference: reader, snapshot, read, take, load ===== -/
theorem nI_m1 (n : Nat) : nI (n + 1) + Int32.ofInt (-1) = nI n := by rw [← nI_1, show Int32.ofInt (-1) = - 1 from by decide, ← Int32.sub_eq_add_neg, Int32.add_sub_cancel]
def dnF (f : Nat → Int32) (n : Nat) : Nat → Int32 := blk f (475 - n) n (fun q => f (462 - n + q))
theorem dnF_lo {f : Nat → Int32} {n j : Nat} (h : j < 475 - n) : dnF f n j = f j := blk_out (by omega)
theorem dnF_s {f : Nat → Int32} {n : Nat} (h : n < 39) : upd (dnF f n) (474 - n) (f (461 - n)) = dnF f (n + 1) := by
  funext j
  by_cases e : j = 474 - n
  · subst e
    rw [upd_at rfl]
    show _ = blk f (475 - (n + 1)) (n + 1) (fun q => f (462 - (n + 1) + q)) (474 - n)
    rw [blk_in (q := 0) (by omega) (by omega)]
    congr 1
    omega
  · rw [upd_ne e]
    unfold dnF blk
    by_cases e2 : 475 - n ≤ j ∧ j < 475 - n + n
    · rw [if_pos e2, if_pos (by omega)]
      show f (462 - n + (j - (475 - n))) = f (462 - (n + 1) + (j - (475 - (n + 1))))
      congr 1
      omega
    · rw [if_neg e2, if_neg (by omega)]
def rdA (f : Nat → Int32) (i k n : Nat) : Nat → Int32 := upd (blk f (261 + 27 * i + 3) 12 (vwN (e1 f) (e2 f) (fun q => f (261 + 27 * i + 3 + q)) k n)) (261 + 27 * i) (plN (e0 f) (f (261 + 27 * i)) k n)
theorem rdA_0 {f : Nat → Int32} {i k : Nat} : rdA f i k 0 = f := by
  unfold rdA
  rw [show vwN (e1 f) (e2 f) (fun q => f (261 + 27 * i + 3 + q)) k 0 = (fun q => f (261 + 27 * i + 3 + q)) from rfl, blk_self, show plN (e0 f) (f (261 + 27 * i)) k 0 = f (261 + 27 * i) from rfl]
  funext j
  by_cases e : j = 261 + 27 * i
  · subst e; rw [upd_at rfl]
  · rw [upd_ne e]
theorem rdA_out {f : Nat → Int32} {i k n j : Nat} (h : j < 261 + 27 * i ∨ j = 261 + 27 * i + 1 ∨ j = 261 + 27 * i + 2 ∨ 261 + 27 * i + 15 ≤ j) : rdA f i k n j = f j := by
  unfold rdA; rw [upd_ne (by omega), blk_out (by omega)]
theorem rdA_s {f : Nat → Int32} {i k n q : Nat} (hq : e1 f (k + n) = nI q) (h12 : q < 12) : upd (upd (rdA f i k n) (261 + 27 * i + 3 + q) (e2 f (k + n))) (261 + 27 * i) (e0 f (k + n) + nI 1) = rdA f i k (n + 1) := by
  funext j
  by_cases e : j = 261 + 27 * i
  · subst e; unfold rdA; rw [upd_at rfl, upd_at rfl]; rfl
  · rw [upd_ne e]
    by_cases e2 : j = 261 + 27 * i + 3 + q
    · subst e2
      unfold rdA
      rw [upd_at rfl, upd_ne e, blk_in (q := q) rfl h12]
      show _ = upd _ _ _ _
      rw [hq, nI_clamp (by omega), upd_at rfl]
    · rw [upd_ne e2]
      unfold rdA
      rw [upd_ne e, upd_ne e]
      by_cases e3 : 261 + 27 * i + 3 ≤ j ∧ j < 261 + 27 * i + 3 + 12
      · obtain ⟨r, rfl⟩ : ∃ r, j = 261 + 27 * i + 3 + r := ⟨j - (261 + 27 * i + 3), by omega⟩
        rw [blk_in (q := r) rfl (by omega), blk_in (q := r) rfl (by omega)]
        show _ = upd _ _ _ _
        rw [hq, nI_clamp (by omega), upd_ne (by omega)]
      · rw [blk_out (by omega), blk_out (by omega)]
section M3
variable {G : GG} {μ : Mm} {sz m kept padded at_ ordered h rc sc B : Nat} {f f2 p sl pd od : Nat → Int32} {u : Nat → Bool}
theorem eX9_comes (F : MR μ m f f2 p kept sl u pd padded at_ od ordered) (I : IV f h rc sc B) (hr : rc < 6) : EvA G 2 kX9_comes [.ref m] μ sz 0 0 (QR m (comeF f rc) f2 p kept sl u pd padded at_ od ordered (nI rc) μ) := by
  have hO := F.1
  have hA := F.2.1
  have h7 := I.1.2.1
  have F1 := F.set1 (upd f (261 + 27 * rc + 2) (nI 0))
  refine EvA.of (L := [some (.ref m)]) (by decide +kernel) (Nat.le_of_ble_eq_true rfl) rfl ?_
  refine Rn.aload_n (pc1 := 1)  dX9_comes_0 rfl rfl rfl ?_
  refine Rn.getfield (pc1 := 4)  dX9_comes_1 rfl fX9_7 (by first | assumption | exact mset_same | exact mget_ne (by omega) (by assumption)) rfl ?_
  refine Rn.aload_n (pc1 := 5)  dX9_comes_4 rfl rfl rfl ?_
  refine Rn.getfield (pc1 := 8)  dX9_comes_5 rfl fX9_7 (by first | assumption | exact mset_same | exact mget_ne (by omega) (by assumption)) rfl ?_
  refine Rn.bipush (pc1 := 10) (v := nI 7) dX9_comes_8 rfl (by decide) ?_
  refine Rn.iaload (pc1 := 11) (v := nI rc)  dX9_comes_10 rfl (by first | assumption | exact mset_same | exact mget_ne (by omega) (by assumption)) (vp_nI (j := 7) rfl (by omega) (by decide)) (by rw [nI_clamp (by omega)] <;> (first | rfl | assumption | (simp (disch := omega) only [upd_ne, upd_at, blk_out]; done) | (simp (disch := omega) only [upd_ne, upd_at, blk_out]; assumption))) ?_
  refine Rn.cS_i (pc1 := 14) (eX9_row) dX9_comes_11 rfl qX9_62 oX9_row rfl rfl (Nat.le_of_ble_eq_true rfl) (by decide) (by decide) (fun v11 μ11 h11 => ?_)
  obtain ⟨rfl, rfl⟩ := h11
  refine Rn.iconst (pc1 := 15) (v := nI 2) dX9_comes_14 rfl (by decide) ?_
  refine Rn.iadd (pc1 := 16)  dX9_comes_15 rfl (nI_add (261 + 27 * rc) 2) ?_
  refine Rn.iconst (pc1 := 17) (v := nI 0) dX9_comes_16 rfl (by decide) ?_
  refine Rn.iastore (pc1 := 18)  dX9_comes_17 rfl (by first | assumption | exact mset_same | exact mget_ne (by omega) (by assumption)) (vp_nI (j := 261 + 27 * rc + 2) rfl (by omega) (by decide)) (updI (j := 261 + 27 * rc + 2) rfl (by omega)) ?_
  refine Rn.aload_n (pc1 := 19)  dX9_comes_18 rfl rfl rfl ?_
  refine Rn.aload_n (pc1 := 20)  dX9_comes_19 rfl rfl rfl ?_
  refine Rn.getfield (pc1 := 23)  dX9_comes_20 rfl fX9_7 (by first | assumption | exact mset_same | exact mget_ne (by omega) (by assumption)) rfl ?_
  refine Rn.bipush (pc1 := 25) (v := nI 7) dX9_comes_23 rfl (by decide) ?_
  refine Rn.iaload (pc1 := 26) (v := nI rc)  dX9_comes_25 rfl (by first | assumption | exact mset_same | exact mget_ne (by omega) (by assumption)) (vp_nI (j := 7) rfl (by omega) (by decide)) (by rw [nI_clamp (by omega)] <;> (first | rfl | assumption | (simp (disch := omega) only [upd_ne, upd_at, blk_out]; done) | (simp (disch := omega) only [upd_ne, upd_at, blk_out]; assumption))) ?_
  refine Rn.iconst (pc1 := 27) (v := nI 0) dX9_comes_26 rfl (by decide) ?_
  refine Rn.iconst (pc1 := 28) (v := (-1)) dX9_comes_27 rfl (by decide) ?_
  refine Rn.cV_i (pc1 := 31) (eX9_begins F1 hr (Or.inl ⟨rfl, rfl⟩)) dX9_comes_28 rfl qX9_98 oX9_begins (by first | assumption | exact mset_same | exact mget_ne (by omega) (by assumption)) rfl rfl rfl rfl (Nat.le_of_ble_eq_true rfl) (by decide) (by decide) (fun v28 μ28 h28 => ?_)
  obtain ⟨rfl, F2, w2⟩ := h28
  have hO2 := F2.1
  have hA2 := F2.2.1
  have e7 : beginF (upd f (261 + 27 * rc + 2) (nI 0)) rc (nI 0) (fun _ => -6) 7 = nI rc := by unfold beginF; rw [blk_out (by omega), blk_out (by omega), upd_ne (by omega), upd_ne (by omega), upd_ne (by omega)]; exact h7
  refine Rn.pop (pc1 := 32)  dX9_comes_31 rfl rfl ?_
  refine Rn.aload_n (pc1 := 33)  dX9_comes_32 rfl rfl rfl ?_
  refine Rn.getfield (pc1 := 36)  dX9_comes_33 rfl fX9_7 (by first | assumption | exact mset_same | exact mget_ne (by omega) (by assumption)) rfl ?_
  refine Rn.bipush (pc1 := 38) (v := nI 7) dX9_comes_36 rfl (by decide) ?_
  refine Rn.dup2 (pc1 := 39)  dX9_comes_38 rfl rfl rfl ?_
  refine Rn.iaload (pc1 := 40) (v := nI rc)  dX9_comes_39 rfl (by first | assumption | exact mset_same | exact mget_ne (by omega) (by assumption)) (vp_nI (j := 7) rfl (by omega) (by decide)) (by rw [nI_clamp (by omega)] <;> (first | rfl | assumption | (simp (disch := omega) only [upd_ne, upd_at, blk_out]; done) | (simp (disch := omega) only [upd_ne, upd_at, blk_out]; assumption))) ?_
  refine Rn.iconst (pc1 := 41) (v := nI 1) dX9_comes_40 rfl (by decide) ?_
  refine Rn.iadd (pc1 := 42)  dX9_comes_41 rfl (nI_add rc 1) ?_
  refine Rn.iastore (pc1 := 43)  dX9_comes_42 rfl (by first | assumption | exact mset_same | exact mget_ne (by omega) (by assumption)) (vp_nI (j := 7) rfl (by omega) (by decide)) (updI (j := 7) rfl (by omega)) ?_
  refine Rn.aload_n (pc1 := 44)  dX9_comes_43 rfl rfl rfl ?_
  refine Rn.getfield (pc1 := 47)  dX9_comes_44 rfl fX9_7 (by first | assumption | exact mset_same | exact mget_ne (by omega) (by assumption)) rfl ?_
  refine Rn.bipush (pc1 := 49) (v := nI 7) dX9_comes_47 rfl (by decide) ?_
  refine Rn.iaload (pc1 := 50) (v := nI (rc + 1))  dX9_comes_49 rfl (by first | assumption | exact mset_same | exact mget_ne (by omega) (by assumption)) (vp_nI (j := 7) rfl (by omega) (by decide)) (by rw [nI_clamp (by omega)] <;> (first | rfl | assumption | (simp (disch := omega) only [upd_ne, upd_at, blk_out]; done) | (simp (disch := omega) only [upd_ne, upd_at, blk_out]; assumption))) ?_
  refine Rn.iconst (pc1 := 51) (v := nI 1) dX9_comes_50 rfl (by decide) ?_
  refine Rn.isub (pc1 := 52)  dX9_comes_51 rfl (nI_sub (show 1 ≤ rc + 1 by omega)) ?_
  exact Rn.ireturn dX9_comes_52 rfl rfl ⟨_, rfl, rfl, F2.set1 (comeF f rc), ((Fr.set (by omega) (by omega)).trans w2).set_ (by omega) (by omega)⟩
theorem eX9_shoots (F : MR μ m f f2 p kept sl u pd padded at_ od ordered) (I : IV f h rc sc B) : EvA G 0 kX9_shoots [.ref m] μ sz 0 0 (QR m (shotF f sc) f2 p kept sl u pd padded at_ od ordered (f 3) μ) := by
  have hO := F.1
  have hA := F.2.1
  have h8 := I.1.2.2
  have hs := I.2.1.2.2
  have e39 : dnF f 39 = blk f 436 39 (fun q => f (423 + q)) := rfl
  have e3 : dnF f 39 3 = f 3 := dnF_lo (by omega)
  have loop2 : ∀ (n k : Nat), k + n = 12 → Rn G 0 kX9_shoots 48 [some (.ref m), some (.int (nI k))] [] (mset μ (m + 1) (ints 475 (blk (upd (dnF f 39) 423 (f 3)) 424 k (fun q => f (9 + q))))) sz 0 0 (QR m (shotF f sc) f2 p kept sl u pd padded at_ od ordered (f 3) μ) := by
    intro n
    induction n with
    | zero =>
      intro k hk
      obtain rfl : k = 12 := by omega
      have g8 : blk (upd (dnF f 39) 423 (f 3)) 424 12 (fun q => f (9 + q)) 8 = nI sc := by rw [blk_out (by omega), upd_ne (by omega), dnF_lo (by omega)]; exact h8
      have g3 : blk (upd (dnF f 39) 423 (f 3)) 424 12 (fun q => f (9 + q)) 3 = f 3 := by rw [blk_out (by omega), upd_ne (by omega), dnF_lo (by omega)]
      refine Rn.iload_n (pc1 := 49)  dX9_shoots_48 rfl rfl rfl ?_
      refine Rn.bipush (pc1 := 51) (v := nI 12) dX9_shoots_49 rfl (by decide) ?_
      refine Rn.icmp_ge (pc1 := 54) 79 dX9_shoots_51 rfl (by decide) (fun c51 => ?_) (fun c51 => ?_)
      · refine Rn.aload_n (pc1 := 80)  dX9_shoots_79 rfl rfl rfl ?_
        refine Rn.getfield (pc1 := 83)  dX9_shoots_80 rfl fX9_7 (by first | assumption | exact mset_same | exact mget_ne (by omega) (by assumption)) rfl ?_
        refine Rn.bipush (pc1 := 85) (v := nI 8) dX9_shoots_83 rfl (by decide) ?_
        refine Rn.dup2 (pc1 := 86)  dX9_shoots_85 rfl rfl rfl ?_
        refine Rn.iaload (pc1 := 87) (v := nI sc)  dX9_shoots_86 rfl (by first | assumption | exact mset_same | exact mget_ne (by omega) (by assumption)) (vp_nI (j := 8) rfl (by omega) (by decide)) (by rw [nI_clamp (by omega)] <;> (first | rfl | assumption | (simp (disch := omega) only [upd_ne, upd_at, blk_out]; done) | (simp (disch := omega) only [upd_ne, upd_at, blk_out]; assumption))) ?_
        refine Rn.aload_n (pc1 := 88)  dX9_shoots_87 rfl rfl rfl ?_
        refine Rn.getfield (pc1 := 91)  dX9_shoots_88 rfl fX9_7 (by first | assumption | exact mset_same | exact mget_ne (by omega) (by assumption)) rfl ?_
        refine Rn.bipush (pc1 := 93) (v := nI 8) dX9_shoots_91 rfl (by decide) ?_
        refine Rn.iaload (pc1 := 94) (v := nI sc)  dX9_shoots_93 rfl (by first | assumption | exact mset_same | exact mget_ne (by omega) (by assumption)) (vp_nI (j := 8) rfl (by omega) (by decide)) (by rw [nI_clamp (by omega)] <;> (first | rfl | assumption | (simp (disch := omega) only [upd_ne, upd_at, blk_out]; done) | (simp (disch := omega) only [upd_ne, upd_at, blk_out]; assumption))) ?_
        refine Rn.iconst (pc1 := 95) (v := nI 4) dX9_shoots_94 rfl (by decide) ?_
        refine Rn.icmp_ge (pc1 := 98) 102 dX9_shoots_95 rfl (by decide) (fun c95 => ?_) (fun c95 => ?_)
        · have s4 : ¬ sc < 4 := fun q => absurd c95 (nI_ge q (by decide))
          have es : shotF f sc = upd (blk (upd (dnF f 39) 423 (f 3)) 424 12 (fun q => f (9 + q))) 8 (nI (sc + 0)) := by unfold shotF; rw [if_neg s4]; rfl
          refine Rn.iconst (pc1 := 103) (v := nI 0) dX9_shoots_102 rfl (by decide) ?_
          refine Rn.iadd (pc1 := 104)  dX9_shoots_103 rfl (nI_add _ _) ?_
          refine Rn.iastore (pc1 := 105)  dX9_shoots_104 rfl (by first | assumption | exact mset_same | exact mget_ne (by omega) (by assumption)) (vp_nI (j := 8) rfl (by omega) (by decide)) (updI (j := 8) rfl (by omega)) ?_
          rw [mset_mset, ← es]
          refine Rn.aload_n (pc1 := 106)  dX9_shoots_105 rfl rfl rfl ?_
          refine Rn.getfield (pc1 := 109)  dX9_shoots_106 rfl fX9_7 (by first | assumption | exact mset_same | exact mget_ne (by omega) (by assumption)) rfl ?_
          refine Rn.iconst (pc1 := 110) (v := nI 3) dX9_shoots_109 rfl (by decide) ?_
          refine Rn.iaload (pc1 := 111) (v := f 3)  dX9_shoots_110 rfl mset_same (vp_nI (j := 3) rfl (by decide) (by decide)) (by rw [es]; exact (upd_ne (by decide)).trans g3) ?_
          exact Rn.ireturn dX9_shoots_111 rfl rfl ⟨_, rfl, rfl, F.set1 (shotF f sc), Fr.set (by omega) (by omega)⟩
        · have s4 : sc < 4 := by
            rcases Nat.lt_or_ge sc 4 with q | q
            · exact q
            · exact absurd (nI_le q (by omega)) c95
          have es : shotF f sc = upd (blk (upd (dnF f 39) 423 (f 3)) 424 12 (fun q => f (9 + q))) 8 (nI (sc + 1)) := by unfold shotF; rw [if_pos s4]; rfl
          refine Rn.iconst (pc1 := 99) (v := nI 1) dX9_shoots_98 rfl (by decide) ?_
          refine Rn.goto 103 dX9_shoots_99 (by decide) ?_
          refine Rn.iadd (pc1 := 104)  dX9_shoots_103 rfl (nI_add _ _) ?_
          refine Rn.iastore (pc1 := 105)  dX9_shoots_104 rfl (by first | assumption | exact mset_same | exact mget_ne (by omega) (by assumption)) (vp_nI (j := 8) rfl (by omega) (by decide)) (updI (j := 8) rfl (by omega)) ?_
          rw [mset_mset, ← es]
          refine Rn.aload_n (pc1 := 106)  dX9_shoots_105 rfl rfl rfl ?_
          refine Rn.getfield (pc1 := 109)  dX9_shoots_106 rfl fX9_7 (by first | assumption | exact mset_same | exact mget_ne (by omega) (by assumption)) rfl ?_
          refine Rn.iconst (pc1 := 110) (v := nI 3) dX9_shoots_109 rfl (by decide) ?_
          refine Rn.iaload (pc1 := 111) (v := f 3)  dX9_shoots_110 rfl mset_same (vp_nI (j := 3) rfl (by decide) (by decide)) (by rw [es]; exact (upd_ne (by decide)).trans g3) ?_
          exact Rn.ireturn dX9_shoots_111 rfl rfl ⟨_, rfl, rfl, F.set1 (shotF f sc), Fr.set (by omega) (by omega)⟩
      · exact absurd (nI_le (Nat.le_refl _) (by decide)) c51
    | succ n ih =>
      intro k hk
      refine Rn.iload_n (pc1 := 49)  dX9_shoots_48 rfl rfl rfl ?_
      refine Rn.bipush (pc1 := 51) (v := nI 12) dX9_shoots_49 rfl (by decide) ?_
      refine Rn.icmp_ge (pc1 := 54) 79 dX9_shoots_51 rfl (by decide) (fun c51 => ?_) (fun c51 => ?_)
      · exact absurd c51 (nI_ge (by omega) (by decide))
      · refine Rn.aload_n (pc1 := 55)  dX9_shoots_54 rfl rfl rfl ?_
        refine Rn.getfield (pc1 := 58)  dX9_shoots_55 rfl fX9_7 (by first | assumption | exact mset_same | exact mget_ne (by omega) (by assumption)) rfl ?_
        refine Rn.sipush (pc1 := 61) (v := nI 424) dX9_shoots_58 rfl (by decide) ?_
        refine Rn.iload_n (pc1 := 62)  dX9_shoots_61 rfl rfl rfl ?_
        refine Rn.iadd (pc1 := 63)  dX9_shoots_62 rfl (nI_add 424 k) ?_
        refine Rn.aload_n (pc1 := 64)  dX9_shoots_63 rfl rfl rfl ?_
        refine Rn.getfield (pc1 := 67)  dX9_shoots_64 rfl fX9_7 (by first | assumption | exact mset_same | exact mget_ne (by omega) (by assumption)) rfl ?_
        refine Rn.bipush (pc1 := 69) (v := nI 9) dX9_shoots_67 rfl (by decide) ?_
        refine Rn.iload_n (pc1 := 70)  dX9_shoots_69 rfl rfl rfl ?_
        refine Rn.iadd (pc1 := 71)  dX9_shoots_70 rfl (nI_add 9 k) ?_
        refine Rn.iaload (pc1 := 72) (v := f (9 + k))  dX9_shoots_71 rfl mset_same (vp_nI (j := 9 + k) rfl (by omega) (by decide)) (by rw [nI_clamp (by omega), blk_out (by omega), upd_ne (by omega), dnF_lo (by omega)]) ?_
        refine Rn.iastore (pc1 := 73) (f' := blk (upd (dnF f 39) 423 (f 3)) 424 (k + 1) (fun q => f (9 + q)))  dX9_shoots_72 rfl mset_same (vp_nI (j := 424 + k) rfl (by omega) (by decide)) (by rw [updI (j := 424 + k) rfl (by omega), blk_upd]) ?_
        rw [mset_mset]
        refine Rn.iinc (pc1 := 76)  dX9_shoots_73 rfl rfl (nI_1 k) (by decide) rfl rfl ?_
        refine Rn.goto 48 dX9_shoots_76 (by decide) ?_
        exact ih (k + 1) (by omega)
  have loop1 : ∀ (n k j : Nat), k + n = 39 → j + k = 474 → Rn G 0 kX9_shoots 4 [some (.ref m), some (.int (nI j))] [] (mset μ (m + 1) (ints 475 (dnF f k))) sz 0 0 (QR m (shotF f sc) f2 p kept sl u pd padded at_ od ordered (f 3) μ) := by
    intro n
    induction n with
    | zero =>
      intro k j hk hj
      obtain rfl : k = 39 := by omega
      obtain rfl : j = 435 := by omega
      refine Rn.iload_n (pc1 := 5)  dX9_shoots_4 rfl rfl rfl ?_
      refine Rn.sipush (pc1 := 8) (v := nI 436) dX9_shoots_5 rfl (by decide) ?_
      refine Rn.icmp_lt (pc1 := 11) 32 dX9_shoots_8 rfl (by decide) (fun c8 => ?_) (fun c8 => ?_)
      · refine Rn.aload_n (pc1 := 33)  dX9_shoots_32 rfl rfl rfl ?_
        refine Rn.getfield (pc1 := 36)  dX9_shoots_33 rfl fX9_7 (by first | assumption | exact mset_same | exact mget_ne (by omega) (by assumption)) rfl ?_
        refine Rn.sipush (pc1 := 39) (v := nI 423) dX9_shoots_36 rfl (by decide) ?_
        refine Rn.aload_n (pc1 := 40)  dX9_shoots_39 rfl rfl rfl ?_
        refine Rn.getfield (pc1 := 43)  dX9_shoots_40 rfl fX9_7 (by first | assumption | exact mset_same | exact mget_ne (by omega) (by assumption)) rfl ?_
        refine Rn.iconst (pc1 := 44) (v := nI 3) dX9_shoots_43 rfl (by decide) ?_
        refine Rn.iaload (pc1 := 45) (v := f 3)  dX9_shoots_44 rfl mset_same (vp_nI (j := 3) rfl (by decide) (by decide)) e3 ?_
        refine Rn.iastore (pc1 := 46)  dX9_shoots_45 rfl (by first | assumption | exact mset_same | exact mget_ne (by omega) (by assumption)) (vp_nI (j := 423) rfl (by omega) (by decide)) (updI (j := 423) rfl (by omega)) ?_
        rw [mset_mset]
        refine Rn.iconst (pc1 := 47) (v := nI 0) dX9_shoots_46 rfl (by decide) ?_
        refine Rn.istore_n (pc1 := 48)  dX9_shoots_47 rfl rfl (by decide) rfl rfl ?_
        have := loop2 12 0 (by omega); rw [blk_0] at this; exact this
      · exact absurd (by decide) c8
    | succ n ih =>
      intro k j0 hk hj0
      obtain ⟨j, rfl⟩ : ∃ j, j0 = j + 1 := ⟨j0 - 1, by omega⟩
      refine Rn.iload_n (pc1 := 5)  dX9_shoots_4 rfl rfl rfl ?_
      refine Rn.sipush (pc1 := 8) (v := nI 436) dX9_shoots_5 rfl (by decide) ?_
      refine Rn.icmp_lt (pc1 := 11) 32 dX9_shoots_8 rfl (by decide) (fun c8 => ?_) (fun c8 => ?_)
      · exact absurd c8 (i32_nlt.mpr (nI_le (show 436 ≤ j + 1 by omega) (by omega)))
      · refine Rn.aload_n (pc1 := 12)  dX9_shoots_11 rfl rfl rfl ?_
        refine Rn.getfield (pc1 := 15)  dX9_shoots_12 rfl fX9_7 (by first | assumption | exact mset_same | exact mget_ne (by omega) (by assumption)) rfl ?_
        refine Rn.iload_n (pc1 := 16)  dX9_shoots_15 rfl rfl rfl ?_
        refine Rn.aload_n (pc1 := 17)  dX9_shoots_16 rfl rfl rfl ?_
        refine Rn.getfield (pc1 := 20)  dX9_shoots_17 rfl fX9_7 (by first | assumption | exact mset_same | exact mget_ne (by omega) (by assumption)) rfl ?_
        refine Rn.iload_n (pc1 := 21)  dX9_shoots_20 rfl rfl rfl ?_
        refine Rn.bipush (pc1 := 23) (v := nI 13) dX9_shoots_21 rfl (by decide) ?_
        refine Rn.isub (pc1 := 24)  dX9_shoots_23 rfl (nI_sub (show 13 ≤ j + 1 by omega)) ?_
        refine Rn.iaload (pc1 := 25) (v := f (461 - k))  dX9_shoots_24 rfl mset_same (vp_nI (j := j + 1 - 13) rfl (by omega) (by decide)) (by rw [nI_clamp (by omega), dnF_lo (by omega), show j + 1 - 13 = 461 - k by omega]) ?_
        refine Rn.iastore (pc1 := 26) (f' := dnF f (k + 1))  dX9_shoots_25 rfl mset_same (vp_nI (j := j + 1) rfl (by omega) (by decide)) (by rw [updI (j := j + 1) rfl (by omega), show j + 1 = 474 - k by omega, dnF_s (by omega)]) ?_
        rw [mset_mset]
        refine Rn.iinc (pc1 := 29)  dX9_shoots_26 rfl rfl (nI_m1 j) (by decide) rfl rfl ?_
        refine Rn.goto 4 dX9_shoots_29 (by decide) ?_
        exact ih (k + 1) j (by omega) (by omega)
  refine EvA.of (L := [some (.ref m), none]) (by decide +kernel) (Nat.le_of_ble_eq_true rfl) rfl ?_
  refine Rn.sipush (pc1 := 3) (v := nI 474) dX9_shoots_0 rfl (by decide) ?_
  refine Rn.istore_n (pc1 := 4)  dX9_shoots_3 rfl rfl (by decide) rfl rfl ?_
  have := loop1 39 0 474 (by omega) (by omega); rw [show dnF f 0 = f from blk_0, mset_id hA] at this; exact this
theorem eX9_takes1 {i : Nat} (F : MR μ m f f2 p kept sl u pd padded at_ od ordered) (hi : i < 6) : EvA G 1 kX9_takes [.ref m, .int (nI i), .int (nI 1)] μ sz 0 0 (QR m (confF f i) f2 p kept sl u pd padded at_ od ordered (f (261 + 27 * i)) μ) := by
  have hO := F.1
  have hA := F.2.1
  have loop : ∀ (n k : Nat), k + n = 12 → Rn G 1 kX9_takes 26 [some (.ref m), some (.int (nI i)), some (.int (nI 1)), some (.int (nI 3)), some (.int (nI 15)), some (.int (nI k))] [] (mset μ (m + 1) (ints 475 (blk f (261 + 27 * i + 15) k (fun q => f (261 + 27 * i + 3 + q))))) sz 0 0 (QR m (confF f i) f2 p kept sl u pd padded at_ od ordered (f (261 + 27 * i)) μ) := by
    intro n
    induction n with
    | zero =>
      intro k hk
      obtain rfl : k = 12 := by omega
      refine Rn.iload (pc1 := 28)  dX9_takes_26 rfl rfl ?_
      refine Rn.bipush (pc1 := 30) (v := nI 12) dX9_takes_28 rfl (by decide) ?_
      refine Rn.icmp_ge (pc1 := 33) 68 dX9_takes_30 rfl (by decide) (fun c30 => ?_) (fun c30 => ?_)
      · refine Rn.aload_n (pc1 := 69)  dX9_takes_68 rfl rfl rfl ?_
        refine Rn.getfield (pc1 := 72)  dX9_takes_69 rfl fX9_7 (by first | assumption | exact mset_same | exact mget_ne (by omega) (by assumption)) rfl ?_
        refine Rn.iload_n (pc1 := 73)  dX9_takes_72 rfl rfl rfl ?_
        refine Rn.cS_i (pc1 := 76) (eX9_row) dX9_takes_73 rfl qX9_62 oX9_row rfl rfl (Nat.le_of_ble_eq_true rfl) (by decide) (by decide) (fun v73 μ73 h73 => ?_)
        obtain ⟨rfl, rfl⟩ := h73
        refine Rn.iload_n (pc1 := 77)  dX9_takes_76 rfl rfl rfl ?_
        refine Rn.if_eq (pc1 := 80) 84 dX9_takes_77 rfl (by decide) (fun c77 => ?_) (fun c77 => ?_)
        · exact absurd c77 (by decide)
        · refine Rn.iconst (pc1 := 81) (v := nI 1) dX9_takes_80 rfl (by decide) ?_
          refine Rn.goto 85 dX9_takes_81 (by decide) ?_
          refine Rn.iadd (pc1 := 86)  dX9_takes_85 rfl (nI_add (261 + 27 * i) 1) ?_
          refine Rn.aload_n (pc1 := 87)  dX9_takes_86 rfl rfl rfl ?_
          refine Rn.getfield (pc1 := 90)  dX9_takes_87 rfl fX9_7 (by first | assumption | exact mset_same | exact mget_ne (by omega) (by assumption)) rfl ?_
          refine Rn.iload_n (pc1 := 91)  dX9_takes_90 rfl rfl rfl ?_
          refine Rn.cS_i (pc1 := 94) (eX9_row) dX9_takes_91 rfl qX9_62 oX9_row rfl rfl (Nat.le_of_ble_eq_true rfl) (by decide) (by decide) (fun v91 μ91 h91 => ?_)
          obtain ⟨rfl, rfl⟩ := h91
          refine Rn.iload_n (pc1 := 95)  dX9_takes_94 rfl rfl rfl ?_
          refine Rn.if_eq (pc1 := 98) 102 dX9_takes_95 rfl (by decide) (fun c95 => ?_) (fun c95 => ?_)
          · exact absurd c95 (by decide)
          · refine Rn.iconst (pc1 := 99) (v := nI 0) dX9_takes_98 rfl (by decide) ?_
            refine Rn.goto 103 dX9_takes_99 (by decide) ?_
            refine Rn.iadd (pc1 := 104)  dX9_takes_103 rfl (nI_add (261 + 27 * i) 0) ?_
            refine Rn.iaload (pc1 := 105) (v := f (261 + 27 * i))  dX9_takes_104 rfl mset_same (vp_nI (j := 261 + 27 * i) rfl (by omega) (by decide)) (by rw [nI_clamp (by omega), blk_out (by omega)]; rfl) ?_
            refine Rn.iastore (pc1 := 106)  dX9_takes_105 rfl (by first | assumption | exact mset_same | exact mget_ne (by omega) (by assumption)) (vp_nI (j := 261 + 27 * i + 1) rfl (by omega) (by decide)) (updI (j := 261 + 27 * i + 1) rfl (by omega)) ?_
            rw [mset_mset]
            refine Rn.aload_n (pc1 := 107)  dX9_takes_106 rfl rfl rfl ?_
            refine Rn.getfield (pc1 := 110)  dX9_takes_107 rfl fX9_7 (by first | assumption | exact mset_same | exact mget_ne (by omega) (by assumption)) rfl ?_
            refine Rn.iload_n (pc1 := 111)  dX9_takes_110 rfl rfl rfl ?_
            refine Rn.cS_i (pc1 := 114) (eX9_row) dX9_takes_111 rfl qX9_62 oX9_row rfl rfl (Nat.le_of_ble_eq_true rfl) (by decide) (by decide) (fun v111 μ111 h111 => ?_)
            obtain ⟨rfl, rfl⟩ := h111
            refine Rn.iaload (pc1 := 115) (v := f (261 + 27 * i))  dX9_takes_114 rfl (by first | assumption | exact mset_same | exact mget_ne (by omega) (by assumption)) (vp_nI (j := 261 + 27 * i) rfl (by omega) (by decide)) (by rw [nI_clamp (by omega)] <;> (first | rfl | assumption | (simp (disch := omega) only [upd_ne, upd_at, blk_out]; done) | (simp (disch := omega) only [upd_ne, upd_at, blk_out]; assumption))) ?_
            exact Rn.ireturn dX9_takes_115 rfl rfl ⟨_, rfl, rfl, F.set1 (confF f i), Fr.set (by omega) (by omega)⟩
      · exact absurd (nI_le (Nat.le_refl _) (by decide)) c30
    | succ n ih =>
      intro k hk
      refine Rn.iload (pc1 := 28)  dX9_takes_26 rfl rfl ?_
      refine Rn.bipush (pc1 := 30) (v := nI 12) dX9_takes_28 rfl (by decide) ?_
      refine Rn.icmp_ge (pc1 := 33) 68 dX9_takes_30 rfl (by decide) (fun c30 => ?_) (fun c30 => ?_)
      · exact absurd c30 (nI_ge (by omega) (by decide))
      · refine Rn.aload_n (pc1 := 34)  dX9_takes_33 rfl rfl rfl ?_
        refine Rn.getfield (pc1 := 37)  dX9_takes_34 rfl fX9_7 (by first | assumption | exact mset_same | exact mget_ne (by omega) (by assumption)) rfl ?_
        refine Rn.iload_n (pc1 := 38)  dX9_takes_37 rfl rfl rfl ?_
        refine Rn.cS_i (pc1 := 41) (eX9_row) dX9_takes_38 rfl qX9_62 oX9_row rfl rfl (Nat.le_of_ble_eq_true rfl) (by decide) (by decide) (fun v38 μ38 h38 => ?_)
        obtain ⟨rfl, rfl⟩ := h38
        refine Rn.iload (pc1 := 43)  dX9_takes_41 rfl rfl ?_
        refine Rn.iadd (pc1 := 44)  dX9_takes_43 rfl (nI_add (261 + 27 * i) 15) ?_
        refine Rn.iload (pc1 := 46)  dX9_takes_44 rfl rfl ?_
        refine Rn.iadd (pc1 := 47)  dX9_takes_46 rfl (nI_add (261 + 27 * i + 15) k) ?_
        refine Rn.aload_n (pc1 := 48)  dX9_takes_47 rfl rfl rfl ?_
        refine Rn.getfield (pc1 := 51)  dX9_takes_48 rfl fX9_7 (by first | assumption | exact mset_same | exact mget_ne (by omega) (by assumption)) rfl ?_
        refine Rn.iload_n (pc1 := 52)  dX9_takes_51 rfl rfl rfl ?_
        refine Rn.cS_i (pc1 := 55) (eX9_row) dX9_takes_52 rfl qX9_62 oX9_row rfl rfl (Nat.le_of_ble_eq_true rfl) (by decide) (by decide) (fun v52 μ52 h52 => ?_)
        obtain ⟨rfl, rfl⟩ := h52
        refine Rn.iload_n (pc1 := 56)  dX9_takes_55 rfl rfl rfl ?_
        refine Rn.iadd (pc1 := 57)  dX9_takes_56 rfl (nI_add (261 + 27 * i) 3) ?_
        refine Rn.iload (pc1 := 59)  dX9_takes_57 rfl rfl ?_
        refine Rn.iadd (pc1 := 60)  dX9_takes_59 rfl (nI_add (261 + 27 * i + 3) k) ?_
        refine Rn.iaload (pc1 := 61) (v := f (261 + 27 * i + 3 + k))  dX9_takes_60 rfl mset_same (vp_nI (j := 261 + 27 * i + 3 + k) rfl (by omega) (by decide)) (by rw [nI_clamp (by omega), blk_out (by omega)]) ?_
        refine Rn.iastore (pc1 := 62) (f' := blk f (261 + 27 * i + 15) (k + 1) (fun q => f (261 + 27 * i + 3 + q)))  dX9_takes_61 rfl mset_same (vp_nI (j := 261 + 27 * i + 15 + k) rfl (by omega) (by decide)) (by rw [updI (j := 261 + 27 * i + 15 + k) rfl (by omega), blk_upd]) ?_
        rw [mset_mset]
        refine Rn.iinc (pc1 := 65)  dX9_takes_62 rfl rfl (nI_1 k) (by decide) rfl rfl ?_
        refine Rn.goto 26 dX9_takes_65 (by decide) ?_
        exact ih (k + 1) (by omega)
  refine EvA.of (L := [some (.ref m), some (.int (nI i)), some (.int (nI 1)), none, none, none]) (by decide +kernel) (Nat.le_of_ble_eq_true rfl) rfl ?_
  refine Rn.iload_n (pc1 := 1)  dX9_takes_0 rfl rfl rfl ?_
  refine Rn.if_eq (pc1 := 4) 8 dX9_takes_1 rfl (by decide) (fun c1 => ?_) (fun c1 => ?_)
  · exact absurd c1 (by decide)
  · refine Rn.iconst (pc1 := 5) (v := nI 3) dX9_takes_4 rfl (by decide) ?_
    refine Rn.goto 10 dX9_takes_5 (by decide) ?_
    refine Rn.istore_n (pc1 := 11)  dX9_takes_10 rfl rfl (by decide) rfl rfl ?_
    refine Rn.iload_n (pc1 := 12)  dX9_takes_11 rfl rfl rfl ?_
    refine Rn.if_eq (pc1 := 15) 20 dX9_takes_12 rfl (by decide) (fun c12 => ?_) (fun c12 => ?_)
    · exact absurd c12 (by decide)
    · refine Rn.bipush (pc1 := 17) (v := nI 15) dX9_takes_15 rfl (by decide) ?_
      refine Rn.goto 21 dX9_takes_17 (by decide) ?_
      refine Rn.istore (pc1 := 23)  dX9_takes_21 rfl (by decide) rfl rfl ?_
      refine Rn.iconst (pc1 := 24) (v := nI 0) dX9_takes_23 rfl (by decide) ?_
      refine Rn.istore (pc1 := 26)  dX9_takes_24 rfl (by decide) rfl rfl ?_
      have := loop 12 0 (by omega); rw [blk_0, mset_id hA] at this; exact this
theorem eX9_takes0 {i : Nat} (F : MR μ m f f2 p kept sl u pd padded at_ od ordered) (hi : i < 6) : EvA G 1 kX9_takes [.ref m, .int (nI i), .int (nI 0)] μ sz 0 0 (QR m (backF f i) f2 p kept sl u pd padded at_ od ordered (f (261 + 27 * i + 1)) μ) := by
  have hO := F.1
  have hA := F.2.1
  have loop : ∀ (n k : Nat), k + n = 12 → Rn G 1 kX9_takes 26 [some (.ref m), some (.int (nI i)), some (.int (nI 0)), some (.int (nI 15)), some (.int (nI 3)), some (.int (nI k))] [] (mset μ (m + 1) (ints 475 (blk f (261 + 27 * i + 3) k (fun q => f (261 + 27 * i + 15 + q))))) sz 0 0 (QR m (backF f i) f2 p kept sl u pd padded at_ od ordered (f (261 + 27 * i + 1)) μ) := by
    intro n
    induction n with
    | zero =>
      intro k hk
      obtain rfl : k = 12 := by omega
      refine Rn.iload (pc1 := 28)  dX9_takes_26 rfl rfl ?_
      refine Rn.bipush (pc1 := 30) (v := nI 12) dX9_takes_28 rfl (by decide) ?_
      refine Rn.icmp_ge (pc1 := 33) 68 dX9_takes_30 rfl (by decide) (fun c30 => ?_) (fun c30 => ?_)
      · refine Rn.aload_n (pc1 := 69)  dX9_takes_68 rfl rfl rfl ?_
        refine Rn.getfield (pc1 := 72)  dX9_takes_69 rfl fX9_7 (by first | assumption | exact mset_same | exact mget_ne (by omega) (by assumption)) rfl ?_
        refine Rn.iload_n (pc1 := 73)  dX9_takes_72 rfl rfl rfl ?_
        refine Rn.cS_i (pc1 := 76) (eX9_row) dX9_takes_73 rfl qX9_62 oX9_row rfl rfl (Nat.le_of_ble_eq_true rfl) (by decide) (by decide) (fun v73 μ73 h73 => ?_)
        obtain ⟨rfl, rfl⟩ := h73
        refine Rn.iload_n (pc1 := 77)  dX9_takes_76 rfl rfl rfl ?_
        refine Rn.if_eq (pc1 := 80) 84 dX9_takes_77 rfl (by decide) (fun c77 => ?_) (fun c77 => ?_)
        · refine Rn.iconst (pc1 := 85) (v := nI 0) dX9_takes_84 rfl (by decide) ?_
          refine Rn.iadd (pc1 := 86)  dX9_takes_85 rfl (nI_add (261 + 27 * i) 0) ?_
          refine Rn.aload_n (pc1 := 87)  dX9_takes_86 rfl rfl rfl ?_
          refine Rn.getfield (pc1 := 90)  dX9_takes_87 rfl fX9_7 (by first | assumption | exact mset_same | exact mget_ne (by omega) (by assumption)) rfl ?_
          refine Rn.iload_n (pc1 := 91)  dX9_takes_90 rfl rfl rfl ?_
          refine Rn.cS_i (pc1 := 94) (eX9_row) dX9_takes_91 rfl qX9_62 oX9_row rfl rfl (Nat.le_of_ble_eq_true rfl) (by decide) (by decide) (fun v91 μ91 h91 => ?_)
          obtain ⟨rfl, rfl⟩ := h91
          refine Rn.iload_n (pc1 := 95)  dX9_takes_94 rfl rfl rfl ?_
          refine Rn.if_eq (pc1 := 98) 102 dX9_takes_95 rfl (by decide) (fun c95 => ?_) (fun c95 => ?_)
          · refine Rn.iconst (pc1 := 103) (v := nI 1) dX9_takes_102 rfl (by decide) ?_
            refine Rn.iadd (pc1 := 104)  dX9_takes_103 rfl (nI_add (261 + 27 * i) 1) ?_
            refine Rn.iaload (pc1 := 105) (v := f (261 + 27 * i + 1))  dX9_takes_104 rfl (by first | assumption | exact mset_same | exact mget_ne (by omega) (by assumption)) (vp_nI (j := 261 + 27 * i + 1) rfl (by omega) (by decide)) (by rw [nI_clamp (by omega)] <;> (first | rfl | assumption | (simp (disch := omega) only [upd_ne, upd_at, blk_out]; done) | (simp (disch := omega) only [upd_ne, upd_at, blk_out]; assumption))) ?_
            refine Rn.iastore (pc1 := 106)  dX9_takes_105 rfl (by first | assumption | exact mset_same | exact mget_ne (by omega) (by assumption)) (vp_nI (j := 261 + 27 * i) rfl (by omega) (by decide)) (updI (j := 261 + 27 * i) rfl (by omega)) ?_
            rw [mset_mset]
            refine Rn.aload_n (pc1 := 107)  dX9_takes_106 rfl rfl rfl ?_
            refine Rn.getfield (pc1 := 110)  dX9_takes_107 rfl fX9_7 (by first | assumption | exact mset_same | exact mget_ne (by omega) (by assumption)) rfl ?_
            refine Rn.iload_n (pc1 := 111)  dX9_takes_110 rfl rfl rfl ?_
            refine Rn.cS_i (pc1 := 114) (eX9_row) dX9_takes_111 rfl qX9_62 oX9_row rfl rfl (Nat.le_of_ble_eq_true rfl) (by decide) (by decide) (fun v111 μ111 h111 => ?_)
            obtain ⟨rfl, rfl⟩ := h111
            refine Rn.iaload (pc1 := 115) (v := f (261 + 27 * i + 1))  dX9_takes_114 rfl (by first | assumption | exact mset_same | exact mget_ne (by omega) (by assumption)) (vp_nI (j := 261 + 27 * i) rfl (by omega) (by decide)) (by rw [nI_clamp (by omega)] <;> (first | rfl | assumption | (simp (disch := omega) only [upd_ne, upd_at, blk_out]; done) | (simp (disch := omega) only [upd_ne, upd_at, blk_out]; assumption))) ?_
            exact Rn.ireturn dX9_takes_115 rfl rfl ⟨_, rfl, rfl, F.set1 (backF f i), Fr.set (by omega) (by omega)⟩
          · exact absurd rfl c95
        · exact absurd rfl c77
      · exact absurd (nI_le (Nat.le_refl _) (by decide)) c30
    | succ n ih =>
      intro k hk
      refine Rn.iload (pc1 := 28)  dX9_takes_26 rfl rfl ?_
      refine Rn.bipush (pc1 := 30) (v := nI 12) dX9_takes_28 rfl (by decide) ?_
      refine Rn.icmp_ge (pc1 := 33) 68 dX9_takes_30 rfl (by decide) (fun c30 => ?_) (fun c30 => ?_)
      · exact absurd c30 (nI_ge (by omega) (by decide))
      · refine Rn.aload_n (pc1 := 34)  dX9_takes_33 rfl rfl rfl ?_
        refine Rn.getfield (pc1 := 37)  dX9_takes_34 rfl fX9_7 (by first | assumption | exact mset_same | exact mget_ne (by omega) (by assumption)) rfl ?_
        refine Rn.iload_n (pc1 := 38)  dX9_takes_37 rfl rfl rfl ?_
        refine Rn.cS_i (pc1 := 41) (eX9_row) dX9_takes_38 rfl qX9_62 oX9_row rfl rfl (Nat.le_of_ble_eq_true rfl) (by decide) (by decide) (fun v38 μ38 h38 => ?_)
        obtain ⟨rfl, rfl⟩ := h38
        refine Rn.iload (pc1 := 43)  dX9_takes_41 rfl rfl ?_
        refine Rn.iadd (pc1 := 44)  dX9_takes_43 rfl (nI_add (261 + 27 * i) 3) ?_
        refine Rn.iload (pc1 := 46)  dX9_takes_44 rfl rfl ?_
        refine Rn.iadd (pc1 := 47)  dX9_takes_46 rfl (nI_add (261 + 27 * i + 3) k) ?_
        refine Rn.aload_n (pc1 := 48)  dX9_takes_47 rfl rfl rfl ?_
        refine Rn.getfield (pc1 := 51)  dX9_takes_48 rfl fX9_7 (by first | assumption | exact mset_same | exact mget_ne (by omega) (by assumption)) rfl ?_
        refine Rn.iload_n (pc1 := 52)  dX9_takes_51 rfl rfl rfl ?_
        refine Rn.cS_i (pc1 := 55) (eX9_row) dX9_takes_52 rfl qX9_62 oX9_row rfl rfl (Nat.le_of_ble_eq_true rfl) (by decide) (by decide) (fun v52 μ52 h52 => ?_)
        obtain ⟨rfl, rfl⟩ := h52
        refine Rn.iload_n (pc1 := 56)  dX9_takes_55 rfl rfl rfl ?_
        refine Rn.iadd (pc1 := 57)  dX9_takes_56 rfl (nI_add (261 + 27 * i) 15) ?_
        refine Rn.iload (pc1 := 59)  dX9_takes_57 rfl rfl ?_
        refine Rn.iadd (pc1 := 60)  dX9_takes_59 rfl (nI_add (261 + 27 * i + 15) k) ?_
        refine Rn.iaload (pc1 := 61) (v := f (261 + 27 * i + 15 + k))  dX9_takes_60 rfl mset_same (vp_nI (j := 261 + 27 * i + 15 + k) rfl (by omega) (by decide)) (by rw [nI_clamp (by omega), blk_out (by omega)]) ?_
        refine Rn.iastore (pc1 := 62) (f' := blk f (261 + 27 * i + 3) (k + 1) (fun q => f (261 + 27 * i + 15 + q)))  dX9_takes_61 rfl mset_same (vp_nI (j := 261 + 27 * i + 3 + k) rfl (by omega) (by decide)) (by rw [updI (j := 261 + 27 * i + 3 + k) rfl (by omega), blk_upd]) ?_
        rw [mset_mset]
        refine Rn.iinc (pc1 := 65)  dX9_takes_62 rfl rfl (nI_1 k) (by decide) rfl rfl ?_
        refine Rn.goto 26 dX9_takes_65 (by decide) ?_
        exact ih (k + 1) (by omega)
  refine EvA.of (L := [some (.ref m), some (.int (nI i)), some (.int (nI 0)), none, none, none]) (by decide +kernel) (Nat.le_of_ble_eq_true rfl) rfl ?_
  refine Rn.iload_n (pc1 := 1)  dX9_takes_0 rfl rfl rfl ?_
  refine Rn.if_eq (pc1 := 4) 8 dX9_takes_1 rfl (by decide) (fun c1 => ?_) (fun c1 => ?_)
  · refine Rn.bipush (pc1 := 10) (v := nI 15) dX9_takes_8 rfl (by decide) ?_
    refine Rn.istore_n (pc1 := 11)  dX9_takes_10 rfl rfl (by decide) rfl rfl ?_
    refine Rn.iload_n (pc1 := 12)  dX9_takes_11 rfl rfl rfl ?_
    refine Rn.if_eq (pc1 := 15) 20 dX9_takes_12 rfl (by decide) (fun c12 => ?_) (fun c12 => ?_)
    · refine Rn.iconst (pc1 := 21) (v := nI 3) dX9_takes_20 rfl (by decide) ?_
      refine Rn.istore (pc1 := 23)  dX9_takes_21 rfl (by decide) rfl rfl ?_
      refine Rn.iconst (pc1 := 24) (v := nI 0) dX9_takes_23 rfl (by decide) ?_
      refine Rn.istore (pc1 := 26)  dX9_takes_24 rfl (by decide) rfl rfl ?_
      have := loop 12 0 (by omega); rw [blk_0, mset_id hA] at this; exact this
    · exact absurd rfl c12
  · exact absurd rfl c1
theorem eX9_loads {i n : Nat} (F : MR μ m f f2 p kept sl u pd padded at_ od ordered) (hi : i < 6) (hn : n < 4) : EvA G 2 kX9_loads [.ref m, .int (nI i), .int (nI n)] μ sz 0 0 (QR m (beginF f i (f (423 + 13 * n)) (fun k => f (423 + 13 * n + 1 + k))) f2 p kept sl u pd padded at_ od ordered (f (423 + 13 * n)) μ) := by
  have hO := F.1
  have hA := F.2.1
  refine EvA.of (L := [some (.ref m), some (.int (nI i)), some (.int (nI n)), none]) (by decide +kernel) (Nat.le_of_ble_eq_true rfl) rfl ?_
  refine Rn.sipush (pc1 := 3) (v := nI 423) dX9_loads_0 rfl (by decide) ?_
  refine Rn.bipush (pc1 := 5) (v := nI 13) dX9_loads_3 rfl (by decide) ?_
  refine Rn.iload_n (pc1 := 6)  dX9_loads_5 rfl rfl rfl ?_
  refine Rn.imul (pc1 := 7)  dX9_loads_6 rfl (nI_mul 13 n) ?_
  refine Rn.iadd (pc1 := 8)  dX9_loads_7 rfl (nI_add 423 (13 * n)) ?_
  refine Rn.istore_n (pc1 := 9)  dX9_loads_8 rfl rfl (by decide) rfl rfl ?_
  refine Rn.aload_n (pc1 := 10)  dX9_loads_9 rfl rfl rfl ?_
  refine Rn.iload_n (pc1 := 11)  dX9_loads_10 rfl rfl rfl ?_
  refine Rn.aload_n (pc1 := 12)  dX9_loads_11 rfl rfl rfl ?_
  refine Rn.getfield (pc1 := 15)  dX9_loads_12 rfl fX9_7 (by first | assumption | exact mset_same | exact mget_ne (by omega) (by assumption)) rfl ?_
  refine Rn.iload_n (pc1 := 16)  dX9_loads_15 rfl rfl rfl ?_
  refine Rn.iaload (pc1 := 17) (v := f (423 + 13 * n))  dX9_loads_16 rfl (by first | assumption | exact mset_same | exact mget_ne (by omega) (by assumption)) (vp_nI (j := 423 + 13 * n) rfl (by omega) (by decide)) (by rw [nI_clamp (by omega)] <;> (first | rfl | assumption | (simp (disch := omega) only [upd_ne, upd_at, blk_out]; done) | (simp (disch := omega) only [upd_ne, upd_at, blk_out]; assumption))) ?_
  refine Rn.iload_n (pc1 := 18)  dX9_loads_17 rfl rfl rfl ?_
  refine Rn.iconst (pc1 := 19) (v := nI 1) dX9_loads_18 rfl (by decide) ?_
  refine Rn.iadd (pc1 := 20)  dX9_loads_19 rfl (nI_add (423 + 13 * n) 1) ?_
  refine Rn.cV_i (pc1 := 23) (eX9_begins F hi (Or.inr ⟨_, rfl, by omega, by omega, rfl⟩)) dX9_loads_20 rfl qX9_98 oX9_begins (by first | assumption | exact mset_same | exact mget_ne (by omega) (by assumption)) rfl rfl rfl rfl (Nat.le_of_ble_eq_true rfl) (by decide) (by decide) (fun v20 μ20 h20 => ?_)
  obtain ⟨rfl, F2, w2⟩ := h20
  exact Rn.ireturn dX9_loads_23 rfl rfl ⟨_, rfl, rfl, F2, w2⟩
theorem eX9_reads {i M : Nat} (F : MR μ m f f2 p kept sl u pd padded at_ od ordered) (I : IV f h rc sc B) (hB : B < 2 ^ 30) (hi : i < 6) (hM : M ≤ 99) : EvA G 1 kX9_reads [.ref m, .int (nI i), .int (nI M)] μ sz 0 0 (QR m (readF f i (rdK f h i) (rdC f h i M)) f2 p kept sl u pd padded at_ od ordered (nI (rdC f h i M)) μ) := by
  have hO := F.1
  have hA := F.2.1
  have h6 := I.1.1
  have hh := I.2.1.1
  obtain ⟨N, nn, hN, hf3, hnn, hsr⟩ := I.2.2.2.1
  obtain ⟨k, hk, k2, k3⟩ : ∃ k, k ≤ h ∧ (∀ j, j < k → e0 f j < f (261 + 27 * i)) ∧ (k < h → f (261 + 27 * i) ≤ e0 f k) := by
    have : ∀ n k, k + n = h → (∀ j, j < k → e0 f j < f (261 + 27 * i)) → ∃ k, k ≤ h ∧ (∀ j, j < k → e0 f j < f (261 + 27 * i)) ∧ (k < h → f (261 + 27 * i) ≤ e0 f k) := by
      intro n
      induction n with
      | zero => intro k e q; exact ⟨k, by omega, q, fun z => by omega⟩
      | succ n ih =>
        intro k e q
        by_cases z : e0 f k < f (261 + 27 * i)
        · exact ih (k + 1) (by omega) (fun j hj => by
            rcases Nat.lt_or_ge j k with y | y
            · exact q j y
            · rw [show j = k by omega]; exact z)
        · exact ⟨k, by omega, q, fun _ => i32_nlt.mp z⟩
    exact this h 0 (by omega) (fun j hj => by omega)
  have ec := cntA_eq (I.srt (by omega)) k2 k3 (Nat.le_refl h)
  have ek : rdK f h i = k := by show h - cntA f _ h = k; rw [ec]; omega
  have ed : rdC f h i M = min M (h - k) := by show min M (cntA f _ h) = _; rw [ec]
  rw [ek, ed]
  have last : ∀ (e n : Nat), n = min M (h - k) → Rn G 1 kX9_reads 106 [some (.ref m), some (.int (nI i)), some (.int (nI M)), some (.int (nI n)), some (.int (nI e))] [] (mset μ (m + 1) (ints 475 (rdA f i k n))) sz 0 0 (QR m (readF f i k (min M (h - k))) f2 p kept sl u pd padded at_ od ordered (nI (min M (h - k))) μ) := by
    rintro e n rfl
    refine Rn.aload_n (pc1 := 107)  dX9_reads_106 rfl rfl rfl ?_
    refine Rn.getfield (pc1 := 110)  dX9_reads_107 rfl fX9_7 (by first | assumption | exact mset_same | exact mget_ne (by omega) (by assumption)) rfl ?_
    refine Rn.iload_n (pc1 := 111)  dX9_reads_110 rfl rfl rfl ?_
    refine Rn.cS_i (pc1 := 114) (eX9_row) dX9_reads_111 rfl qX9_62 oX9_row rfl rfl (Nat.le_of_ble_eq_true rfl) (by decide) (by decide) (fun v111 μ111 h111 => ?_)
    obtain ⟨rfl, rfl⟩ := h111
    refine Rn.iconst (pc1 := 115) (v := nI 2) dX9_reads_114 rfl (by decide) ?_
    refine Rn.iadd (pc1 := 116)  dX9_reads_115 rfl (nI_add (261 + 27 * i) 2) ?_
    refine Rn.dup2 (pc1 := 117)  dX9_reads_116 rfl rfl rfl ?_
    refine Rn.iaload (pc1 := 118) (v := f (261 + 27 * i + 2))  dX9_reads_117 rfl mset_same (vp_nI (j := 261 + 27 * i + 2) rfl (by omega) (by decide)) (by rw [nI_clamp (by omega)]; exact rdA_out (by omega)) ?_
    refine Rn.iload_n (pc1 := 119)  dX9_reads_118 rfl rfl rfl ?_
    refine Rn.iadd (pc1 := 120)  dX9_reads_119 rfl rfl ?_
    refine Rn.iastore (pc1 := 121)  dX9_reads_120 rfl (by first | assumption | exact mset_same | exact mget_ne (by omega) (by assumption)) (vp_nI (j := 261 + 27 * i + 2) rfl (by omega) (by decide)) (updI (j := 261 + 27 * i + 2) rfl (by omega)) ?_
    rw [mset_mset]
    refine Rn.iload_n (pc1 := 122)  dX9_reads_121 rfl rfl rfl ?_
    exact Rn.ireturn dX9_reads_122 rfl rfl ⟨_, rfl, rfl, F.set1 (readF f i k (min M (h - k))), Fr.set (by omega) (by omega)⟩
  have loop : ∀ (t e n : Nat), e + t = h → n = e - k → n ≤ M → Rn G 1 kX9_reads 5 [some (.ref m), some (.int (nI i)), some (.int (nI M)), some (.int (nI n)), some (.int (nI e))] [] (mset μ (m + 1) (ints 475 (rdA f i k n))) sz 0 0 (QR m (readF f i k (min M (h - k))) f2 p kept sl u pd padded at_ od ordered (nI (min M (h - k))) μ) := by
    intro t
    induction t with
    | zero =>
      intro e n he hn hM2
      obtain rfl : e = h := by omega
      refine Rn.iload (pc1 := 7)  dX9_reads_5 rfl rfl ?_
      refine Rn.aload_n (pc1 := 8)  dX9_reads_7 rfl rfl rfl ?_
      refine Rn.getfield (pc1 := 11)  dX9_reads_8 rfl fX9_7 (by first | assumption | exact mset_same | exact mget_ne (by omega) (by assumption)) rfl ?_
      refine Rn.bipush (pc1 := 13) (v := nI 6) dX9_reads_11 rfl (by decide) ?_
      refine Rn.iaload (pc1 := 14) (v := nI e)  dX9_reads_13 rfl mset_same (vp_nI (j := 6) rfl (by omega) (by decide)) ((rdA_out (j := 6) (Or.inl (by omega))).trans h6) ?_
      refine Rn.icmp_ge (pc1 := 17) 106 dX9_reads_14 rfl (by decide) (fun c14 => ?_) (fun c14 => ?_)
      · exact last e n (by omega)
      · exact absurd (nI_le (Nat.le_refl _) (by omega)) c14
    | succ t ih =>
      intro e n he hn hM2
      have hA1 : mset μ (m + 1) (ints 475 (rdA f i k n)) (m + 1) = some (ints 475 (rdA f i k n)) := mset_same
      obtain ⟨q, hq1, hq2⟩ := I.2.2.2.2.1 e (by omega)
      refine Rn.iload (pc1 := 7)  dX9_reads_5 rfl rfl ?_
      refine Rn.aload_n (pc1 := 8)  dX9_reads_7 rfl rfl rfl ?_
      refine Rn.getfield (pc1 := 11)  dX9_reads_8 rfl fX9_7 (by first | assumption | exact mset_same | exact mget_ne (by omega) (by assumption)) rfl ?_
      refine Rn.bipush (pc1 := 13) (v := nI 6) dX9_reads_11 rfl (by decide) ?_
      refine Rn.iaload (pc1 := 14) (v := nI h)  dX9_reads_13 rfl mset_same (vp_nI (j := 6) rfl (by omega) (by decide)) ((rdA_out (j := 6) (Or.inl (by omega))).trans h6) ?_
      refine Rn.icmp_ge (pc1 := 17) 106 dX9_reads_14 rfl (by decide) (fun c14 => ?_) (fun c14 => ?_)
      · exact absurd c14 (nI_ge (by omega) (by omega))
      · refine Rn.iload_n (pc1 := 18)  dX9_reads_17 rfl rfl rfl ?_
        refine Rn.iload_n (pc1 := 19)  dX9_reads_18 rfl rfl rfl ?_
        refine Rn.icmp_ge (pc1 := 22) 106 dX9_reads_19 rfl (by decide) (fun c19 => ?_) (fun c19 => ?_)
        · have n2 : M ≤ n := by
            rcases Nat.lt_or_ge n M with z | z
            · exact absurd c19 (nI_ge z (by omega))
            · exact z
          exact last e n (by omega)
        · have n2 : n < M := by
            rcases Nat.lt_or_ge n M with z | z
            · exact z
            · exact absurd (nI_le z (by omega)) c19
          refine Rn.aload_n (pc1 := 23)  dX9_reads_22 rfl rfl rfl ?_
          refine Rn.getfield (pc1 := 26)  dX9_reads_23 rfl fX9_7 (by first | assumption | exact mset_same | exact mget_ne (by omega) (by assumption)) rfl ?_
          refine Rn.iload (pc1 := 28)  dX9_reads_26 rfl rfl ?_
          refine Rn.iconst (pc1 := 29) (v := nI 0) dX9_reads_28 rfl (by decide) ?_
          refine Rn.cS_i (pc1 := 32) (eX9_of hA1 (show 21 + 4 * e + 0 < 475 by omega)) dX9_reads_29 rfl qX9_47 oX9_of rfl rfl (Nat.le_of_ble_eq_true rfl) (by decide) (by decide) (fun v29 μ29 h29 => ?_)
          obtain ⟨rfl, rfl⟩ := h29
          rw [rdA_out (show 21 + 4 * e + 0 < 261 + 27 * i ∨ _ by omega)]
          refine Rn.aload_n (pc1 := 33)  dX9_reads_32 rfl rfl rfl ?_
          refine Rn.getfield (pc1 := 36)  dX9_reads_33 rfl fX9_7 (by first | assumption | exact mset_same | exact mget_ne (by omega) (by assumption)) rfl ?_
          refine Rn.iload_n (pc1 := 37)  dX9_reads_36 rfl rfl rfl ?_
          refine Rn.cS_i (pc1 := 40) (eX9_row) dX9_reads_37 rfl qX9_62 oX9_row rfl rfl (Nat.le_of_ble_eq_true rfl) (by decide) (by decide) (fun v37 μ37 h37 => ?_)
          obtain ⟨rfl, rfl⟩ := h37
          refine Rn.iaload (pc1 := 41) (v := plN (e0 f) (f (261 + 27 * i)) k n)  dX9_reads_40 rfl mset_same (vp_nI (j := 261 + 27 * i) rfl (by omega) (by decide)) (by rw [nI_clamp (by omega)]; exact upd_at rfl) ?_
          refine Rn.icmp_lt (pc1 := 44) 100 dX9_reads_41 rfl (by decide) (fun c41 => ?_) (fun c41 => ?_)
          · have ke : e < k := by
              rcases Nat.lt_or_ge e k with z | z
              · exact z
              · exfalso
                rcases Nat.eq_zero_or_pos n with y | y
                · subst y
                  rw [show k = e by omega] at k3
                  exact i32_nlt.mpr (k3 (by omega)) c41
                · obtain ⟨n', rfl⟩ : ∃ n', n = n' + 1 := ⟨n - 1, by omega⟩
                  have e9 : plN (e0 f) (f (261 + 27 * i)) k (n' + 1) = nI (nn (k + n') + 1) := by show e0 f (k + n') + nI 1 = _; rw [(hnn (k + n') (by omega)).1, nI_add]
                  rw [e9, show f (21 + 4 * e + 0) = nI (nn e) from (hnn e (by omega)).1] at c41
                  have := hsr (k + n') e (by omega) (by omega)
                  exact i32_nlt.mpr (nI_le (show nn (k + n') + 1 ≤ nn e by omega) (by have := (hnn e (by omega)).2; omega)) c41
            refine Rn.iinc (pc1 := 103)  dX9_reads_100 rfl rfl (nI_1 _) (by decide) rfl rfl ?_
            refine Rn.goto 5 dX9_reads_103 (by decide) ?_
            exact ih _ _ (by omega) (by omega) (by omega)
          · have ke : k ≤ e := by
              rcases Nat.lt_or_ge e k with z | z
              · exfalso
                rw [show n = 0 by omega] at c41
                exact c41 (k2 e z)
              · exact z
            obtain rfl : e = k + n := by omega
            refine Rn.aload_n (pc1 := 45)  dX9_reads_44 rfl rfl rfl ?_
            refine Rn.getfield (pc1 := 48)  dX9_reads_45 rfl fX9_7 (by first | assumption | exact mset_same | exact mget_ne (by omega) (by assumption)) rfl ?_
            refine Rn.iload_n (pc1 := 49)  dX9_reads_48 rfl rfl rfl ?_
            refine Rn.cS_i (pc1 := 52) (eX9_row) dX9_reads_49 rfl qX9_62 oX9_row rfl rfl (Nat.le_of_ble_eq_true rfl) (by decide) (by decide) (fun v49 μ49 h49 => ?_)
            obtain ⟨rfl, rfl⟩ := h49
            refine Rn.iconst (pc1 := 53) (v := nI 3) dX9_reads_52 rfl (by decide) ?_
            refine Rn.iadd (pc1 := 54)  dX9_reads_53 rfl (nI_add (261 + 27 * i) 3) ?_
            refine Rn.aload_n (pc1 := 55)  dX9_reads_54 rfl rfl rfl ?_
            refine Rn.getfield (pc1 := 58)  dX9_reads_55 rfl fX9_7 (by first | assumption | exact mset_same | exact mget_ne (by omega) (by assumption)) rfl ?_
            refine Rn.iload (pc1 := 60)  dX9_reads_58 rfl rfl ?_
            refine Rn.iconst (pc1 := 61) (v := nI 1) dX9_reads_60 rfl (by decide) ?_
            refine Rn.cS_i (pc1 := 64) (eX9_of hA1 (show 21 + 4 * (k + n) + 1 < 475 by omega)) dX9_reads_61 rfl qX9_47 oX9_of rfl rfl (Nat.le_of_ble_eq_true rfl) (by decide) (by decide) (fun v61 μ61 h61 => ?_)
            obtain ⟨rfl, rfl⟩ := h61
            rw [rdA_out (show 21 + 4 * (k + n) + 1 < 261 + 27 * i ∨ _ by omega), show f (21 + 4 * (k + n) + 1) = nI q from hq2]
            refine Rn.iadd (pc1 := 65)  dX9_reads_64 rfl (nI_add (261 + 27 * i + 3) q) ?_
            refine Rn.aload_n (pc1 := 66)  dX9_reads_65 rfl rfl rfl ?_
            refine Rn.getfield (pc1 := 69)  dX9_reads_66 rfl fX9_7 (by first | assumption | exact mset_same | exact mget_ne (by omega) (by assumption)) rfl ?_
            refine Rn.iload (pc1 := 71)  dX9_reads_69 rfl rfl ?_
            refine Rn.iconst (pc1 := 72) (v := nI 2) dX9_reads_71 rfl (by decide) ?_
            refine Rn.cS_i (pc1 := 75) (eX9_of hA1 (show 21 + 4 * (k + n) + 2 < 475 by omega)) dX9_reads_72 rfl qX9_47 oX9_of rfl rfl (Nat.le_of_ble_eq_true rfl) (by decide) (by decide) (fun v72 μ72 h72 => ?_)
            obtain ⟨rfl, rfl⟩ := h72
            rw [rdA_out (show 21 + 4 * (k + n) + 2 < 261 + 27 * i ∨ _ by omega)]
            refine Rn.iastore (pc1 := 76)  dX9_reads_75 rfl (by first | assumption | exact mset_same | exact mget_ne (by omega) (by assumption)) (vp_nI (j := 261 + 27 * i + 3 + q) rfl (by omega) (by decide)) (updI (j := 261 + 27 * i + 3 + q) rfl (by omega)) ?_
            rw [mset_mset]
            refine Rn.aload_n (pc1 := 77)  dX9_reads_76 rfl rfl rfl ?_
            refine Rn.getfield (pc1 := 80)  dX9_reads_77 rfl fX9_7 (by first | assumption | exact mset_same | exact mget_ne (by omega) (by assumption)) rfl ?_
            refine Rn.iload_n (pc1 := 81)  dX9_reads_80 rfl rfl rfl ?_
            refine Rn.cS_i (pc1 := 84) (eX9_row) dX9_reads_81 rfl qX9_62 oX9_row rfl rfl (Nat.le_of_ble_eq_true rfl) (by decide) (by decide) (fun v81 μ81 h81 => ?_)
            obtain ⟨rfl, rfl⟩ := h81
            refine Rn.aload_n (pc1 := 85)  dX9_reads_84 rfl rfl rfl ?_
            refine Rn.getfield (pc1 := 88)  dX9_reads_85 rfl fX9_7 (by first | assumption | exact mset_same | exact mget_ne (by omega) (by assumption)) rfl ?_
            refine Rn.iload (pc1 := 90)  dX9_reads_88 rfl rfl ?_
            refine Rn.iconst (pc1 := 91) (v := nI 0) dX9_reads_90 rfl (by decide) ?_
            refine Rn.cS_i (pc1 := 94) (eX9_of mset_same (show 21 + 4 * (k + n) + 0 < 475 by omega)) dX9_reads_91 rfl qX9_47 oX9_of rfl rfl (Nat.le_of_ble_eq_true rfl) (by decide) (by decide) (fun v91 μ91 h91 => ?_)
            obtain ⟨rfl, rfl⟩ := h91
            rw [upd_ne (by omega), rdA_out (show 21 + 4 * (k + n) + 0 < 261 + 27 * i ∨ _ by omega)]
            refine Rn.iconst (pc1 := 95) (v := nI 1) dX9_reads_94 rfl (by decide) ?_
            refine Rn.iadd (pc1 := 96)  dX9_reads_95 rfl rfl ?_
            refine Rn.iastore (pc1 := 97) (f' := rdA f i k (n + 1))  dX9_reads_96 rfl mset_same (vp_nI (j := 261 + 27 * i) rfl (by omega) (by decide)) (by rw [updI (j := 261 + 27 * i) rfl (by omega)]; exact rdA_s hq2 hq1) ?_
            rw [mset_mset]
            refine Rn.iinc (pc1 := 100)  dX9_reads_97 rfl rfl (nI_1 n) (by decide) rfl rfl ?_
            refine Rn.iinc (pc1 := 103)  dX9_reads_100 rfl rfl (nI_1 _) (by decide) rfl rfl ?_
            refine Rn.goto 5 dX9_reads_103 (by decide) ?_
            exact ih _ _ (by omega) (by omega) (by omega)
  refine EvA.of (L := [some (.ref m), some (.int (nI i)), some (.int (nI M)), none, none]) (by decide +kernel) (Nat.le_of_ble_eq_true rfl) rfl ?_
  refine Rn.iconst (pc1 := 1) (v := nI 0) dX9_reads_0 rfl (by decide) ?_
  refine Rn.istore_n (pc1 := 2)  dX9_reads_1 rfl rfl (by decide) rfl rfl ?_
  refine Rn.iconst (pc1 := 3) (v := nI 0) dX9_reads_2 rfl (by decide) ?_
  refine Rn.istore (pc1 := 5)  dX9_reads_3 rfl (by decide) rfl rfl ?_
  have := loop h 0 0 (by omega) (by omega) (by omega); rw [rdA_0, mset_id hA] at this; exact this
end M3
