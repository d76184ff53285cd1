/-! ===== the reference: the shortest way ===== -/
section M8
variable {G : GG} {μ : Mm} {sz m kept padded at_ ordered h rc sc B : Nat} {f f2 p sl pd od : Nat → Int32} {u : Nat → Bool}
theorem shN_hi {f : Nat → Int32} {h sc i : Nat} (n : Nat) : (shN f h sc i n).1 ≤ 5 := (shN_ok f h sc i n).2
theorem eX9_shortest {r w : Int32} (F : MR μ m f f2 p kept sl u pd padded at_ od ordered) (I : IV f h rc sc B) : EvA G 3 kX9_shortest [.ref m, .int r, .int w] μ sz 0 0 (rI fun v μ' => v = shortestQ f h rc sc r w ∧ μ' = μ) := by
  have hO := F.1
  have hA := F.2.1
  have hrc := I.2.1.2.1
  have hsc := I.2.1.2.2
  have hh := I.2.1.1
  have hcl : ∀ pl, nI (cntA f pl h) ≠ -6 := fun pl q => by
    have h1 := cntA_le f pl h
    have : nI 0 ≤ nI (cntA f pl h) := nI_le (Nat.zero_le _) (by omega)
    rw [q] at this
    exact absurd this (by decide)
  have loop : ∀ (i : Nat), i < rc → ∀ (e n : Nat), n + e = 5 → ∀ o6 o7 : Option Value, Rn G 3 kX9_shortest 36 [some (.ref m), some (.int (nI i)), some (.int w), some (.int (nI (shN f h sc i n).1)), some (.int (shN f h sc i n).2), some (.int (nI e - nI 1)), o6, o7] [] μ sz 0 0 (rI fun v μ' => v = (if w = nI 0 then nI (shN f h sc i 5).1 else (shN f h sc i 5).2) ∧ μ' = μ) := by
    intro i hi e
    induction e with
    | zero =>
      intro n hn o6 o7
      obtain rfl : n = 5 := by omega
      refine Rn.iload (pc1 := 38)  dX9_shortest_36 rfl rfl ?_
      refine Rn.if_lt (pc1 := 41) 152 dX9_shortest_38 rfl (by decide) (fun c38 => ?_) (fun c38 => ?_)
      · refine Rn.iload_n (pc1 := 153)  dX9_shortest_152 rfl rfl rfl ?_
        refine Rn.if_ne (pc1 := 156) 160 dX9_shortest_153 rfl (by decide) (fun c153 => ?_) (fun c153 => ?_)
        · rw [if_neg c153]
          refine Rn.iload (pc1 := 162)  dX9_shortest_160 rfl rfl ?_
          exact Rn.ireturn dX9_shortest_162 rfl rfl ⟨_, rfl, rfl, rfl⟩
        · rw [if_pos c153]
          refine Rn.iload_n (pc1 := 157)  dX9_shortest_156 rfl rfl rfl ?_
          refine Rn.goto 162 dX9_shortest_157 (by decide) ?_
          exact Rn.ireturn dX9_shortest_162 rfl rfl ⟨_, rfl, rfl, rfl⟩
      · exact absurd (by decide) c38
    | succ e ih =>
      intro n hn o6 o7
      have ee : nI (e + 1) - nI 1 = nI e := nI_sub (by omega)
      have e4 : 4 - n = e := by omega
      have N : ∀ (x : Nat × Int32), x = shN f h sc i (n + 1) → ∀ o6 o7 : Option Value, Rn G 3 kX9_shortest 146 [some (.ref m), some (.int (nI i)), some (.int w), some (.int (nI x.1)), some (.int x.2), some (.int (nI e)), o6, o7] [] μ sz 0 0 (rI fun v μ' => v = (if w = nI 0 then nI (shN f h sc i 5).1 else (shN f h sc i 5).2) ∧ μ' = μ) := by
        rintro x rfl o6 o7
        refine Rn.iinc (pc1 := 149)  dX9_shortest_146 rfl rfl (show nI e + Int32.ofInt (-1) = nI e - nI 1 by rw [show Int32.ofInt (-1) = - nI 1 from by decide, ← Int32.sub_eq_add_neg]) (by decide) rfl rfl ?_
        refine Rn.goto 36 dX9_shortest_149 (by decide) ?_
        exact ih (n + 1) (by omega) _ _
      have J : ∀ (fl pl : Int32), (fl = nI 0 ∧ wayF f h sc i e = -6 ∨ fl = nI 1 ∧ wayF f h sc i e = nI (cntA f pl h)) → Rn G 3 kX9_shortest 119 [some (.ref m), some (.int (nI i)), some (.int w), some (.int (nI (shN f h sc i n).1)), some (.int (shN f h sc i n).2), some (.int (nI e)), some (.int fl), some (.int pl)] [] μ sz 0 0 (rI fun v μ' => v = (if w = nI 0 then nI (shN f h sc i 5).1 else (shN f h sc i 5).2) ∧ μ' = μ) := by
        intro fl pl hc
        have es : shN f h sc i (n + 1) = if ¬ wayF f h sc i e = -6 ∧ wayF f h sc i e ≤ (shN f h sc i n).2 then (e, wayF f h sc i e) else shN f h sc i n := by rw [← e4]; rfl
        rcases hc with ⟨rfl, hw⟩ | ⟨rfl, hw⟩
        · rw [hw, if_neg (fun q => q.1 rfl)] at es
          refine Rn.iload (pc1 := 121)  dX9_shortest_119 rfl rfl ?_
          refine Rn.if_eq (pc1 := 124) 146 dX9_shortest_121 rfl (by decide) (fun c121 => ?_) (fun c121 => ?_)
          · exact N (shN f h sc i n) es.symm _ _
          · exact absurd rfl c121
        · rw [hw] at es
          refine Rn.iload (pc1 := 121)  dX9_shortest_119 rfl rfl ?_
          refine Rn.if_eq (pc1 := 124) 146 dX9_shortest_121 rfl (by decide) (fun c121 => ?_) (fun c121 => ?_)
          · exact absurd c121 (by decide)
          · refine Rn.aload_n (pc1 := 125)  dX9_shortest_124 rfl rfl rfl ?_
            refine Rn.iload (pc1 := 127)  dX9_shortest_125 rfl rfl ?_
            refine Rn.cV_i (pc1 := 130) (eX9_ahead F I) dX9_shortest_127 rfl qX9_127 oX9_ahead (by first | assumption | exact mset_same | exact mget_ne (by omega) (by assumption)) rfl rfl rfl rfl (Nat.le_of_ble_eq_true rfl) (by decide) (by decide) (fun v127 μ127 h127 => ?_)
            obtain ⟨rfl, rfl⟩ := h127
            refine Rn.iload (pc1 := 132)  dX9_shortest_130 rfl rfl ?_
            refine Rn.icmp_gt (pc1 := 135) 146 dX9_shortest_132 rfl (by decide) (fun c132 => ?_) (fun c132 => ?_)
            · have es2 : shN f h sc i (n + 1) = shN f h sc i n := es.trans (if_neg (fun q => i32_nlt.mpr q.2 c132))
              first | exact N (shN f h sc i n) es2.symm _ _ | exact N (e, nI (cntA f pl h)) es2.symm _ _
            · have es2 : shN f h sc i (n + 1) = (e, nI (cntA f pl h)) := es.trans (if_pos ⟨hcl pl, i32_nlt.mp c132⟩)
              refine Rn.iload (pc1 := 137)  dX9_shortest_135 rfl rfl ?_
              refine Rn.istore_n (pc1 := 138)  dX9_shortest_137 rfl rfl (by decide) rfl rfl ?_
              refine Rn.aload_n (pc1 := 139)  dX9_shortest_138 rfl rfl rfl ?_
              refine Rn.iload (pc1 := 141)  dX9_shortest_139 rfl rfl ?_
              refine Rn.cV_i (pc1 := 144) (eX9_ahead F I) dX9_shortest_141 rfl qX9_127 oX9_ahead (by first | assumption | exact mset_same | exact mget_ne (by omega) (by assumption)) rfl rfl rfl rfl (Nat.le_of_ble_eq_true rfl) (by decide) (by decide) (fun v141 μ141 h141 => ?_)
              obtain ⟨rfl, rfl⟩ := h141
              refine Rn.istore (pc1 := 146)  dX9_shortest_144 rfl (by decide) rfl rfl ?_
              first | exact N (shN f h sc i n) es2.symm _ _ | exact N (e, nI (cntA f pl h)) es2.symm _ _
      rw [ee]
      cases e with
      | zero =>
        have ew : wayF f h sc i 0 = if lateB (f (261 + 27 * i)) (f 4) = true then -6 else nI (cntA f (f (261 + 27 * i)) h) := rfl
        refine Rn.iload (pc1 := 38)  dX9_shortest_36 rfl rfl ?_
        refine Rn.if_lt (pc1 := 41) 152 dX9_shortest_38 rfl (by decide) (fun c38 => ?_) (fun c38 => ?_)
        · exact absurd c38 (by decide)
        · refine Rn.iload (pc1 := 43)  dX9_shortest_41 rfl rfl ?_
          refine Rn.if_ne (pc1 := 46) 65 dX9_shortest_43 rfl (by decide) (fun c43 => ?_) (fun c43 => ?_)
          · exact absurd rfl c43
          · refine Rn.aload_n (pc1 := 47)  dX9_shortest_46 rfl rfl rfl ?_
            refine Rn.getfield (pc1 := 50)  dX9_shortest_47 rfl fX9_7 (by first | assumption | exact mset_same | exact mget_ne (by omega) (by assumption)) rfl ?_
            refine Rn.iload_n (pc1 := 51)  dX9_shortest_50 rfl rfl rfl ?_
            refine Rn.cS_i (pc1 := 54) (eX9_isLate hA (show i < 6 by omega)) dX9_shortest_51 rfl qX9_69 oX9_isLate rfl rfl (Nat.le_of_ble_eq_true rfl) (by decide) (by decide) (fun v51 μ51 h51 => ?_)
            obtain ⟨rfl, rfl⟩ := h51
            refine Rn.if_ne (pc1 := 57) 61 dX9_shortest_54 rfl (by decide) (fun c54 => ?_) (fun c54 => ?_)
            · refine Rn.iconst (pc1 := 62) (v := nI 0) dX9_shortest_61 rfl (by decide) ?_
              refine Rn.goto 82 dX9_shortest_62 (by decide) ?_
              refine Rn.istore (pc1 := 84)  dX9_shortest_82 rfl (by decide) rfl rfl ?_
              refine Rn.iload (pc1 := 86)  dX9_shortest_84 rfl rfl ?_
              refine Rn.if_ne (pc1 := 89) 101 dX9_shortest_86 rfl (by decide) (fun c86 => ?_) (fun c86 => ?_)
              · exact absurd rfl c86
              · refine Rn.aload_n (pc1 := 90)  dX9_shortest_89 rfl rfl rfl ?_
                refine Rn.getfield (pc1 := 93)  dX9_shortest_90 rfl fX9_7 (by first | assumption | exact mset_same | exact mget_ne (by omega) (by assumption)) rfl ?_
                refine Rn.iload_n (pc1 := 94)  dX9_shortest_93 rfl rfl rfl ?_
                refine Rn.cS_i (pc1 := 97) (eX9_row) dX9_shortest_94 rfl qX9_62 oX9_row rfl rfl (Nat.le_of_ble_eq_true rfl) (by decide) (by decide) (fun v94 μ94 h94 => ?_)
                obtain ⟨rfl, rfl⟩ := h94
                refine Rn.iaload (pc1 := 98) (v := f (261 + 27 * i))  dX9_shortest_97 rfl (by first | assumption | exact mset_same | exact mget_ne (by omega) (by assumption)) (vp_nI (j := 261 + 27 * i) rfl (by omega) (by decide)) (by rw [nI_clamp (by omega)] <;> (first | rfl | assumption | (simp (disch := omega) only [upd_ne, upd_at, blk_out]; done) | (simp (disch := omega) only [upd_ne, upd_at, blk_out]; assumption))) ?_
                refine Rn.goto 117 dX9_shortest_98 (by decide) ?_
                refine Rn.istore (pc1 := 119)  dX9_shortest_117 rfl (by decide) rfl rfl ?_
                first | exact J _ _ (Or.inr ⟨rfl, by rw [ew, bI_0 c54]; rfl⟩) | exact J _ _ (Or.inl ⟨rfl, by rw [ew, bI_n c54]; rfl⟩)
            · refine Rn.iconst (pc1 := 58) (v := nI 1) dX9_shortest_57 rfl (by decide) ?_
              refine Rn.goto 82 dX9_shortest_58 (by decide) ?_
              refine Rn.istore (pc1 := 84)  dX9_shortest_82 rfl (by decide) rfl rfl ?_
              refine Rn.iload (pc1 := 86)  dX9_shortest_84 rfl rfl ?_
              refine Rn.if_ne (pc1 := 89) 101 dX9_shortest_86 rfl (by decide) (fun c86 => ?_) (fun c86 => ?_)
              · exact absurd rfl c86
              · refine Rn.aload_n (pc1 := 90)  dX9_shortest_89 rfl rfl rfl ?_
                refine Rn.getfield (pc1 := 93)  dX9_shortest_90 rfl fX9_7 (by first | assumption | exact mset_same | exact mget_ne (by omega) (by assumption)) rfl ?_
                refine Rn.iload_n (pc1 := 94)  dX9_shortest_93 rfl rfl rfl ?_
                refine Rn.cS_i (pc1 := 97) (eX9_row) dX9_shortest_94 rfl qX9_62 oX9_row rfl rfl (Nat.le_of_ble_eq_true rfl) (by decide) (by decide) (fun v94 μ94 h94 => ?_)
                obtain ⟨rfl, rfl⟩ := h94
                refine Rn.iaload (pc1 := 98) (v := f (261 + 27 * i))  dX9_shortest_97 rfl (by first | assumption | exact mset_same | exact mget_ne (by omega) (by assumption)) (vp_nI (j := 261 + 27 * i) rfl (by omega) (by decide)) (by rw [nI_clamp (by omega)] <;> (first | rfl | assumption | (simp (disch := omega) only [upd_ne, upd_at, blk_out]; done) | (simp (disch := omega) only [upd_ne, upd_at, blk_out]; assumption))) ?_
                refine Rn.goto 117 dX9_shortest_98 (by decide) ?_
                refine Rn.istore (pc1 := 119)  dX9_shortest_117 rfl (by decide) rfl rfl ?_
                first | exact J _ _ (Or.inr ⟨rfl, by rw [ew, bI_0 c54]; rfl⟩) | exact J _ _ (Or.inl ⟨rfl, by rw [ew, bI_n c54]; rfl⟩)
      | succ e =>
        have ee2 : nI (e + 1) - nI 1 = nI e := nI_sub (by omega)
        have ew : wayF f h sc i (e + 1) = if e < sc then auF f h (f (423 + 13 * e)) else -6 := by
          unfold wayF
          rw [if_neg (by omega), if_neg (by omega), show e + 1 - 1 = e by omega]
        have em : mayLoadF f rc sc (nI i) (nI e) = if e < sc then (if lateB (f (423 + 13 * e)) (f 4) = true then -5 else nI 0) else -1 := by
          unfold mayLoadF
          by_cases z : e < sc
          · rw [if_pos ⟨isRdB_of (by omega) hi, isRdB_of (by omega) z⟩, if_pos z, nI_clamp (by omega)]
          · rw [if_neg z]
            refine if_neg (fun q => ?_)
            obtain ⟨j, hj, q2⟩ := isRdB_t (rc := sc) (by omega) q.2
            exact z (by rw [(nI_eq (by omega) (by omega)).mp q2]; exact hj)
        refine Rn.iload (pc1 := 38)  dX9_shortest_36 rfl rfl ?_
        refine Rn.if_lt (pc1 := 41) 152 dX9_shortest_38 rfl (by decide) (fun c38 => ?_) (fun c38 => ?_)
        · exact absurd c38 (i32_nlt.mpr (nI_le (Nat.zero_le _) (by omega)))
        · refine Rn.iload (pc1 := 43)  dX9_shortest_41 rfl rfl ?_
          refine Rn.if_ne (pc1 := 46) 65 dX9_shortest_43 rfl (by decide) (fun c43 => ?_) (fun c43 => ?_)
          · refine Rn.aload_n (pc1 := 66)  dX9_shortest_65 rfl rfl rfl ?_
            refine Rn.iload_n (pc1 := 67)  dX9_shortest_66 rfl rfl rfl ?_
            refine Rn.iload (pc1 := 69)  dX9_shortest_67 rfl rfl ?_
            refine Rn.iconst (pc1 := 70) (v := nI 1) dX9_shortest_69 rfl (by decide) ?_
            refine Rn.isub (pc1 := 71)  dX9_shortest_70 rfl ee2 ?_
            refine Rn.cV_i (pc1 := 74) (eX9_mayLoad F I) dX9_shortest_71 rfl qX9_121 oX9_mayLoad (by first | assumption | exact mset_same | exact mget_ne (by omega) (by assumption)) rfl rfl rfl rfl (Nat.le_of_ble_eq_true rfl) (by decide) (by decide) (fun v71 μ71 h71 => ?_)
            obtain ⟨rfl, rfl⟩ := h71
            rw [em]
            refine Rn.if_ne (pc1 := 77) 81 dX9_shortest_74 rfl (by decide) (fun c74 => ?_) (fun c74 => ?_)
            · refine Rn.iconst (pc1 := 82) (v := nI 0) dX9_shortest_81 rfl (by decide) ?_
              refine Rn.istore (pc1 := 84)  dX9_shortest_82 rfl (by decide) rfl rfl ?_
              refine Rn.iload (pc1 := 86)  dX9_shortest_84 rfl rfl ?_
              refine Rn.if_ne (pc1 := 89) 101 dX9_shortest_86 rfl (by decide) (fun c86 => ?_) (fun c86 => ?_)
              · refine Rn.aload_n (pc1 := 102)  dX9_shortest_101 rfl rfl rfl ?_
                refine Rn.getfield (pc1 := 105)  dX9_shortest_102 rfl fX9_7 (by first | assumption | exact mset_same | exact mget_ne (by omega) (by assumption)) rfl ?_
                refine Rn.sipush (pc1 := 108) (v := nI 423) dX9_shortest_105 rfl (by decide) ?_
                refine Rn.bipush (pc1 := 110) (v := nI 13) dX9_shortest_108 rfl (by decide) ?_
                refine Rn.iload (pc1 := 112)  dX9_shortest_110 rfl rfl ?_
                refine Rn.iconst (pc1 := 113) (v := nI 1) dX9_shortest_112 rfl (by decide) ?_
                refine Rn.isub (pc1 := 114)  dX9_shortest_113 rfl ee2 ?_
                refine Rn.imul (pc1 := 115)  dX9_shortest_114 rfl (nI_mul 13 e) ?_
                refine Rn.iadd (pc1 := 116)  dX9_shortest_115 rfl (nI_add 423 (13 * e)) ?_
                refine Rn.iaload (pc1 := 117) (v := f (423 + 13 * e))  dX9_shortest_116 rfl (by first | assumption | exact mset_same | exact mget_ne (by omega) (by assumption)) (vp_nI (j := 423 + 13 * e) rfl (by omega) (by decide)) (by rw [nI_clamp (by omega)] <;> (first | rfl | assumption | (simp (disch := omega) only [upd_ne, upd_at, blk_out]; done) | (simp (disch := omega) only [upd_ne, upd_at, blk_out]; assumption))) ?_
                refine Rn.istore (pc1 := 119)  dX9_shortest_117 rfl (by decide) rfl rfl ?_
                refine J _ _ ?_
                rw [ew]
                unfold auF
                by_cases z : e < sc
                · rw [if_pos z] at c74 ⊢
                  by_cases z2 : lateB (f (423 + 13 * e)) (f 4) = true
                  · rw [if_pos z2] at c74 ⊢
                    first | exact Or.inl ⟨rfl, rfl⟩ | exact absurd c74 (by decide)
                  · rw [if_neg z2] at c74 ⊢
                    first | exact Or.inr ⟨rfl, rfl⟩ | exact absurd rfl c74
                · rw [if_neg z] at c74 ⊢
                  first | exact Or.inl ⟨rfl, rfl⟩ | exact absurd c74 (by decide)
              · exact absurd ((nI_eq (by omega) (by decide)).mp c86) (by omega)
            · refine Rn.iconst (pc1 := 78) (v := nI 1) dX9_shortest_77 rfl (by decide) ?_
              refine Rn.goto 82 dX9_shortest_78 (by decide) ?_
              refine Rn.istore (pc1 := 84)  dX9_shortest_82 rfl (by decide) rfl rfl ?_
              refine Rn.iload (pc1 := 86)  dX9_shortest_84 rfl rfl ?_
              refine Rn.if_ne (pc1 := 89) 101 dX9_shortest_86 rfl (by decide) (fun c86 => ?_) (fun c86 => ?_)
              · refine Rn.aload_n (pc1 := 102)  dX9_shortest_101 rfl rfl rfl ?_
                refine Rn.getfield (pc1 := 105)  dX9_shortest_102 rfl fX9_7 (by first | assumption | exact mset_same | exact mget_ne (by omega) (by assumption)) rfl ?_
                refine Rn.sipush (pc1 := 108) (v := nI 423) dX9_shortest_105 rfl (by decide) ?_
                refine Rn.bipush (pc1 := 110) (v := nI 13) dX9_shortest_108 rfl (by decide) ?_
                refine Rn.iload (pc1 := 112)  dX9_shortest_110 rfl rfl ?_
                refine Rn.iconst (pc1 := 113) (v := nI 1) dX9_shortest_112 rfl (by decide) ?_
                refine Rn.isub (pc1 := 114)  dX9_shortest_113 rfl ee2 ?_
                refine Rn.imul (pc1 := 115)  dX9_shortest_114 rfl (nI_mul 13 e) ?_
                refine Rn.iadd (pc1 := 116)  dX9_shortest_115 rfl (nI_add 423 (13 * e)) ?_
                refine Rn.iaload (pc1 := 117) (v := f (423 + 13 * e))  dX9_shortest_116 rfl (by first | assumption | exact mset_same | exact mget_ne (by omega) (by assumption)) (vp_nI (j := 423 + 13 * e) rfl (by omega) (by decide)) (by rw [nI_clamp (by omega)] <;> (first | rfl | assumption | (simp (disch := omega) only [upd_ne, upd_at, blk_out]; done) | (simp (disch := omega) only [upd_ne, upd_at, blk_out]; assumption))) ?_
                refine Rn.istore (pc1 := 119)  dX9_shortest_117 rfl (by decide) rfl rfl ?_
                refine J _ _ ?_
                rw [ew]
                unfold auF
                by_cases z : e < sc
                · rw [if_pos z] at c74 ⊢
                  by_cases z2 : lateB (f (423 + 13 * e)) (f 4) = true
                  · rw [if_pos z2] at c74 ⊢
                    first | exact Or.inl ⟨rfl, rfl⟩ | exact absurd c74 (by decide)
                  · rw [if_neg z2] at c74 ⊢
                    first | exact Or.inr ⟨rfl, rfl⟩ | exact absurd rfl c74
                · rw [if_neg z] at c74 ⊢
                  first | exact Or.inl ⟨rfl, rfl⟩ | exact absurd c74 (by decide)
              · exact absurd ((nI_eq (by omega) (by decide)).mp c86) (by omega)
          · exact absurd ((nI_eq (by omega) (by decide)).mp c43) (by omega)
  refine EvA.of (L := [some (.ref m), some (.int r), some (.int w), none, none, none, none, none]) (by decide +kernel) (Nat.le_of_ble_eq_true rfl) rfl ?_
  refine Rn.aload_n (pc1 := 1)  dX9_shortest_0 rfl rfl rfl ?_
  refine Rn.iload_n (pc1 := 2)  dX9_shortest_1 rfl rfl rfl ?_
  refine Rn.cV_i (pc1 := 5) (eX9_isReader F I) dX9_shortest_2 rfl qX9_105 oX9_isReader (by first | assumption | exact mset_same | exact mget_ne (by omega) (by assumption)) rfl rfl rfl rfl (Nat.le_of_ble_eq_true rfl) (by decide) (by decide) (fun v2 μ2 h2 => ?_)
  obtain ⟨rfl, rfl⟩ := h2
  refine Rn.if_ne (pc1 := 8) 10 dX9_shortest_5 rfl (by decide) (fun c5 => ?_) (fun c5 => ?_)
  · obtain ⟨i, hi, rfl⟩ := isRdB_t (by omega) (bI_n c5)
    refine Rn.iload_n (pc1 := 11)  dX9_shortest_10 rfl rfl rfl ?_
    refine Rn.iconst (pc1 := 12) (v := nI 0) dX9_shortest_11 rfl (by decide) ?_
    refine Rn.iconst (pc1 := 13) (v := nI 1) dX9_shortest_12 rfl (by decide) ?_
    refine Rn.cS_i (pc1 := 16) (eX9_in) dX9_shortest_13 rfl qX9_32 oX9_in rfl rfl (Nat.le_of_ble_eq_true rfl) (by decide) (by decide) (fun v13 μ13 h13 => ?_)
    obtain ⟨rfl, rfl⟩ := h13
    refine Rn.if_ne (pc1 := 19) 22 dX9_shortest_16 rfl (by decide) (fun c16 => ?_) (fun c16 => ?_)
    · have hq : shortestQ f h rc sc (nI i) w = (if w = nI 0 then nI (shN f h sc i 5).1 else (shN f h sc i 5).2) := by unfold shortestQ; rw [isRdB_of (by omega) hi, if_pos rfl, bI_n c16, if_pos rfl, nI_clamp (by omega)]
      rw [hq]
      refine Rn.iconst (pc1 := 23) (v := nI 5) dX9_shortest_22 rfl (by decide) ?_
      refine Rn.istore_n (pc1 := 24)  dX9_shortest_23 rfl rfl (by decide) rfl rfl ?_
      refine Rn.aload_n (pc1 := 25)  dX9_shortest_24 rfl rfl rfl ?_
      refine Rn.getfield (pc1 := 28)  dX9_shortest_25 rfl fX9_7 (by first | assumption | exact mset_same | exact mget_ne (by omega) (by assumption)) rfl ?_
      refine Rn.bipush (pc1 := 30) (v := nI 6) dX9_shortest_28 rfl (by decide) ?_
      refine Rn.iaload (pc1 := 31) (v := nI h)  dX9_shortest_30 rfl (by assumption) (vp_nI (j := 6) rfl (by omega) (by decide)) I.1.1 ?_
      refine Rn.istore (pc1 := 33)  dX9_shortest_31 rfl (by decide) rfl rfl ?_
      refine Rn.iconst (pc1 := 34) (v := nI 4) dX9_shortest_33 rfl (by decide) ?_
      refine Rn.istore (pc1 := 36)  dX9_shortest_34 rfl (by decide) rfl rfl ?_
      exact loop i hi 5 0 (by omega) _ _
    · rw [show shortestQ f h rc sc (nI i) w = -2 by unfold shortestQ; rw [isRdB_of (by omega) hi, if_pos rfl, bI_0 c16]; rfl]
      refine Rn.bipush (pc1 := 21) (v := (-2)) dX9_shortest_19 rfl (by decide) ?_
      exact Rn.ireturn dX9_shortest_21 rfl rfl ⟨_, rfl, rfl, rfl⟩
  · rw [show shortestQ f h rc sc r w = -1 from if_neg (by rw [bI_0 c5]; decide)]
    refine Rn.iconst (pc1 := 9) (v := (-1)) dX9_shortest_8 rfl (by decide) ?_
    exact Rn.ireturn dX9_shortest_9 rfl rfl ⟨_, rfl, rfl, rfl⟩
end M8
