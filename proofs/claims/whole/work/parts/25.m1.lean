/-! ===== the reference: its object and its rows ===== -/
def MR (μ : Mm) (m : Nat) (f f2 p : Nat → Int32) (kept : Nat) (sl : Nat → Int32) (u : Nat → Bool) (pd : Nat → Int32) (padded at_ : Nat) (od : Nat → Int32) (ordered : Nat) : Prop :=
  μ m = some (obj 9 [.ref (m + 1), .ref (m + 2), .ref (m + 3), .int (nI kept), .ref (m + 4), .ref (m + 5), .ref (m + 6), .int (nI padded), .int (nI at_), .ref (m + 7), .int (nI ordered)]) ∧ μ (m + 1) = some (ints 475 f) ∧ μ (m + 2) = some (ints 475 f2) ∧ μ (m + 3) = some (ints 2850 p) ∧ μ (m + 4) = some (ints 950 sl) ∧ μ (m + 5) = some (bools 2 (fun i => bI (u i))) ∧ μ (m + 6) = some (ints 80 pd) ∧ μ (m + 7) = some (ints 123 od)
section MRM
variable {μ μ' : Mm} {m kept padded at_ ordered : Nat} {f f2 p sl pd od : Nat → Int32} {u : Nat → Bool}
theorem MR.fr {a b : Nat} (F : MR μ m f f2 p kept sl u pd padded at_ od ordered) (hF : Fr a b μ μ') (hd : m + 8 ≤ a ∨ b ≤ m) : MR μ' m f f2 p kept sl u pd padded at_ od ordered := ⟨(hF _ (by omega)).trans F.1, (hF _ (by omega)).trans F.2.1, (hF _ (by omega)).trans F.2.2.1, (hF _ (by omega)).trans F.2.2.2.1, (hF _ (by omega)).trans F.2.2.2.2.1, (hF _ (by omega)).trans F.2.2.2.2.2.1, (hF _ (by omega)).trans F.2.2.2.2.2.2.1, (hF _ (by omega)).trans F.2.2.2.2.2.2.2⟩
theorem MR.set1 (F : MR μ m f f2 p kept sl u pd padded at_ od ordered) (g : Nat → Int32) : MR (mset μ (m + 1) (ints 475 g)) m g f2 p kept sl u pd padded at_ od ordered := ⟨mget_ne (by omega) F.1, mset_same, mget_ne (by omega) F.2.2.1, mget_ne (by omega) F.2.2.2.1, mget_ne (by omega) F.2.2.2.2.1, mget_ne (by omega) F.2.2.2.2.2.1, mget_ne (by omega) F.2.2.2.2.2.2.1, mget_ne (by omega) F.2.2.2.2.2.2.2⟩
theorem MR.set2 (F : MR μ m f f2 p kept sl u pd padded at_ od ordered) (g : Nat → Int32) : MR (mset μ (m + 2) (ints 475 g)) m f g p kept sl u pd padded at_ od ordered := ⟨mget_ne (by omega) F.1, mget_ne (by omega) F.2.1, mset_same, mget_ne (by omega) F.2.2.2.1, mget_ne (by omega) F.2.2.2.2.1, mget_ne (by omega) F.2.2.2.2.2.1, mget_ne (by omega) F.2.2.2.2.2.2.1, mget_ne (by omega) F.2.2.2.2.2.2.2⟩
theorem MR.set3 (F : MR μ m f f2 p kept sl u pd padded at_ od ordered) (g : Nat → Int32) : MR (mset μ (m + 3) (ints 2850 g)) m f f2 g kept sl u pd padded at_ od ordered := ⟨mget_ne (by omega) F.1, mget_ne (by omega) F.2.1, mget_ne (by omega) F.2.2.1, mset_same, mget_ne (by omega) F.2.2.2.2.1, mget_ne (by omega) F.2.2.2.2.2.1, mget_ne (by omega) F.2.2.2.2.2.2.1, mget_ne (by omega) F.2.2.2.2.2.2.2⟩
theorem MR.set4 (F : MR μ m f f2 p kept sl u pd padded at_ od ordered) (g : Nat → Int32) : MR (mset μ (m + 4) (ints 950 g)) m f f2 p kept g u pd padded at_ od ordered := ⟨mget_ne (by omega) F.1, mget_ne (by omega) F.2.1, mget_ne (by omega) F.2.2.1, mget_ne (by omega) F.2.2.2.1, mset_same, mget_ne (by omega) F.2.2.2.2.2.1, mget_ne (by omega) F.2.2.2.2.2.2.1, mget_ne (by omega) F.2.2.2.2.2.2.2⟩
theorem MR.set5 (F : MR μ m f f2 p kept sl u pd padded at_ od ordered) (v : Nat → Bool) {g : Nat → Int32} (hg : g = fun i => bI (v i)) : MR (mset μ (m + 5) (bools 2 g)) m f f2 p kept sl v pd padded at_ od ordered := by
  subst hg
  exact ⟨mget_ne (by omega) F.1, mget_ne (by omega) F.2.1, mget_ne (by omega) F.2.2.1, mget_ne (by omega) F.2.2.2.1, mget_ne (by omega) F.2.2.2.2.1, mset_same, mget_ne (by omega) F.2.2.2.2.2.2.1, mget_ne (by omega) F.2.2.2.2.2.2.2⟩
theorem MR.set6 (F : MR μ m f f2 p kept sl u pd padded at_ od ordered) (g : Nat → Int32) : MR (mset μ (m + 6) (ints 80 g)) m f f2 p kept sl u g padded at_ od ordered := ⟨mget_ne (by omega) F.1, mget_ne (by omega) F.2.1, mget_ne (by omega) F.2.2.1, mget_ne (by omega) F.2.2.2.1, mget_ne (by omega) F.2.2.2.2.1, mget_ne (by omega) F.2.2.2.2.2.1, mset_same, mget_ne (by omega) F.2.2.2.2.2.2.2⟩
theorem MR.set7 (F : MR μ m f f2 p kept sl u pd padded at_ od ordered) (g : Nat → Int32) : MR (mset μ (m + 7) (ints 123 g)) m f f2 p kept sl u pd padded at_ g ordered := ⟨mget_ne (by omega) F.1, mget_ne (by omega) F.2.1, mget_ne (by omega) F.2.2.1, mget_ne (by omega) F.2.2.2.1, mget_ne (by omega) F.2.2.2.2.1, mget_ne (by omega) F.2.2.2.2.2.1, mget_ne (by omega) F.2.2.2.2.2.2.1, mset_same⟩
theorem MR.setO (F : MR μ m f f2 p kept sl u pd padded at_ od ordered) (kept' padded' at' ordered' : Nat) {c : Cl} (hc : c = obj 9 [.ref (m + 1), .ref (m + 2), .ref (m + 3), .int (nI kept'), .ref (m + 4), .ref (m + 5), .ref (m + 6), .int (nI padded'), .int (nI at'), .ref (m + 7), .int (nI ordered')]) : MR (mset μ m c) m f f2 p kept' sl u pd padded' at' od ordered' := by
  subst hc
  exact ⟨mset_same, mget_ne (by omega) F.2.1, mget_ne (by omega) F.2.2.1, mget_ne (by omega) F.2.2.2.1, mget_ne (by omega) F.2.2.2.2.1, mget_ne (by omega) F.2.2.2.2.2.1, mget_ne (by omega) F.2.2.2.2.2.2.1, mget_ne (by omega) F.2.2.2.2.2.2.2⟩
end MRM
section M1
variable {G : GG} {μ : Mm} {sz s m kept padded at_ ordered : Nat} {f f2 p sl pd od : Nat → Int32} {u : Nat → Bool}
theorem eX9_in {v lo hi : Int32} : EvA G 0 kX9_in [.int v, .int lo, .int hi] μ sz 0 0 (rI fun r μ' => r = bI (inB v lo hi) ∧ μ' = μ) := by
  refine EvA.of (L := [some (.int v), some (.int lo), some (.int hi)]) (by decide +kernel) (Nat.le_of_ble_eq_true rfl) rfl ?_
  refine Rn.iload_n (pc1 := 1)  dX9_in_0 rfl rfl rfl ?_
  refine Rn.iload_n (pc1 := 2)  dX9_in_1 rfl rfl rfl ?_
  refine Rn.icmp_lt (pc1 := 5) 14 dX9_in_2 rfl (by decide) (fun c2 => ?_) (fun c2 => ?_)
  · rw [inB_lo c2]
    refine Rn.iconst (pc1 := 15) (v := nI 0) dX9_in_14 rfl (by decide) ?_
    exact Rn.ireturn dX9_in_15 rfl rfl ⟨_, rfl, rfl, rfl⟩
  · refine Rn.iload_n (pc1 := 6)  dX9_in_5 rfl rfl rfl ?_
    refine Rn.iload_n (pc1 := 7)  dX9_in_6 rfl rfl rfl ?_
    refine Rn.icmp_gt (pc1 := 10) 14 dX9_in_7 rfl (by decide) (fun c7 => ?_) (fun c7 => ?_)
    · rw [inB_hi c7]
      refine Rn.iconst (pc1 := 15) (v := nI 0) dX9_in_14 rfl (by decide) ?_
      exact Rn.ireturn dX9_in_15 rfl rfl ⟨_, rfl, rfl, rfl⟩
    · rw [inB_t c2 c7]
      refine Rn.iconst (pc1 := 11) (v := nI 1) dX9_in_10 rfl (by decide) ?_
      refine Rn.goto 15 dX9_in_11 (by decide) ?_
      exact Rn.ireturn dX9_in_15 rfl rfl ⟨_, rfl, rfl, rfl⟩
theorem eX9_isKey {v : Int32} : EvA G 1 kX9_isKey [.int v] μ sz 0 0 (rI fun r μ' => r = bI (inB v (nI 0) (nI 11)) ∧ μ' = μ) := by
  refine EvA.of (L := [some (.int v)]) (by decide +kernel) (Nat.le_of_ble_eq_true rfl) rfl ?_
  refine Rn.iload_n (pc1 := 1)  dX9_isKey_0 rfl rfl rfl ?_
  refine Rn.iconst (pc1 := 2) (v := nI 0) dX9_isKey_1 rfl (by decide) ?_
  refine Rn.bipush (pc1 := 4) (v := nI 11) dX9_isKey_2 rfl (by decide) ?_
  refine Rn.cS_i (pc1 := 7) (eX9_in) dX9_isKey_4 rfl qX9_32 oX9_in rfl rfl (Nat.le_of_ble_eq_true rfl) (by decide) (by decide) (fun v4 μ4 h4 => ?_)
  obtain ⟨rfl, rfl⟩ := h4
  exact Rn.ireturn dX9_isKey_7 rfl (bI_nar _) ⟨_, rfl, rfl, rfl⟩
theorem eX9_row {i : Nat} : EvA G 0 kX9_row [.int (nI i)] μ sz 0 0 (rI fun r μ' => r = nI (261 + 27 * i) ∧ μ' = μ) := by
  refine EvA.of (L := [some (.int (nI i))]) (by decide +kernel) (Nat.le_of_ble_eq_true rfl) rfl ?_
  refine Rn.sipush (pc1 := 3) (v := nI 261) dX9_row_0 rfl (by decide) ?_
  refine Rn.bipush (pc1 := 5) (v := nI 27) dX9_row_3 rfl (by decide) ?_
  refine Rn.iload_n (pc1 := 6)  dX9_row_5 rfl rfl rfl ?_
  refine Rn.imul (pc1 := 7)  dX9_row_6 rfl (nI_mul 27 i) ?_
  refine Rn.iadd (pc1 := 8)  dX9_row_7 rfl (nI_add 261 (27 * i)) ?_
  exact Rn.ireturn dX9_row_8 rfl rfl ⟨_, rfl, rfl, rfl⟩
theorem eX9_of {e w : Nat} (h : μ s = some (ints 475 f)) (hb : 21 + 4 * e + w < 475) : EvA G 0 kX9_of [.ref s, .int (nI e), .int (nI w)] μ sz 0 0 (rI fun r μ' => r = f (21 + 4 * e + w) ∧ μ' = μ) := by
  refine EvA.of (L := [some (.ref s), some (.int (nI e)), some (.int (nI w))]) (by decide +kernel) (Nat.le_of_ble_eq_true rfl) rfl ?_
  refine Rn.aload_n (pc1 := 1)  dX9_of_0 rfl rfl rfl ?_
  refine Rn.bipush (pc1 := 3) (v := nI 21) dX9_of_1 rfl (by decide) ?_
  refine Rn.iconst (pc1 := 4) (v := nI 4) dX9_of_3 rfl (by decide) ?_
  refine Rn.iload_n (pc1 := 5)  dX9_of_4 rfl rfl rfl ?_
  refine Rn.imul (pc1 := 6)  dX9_of_5 rfl (nI_mul 4 e) ?_
  refine Rn.iadd (pc1 := 7)  dX9_of_6 rfl (nI_add 21 (4 * e)) ?_
  refine Rn.iload_n (pc1 := 8)  dX9_of_7 rfl rfl rfl ?_
  refine Rn.iadd (pc1 := 9)  dX9_of_8 rfl (nI_add (21 + 4 * e) w) ?_
  refine Rn.iaload (pc1 := 10)  dX9_of_9 rfl (by assumption) (vp_nI rfl hb (by decide)) (gI rfl (by omega)) ?_
  exact Rn.ireturn dX9_of_10 rfl rfl ⟨_, rfl, rfl, rfl⟩
theorem eX9_isClosed {e : Nat} (h : μ s = some (ints 475 f)) (hb : e < 60) (hs : nI 1 ≤ f 0) : EvA G 1 kX9_isClosed [.ref s, .int (nI e)] μ sz 0 0 (rI fun r μ' => r = bI (closB (f (21 + 4 * e)) (f 3) (f 0)) ∧ μ' = μ) := by
  have h0 : ¬ f 0 = 0 := fun q => by rw [q] at hs; exact absurd hs (by decide)
  refine EvA.of (L := [some (.ref s), some (.int (nI e))]) (by decide +kernel) (Nat.le_of_ble_eq_true rfl) rfl ?_
  refine Rn.aload_n (pc1 := 1)  dX9_isClosed_0 rfl rfl rfl ?_
  refine Rn.iload_n (pc1 := 2)  dX9_isClosed_1 rfl rfl rfl ?_
  refine Rn.iconst (pc1 := 3) (v := nI 0) dX9_isClosed_2 rfl (by decide) ?_
  refine Rn.cS_i (pc1 := 6) (eX9_of h (show 21 + 4 * e + 0 < 475 by omega)) dX9_isClosed_3 rfl qX9_47 oX9_of rfl rfl (Nat.le_of_ble_eq_true rfl) (by decide) (by decide) (fun v3 μ3 h3 => ?_)
  obtain ⟨rfl, rfl⟩ := h3
  rw [Nat.add_zero]
  refine Rn.aload_n (pc1 := 7)  dX9_isClosed_6 rfl rfl rfl ?_
  refine Rn.iconst (pc1 := 8) (v := nI 0) dX9_isClosed_7 rfl (by decide) ?_
  refine Rn.iaload (pc1 := 9) (v := f 0)  dX9_isClosed_8 rfl (by assumption) (vp_nI (j := 0) rfl (by decide) (by decide)) rfl ?_
  refine Rn.idiv (pc1 := 10)  dX9_isClosed_9 rfl h0 rfl ?_
  refine Rn.aload_n (pc1 := 11)  dX9_isClosed_10 rfl rfl rfl ?_
  refine Rn.iconst (pc1 := 12) (v := nI 3) dX9_isClosed_11 rfl (by decide) ?_
  refine Rn.iaload (pc1 := 13) (v := f 3)  dX9_isClosed_12 rfl (by assumption) (vp_nI (j := 3) rfl (by decide) (by decide)) rfl ?_
  refine Rn.aload_n (pc1 := 14)  dX9_isClosed_13 rfl rfl rfl ?_
  refine Rn.iconst (pc1 := 15) (v := nI 0) dX9_isClosed_14 rfl (by decide) ?_
  refine Rn.iaload (pc1 := 16) (v := f 0)  dX9_isClosed_15 rfl (by assumption) (vp_nI (j := 0) rfl (by decide) (by decide)) rfl ?_
  refine Rn.idiv (pc1 := 17)  dX9_isClosed_16 rfl h0 rfl ?_
  refine Rn.icmp_eq (pc1 := 20) 24 dX9_isClosed_17 rfl (by decide) (fun c17 => ?_) (fun c17 => ?_)
  · rw [show closB (f (21 + 4 * e)) (f 3) (f 0) = false by unfold closB; rw [decide_eq_true c17]; rfl]
    refine Rn.iconst (pc1 := 25) (v := nI 0) dX9_isClosed_24 rfl (by decide) ?_
    exact Rn.ireturn dX9_isClosed_25 rfl rfl ⟨_, rfl, rfl, rfl⟩
  · rw [show closB (f (21 + 4 * e)) (f 3) (f 0) = true by unfold closB; rw [decide_eq_false c17]; rfl]
    refine Rn.iconst (pc1 := 21) (v := nI 1) dX9_isClosed_20 rfl (by decide) ?_
    refine Rn.goto 25 dX9_isClosed_21 (by decide) ?_
    exact Rn.ireturn dX9_isClosed_25 rfl rfl ⟨_, rfl, rfl, rfl⟩
theorem eX9_isLast {e h : Nat} (hμ : μ s = some (ints 475 f)) (hh : h ≤ 60) (h6 : f 6 = nI h) (he : e < h) : EvA G 1 kX9_isLast [.ref s, .int (nI e)] μ sz 0 0 (rI fun r μ' => r = bI (lastB (e1 f) e h) ∧ μ' = μ) := by
  refine EvA.of (L := [some (.ref s), some (.int (nI e)), none]) (by decide +kernel) (Nat.le_of_ble_eq_true rfl) rfl ?_
  have loop : ∀ (n l : Nat), l + n = h → e < l → (∀ q, e < q → q < l → ¬ e1 f q = e1 f e) → Rn G 1 kX9_isLast 4 [some (.ref s), some (.int (nI e)), some (.int (nI l))] [] μ sz 0 0 (rI fun r μ' => r = bI (lastB (e1 f) e h) ∧ μ' = μ) := by
    intro n
    induction n with
    | zero =>
      intro l hl hel hb
      obtain rfl : l = h := by omega
      rw [lastB_iff.mpr hb]
      refine Rn.iload_n (pc1 := 5)  dX9_isLast_4 rfl rfl rfl ?_
      refine Rn.aload_n (pc1 := 6)  dX9_isLast_5 rfl rfl rfl ?_
      refine Rn.bipush (pc1 := 8) (v := nI 6) dX9_isLast_6 rfl (by decide) ?_
      refine Rn.iaload (pc1 := 9)  dX9_isLast_8 rfl (by assumption) (vp_nI (j := 6) rfl (by decide) (by decide)) h6 ?_
      refine Rn.icmp_ge (pc1 := 12) 35 dX9_isLast_9 rfl (by decide) (fun c9 => ?_) (fun c9 => ?_)
      · refine Rn.iconst (pc1 := 36) (v := nI 1) dX9_isLast_35 rfl (by decide) ?_
        exact Rn.ireturn dX9_isLast_36 rfl rfl ⟨_, rfl, rfl, rfl⟩
      · exact absurd (nI_le (Nat.le_refl l) (by omega)) c9
    | succ n ih =>
      intro l hl hel hb
      refine Rn.iload_n (pc1 := 5)  dX9_isLast_4 rfl rfl rfl ?_
      refine Rn.aload_n (pc1 := 6)  dX9_isLast_5 rfl rfl rfl ?_
      refine Rn.bipush (pc1 := 8) (v := nI 6) dX9_isLast_6 rfl (by decide) ?_
      refine Rn.iaload (pc1 := 9)  dX9_isLast_8 rfl (by assumption) (vp_nI (j := 6) rfl (by decide) (by decide)) h6 ?_
      refine Rn.icmp_ge (pc1 := 12) 35 dX9_isLast_9 rfl (by decide) (fun c9 => ?_) (fun c9 => ?_)
      · exact absurd c9 (nI_ge (by omega) (by omega))
      · refine Rn.aload_n (pc1 := 13)  dX9_isLast_12 rfl rfl rfl ?_
        refine Rn.iload_n (pc1 := 14)  dX9_isLast_13 rfl rfl rfl ?_
        refine Rn.iconst (pc1 := 15) (v := nI 1) dX9_isLast_14 rfl (by decide) ?_
        refine Rn.cS_i (pc1 := 18) (eX9_of hμ (show 21 + 4 * l + 1 < 475 by omega)) dX9_isLast_15 rfl qX9_47 oX9_of rfl rfl (Nat.le_of_ble_eq_true rfl) (by decide) (by decide) (fun v15 μ15 h15 => ?_)
        obtain ⟨rfl, rfl⟩ := h15
        refine Rn.aload_n (pc1 := 19)  dX9_isLast_18 rfl rfl rfl ?_
        refine Rn.iload_n (pc1 := 20)  dX9_isLast_19 rfl rfl rfl ?_
        refine Rn.iconst (pc1 := 21) (v := nI 1) dX9_isLast_20 rfl (by decide) ?_
        refine Rn.cS_i (pc1 := 24) (eX9_of hμ (show 21 + 4 * e + 1 < 475 by omega)) dX9_isLast_21 rfl qX9_47 oX9_of rfl rfl (Nat.le_of_ble_eq_true rfl) (by decide) (by decide) (fun v21 μ21 h21 => ?_)
        obtain ⟨rfl, rfl⟩ := h21
        refine Rn.icmp_ne (pc1 := 27) 29 dX9_isLast_24 rfl (by decide) (fun c24 => ?_) (fun c24 => ?_)
        · refine Rn.iinc (pc1 := 32)  dX9_isLast_29 rfl rfl (nI_1 l) (by decide) rfl rfl ?_
          refine Rn.goto 4 dX9_isLast_32 (by decide) ?_
          refine ih (l + 1) (by omega) (by omega) (fun q h1 h2 => ?_)
          by_cases e9 : q = l
          · subst e9; exact c24
          · exact hb q h1 (by omega)
        · have e9 : lastB (e1 f) e h = false := by
            cases hb2 : lastB (e1 f) e h
            · rfl
            · exact absurd c24 (lastB_iff.mp hb2 l hel (by omega))
          rw [e9]
          refine Rn.iconst (pc1 := 28) (v := nI 0) dX9_isLast_27 rfl (by decide) ?_
          exact Rn.ireturn dX9_isLast_28 rfl rfl ⟨_, rfl, rfl, rfl⟩
  refine Rn.iload_n (pc1 := 1)  dX9_isLast_0 rfl rfl rfl ?_
  refine Rn.iconst (pc1 := 2) (v := nI 1) dX9_isLast_1 rfl (by decide) ?_
  refine Rn.iadd (pc1 := 3)  dX9_isLast_2 rfl (nI_add e 1) ?_
  refine Rn.istore_n (pc1 := 4)  dX9_isLast_3 rfl rfl (by decide) rfl rfl ?_
  exact loop (h - (e + 1)) (e + 1) (by omega) (by omega) (fun q h1 h2 => by omega)
theorem eX9_isLatePlace {v : Int32} (h : μ s = some (ints 475 f)) : EvA G 0 kX9_isLatePlace [.ref s, .int v] μ sz 0 0 (rI fun r μ' => r = bI (lateB v (f 4)) ∧ μ' = μ) := by
  refine EvA.of (L := [some (.ref s), some (.int v)]) (by decide +kernel) (Nat.le_of_ble_eq_true rfl) rfl ?_
  refine Rn.iload_n (pc1 := 1)  dX9_isLatePlace_0 rfl rfl rfl ?_
  refine Rn.if_le (pc1 := 4) 15 dX9_isLatePlace_1 rfl (by decide) (fun c1 => ?_) (fun c1 => ?_)
  · rw [show lateB v (f 4) = false by unfold lateB; rw [decide_eq_false (i32_nlt.mpr c1)]; rfl]
    refine Rn.iconst (pc1 := 16) (v := nI 0) dX9_isLatePlace_15 rfl (by decide) ?_
    exact Rn.ireturn dX9_isLatePlace_16 rfl rfl ⟨_, rfl, rfl, rfl⟩
  · refine Rn.iload_n (pc1 := 5)  dX9_isLatePlace_4 rfl rfl rfl ?_
    refine Rn.aload_n (pc1 := 6)  dX9_isLatePlace_5 rfl rfl rfl ?_
    refine Rn.iconst (pc1 := 7) (v := nI 4) dX9_isLatePlace_6 rfl (by decide) ?_
    refine Rn.iaload (pc1 := 8) (v := f 4)  dX9_isLatePlace_7 rfl (by assumption) (vp_nI (j := 4) rfl (by decide) (by decide)) rfl ?_
    refine Rn.icmp_ge (pc1 := 11) 15 dX9_isLatePlace_8 rfl (by decide) (fun c8 => ?_) (fun c8 => ?_)
    · rw [show lateB v (f 4) = false by unfold lateB; rw [decide_eq_false (i32_nlt.mpr c8), Bool.and_false]]
      refine Rn.iconst (pc1 := 16) (v := nI 0) dX9_isLatePlace_15 rfl (by decide) ?_
      exact Rn.ireturn dX9_isLatePlace_16 rfl rfl ⟨_, rfl, rfl, rfl⟩
    · rw [show lateB v (f 4) = true by unfold lateB; rw [decide_eq_true (i32_nle.mp c1), decide_eq_true (i32_nle.mp c8)]; rfl]
      refine Rn.iconst (pc1 := 12) (v := nI 1) dX9_isLatePlace_11 rfl (by decide) ?_
      refine Rn.goto 16 dX9_isLatePlace_12 (by decide) ?_
      exact Rn.ireturn dX9_isLatePlace_16 rfl rfl ⟨_, rfl, rfl, rfl⟩
theorem eX9_isLate {i : Nat} (h : μ s = some (ints 475 f)) (hi : i < 6) : EvA G 1 kX9_isLate [.ref s, .int (nI i)] μ sz 0 0 (rI fun r μ' => r = bI (lateB (f (261 + 27 * i)) (f 4)) ∧ μ' = μ) := by
  refine EvA.of (L := [some (.ref s), some (.int (nI i))]) (by decide +kernel) (Nat.le_of_ble_eq_true rfl) rfl ?_
  refine Rn.aload_n (pc1 := 1)  dX9_isLate_0 rfl rfl rfl ?_
  refine Rn.aload_n (pc1 := 2)  dX9_isLate_1 rfl rfl rfl ?_
  refine Rn.iload_n (pc1 := 3)  dX9_isLate_2 rfl rfl rfl ?_
  refine Rn.cS_i (pc1 := 6) (eX9_row) dX9_isLate_3 rfl qX9_62 oX9_row rfl rfl (Nat.le_of_ble_eq_true rfl) (by decide) (by decide) (fun v3 μ3 h3 => ?_)
  obtain ⟨rfl, rfl⟩ := h3
  refine Rn.iaload (pc1 := 7)  dX9_isLate_6 rfl (by assumption) (vp_nI rfl (show 261 + 27 * i < 475 by omega) (by decide)) (gI rfl (by omega)) ?_
  refine Rn.cS_i (pc1 := 10) (eX9_isLatePlace h) dX9_isLate_7 rfl qX9_66 oX9_isLatePlace rfl rfl (Nat.le_of_ble_eq_true rfl) (by decide) (by decide) (fun v7 μ7 h7 => ?_)
  obtain ⟨rfl, rfl⟩ := h7
  exact Rn.ireturn dX9_isLate_10 rfl (bI_nar _) ⟨_, rfl, rfl, rfl⟩
theorem eX9_lateOnes {rc : Nat} (h : μ s = some (ints 475 f)) (h7 : f 7 = nI rc) (hrc : rc ≤ 6) : EvA G 2 kX9_lateOnes [.ref s] μ sz 0 0 (rI fun r μ' => r = lateN f (f 4) rc ∧ μ' = μ) := by
  have loop : ∀ (n i : Nat), i + n = rc → Rn G 2 kX9_lateOnes 4 [some (.ref s), some (.int (lateN f (f 4) i)), some (.int (nI i))] [] μ sz 0 0 (rI fun r μ' => r = lateN f (f 4) rc ∧ μ' = μ) := by
    intro n
    induction n with
    | zero =>
      intro i hi
      obtain rfl : i = rc := by omega
      refine Rn.iload_n (pc1 := 5)  dX9_lateOnes_4 rfl rfl rfl ?_
      refine Rn.aload_n (pc1 := 6)  dX9_lateOnes_5 rfl rfl rfl ?_
      refine Rn.bipush (pc1 := 8) (v := nI 7) dX9_lateOnes_6 rfl (by decide) ?_
      refine Rn.iaload (pc1 := 9)  dX9_lateOnes_8 rfl (by assumption) (vp_nI (j := 7) rfl (by decide) (by decide)) h7 ?_
      refine Rn.icmp_ge (pc1 := 12) 36 dX9_lateOnes_9 rfl (by decide) (fun c9 => ?_) (fun c9 => ?_)
      · refine Rn.iload_n (pc1 := 37)  dX9_lateOnes_36 rfl rfl rfl ?_
        exact Rn.ireturn dX9_lateOnes_37 rfl rfl ⟨_, rfl, rfl, rfl⟩
      · exact absurd (nI_le (Nat.le_refl _) (by omega)) c9
    | succ n ih =>
      intro i hi
      refine Rn.iload_n (pc1 := 5)  dX9_lateOnes_4 rfl rfl rfl ?_
      refine Rn.aload_n (pc1 := 6)  dX9_lateOnes_5 rfl rfl rfl ?_
      refine Rn.bipush (pc1 := 8) (v := nI 7) dX9_lateOnes_6 rfl (by decide) ?_
      refine Rn.iaload (pc1 := 9)  dX9_lateOnes_8 rfl (by assumption) (vp_nI (j := 7) rfl (by decide) (by decide)) h7 ?_
      refine Rn.icmp_ge (pc1 := 12) 36 dX9_lateOnes_9 rfl (by decide) (fun c9 => ?_) (fun c9 => ?_)
      · exact absurd c9 (nI_ge (by omega) (by omega))
      · refine Rn.iload_n (pc1 := 13)  dX9_lateOnes_12 rfl rfl rfl ?_
        refine Rn.aload_n (pc1 := 14)  dX9_lateOnes_13 rfl rfl rfl ?_
        refine Rn.iload_n (pc1 := 15)  dX9_lateOnes_14 rfl rfl rfl ?_
        refine Rn.cS_i (pc1 := 18) (eX9_isLate h (show i < 6 by omega)) dX9_lateOnes_15 rfl qX9_69 oX9_isLate rfl rfl (Nat.le_of_ble_eq_true rfl) (by decide) (by decide) (fun v15 μ15 h15 => ?_)
        obtain ⟨rfl, rfl⟩ := h15
        refine Rn.if_eq (pc1 := 21) 27 dX9_lateOnes_18 rfl (by decide) (fun c18 => ?_) (fun c18 => ?_)
        · have e : lateN f (f 4) (i + 1) = lateN f (f 4) i := if_neg (by rw [bI_0 c18]; decide)
          have e2 : lateN f (f 4) i ||| nI 0 = lateN f (f 4) (i + 1) := by rw [e]; exact Int32.or_zero
          refine Rn.iconst (pc1 := 28) (v := nI 0) dX9_lateOnes_27 rfl (by decide) ?_
          refine Rn.ior (pc1 := 29)  dX9_lateOnes_28 rfl e2 ?_
          refine Rn.istore_n (pc1 := 30)  dX9_lateOnes_29 rfl rfl (by decide) rfl rfl ?_
          refine Rn.iinc (pc1 := 33)  dX9_lateOnes_30 rfl rfl (nI_1 i) (by decide) rfl rfl ?_
          refine Rn.goto 4 dX9_lateOnes_33 (by decide) ?_
          exact ih (i + 1) (by omega)
        · have e2 : lateN f (f 4) i ||| (nI 1 <<< (nI i &&& 31)) = lateN f (f 4) (i + 1) := (if_pos (bI_n c18)).symm
          refine Rn.iconst (pc1 := 22) (v := nI 1) dX9_lateOnes_21 rfl (by decide) ?_
          refine Rn.iload_n (pc1 := 23)  dX9_lateOnes_22 rfl rfl rfl ?_
          refine Rn.ishl (pc1 := 24)  dX9_lateOnes_23 rfl rfl ?_
          refine Rn.goto 28 dX9_lateOnes_24 (by decide) ?_
          refine Rn.ior (pc1 := 29)  dX9_lateOnes_28 rfl e2 ?_
          refine Rn.istore_n (pc1 := 30)  dX9_lateOnes_29 rfl rfl (by decide) rfl rfl ?_
          refine Rn.iinc (pc1 := 33)  dX9_lateOnes_30 rfl rfl (nI_1 i) (by decide) rfl rfl ?_
          refine Rn.goto 4 dX9_lateOnes_33 (by decide) ?_
          exact ih (i + 1) (by omega)
  refine EvA.of (L := [some (.ref s), none, none]) (by decide +kernel) (Nat.le_of_ble_eq_true rfl) rfl ?_
  refine Rn.iconst (pc1 := 1) (v := nI 0) dX9_lateOnes_0 rfl (by decide) ?_
  refine Rn.istore_n (pc1 := 2)  dX9_lateOnes_1 rfl rfl (by decide) rfl rfl ?_
  refine Rn.iconst (pc1 := 3) (v := nI 0) dX9_lateOnes_2 rfl (by decide) ?_
  refine Rn.istore_n (pc1 := 4)  dX9_lateOnes_3 rfl rfl (by decide) rfl rfl ?_
  exact loop rc 0 (by omega)
theorem eX9_lays {a b na nb fa ta : Nat} {g : Nat → Int32} (ha : μ a = some (ints na f)) (hb : μ b = some (ints nb g)) (hab : a ≠ b) (h1 : fa + 475 ≤ na) (h2 : ta + 475 ≤ nb) (hn : na < 2 ^ 31) (hm : nb < 2 ^ 31) : EvA G 0 kX9_lays [.ref a, .int (nI fa), .ref b, .int (nI ta)] μ sz 0 0 (rV fun μ' => μ' = mset μ b (ints nb (blk g ta 475 (fun k => f (fa + k))))) := by
  have loop : ∀ (n k : Nat), k + n = 475 → Rn G 0 kX9_lays 3 [some (.ref a), some (.int (nI fa)), some (.ref b), some (.int (nI ta)), some (.int (nI k))] [] (mset μ b (ints nb (blk g ta k (fun k => f (fa + k))))) sz 0 0 (rV fun μ' => μ' = mset μ b (ints nb (blk g ta 475 (fun k => f (fa + k))))) := by
    intro n
    induction n with
    | zero =>
      intro k hk
      obtain rfl : k = 475 := by omega
      refine Rn.iload (pc1 := 5)  dX9_lays_3 rfl rfl ?_
      refine Rn.sipush (pc1 := 8) (v := nI 475) dX9_lays_5 rfl (by decide) ?_
      refine Rn.icmp_ge (pc1 := 11) 29 dX9_lays_8 rfl (by decide) (fun c8 => ?_) (fun c8 => ?_)
      · exact Rn.vreturn dX9_lays_29 rfl ⟨rfl, rfl⟩
      · exact absurd (nI_le (Nat.le_refl _) (by decide)) c8
    | succ n ih =>
      intro k hk
      have ha' : mset μ b (ints nb (blk g ta k (fun k => f (fa + k)))) a = some (ints na f) := mget_ne hab ha
      refine Rn.iload (pc1 := 5)  dX9_lays_3 rfl rfl ?_
      refine Rn.sipush (pc1 := 8) (v := nI 475) dX9_lays_5 rfl (by decide) ?_
      refine Rn.icmp_ge (pc1 := 11) 29 dX9_lays_8 rfl (by decide) (fun c8 => ?_) (fun c8 => ?_)
      · exact absurd c8 (nI_ge (by omega) (by decide))
      · refine Rn.aload_n (pc1 := 12)  dX9_lays_11 rfl rfl rfl ?_
        refine Rn.iload_n (pc1 := 13)  dX9_lays_12 rfl rfl rfl ?_
        refine Rn.iload (pc1 := 15)  dX9_lays_13 rfl rfl ?_
        refine Rn.iadd (pc1 := 16)  dX9_lays_15 rfl (nI_add ta k) ?_
        refine Rn.aload_n (pc1 := 17)  dX9_lays_16 rfl rfl rfl ?_
        refine Rn.iload_n (pc1 := 18)  dX9_lays_17 rfl rfl rfl ?_
        refine Rn.iload (pc1 := 20)  dX9_lays_18 rfl rfl ?_
        refine Rn.iadd (pc1 := 21)  dX9_lays_20 rfl (nI_add fa k) ?_
        refine Rn.iaload (pc1 := 22)  dX9_lays_21 rfl (by assumption) (vp_nI rfl (by omega) hn) (gI rfl (by omega)) ?_
        refine Rn.iastore (pc1 := 23) (f' := blk g ta (k + 1) (fun k => f (fa + k)))  dX9_lays_22 rfl mset_same (vp_nI rfl (by omega) hm) (by rw [updI rfl (by omega)]; exact blk_upd) ?_
        rw [mset_mset]
        refine Rn.iinc (pc1 := 26)  dX9_lays_23 rfl rfl (nI_1 k) (by decide) rfl rfl ?_
        refine Rn.goto 3 dX9_lays_26 (by decide) ?_
        exact ih (k + 1) (by omega)
  refine EvA.of (L := [some (.ref a), some (.int (nI fa)), some (.ref b), some (.int (nI ta)), none]) (by decide +kernel) (Nat.le_of_ble_eq_true rfl) rfl ?_
  refine Rn.iconst (pc1 := 1) (v := nI 0) dX9_lays_0 rfl (by decide) ?_
  refine Rn.istore (pc1 := 3)  dX9_lays_1 rfl (by decide) rfl rfl ?_
  have := loop 475 0 (by omega); rw [blk_0, mset_id hb] at this; exact this
/-- the past behind a record -/
def pushM (p : Nat → Int32) (kept : Nat) (f : Nat → Int32) : Nat → Int32 := if kept = 6 then blk (fun j => if j < 2375 then p (j + 475) else p j) 2375 475 f else blk p (475 * kept) 475 f
abbrev keep1 (kept : Nat) : Nat := if kept < 6 then kept + 1 else 6
theorem eX9_records (F : MR μ m f f2 p kept sl u pd padded at_ od ordered) (hk : kept ≤ 6) : EvA G 1 kX9_records [.ref m] μ sz 0 0 (rV fun μ' => MR μ' m f f2 (pushM p kept f) (keep1 kept) sl u pd padded at_ od ordered ∧ Fr m (m + 8) μ μ') := by
  have J : ∀ (μ1 : Mm) (q : Nat → Int32) (k : Nat) (o1 : Option Value), MR μ1 m f f2 q k sl u pd padded at_ od ordered → Fr m (m + 8) μ μ1 → k < 6 → blk q (475 * k) 475 f = pushM p kept f → k + 1 = keep1 kept → Rn G 1 kX9_records 50 [some (.ref m), o1] [] μ1 sz 0 0 (rV fun μ' => MR μ' m f f2 (pushM p kept f) (keep1 kept) sl u pd padded at_ od ordered ∧ Fr m (m + 8) μ μ') := by
    intro μ1 q k o1 F1 z1 hk6 e1 e2
    have hO := F1.1
    refine Rn.aload_n (pc1 := 51)  dX9_records_50 rfl rfl rfl ?_
    refine Rn.getfield (pc1 := 54)  dX9_records_51 rfl fX9_7 (by first | assumption | exact mset_same | exact mget_ne (by omega) (by assumption)) rfl ?_
    refine Rn.iconst (pc1 := 55) (v := nI 0) dX9_records_54 rfl (by decide) ?_
    refine Rn.aload_n (pc1 := 56)  dX9_records_55 rfl rfl rfl ?_
    refine Rn.getfield (pc1 := 59)  dX9_records_56 rfl fX9_16 (by first | assumption | exact mset_same | exact mget_ne (by omega) (by assumption)) rfl ?_
    refine Rn.sipush (pc1 := 62) (v := nI 475) dX9_records_59 rfl (by decide) ?_
    refine Rn.aload_n (pc1 := 63)  dX9_records_62 rfl rfl rfl ?_
    refine Rn.getfield (pc1 := 66)  dX9_records_63 rfl fX9_36 (by first | assumption | exact mset_same | exact mget_ne (by omega) (by assumption)) rfl ?_
    refine Rn.imul (pc1 := 67)  dX9_records_66 rfl (nI_mul 475 k) ?_
    refine Rn.cS_v (pc1 := 70) (eX9_lays F1.2.1 F1.2.2.2.1 (by omega) (by omega) (by omega) (by decide) (by decide)) dX9_records_67 rfl qX9_40 oX9_lays rfl rfl (Nat.le_of_ble_eq_true rfl) (by decide) (by decide) (fun μ67 h67 => ?_)
    subst h67
    have e3 : blk q (475 * k) 475 (fun k => f (0 + k)) = pushM p kept f := by rw [← e1]; congr 1; funext k; rw [Nat.zero_add]
    rw [e3]
    have F2 := F1.set3 (pushM p kept f)
    have hO2 := F2.1
    refine Rn.aload_n (pc1 := 71)  dX9_records_70 rfl rfl rfl ?_
    refine Rn.dup (pc1 := 72)  dX9_records_71 rfl rfl ?_
    refine Rn.getfield (pc1 := 75)  dX9_records_72 rfl fX9_36 (by first | assumption | exact mset_same | exact mget_ne (by omega) (by assumption)) rfl ?_
    refine Rn.iconst (pc1 := 76) (v := nI 1) dX9_records_75 rfl (by decide) ?_
    refine Rn.iadd (pc1 := 77)  dX9_records_76 rfl (nI_add k 1) ?_
    refine Rn.putfield (pc1 := 80)  dX9_records_77 rfl pX9_36 (fun h => Bool.noConfusion h) (by first | assumption | exact mset_same | exact mget_ne (by omega) (by assumption)) (Nat.le_of_ble_eq_true rfl) rfl rfl rfl ?_
    exact Rn.vreturn dX9_records_80 rfl ⟨rfl, by rw [← e2]; exact F2.setO (k + 1) padded at_ ordered rfl, (z1.set_ (by omega) (by omega)).set_ (by omega) (by omega)⟩
  have loop : ∀ (n k : Nat), kept = 6 → k + n = 2375 → Rn G 1 kX9_records 11 [some (.ref m), some (.int (nI k))] [] (mset μ (m + 3) (ints 2850 (fun j => if j < k then p (j + 475) else p j))) sz 0 0 (rV fun μ' => MR μ' m f f2 (pushM p kept f) (keep1 kept) sl u pd padded at_ od ordered ∧ Fr m (m + 8) μ μ') := by
    intro n
    induction n with
    | zero =>
      intro k h6 hk
      subst h6
      obtain rfl : k = 2375 := by omega
      have F1 := F.set3 (fun j => if j < 2375 then p (j + 475) else p j)
      have hO := F1.1
      refine Rn.iload_n (pc1 := 12)  dX9_records_11 rfl rfl rfl ?_
      refine Rn.sipush (pc1 := 15) (v := nI 2375) dX9_records_12 rfl (by decide) ?_
      refine Rn.icmp_ge (pc1 := 18) 40 dX9_records_15 rfl (by decide) (fun c15 => ?_) (fun c15 => ?_)
      · refine Rn.aload_n (pc1 := 41)  dX9_records_40 rfl rfl rfl ?_
        refine Rn.dup (pc1 := 42)  dX9_records_41 rfl rfl ?_
        refine Rn.getfield (pc1 := 45)  dX9_records_42 rfl fX9_36 (by first | assumption | exact mset_same | exact mget_ne (by omega) (by assumption)) rfl ?_
        refine Rn.iconst (pc1 := 46) (v := nI 1) dX9_records_45 rfl (by decide) ?_
        refine Rn.isub (pc1 := 47)  dX9_records_46 rfl (nI_sub (show 1 ≤ 6 by omega)) ?_
        refine Rn.putfield (pc1 := 50)  dX9_records_47 rfl pX9_36 (fun h => Bool.noConfusion h) (by first | assumption | exact mset_same | exact mget_ne (by omega) (by assumption)) (Nat.le_of_ble_eq_true rfl) rfl rfl rfl ?_
        exact J _ _ 5 _ (F1.setO 5 padded at_ ordered rfl) ((Fr.set (by omega) (by omega)).set_ (by omega) (by omega)) (by omega) (by unfold pushM; rw [if_pos rfl]) rfl
      · exact absurd (nI_le (Nat.le_refl _) (by decide)) c15
    | succ n ih =>
      intro k h6 hk
      have F1 := F.set3 (fun j => if j < k then p (j + 475) else p j)
      have hO := F1.1
      refine Rn.iload_n (pc1 := 12)  dX9_records_11 rfl rfl rfl ?_
      refine Rn.sipush (pc1 := 15) (v := nI 2375) dX9_records_12 rfl (by decide) ?_
      refine Rn.icmp_ge (pc1 := 18) 40 dX9_records_15 rfl (by decide) (fun c15 => ?_) (fun c15 => ?_)
      · exact absurd c15 (nI_ge (by omega) (by decide))
      · refine Rn.aload_n (pc1 := 19)  dX9_records_18 rfl rfl rfl ?_
        refine Rn.getfield (pc1 := 22)  dX9_records_19 rfl fX9_16 (by first | assumption | exact mset_same | exact mget_ne (by omega) (by assumption)) rfl ?_
        refine Rn.iload_n (pc1 := 23)  dX9_records_22 rfl rfl rfl ?_
        refine Rn.aload_n (pc1 := 24)  dX9_records_23 rfl rfl rfl ?_
        refine Rn.getfield (pc1 := 27)  dX9_records_24 rfl fX9_16 (by first | assumption | exact mset_same | exact mget_ne (by omega) (by assumption)) rfl ?_
        refine Rn.iload_n (pc1 := 28)  dX9_records_27 rfl rfl rfl ?_
        refine Rn.sipush (pc1 := 31) (v := nI 475) dX9_records_28 rfl (by decide) ?_
        refine Rn.iadd (pc1 := 32)  dX9_records_31 rfl (nI_add k 475) ?_
        refine Rn.iaload (pc1 := 33) (v := p (k + 475))  dX9_records_32 rfl mset_same (vp_nI rfl (by omega) (by decide)) (by rw [nI_clamp (show k + 475 < 2 ^ 31 by omega)]; exact if_neg (by omega)) ?_
        refine Rn.iastore (pc1 := 34) (f' := fun j => if j < k + 1 then p (j + 475) else p j)  dX9_records_33 rfl mset_same (vp_nI rfl (by omega) (by decide)) (by
          rw [updI rfl (by omega)]
          funext j
          by_cases e : j = k
          · subst e; rw [upd_at rfl, if_pos (by omega)]
          · rw [upd_ne e]
            by_cases e2 : j < k
            · rw [if_pos e2, if_pos (by omega)]
            · rw [if_neg e2, if_neg (by omega)]) ?_
        rw [mset_mset]
        refine Rn.iinc (pc1 := 37)  dX9_records_34 rfl rfl (nI_1 k) (by decide) rfl rfl ?_
        refine Rn.goto 11 dX9_records_37 (by decide) ?_
        exact ih (k + 1) h6 (by omega)
  have hO := F.1
  refine EvA.of (L := [some (.ref m), none]) (by decide +kernel) (Nat.le_of_ble_eq_true rfl) rfl ?_
  refine Rn.aload_n (pc1 := 1)  dX9_records_0 rfl rfl rfl ?_
  refine Rn.getfield (pc1 := 4)  dX9_records_1 rfl fX9_36 (by first | assumption | exact mset_same | exact mget_ne (by omega) (by assumption)) rfl ?_
  refine Rn.bipush (pc1 := 6) (v := nI 6) dX9_records_4 rfl (by decide) ?_
  refine Rn.icmp_ne (pc1 := 9) 50 dX9_records_6 rfl (by decide) (fun c6 => ?_) (fun c6 => ?_)
  · have h6 : kept < 6 := by
      rcases Nat.lt_or_ge kept 6 with q | q
      · exact q
      · exact absurd (by rw [show kept = 6 by omega]) c6
    exact J μ p kept _ F Fr.rf h6 (by unfold pushM; rw [if_neg (by omega)]) (if_pos h6).symm
  · have h6 : kept = 6 := (nI_eq (by omega) (by decide)).mp c6
    refine Rn.iconst (pc1 := 10) (v := nI 0) dX9_records_9 rfl (by decide) ?_
    refine Rn.istore_n (pc1 := 11)  dX9_records_10 rfl rfl (by decide) rfl rfl ?_
    have := loop 2375 0 h6 (by omega); rw [show (fun j => if j < 0 then p (j + 475) else p j) = p from funext fun j => if_neg (by omega), mset_id F.2.2.2.1] at this; exact this
theorem eX9_undo (F : MR μ m f f2 p kept sl u pd padded at_ od ordered) (hk : kept ≤ 6) : EvA G 1 kX9_undo [.ref m] μ sz 0 0 (rI fun v μ' => ((kept = 0 ∧ v = -5 ∧ MR μ' m f f2 p kept sl u pd padded at_ od ordered) ∨ (0 < kept ∧ v = nI (kept - 1) ∧ MR μ' m (blk f 0 475 (fun k => p (475 * (kept - 1) + k))) f2 p (kept - 1) sl u pd padded at_ od ordered)) ∧ Fr m (m + 8) μ μ') := by
  have hO := F.1
  refine EvA.of (L := [some (.ref m)]) (by decide +kernel) (Nat.le_of_ble_eq_true rfl) rfl ?_
  refine Rn.aload_n (pc1 := 1)  dX9_undo_0 rfl rfl rfl ?_
  refine Rn.getfield (pc1 := 4)  dX9_undo_1 rfl fX9_36 (by first | assumption | exact mset_same | exact mget_ne (by omega) (by assumption)) rfl ?_
  refine Rn.if_ne (pc1 := 7) 10 dX9_undo_4 rfl (by decide) (fun c4 => ?_) (fun c4 => ?_)
  · have h0 : 0 < kept := by
      rcases Nat.eq_zero_or_pos kept with q | q
      · exact absurd (by rw [q]) c4
      · exact q
    refine Rn.aload_n (pc1 := 11)  dX9_undo_10 rfl rfl rfl ?_
    refine Rn.dup (pc1 := 12)  dX9_undo_11 rfl rfl ?_
    refine Rn.getfield (pc1 := 15)  dX9_undo_12 rfl fX9_36 (by first | assumption | exact mset_same | exact mget_ne (by omega) (by assumption)) rfl ?_
    refine Rn.iconst (pc1 := 16) (v := nI 1) dX9_undo_15 rfl (by decide) ?_
    refine Rn.isub (pc1 := 17)  dX9_undo_16 rfl (nI_sub h0) ?_
    refine Rn.putfield (pc1 := 20)  dX9_undo_17 rfl pX9_36 (fun h => Bool.noConfusion h) (by first | assumption | exact mset_same | exact mget_ne (by omega) (by assumption)) (Nat.le_of_ble_eq_true rfl) rfl rfl rfl ?_
    have F1 := F.setO (kept - 1) padded at_ ordered rfl
    have hO1 := F1.1
    refine Rn.aload_n (pc1 := 21)  dX9_undo_20 rfl rfl rfl ?_
    refine Rn.getfield (pc1 := 24)  dX9_undo_21 rfl fX9_16 (by first | assumption | exact mset_same | exact mget_ne (by omega) (by assumption)) rfl ?_
    refine Rn.sipush (pc1 := 27) (v := nI 475) dX9_undo_24 rfl (by decide) ?_
    refine Rn.aload_n (pc1 := 28)  dX9_undo_27 rfl rfl rfl ?_
    refine Rn.getfield (pc1 := 31)  dX9_undo_28 rfl fX9_36 (by first | assumption | exact mset_same | exact mget_ne (by omega) (by assumption)) rfl ?_
    refine Rn.imul (pc1 := 32)  dX9_undo_31 rfl (nI_mul 475 (kept - 1)) ?_
    refine Rn.aload_n (pc1 := 33)  dX9_undo_32 rfl rfl rfl ?_
    refine Rn.getfield (pc1 := 36)  dX9_undo_33 rfl fX9_7 (by first | assumption | exact mset_same | exact mget_ne (by omega) (by assumption)) rfl ?_
    refine Rn.iconst (pc1 := 37) (v := nI 0) dX9_undo_36 rfl (by decide) ?_
    refine Rn.cS_v (pc1 := 40) (eX9_lays F1.2.2.2.1 F1.2.1 (by omega) (by omega) (by omega) (by decide) (by decide)) dX9_undo_37 rfl qX9_40 oX9_lays rfl rfl (Nat.le_of_ble_eq_true rfl) (by decide) (by decide) (fun μ37 h37 => ?_)
    subst h37
    have F2 := F1.set1 (blk f 0 475 (fun k => p (475 * (kept - 1) + k)))
    have hO2 := F2.1
    refine Rn.aload_n (pc1 := 41)  dX9_undo_40 rfl rfl rfl ?_
    refine Rn.getfield (pc1 := 44)  dX9_undo_41 rfl fX9_36 (by first | assumption | exact mset_same | exact mget_ne (by omega) (by assumption)) rfl ?_
    exact Rn.ireturn dX9_undo_44 rfl rfl ⟨_, rfl, Or.inr ⟨h0, rfl, F2⟩, (Fr.set (by omega) (by omega)).set_ (by omega) (by omega)⟩
  · have h0 : kept = 0 := (nI_eq (by omega) (by decide)).mp c4
    refine Rn.bipush (pc1 := 9) (v := (-5)) dX9_undo_7 rfl (by decide) ?_
    exact Rn.ireturn dX9_undo_9 rfl rfl ⟨_, rfl, Or.inl ⟨h0, rfl, F⟩, Fr.rf⟩
theorem eX9_save {j : Int32} (F : MR μ m f f2 p kept sl u pd padded at_ od ordered) : EvA G 1 kX9_save [.ref m, .int j] μ sz 0 0 (rI fun v μ' => ((inB j (nI 0) (nI 1) = false ∧ v = -2 ∧ MR μ' m f f2 p kept sl u pd padded at_ od ordered) ∨ (inB j (nI 0) (nI 1) = true ∧ v = f 6 ∧ MR μ' m f f2 p kept (blk sl (475 * j.toNatClampNeg) 475 f) (setU u j.toNatClampNeg) pd padded at_ od ordered)) ∧ Fr m (m + 8) μ μ') := by
  have hO := F.1
  refine EvA.of (L := [some (.ref m), some (.int j)]) (by decide +kernel) (Nat.le_of_ble_eq_true rfl) rfl ?_
  refine Rn.iload_n (pc1 := 1)  dX9_save_0 rfl rfl rfl ?_
  refine Rn.iconst (pc1 := 2) (v := nI 0) dX9_save_1 rfl (by decide) ?_
  refine Rn.iconst (pc1 := 3) (v := nI 1) dX9_save_2 rfl (by decide) ?_
  refine Rn.cS_i (pc1 := 6) (eX9_in) dX9_save_3 rfl qX9_32 oX9_in rfl rfl (Nat.le_of_ble_eq_true rfl) (by decide) (by decide) (fun v3 μ3 h3 => ?_)
  obtain ⟨rfl, rfl⟩ := h3
  refine Rn.if_ne (pc1 := 9) 12 dX9_save_6 rfl (by decide) (fun c6 => ?_) (fun c6 => ?_)
  · have h0 := bI_n c6
    obtain ⟨i, hi, rfl⟩ := inB_nI (by decide) h0
    rw [nI_clamp (by omega)]
    refine Rn.aload_n (pc1 := 13)  dX9_save_12 rfl rfl rfl ?_
    refine Rn.getfield (pc1 := 16)  dX9_save_13 rfl fX9_7 (by first | assumption | exact mset_same | exact mget_ne (by omega) (by assumption)) rfl ?_
    refine Rn.iconst (pc1 := 17) (v := nI 0) dX9_save_16 rfl (by decide) ?_
    refine Rn.aload_n (pc1 := 18)  dX9_save_17 rfl rfl rfl ?_
    refine Rn.getfield (pc1 := 21)  dX9_save_18 rfl fX9_19 (by first | assumption | exact mset_same | exact mget_ne (by omega) (by assumption)) rfl ?_
    refine Rn.sipush (pc1 := 24) (v := nI 475) dX9_save_21 rfl (by decide) ?_
    refine Rn.iload_n (pc1 := 25)  dX9_save_24 rfl rfl rfl ?_
    refine Rn.imul (pc1 := 26)  dX9_save_25 rfl (nI_mul 475 i) ?_
    refine Rn.cS_v (pc1 := 29) (eX9_lays F.2.1 F.2.2.2.2.1 (by omega) (by omega) (by omega) (by decide) (by decide)) dX9_save_26 rfl qX9_40 oX9_lays rfl rfl (Nat.le_of_ble_eq_true rfl) (by decide) (by decide) (fun μ26 h26 => ?_)
    subst h26
    rw [show (fun k => f (0 + k)) = f from funext fun k => by rw [Nat.zero_add]]
    have F1 := F.set4 (blk sl (475 * i) 475 f)
    have hO1 := F1.1
    refine Rn.aload_n (pc1 := 30)  dX9_save_29 rfl rfl rfl ?_
    refine Rn.getfield (pc1 := 33)  dX9_save_30 rfl fX9_22 (by first | assumption | exact mset_same | exact mget_ne (by omega) (by assumption)) rfl ?_
    refine Rn.iload_n (pc1 := 34)  dX9_save_33 rfl rfl rfl ?_
    refine Rn.iconst (pc1 := 35) (v := nI 1) dX9_save_34 rfl (by decide) ?_
    refine Rn.zastore (pc1 := 36)  dX9_save_35 rfl F1.2.2.2.2.2.1 (vp_nI rfl (show i < 2 by omega) (by decide)) rfl rfl ?_
    have F2 := F1.set5 (setU u i) (g := upd (fun i => bI (u i)) (nI i).toNatClampNeg (nI 1)) (by
      rw [nI_clamp (by omega)]
      funext k
      by_cases e : k = i
      · subst e; rw [upd_at rfl, show setU u k k = true from if_pos rfl]; rfl
      · rw [upd_ne e, show setU u i k = u k from if_neg e])
    have hO2 := F2.1
    refine Rn.aload_n (pc1 := 37)  dX9_save_36 rfl rfl rfl ?_
    refine Rn.getfield (pc1 := 40)  dX9_save_37 rfl fX9_7 (by first | assumption | exact mset_same | exact mget_ne (by omega) (by assumption)) rfl ?_
    refine Rn.bipush (pc1 := 42) (v := nI 6) dX9_save_40 rfl (by decide) ?_
    refine Rn.iaload (pc1 := 43)  dX9_save_42 rfl F2.2.1 (vp_nI (j := 6) rfl (by decide) (by decide)) rfl ?_
    exact Rn.ireturn dX9_save_43 rfl rfl ⟨_, rfl, Or.inr ⟨h0, rfl, F2⟩, (Fr.set (by omega) (by omega)).set_ (by omega) (by omega)⟩
  · have h0 := bI_0 c6
    refine Rn.bipush (pc1 := 11) (v := (-2)) dX9_save_9 rfl (by decide) ?_
    exact Rn.ireturn dX9_save_11 rfl rfl ⟨_, rfl, Or.inl ⟨h0, rfl, F⟩, Fr.rf⟩
theorem eX9_restore {j : Int32} (F : MR μ m f f2 p kept sl u pd padded at_ od ordered) (hk : kept ≤ 6) : EvA G 2 kX9_restore [.ref m, .int j] μ sz 0 0 (rI fun v μ' => ((mayRest u j ≠ nI 0 ∧ v = mayRest u j ∧ MR μ' m f f2 p kept sl u pd padded at_ od ordered) ∨ (mayRest u j = nI 0 ∧ v = sl (475 * j.toNatClampNeg + 6) ∧ MR μ' m (blk f 0 475 (fun k => sl (475 * j.toNatClampNeg + k))) f2 (pushM p kept f) (keep1 kept) sl u pd padded at_ od ordered)) ∧ Fr m (m + 8) μ μ') := by
  have hO := F.1
  refine EvA.of (L := [some (.ref m), some (.int j)]) (by decide +kernel) (Nat.le_of_ble_eq_true rfl) rfl ?_
  refine Rn.iload_n (pc1 := 1)  dX9_restore_0 rfl rfl rfl ?_
  refine Rn.iconst (pc1 := 2) (v := nI 0) dX9_restore_1 rfl (by decide) ?_
  refine Rn.iconst (pc1 := 3) (v := nI 1) dX9_restore_2 rfl (by decide) ?_
  refine Rn.cS_i (pc1 := 6) (eX9_in) dX9_restore_3 rfl qX9_32 oX9_in rfl rfl (Nat.le_of_ble_eq_true rfl) (by decide) (by decide) (fun v3 μ3 h3 => ?_)
  obtain ⟨rfl, rfl⟩ := h3
  refine Rn.if_ne (pc1 := 9) 12 dX9_restore_6 rfl (by decide) (fun c6 => ?_) (fun c6 => ?_)
  · have h1 := bI_n c6
    obtain ⟨i, hi, rfl⟩ := inB_nI (by decide) h1
    have h2 : mayRest u (nI i) = if u i = true then nI 0 else -5 := by unfold mayRest; rw [if_pos h1, nI_clamp (by omega)]
    rw [h2, nI_clamp (by omega)]
    refine Rn.aload_n (pc1 := 13)  dX9_restore_12 rfl rfl rfl ?_
    refine Rn.getfield (pc1 := 16)  dX9_restore_13 rfl fX9_22 (by first | assumption | exact mset_same | exact mget_ne (by omega) (by assumption)) rfl ?_
    refine Rn.iload_n (pc1 := 17)  dX9_restore_16 rfl rfl rfl ?_
    refine Rn.zaload (pc1 := 18)  dX9_restore_17 rfl F.2.2.2.2.2.1 (vp_nI rfl (show i < 2 by omega) (by decide)) (gI (f := fun i => bI (u i)) rfl (by omega)) ?_
    refine Rn.if_ne (pc1 := 21) 24 dX9_restore_18 rfl (by decide) (fun c18 => ?_) (fun c18 => ?_)
    · rw [bI_n c18, if_pos rfl]
      refine Rn.aload_n (pc1 := 25)  dX9_restore_24 rfl rfl rfl ?_
      refine Rn.cV_v (pc1 := 28) (eX9_records F hk) dX9_restore_25 rfl qX9_44 oX9_records (by first | assumption | exact mset_same | exact mget_ne (by omega) (by assumption)) rfl rfl rfl rfl (Nat.le_of_ble_eq_true rfl) (by decide) (by decide) (fun μ25 h25 => ?_)
      obtain ⟨F1, z1⟩ := h25
      have hO1 := F1.1
      refine Rn.aload_n (pc1 := 29)  dX9_restore_28 rfl rfl rfl ?_
      refine Rn.getfield (pc1 := 32)  dX9_restore_29 rfl fX9_19 (by first | assumption | exact mset_same | exact mget_ne (by omega) (by assumption)) rfl ?_
      refine Rn.sipush (pc1 := 35) (v := nI 475) dX9_restore_32 rfl (by decide) ?_
      refine Rn.iload_n (pc1 := 36)  dX9_restore_35 rfl rfl rfl ?_
      refine Rn.imul (pc1 := 37)  dX9_restore_36 rfl (nI_mul 475 i) ?_
      refine Rn.aload_n (pc1 := 38)  dX9_restore_37 rfl rfl rfl ?_
      refine Rn.getfield (pc1 := 41)  dX9_restore_38 rfl fX9_7 (by first | assumption | exact mset_same | exact mget_ne (by omega) (by assumption)) rfl ?_
      refine Rn.iconst (pc1 := 42) (v := nI 0) dX9_restore_41 rfl (by decide) ?_
      refine Rn.cS_v (pc1 := 45) (eX9_lays F1.2.2.2.2.1 F1.2.1 (by omega) (by omega) (by omega) (by decide) (by decide)) dX9_restore_42 rfl qX9_40 oX9_lays rfl rfl (Nat.le_of_ble_eq_true rfl) (by decide) (by decide) (fun μ42 h42 => ?_)
      subst h42
      have F2 := F1.set1 (blk f 0 475 (fun k => sl (475 * i + k)))
      have hO2 := F2.1
      refine Rn.aload_n (pc1 := 46)  dX9_restore_45 rfl rfl rfl ?_
      refine Rn.getfield (pc1 := 49)  dX9_restore_46 rfl fX9_7 (by first | assumption | exact mset_same | exact mget_ne (by omega) (by assumption)) rfl ?_
      refine Rn.bipush (pc1 := 51) (v := nI 6) dX9_restore_49 rfl (by decide) ?_
      refine Rn.iaload (pc1 := 52)  dX9_restore_51 rfl F2.2.1 (vp_nI (j := 6) rfl (by decide) (by decide)) rfl ?_
      exact Rn.ireturn dX9_restore_52 rfl rfl ⟨_, rfl, Or.inr ⟨rfl, blk_in (q := 6) rfl (by decide), F2⟩, z1.set_ (by omega) (by omega)⟩
    · rw [bI_0 c18, if_neg (by decide)]
      refine Rn.bipush (pc1 := 23) (v := (-5)) dX9_restore_21 rfl (by decide) ?_
      exact Rn.ireturn dX9_restore_23 rfl rfl ⟨_, rfl, Or.inl ⟨by decide, rfl, F⟩, Fr.rf⟩
  · have h0 : mayRest u j = -2 := if_neg (by rw [bI_0 c6]; decide)
    refine Rn.bipush (pc1 := 11) (v := (-2)) dX9_restore_9 rfl (by decide) ?_
    exact Rn.ireturn dX9_restore_11 rfl rfl ⟨_, rfl, Or.inl ⟨by rw [h0]; decide, h0.symm, F⟩, Fr.rf⟩
end M1
