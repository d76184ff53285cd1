/-! ===== the reference: the walk over its text ===== -/
theorem inB_nn {s lo hi : Nat} (h1 : s < 2 ^ 31) (h2 : lo < 2 ^ 31) (h3 : hi < 2 ^ 31) : inB (nI s) (nI lo) (nI hi) = (decide (lo ≤ s) && decide (s ≤ hi)) := by
  unfold inB
  rw [show decide (nI lo ≤ nI s) = decide (lo ≤ s) from decide_eq_decide.mpr (nI_leI h2 h1), show decide (nI s ≤ nI hi) = decide (s ≤ hi) from decide_eq_decide.mpr (nI_leI h1 h3)]
/-- what is put down of an order -/
def OE (od : Nat → Int32) (i c a b : Nat) : Prop := od (3 * i) = nI c ∧ (2 ≤ kindF c → od (3 * i + 1) = nI a) ∧ (4 ≤ kindF c → od (3 * i + 2) = nI b)
section M9
variable {G : GG} {μ : Mm} {sz m kept padded at_ ordered : Nat} {f f2 p sl pd od : Nat → Int32} {u : Nat → Bool}
theorem eX9_isAt {lo hi : Nat} (F : MR μ m f f2 p kept sl u pd padded at_ od ordered) (ho : PadOk pd padded) (hl : 1 ≤ lo) (h2 : lo < 2 ^ 31) (h3 : hi < 2 ^ 31) (h4 : at_ < 2 ^ 30) : EvA G 1 kX9_isAt [.ref m, .int (nI lo), .int (nI hi)] μ sz 0 0 (rI fun v μ' => v = bI (decide (lo ≤ sgn pd padded at_) && decide (sgn pd padded at_ ≤ hi)) ∧ μ' = μ) := by
  have hO := F.1
  have hp := F.2.2.2.2.2.2.1
  have hle := ho.1
  refine EvA.of (L := [some (.ref m), some (.int (nI lo)), some (.int (nI hi))]) (by decide +kernel) (Nat.le_of_ble_eq_true rfl) rfl ?_
  refine Rn.aload_n (pc1 := 1)  dX9_isAt_0 rfl rfl rfl ?_
  refine Rn.getfield (pc1 := 4)  dX9_isAt_1 rfl fX9_156 (by first | assumption | exact mset_same | exact mget_ne (by omega) (by assumption)) rfl ?_
  refine Rn.aload_n (pc1 := 5)  dX9_isAt_4 rfl rfl rfl ?_
  refine Rn.getfield (pc1 := 8)  dX9_isAt_5 rfl fX9_139 (by first | assumption | exact mset_same | exact mget_ne (by omega) (by assumption)) rfl ?_
  refine Rn.icmp_ge (pc1 := 11) 32 dX9_isAt_8 rfl (by decide) (fun c8 => ?_) (fun c8 => ?_)
  · have e : sgn pd padded at_ = 0 := sgn_out ((nI_leI (by omega) (by omega)).mp c8)
    rw [e, show decide (lo ≤ 0) = false from decide_eq_false (by omega), Bool.false_and]
    refine Rn.iconst (pc1 := 33) (v := nI 0) dX9_isAt_32 rfl (by decide) ?_
    exact Rn.ireturn dX9_isAt_33 rfl rfl ⟨_, rfl, rfl, rfl⟩
  · have hlt : at_ < padded := by
      rcases Nat.lt_or_ge at_ padded with z | z
      · exact z
      · exact absurd (nI_le z (by omega)) c8
    obtain ⟨s1, s2, s3⟩ := sgn_in ho hlt
    refine Rn.aload_n (pc1 := 12)  dX9_isAt_11 rfl rfl rfl ?_
    refine Rn.getfield (pc1 := 15)  dX9_isAt_12 rfl fX9_26 (by first | assumption | exact mset_same | exact mget_ne (by omega) (by assumption)) rfl ?_
    refine Rn.aload_n (pc1 := 16)  dX9_isAt_15 rfl rfl rfl ?_
    refine Rn.getfield (pc1 := 19)  dX9_isAt_16 rfl fX9_156 (by first | assumption | exact mset_same | exact mget_ne (by omega) (by assumption)) rfl ?_
    refine Rn.iaload (pc1 := 20) (v := nI (sgn pd padded at_))  dX9_isAt_19 rfl (by assumption) (vp_nI (j := at_) rfl (by omega) (by decide)) ((gI rfl (by omega)).trans s3) ?_
    refine Rn.iload_n (pc1 := 21)  dX9_isAt_20 rfl rfl rfl ?_
    refine Rn.iload_n (pc1 := 22)  dX9_isAt_21 rfl rfl rfl ?_
    refine Rn.cS_i (pc1 := 25) (eX9_in) dX9_isAt_22 rfl qX9_32 oX9_in rfl rfl (Nat.le_of_ble_eq_true rfl) (by decide) (by decide) (fun v22 μ22 h22 => ?_)
    obtain ⟨rfl, rfl⟩ := h22
    rw [inB_nn (by omega) h2 h3]
    refine Rn.if_eq (pc1 := 28) 32 dX9_isAt_25 rfl (by decide) (fun c25 => ?_) (fun c25 => ?_)
    · rw [c25]
      refine Rn.iconst (pc1 := 33) (v := nI 0) dX9_isAt_32 rfl (by decide) ?_
      exact Rn.ireturn dX9_isAt_33 rfl rfl ⟨_, rfl, rfl, rfl⟩
    · rw [bI_n c25]
      refine Rn.iconst (pc1 := 29) (v := nI 1) dX9_isAt_28 rfl (by decide) ?_
      refine Rn.goto 33 dX9_isAt_29 (by decide) ?_
      exact Rn.ireturn dX9_isAt_33 rfl rfl ⟨_, rfl, rfl, rfl⟩
theorem eX9_isSign {c : Nat} (F : MR μ m f f2 p kept sl u pd padded at_ od ordered) (ho : PadOk pd padded) (hl : 1 ≤ c) (h2 : c < 128) (h4 : at_ < 2 ^ 30) : EvA G 2 kX9_isSign [.ref m, .int (nI c)] μ sz 0 0 (rI fun v μ' => (sgn pd padded at_ = c ∧ v = nI 1 ∧ MR μ' m f f2 p kept sl u pd padded (at_ + 1) od ordered ∨ ¬ sgn pd padded at_ = c ∧ v = nI 0 ∧ MR μ' m f f2 p kept sl u pd padded at_ od ordered) ∧ Fr m (m + 8) μ μ') := by
  have hO := F.1
  refine EvA.of (L := [some (.ref m), some (.int (nI c)), none]) (by decide +kernel) (Nat.le_of_ble_eq_true rfl) rfl ?_
  refine Rn.aload_n (pc1 := 1)  dX9_isSign_0 rfl rfl rfl ?_
  refine Rn.iload_n (pc1 := 2)  dX9_isSign_1 rfl rfl rfl ?_
  refine Rn.iload_n (pc1 := 3)  dX9_isSign_2 rfl rfl rfl ?_
  refine Rn.cV_i (pc1 := 6) (eX9_isAt F ho hl (by omega) (by omega) h4) dX9_isSign_3 rfl qX9_159 oX9_isAt (by first | assumption | exact mset_same | exact mget_ne (by omega) (by assumption)) rfl rfl rfl rfl (Nat.le_of_ble_eq_true rfl) (by decide) (by decide) (fun v3 μ3 h3 => ?_)
  obtain ⟨rfl, rfl⟩ := h3
  refine Rn.istore_n (pc1 := 7)  dX9_isSign_6 rfl rfl (by decide) rfl rfl ?_
  refine Rn.aload_n (pc1 := 8)  dX9_isSign_7 rfl rfl rfl ?_
  refine Rn.dup (pc1 := 9)  dX9_isSign_8 rfl rfl ?_
  refine Rn.getfield (pc1 := 12)  dX9_isSign_9 rfl fX9_156 (by first | assumption | exact mset_same | exact mget_ne (by omega) (by assumption)) rfl ?_
  refine Rn.iload_n (pc1 := 13)  dX9_isSign_12 rfl rfl rfl ?_
  refine Rn.if_eq (pc1 := 16) 20 dX9_isSign_13 rfl (by decide) (fun c13 => ?_) (fun c13 => ?_)
  · have e : ¬ sgn pd padded at_ = c := fun q => by
      rw [q, decide_eq_true (Nat.le_refl c)] at c13
      exact absurd c13 (by decide)
    refine Rn.iconst (pc1 := 21) (v := nI 0) dX9_isSign_20 rfl (by decide) ?_
    refine Rn.iadd (pc1 := 22)  dX9_isSign_21 rfl (nI_add at_ _) ?_
    refine Rn.putfield (pc1 := 25)  dX9_isSign_22 rfl pX9_156 (fun h => Bool.noConfusion h) (by first | assumption | exact mset_same | exact mget_ne (by omega) (by assumption)) (Nat.le_of_ble_eq_true rfl) rfl rfl rfl ?_
    refine Rn.iload_n (pc1 := 26)  dX9_isSign_25 rfl rfl rfl ?_
    first | exact Rn.ireturn dX9_isSign_26 rfl (bI_nar _) ⟨_, rfl, Or.inr ⟨e, c13, F.setO kept padded (at_ + 0) ordered rfl⟩, Fr.set (by omega) (by omega)⟩ | exact Rn.ireturn dX9_isSign_26 rfl (bI_nar _) ⟨_, rfl, Or.inl ⟨e, by rw [bI_n c13]; rfl, F.setO kept padded (at_ + 1) ordered rfl⟩, Fr.set (by omega) (by omega)⟩
  · have e : sgn pd padded at_ = c := by
      have q := bI_n c13
      rw [Bool.and_eq_true, decide_eq_true_eq, decide_eq_true_eq] at q
      omega
    refine Rn.iconst (pc1 := 17) (v := nI 1) dX9_isSign_16 rfl (by decide) ?_
    refine Rn.goto 21 dX9_isSign_17 (by decide) ?_
    refine Rn.iadd (pc1 := 22)  dX9_isSign_21 rfl (nI_add at_ _) ?_
    refine Rn.putfield (pc1 := 25)  dX9_isSign_22 rfl pX9_156 (fun h => Bool.noConfusion h) (by first | assumption | exact mset_same | exact mget_ne (by omega) (by assumption)) (Nat.le_of_ble_eq_true rfl) rfl rfl rfl ?_
    refine Rn.iload_n (pc1 := 26)  dX9_isSign_25 rfl rfl rfl ?_
    first | exact Rn.ireturn dX9_isSign_26 rfl (bI_nar _) ⟨_, rfl, Or.inr ⟨e, c13, F.setO kept padded (at_ + 0) ordered rfl⟩, Fr.set (by omega) (by omega)⟩ | exact Rn.ireturn dX9_isSign_26 rfl (bI_nar _) ⟨_, rfl, Or.inl ⟨e, by rw [bI_n c13]; rfl, F.setO kept padded (at_ + 1) ordered rfl⟩, Fr.set (by omega) (by omega)⟩
theorem eX9_isDigit {w k : Nat} (F : MR μ m f f2 p kept sl u pd padded at_ od ordered) (ho : PadOk pd padded) (hw : w ≤ 2) (hk : k ≤ 9) (hr : ordered ≤ 40) (h4 : at_ < 2 ^ 30) : EvA G 2 kX9_isDigit [.ref m, .int (nI w), .int (nI (48 + k))] μ sz 0 0 (rI fun v μ' => (digV pd padded at_ k = none ∧ v = nI 0 ∧ MR μ' m f f2 p kept sl u pd padded at_ od ordered ∨ ∃ d, digV pd padded at_ k = some d ∧ v = nI 1 ∧ MR μ' m f f2 p kept sl u pd padded (at_ + 1) (upd od (3 * ordered + w) (nI d)) ordered) ∧ Fr m (m + 8) μ μ') := by
  have hO := F.1
  have hp := F.2.2.2.2.2.2.1
  have hle := ho.1
  refine EvA.of (L := [some (.ref m), some (.int (nI w)), some (.int (nI (48 + k))), none]) (by decide +kernel) (Nat.le_of_ble_eq_true rfl) rfl ?_
  refine Rn.aload_n (pc1 := 1)  dX9_isDigit_0 rfl rfl rfl ?_
  refine Rn.bipush (pc1 := 3) (v := nI 48) dX9_isDigit_1 rfl (by decide) ?_
  refine Rn.iload_n (pc1 := 4)  dX9_isDigit_3 rfl rfl rfl ?_
  refine Rn.cV_i (pc1 := 7) (eX9_isAt F ho (by omega) (by omega) (by omega) h4) dX9_isDigit_4 rfl qX9_159 oX9_isAt (by first | assumption | exact mset_same | exact mget_ne (by omega) (by assumption)) rfl rfl rfl rfl (Nat.le_of_ble_eq_true rfl) (by decide) (by decide) (fun v4 μ4 h4 => ?_)
  obtain ⟨rfl, rfl⟩ := h4
  refine Rn.istore_n (pc1 := 8)  dX9_isDigit_7 rfl rfl (by decide) rfl rfl ?_
  refine Rn.iload_n (pc1 := 9)  dX9_isDigit_8 rfl rfl rfl ?_
  refine Rn.if_eq (pc1 := 12) 47 dX9_isDigit_9 rfl (by decide) (fun c9 => ?_) (fun c9 => ?_)
  · have e : digV pd padded at_ k = none := if_neg (fun q => by rw [decide_eq_true q.1, decide_eq_true q.2] at c9; exact absurd c9 (by decide))
    refine Rn.iload_n (pc1 := 48)  dX9_isDigit_47 rfl rfl rfl ?_
    first | exact Rn.ireturn dX9_isDigit_48 rfl (bI_nar _) ⟨_, rfl, Or.inl ⟨e, c9, F⟩, Fr.rf⟩ | exact Rn.ireturn dX9_isDigit_48 rfl (bI_nar _) ⟨_, rfl, Or.inr ⟨_, e, by rw [bI_n c9]; rfl, F1.setO kept padded (at_ + 1) ordered rfl⟩, (Fr.set (by omega) (by omega)).set_ (by omega) (by omega)⟩
  · have q := bI_n c9
    rw [Bool.and_eq_true, decide_eq_true_eq, decide_eq_true_eq] at q
    have e : digV pd padded at_ k = some (sgn pd padded at_ - 48) := if_pos q
    have hlt : at_ < padded := sgn_lt (P := pd) (by omega)
    obtain ⟨s1, s2, s3⟩ := sgn_in ho hlt
    refine Rn.aload_n (pc1 := 13)  dX9_isDigit_12 rfl rfl rfl ?_
    refine Rn.getfield (pc1 := 16)  dX9_isDigit_13 rfl fX9_29 (by first | assumption | exact mset_same | exact mget_ne (by omega) (by assumption)) rfl ?_
    refine Rn.iconst (pc1 := 17) (v := nI 3) dX9_isDigit_16 rfl (by decide) ?_
    refine Rn.aload_n (pc1 := 18)  dX9_isDigit_17 rfl rfl rfl ?_
    refine Rn.getfield (pc1 := 21)  dX9_isDigit_18 rfl fX9_163 (by first | assumption | exact mset_same | exact mget_ne (by omega) (by assumption)) rfl ?_
    refine Rn.imul (pc1 := 22)  dX9_isDigit_21 rfl (nI_mul 3 ordered) ?_
    refine Rn.iload_n (pc1 := 23)  dX9_isDigit_22 rfl rfl rfl ?_
    refine Rn.iadd (pc1 := 24)  dX9_isDigit_23 rfl (nI_add (3 * ordered) w) ?_
    refine Rn.aload_n (pc1 := 25)  dX9_isDigit_24 rfl rfl rfl ?_
    refine Rn.getfield (pc1 := 28)  dX9_isDigit_25 rfl fX9_26 (by first | assumption | exact mset_same | exact mget_ne (by omega) (by assumption)) rfl ?_
    refine Rn.aload_n (pc1 := 29)  dX9_isDigit_28 rfl rfl rfl ?_
    refine Rn.getfield (pc1 := 32)  dX9_isDigit_29 rfl fX9_156 (by first | assumption | exact mset_same | exact mget_ne (by omega) (by assumption)) rfl ?_
    refine Rn.iaload (pc1 := 33) (v := nI (sgn pd padded at_))  dX9_isDigit_32 rfl (by assumption) (vp_nI (j := at_) rfl (by omega) (by decide)) ((gI rfl (by omega)).trans s3) ?_
    refine Rn.bipush (pc1 := 35) (v := nI 48) dX9_isDigit_33 rfl (by decide) ?_
    refine Rn.isub (pc1 := 36)  dX9_isDigit_35 rfl (nI_sub (show 48 ≤ sgn pd padded at_ by omega)) ?_
    refine Rn.iastore (pc1 := 37)  dX9_isDigit_36 rfl F.2.2.2.2.2.2.2 (vp_nI (j := 3 * ordered + w) rfl (by omega) (by decide)) (updI (j := 3 * ordered + w) rfl (by omega)) ?_
    have F1 := F.set7 (upd od (3 * ordered + w) (nI (sgn pd padded at_ - 48)))
    have hO1 := F1.1
    refine Rn.aload_n (pc1 := 38)  dX9_isDigit_37 rfl rfl rfl ?_
    refine Rn.dup (pc1 := 39)  dX9_isDigit_38 rfl rfl ?_
    refine Rn.getfield (pc1 := 42)  dX9_isDigit_39 rfl fX9_156 (by first | assumption | exact mset_same | exact mget_ne (by omega) (by assumption)) rfl ?_
    refine Rn.iconst (pc1 := 43) (v := nI 1) dX9_isDigit_42 rfl (by decide) ?_
    refine Rn.iadd (pc1 := 44)  dX9_isDigit_43 rfl (nI_add at_ 1) ?_
    refine Rn.putfield (pc1 := 47)  dX9_isDigit_44 rfl pX9_156 (fun h => Bool.noConfusion h) (by first | assumption | exact mset_same | exact mget_ne (by omega) (by assumption)) (Nat.le_of_ble_eq_true rfl) rfl rfl rfl ?_
    refine Rn.iload_n (pc1 := 48)  dX9_isDigit_47 rfl rfl rfl ?_
    first | exact Rn.ireturn dX9_isDigit_48 rfl (bI_nar _) ⟨_, rfl, Or.inl ⟨e, c9, F⟩, Fr.rf⟩ | exact Rn.ireturn dX9_isDigit_48 rfl (bI_nar _) ⟨_, rfl, Or.inr ⟨_, e, by rw [bI_n c9]; rfl, F1.setO kept padded (at_ + 1) ordered rfl⟩, (Fr.set (by omega) (by omega)).set_ (by omega) (by omega)⟩
theorem eX9_isNumber {w : Nat} (F : MR μ m f f2 p kept sl u pd padded at_ od ordered) (ho : PadOk pd padded) (hw : w ≤ 2) (hr : ordered ≤ 40) (h4 : at_ < 2 ^ 30) : EvA G 2 kX9_isNumber [.ref m, .int (nI w)] μ sz 0 0 (rI fun v μ' => (numV pd padded at_ = none ∧ v = nI 0 ∧ MR μ' m f f2 p kept sl u pd padded at_ od ordered ∨ ∃ x q, numV pd padded at_ = some (x, q) ∧ v = nI 1 ∧ MR μ' m f f2 p kept sl u pd padded q (upd od (3 * ordered + w) (nI x)) ordered) ∧ Fr m (m + 8) μ μ') := by
  have hle := ho.1
  have fin : ∀ (x q : Nat) (μ1 : Mm), numV pd padded at_ = some (x, q) → MR μ1 m f f2 p kept sl u pd padded q od ordered → Fr m (m + 8) μ μ1 → Rn G 2 kX9_isNumber 88 [some (.ref m), some (.int (nI w)), some (.int (nI x))] [] μ1 sz 0 0 (rI fun v μ' => (numV pd padded at_ = none ∧ v = nI 0 ∧ MR μ' m f f2 p kept sl u pd padded at_ od ordered ∨ ∃ x q, numV pd padded at_ = some (x, q) ∧ v = nI 1 ∧ MR μ' m f f2 p kept sl u pd padded q (upd od (3 * ordered + w) (nI x)) ordered) ∧ Fr m (m + 8) μ μ') := by
    intro x q μ1 e F1 z1
    have hO := F1.1
    refine Rn.aload_n (pc1 := 89)  dX9_isNumber_88 rfl rfl rfl ?_
    refine Rn.getfield (pc1 := 92)  dX9_isNumber_89 rfl fX9_29 (by first | assumption | exact mset_same | exact mget_ne (by omega) (by assumption)) rfl ?_
    refine Rn.iconst (pc1 := 93) (v := nI 3) dX9_isNumber_92 rfl (by decide) ?_
    refine Rn.aload_n (pc1 := 94)  dX9_isNumber_93 rfl rfl rfl ?_
    refine Rn.getfield (pc1 := 97)  dX9_isNumber_94 rfl fX9_163 (by first | assumption | exact mset_same | exact mget_ne (by omega) (by assumption)) rfl ?_
    refine Rn.imul (pc1 := 98)  dX9_isNumber_97 rfl (nI_mul 3 ordered) ?_
    refine Rn.iload_n (pc1 := 99)  dX9_isNumber_98 rfl rfl rfl ?_
    refine Rn.iadd (pc1 := 100)  dX9_isNumber_99 rfl (nI_add (3 * ordered) w) ?_
    refine Rn.iload_n (pc1 := 101)  dX9_isNumber_100 rfl rfl rfl ?_
    refine Rn.iastore (pc1 := 102)  dX9_isNumber_101 rfl F1.2.2.2.2.2.2.2 (vp_nI (j := 3 * ordered + w) rfl (by omega) (by decide)) (updI (j := 3 * ordered + w) rfl (by omega)) ?_
    refine Rn.iconst (pc1 := 103) (v := nI 1) dX9_isNumber_102 rfl (by decide) ?_
    exact Rn.ireturn dX9_isNumber_103 rfl rfl ⟨_, rfl, Or.inr ⟨x, q, e, rfl, F1.set7 _⟩, z1.set_ (by omega) (by omega)⟩
  have end0 : ∀ (x q : Nat) (μ1 : Mm), x = 0 ∨ 100 ≤ x ∧ x < 10000 → numV pd padded at_ = some (x, q) → MR μ1 m f f2 p kept sl u pd padded q od ordered → Fr m (m + 8) μ μ1 → Rn G 2 kX9_isNumber 36 [some (.ref m), some (.int (nI w)), some (.int (nI x))] [] μ1 sz 0 0 (rI fun v μ' => (numV pd padded at_ = none ∧ v = nI 0 ∧ MR μ' m f f2 p kept sl u pd padded at_ od ordered ∨ ∃ x q, numV pd padded at_ = some (x, q) ∧ v = nI 1 ∧ MR μ' m f f2 p kept sl u pd padded q (upd od (3 * ordered + w) (nI x)) ordered) ∧ Fr m (m + 8) μ μ') := by
    intro x q μ1 hx e F1 z1
    have hO := F1.1
    rcases hx with rfl | ⟨x1, x2⟩
    · refine Rn.iload_n (pc1 := 37)  dX9_isNumber_36 rfl rfl rfl ?_
      refine Rn.if_le (pc1 := 40) 88 dX9_isNumber_37 rfl (by decide) (fun c37 => ?_) (fun c37 => ?_)
      · exact fin 0 q μ1 e F1 z1
      · exact absurd (by decide) c37
    · refine Rn.iload_n (pc1 := 37)  dX9_isNumber_36 rfl rfl rfl ?_
      refine Rn.if_le (pc1 := 40) 88 dX9_isNumber_37 rfl (by decide) (fun c37 => ?_) (fun c37 => ?_)
      · exact absurd c37 (i32_nle.mpr (nI_lt (show 0 < x by omega) (by omega)))
      · refine Rn.iload_n (pc1 := 41)  dX9_isNumber_40 rfl rfl rfl ?_
        refine Rn.bipush (pc1 := 43) (v := nI 100) dX9_isNumber_41 rfl (by decide) ?_
        refine Rn.icmp_ge (pc1 := 46) 88 dX9_isNumber_43 rfl (by decide) (fun c43 => ?_) (fun c43 => ?_)
        · exact fin x q μ1 e F1 z1
        · exact absurd (nI_le x1 (by omega)) c43
  have more : ∀ (x q : Nat) (μ1 : Mm), 0 < x → x < 100 → q < 2 ^ 30 → MR μ1 m f f2 p kept sl u pd padded q od ordered → Fr m (m + 8) μ μ1 → (digV pd padded q 9 = none → numV pd padded at_ = some (x, q)) → (∀ d μ2, digV pd padded q 9 = some d → MR μ2 m f f2 p kept sl u pd padded (q + 1) od ordered → Fr m (m + 8) μ μ2 → Rn G 2 kX9_isNumber 36 [some (.ref m), some (.int (nI w)), some (.int (nI (10 * x + d)))] [] μ2 sz 0 0 (rI fun v μ' => (numV pd padded at_ = none ∧ v = nI 0 ∧ MR μ' m f f2 p kept sl u pd padded at_ od ordered ∨ ∃ x q, numV pd padded at_ = some (x, q) ∧ v = nI 1 ∧ MR μ' m f f2 p kept sl u pd padded q (upd od (3 * ordered + w) (nI x)) ordered) ∧ Fr m (m + 8) μ μ')) → Rn G 2 kX9_isNumber 36 [some (.ref m), some (.int (nI w)), some (.int (nI x))] [] μ1 sz 0 0 (rI fun v μ' => (numV pd padded at_ = none ∧ v = nI 0 ∧ MR μ' m f f2 p kept sl u pd padded at_ od ordered ∨ ∃ x q, numV pd padded at_ = some (x, q) ∧ v = nI 1 ∧ MR μ' m f f2 p kept sl u pd padded q (upd od (3 * ordered + w) (nI x)) ordered) ∧ Fr m (m + 8) μ μ') := by
    intro x q μ1 x1 x2 hq F1 z1 K1 K2
    have hO := F1.1
    have hp := F1.2.2.2.2.2.2.1
    refine Rn.iload_n (pc1 := 37)  dX9_isNumber_36 rfl rfl rfl ?_
    refine Rn.if_le (pc1 := 40) 88 dX9_isNumber_37 rfl (by decide) (fun c37 => ?_) (fun c37 => ?_)
    · exact absurd c37 (i32_nle.mpr (nI_lt x1 (by omega)))
    · refine Rn.iload_n (pc1 := 41)  dX9_isNumber_40 rfl rfl rfl ?_
      refine Rn.bipush (pc1 := 43) (v := nI 100) dX9_isNumber_41 rfl (by decide) ?_
      refine Rn.icmp_ge (pc1 := 46) 88 dX9_isNumber_43 rfl (by decide) (fun c43 => ?_) (fun c43 => ?_)
      · exact absurd c43 (nI_ge x2 (by omega))
      · refine Rn.aload_n (pc1 := 47)  dX9_isNumber_46 rfl rfl rfl ?_
        refine Rn.bipush (pc1 := 49) (v := nI 48) dX9_isNumber_47 rfl (by decide) ?_
        refine Rn.bipush (pc1 := 51) (v := nI 57) dX9_isNumber_49 rfl (by decide) ?_
        refine Rn.cV_i (pc1 := 54) (eX9_isAt F1 ho (by omega) (by omega) (by omega) hq) dX9_isNumber_51 rfl qX9_159 oX9_isAt (by first | assumption | exact mset_same | exact mget_ne (by omega) (by assumption)) rfl rfl rfl rfl (Nat.le_of_ble_eq_true rfl) (by decide) (by decide) (fun v51 μ51 h51 => ?_)
        obtain ⟨rfl, rfl⟩ := h51
        refine Rn.if_eq (pc1 := 57) 88 dX9_isNumber_54 rfl (by decide) (fun c54 => ?_) (fun c54 => ?_)
        · have e : digV pd padded q 9 = none := if_neg (fun y => by rw [decide_eq_true y.1, decide_eq_true y.2] at c54; exact absurd c54 (by decide))
          exact fin x q _ (K1 e) F1 z1
        · have y := bI_n c54
          rw [Bool.and_eq_true, decide_eq_true_eq, decide_eq_true_eq] at y
          have e : digV pd padded q 9 = some (sgn pd padded q - 48) := if_pos y
          have hlt : q < padded := sgn_lt (P := pd) (by omega)
          obtain ⟨s1, s2, s3⟩ := sgn_in ho hlt
          refine Rn.bipush (pc1 := 59) (v := nI 10) dX9_isNumber_57 rfl (by decide) ?_
          refine Rn.iload_n (pc1 := 60)  dX9_isNumber_59 rfl rfl rfl ?_
          refine Rn.imul (pc1 := 61)  dX9_isNumber_60 rfl (nI_mul 10 x) ?_
          refine Rn.aload_n (pc1 := 62)  dX9_isNumber_61 rfl rfl rfl ?_
          refine Rn.getfield (pc1 := 65)  dX9_isNumber_62 rfl fX9_26 (by first | assumption | exact mset_same | exact mget_ne (by omega) (by assumption)) rfl ?_
          refine Rn.aload_n (pc1 := 66)  dX9_isNumber_65 rfl rfl rfl ?_
          refine Rn.getfield (pc1 := 69)  dX9_isNumber_66 rfl fX9_156 (by first | assumption | exact mset_same | exact mget_ne (by omega) (by assumption)) rfl ?_
          refine Rn.iaload (pc1 := 70) (v := nI (sgn pd padded q))  dX9_isNumber_69 rfl (by assumption) (vp_nI (j := q) rfl (by omega) (by decide)) ((gI rfl (by omega)).trans s3) ?_
          refine Rn.iadd (pc1 := 71)  dX9_isNumber_70 rfl (nI_add (10 * x) (sgn pd padded q)) ?_
          refine Rn.bipush (pc1 := 73) (v := nI 48) dX9_isNumber_71 rfl (by decide) ?_
          refine Rn.isub (pc1 := 74)  dX9_isNumber_73 rfl ((nI_sub (show 48 ≤ 10 * x + sgn pd padded q by omega)).trans (by rw [show 10 * x + sgn pd padded q - 48 = 10 * x + (sgn pd padded q - 48) by omega])) ?_
          refine Rn.istore_n (pc1 := 75)  dX9_isNumber_74 rfl rfl (by decide) rfl rfl ?_
          refine Rn.aload_n (pc1 := 76)  dX9_isNumber_75 rfl rfl rfl ?_
          refine Rn.dup (pc1 := 77)  dX9_isNumber_76 rfl rfl ?_
          refine Rn.getfield (pc1 := 80)  dX9_isNumber_77 rfl fX9_156 (by first | assumption | exact mset_same | exact mget_ne (by omega) (by assumption)) rfl ?_
          refine Rn.iconst (pc1 := 81) (v := nI 1) dX9_isNumber_80 rfl (by decide) ?_
          refine Rn.iadd (pc1 := 82)  dX9_isNumber_81 rfl (nI_add q 1) ?_
          refine Rn.putfield (pc1 := 85)  dX9_isNumber_82 rfl pX9_156 (fun h => Bool.noConfusion h) (by first | assumption | exact mset_same | exact mget_ne (by omega) (by assumption)) (Nat.le_of_ble_eq_true rfl) rfl rfl rfl ?_
          refine Rn.goto 36 dX9_isNumber_85 (by decide) ?_
          exact K2 _ _ e (F1.setO kept padded (q + 1) ordered rfl) (z1.set_ (by omega) (by omega))
  have hO := F.1
  have hp := F.2.2.2.2.2.2.1
  refine EvA.of (L := [some (.ref m), some (.int (nI w)), none]) (by decide +kernel) (Nat.le_of_ble_eq_true rfl) rfl ?_
  refine Rn.aload_n (pc1 := 1)  dX9_isNumber_0 rfl rfl rfl ?_
  refine Rn.bipush (pc1 := 3) (v := nI 48) dX9_isNumber_1 rfl (by decide) ?_
  refine Rn.bipush (pc1 := 5) (v := nI 57) dX9_isNumber_3 rfl (by decide) ?_
  refine Rn.cV_i (pc1 := 8) (eX9_isAt F ho (by omega) (by omega) (by omega) h4) dX9_isNumber_5 rfl qX9_159 oX9_isAt (by first | assumption | exact mset_same | exact mget_ne (by omega) (by assumption)) rfl rfl rfl rfl (Nat.le_of_ble_eq_true rfl) (by decide) (by decide) (fun v5 μ5 h5 => ?_)
  obtain ⟨rfl, rfl⟩ := h5
  refine Rn.if_ne (pc1 := 11) 13 dX9_isNumber_8 rfl (by decide) (fun c8 => ?_) (fun c8 => ?_)
  · have y := bI_n c8
    rw [Bool.and_eq_true, decide_eq_true_eq, decide_eq_true_eq] at y
    have e : digV pd padded at_ 9 = some (sgn pd padded at_ - 48) := if_pos y
    have hlt : at_ < padded := sgn_lt (P := pd) (by omega)
    obtain ⟨s1, s2, s3⟩ := sgn_in ho hlt
    refine Rn.aload_n (pc1 := 14)  dX9_isNumber_13 rfl rfl rfl ?_
    refine Rn.getfield (pc1 := 17)  dX9_isNumber_14 rfl fX9_26 (by first | assumption | exact mset_same | exact mget_ne (by omega) (by assumption)) rfl ?_
    refine Rn.aload_n (pc1 := 18)  dX9_isNumber_17 rfl rfl rfl ?_
    refine Rn.getfield (pc1 := 21)  dX9_isNumber_18 rfl fX9_156 (by first | assumption | exact mset_same | exact mget_ne (by omega) (by assumption)) rfl ?_
    refine Rn.iaload (pc1 := 22) (v := nI (sgn pd padded at_))  dX9_isNumber_21 rfl (by assumption) (vp_nI (j := at_) rfl (by omega) (by decide)) ((gI rfl (by omega)).trans s3) ?_
    refine Rn.bipush (pc1 := 24) (v := nI 48) dX9_isNumber_22 rfl (by decide) ?_
    refine Rn.isub (pc1 := 25)  dX9_isNumber_24 rfl (nI_sub (show 48 ≤ sgn pd padded at_ by omega)) ?_
    refine Rn.istore_n (pc1 := 26)  dX9_isNumber_25 rfl rfl (by decide) rfl rfl ?_
    refine Rn.aload_n (pc1 := 27)  dX9_isNumber_26 rfl rfl rfl ?_
    refine Rn.dup (pc1 := 28)  dX9_isNumber_27 rfl rfl ?_
    refine Rn.getfield (pc1 := 31)  dX9_isNumber_28 rfl fX9_156 (by first | assumption | exact mset_same | exact mget_ne (by omega) (by assumption)) rfl ?_
    refine Rn.iconst (pc1 := 32) (v := nI 1) dX9_isNumber_31 rfl (by decide) ?_
    refine Rn.iadd (pc1 := 33)  dX9_isNumber_32 rfl (nI_add at_ 1) ?_
    refine Rn.putfield (pc1 := 36)  dX9_isNumber_33 rfl pX9_156 (fun h => Bool.noConfusion h) (by first | assumption | exact mset_same | exact mget_ne (by omega) (by assumption)) (Nat.le_of_ble_eq_true rfl) rfl rfl rfl ?_
    have F1 := F.setO kept padded (at_ + 1) ordered rfl
    have en : numV pd padded at_ = match sgn pd padded at_ - 48 with
      | 0 => some (0, at_ + 1)
      | a + 1 => match digV pd padded (at_ + 1) 9 with
        | none => some (a + 1, at_ + 1)
        | some b => match digV pd padded (at_ + 2) 9 with
          | none => some (10 * (a + 1) + b, at_ + 2)
          | some c => some (10 * (10 * (a + 1) + b) + c, at_ + 3) := by unfold numV; rw [e]; cases (sgn pd padded at_ - 48) <;> rfl
    have a9 : sgn pd padded at_ - 48 ≤ 9 := by omega
    generalize sgn pd padded at_ - 48 = a at en a9
    cases a with
    | zero => exact end0 0 (at_ + 1) _ (Or.inl rfl) en F1 (Fr.set (by omega) (by omega))
    | succ a =>
      refine more (a + 1) (at_ + 1) _ (by omega) (by omega) (by omega) F1 (Fr.set (by omega) (by omega)) (fun q => by rw [en, q]) ?_
      intro b μ2 hb F2 z2
      have b9 := digV_le hb
      simp only [hb] at en
      refine more (10 * (a + 1) + b) (at_ + 2) _ (by omega) (by omega) (by omega) F2 z2 (fun q => by rw [en, q]) ?_
      intro c μ3 hc F3 z3
      have c9 := digV_le hc
      simp only [hc] at en
      exact end0 _ (at_ + 3) _ (Or.inr ⟨by omega, by omega⟩) en F3 z3
  · have e : digV pd padded at_ 9 = none := if_neg (fun y => by rw [decide_eq_true y.1, decide_eq_true y.2] at c8; exact absurd c8 (by decide))
    refine Rn.iconst (pc1 := 12) (v := nI 0) dX9_isNumber_11 rfl (by decide) ?_
    exact Rn.ireturn dX9_isNumber_12 rfl rfl ⟨_, rfl, Or.inl ⟨by unfold numV; rw [e], rfl, F⟩, Fr.rf⟩
abbrev QO9 (m : Nat) (f f2 p : Nat → Int32) (kept : Nat) (sl : Nat → Int32) (u : Nat → Bool) (pd : Nat → Int32) (padded at_ : Nat) (od : Nat → Int32) (ordered : Nat) (μ : Mm) : Option Value → Mm → Prop := rI fun v μ' => v = bI (ordV pd padded at_).1 ∧ (∃ od', MR μ' m f f2 p kept sl u pd padded (ordV pd padded at_).2.1 od' ordered ∧ (∀ j, j < 3 * ordered → od' j = od j) ∧ ((ordV pd padded at_).1 = true → OE od' ordered (sgn pd padded at_) (ordV pd padded at_).2.2.1 (ordV pd padded at_).2.2.2)) ∧ Fr m (m + 8) μ μ'
end M9
