/-! ===== the reference: its changes, with what it keeps for the undo ===== -/
abbrev QX (m : Nat) (f f2 p : Nat → Int32) (kept : Nat) (sl : Nat → Int32) (u : Nat → Bool) (pd : Nat → Int32) (padded at_ : Nat) (od : Nat → Int32) (ordered : Nat) (may val : Int32) (f' : Nat → Int32) (μ : Mm) : Option Value → Mm → Prop := rI fun v μ' => ((¬ may = nI 0 ∧ v = may ∧ MR μ' m f f2 p kept sl u pd padded at_ od ordered) ∨ (may = nI 0 ∧ v = val ∧ MR μ' m f' f2 (pushM p kept f) (keep1 kept) sl u pd padded at_ od ordered)) ∧ Fr m (m + 8) μ μ'
theorem ifC {α : Type} {c : Prop} [Decidable c] {x y : α} {P : α → Prop} (h1 : c → P x) (h2 : ¬ c → P y) : P (if c then x else y) := by
  by_cases h : c
  · rw [if_pos h]; exact h1 h
  · rw [if_neg h]; exact h2 h
section M4
variable {G : GG} {μ : Mm} {sz m kept padded at_ ordered h rc sc B : Nat} {f f2 p sl pd od : Nat → Int32} {u : Nat → Bool}
theorem eX9_turn {k : Nat} {v : Int32} (F : MR μ m f f2 p kept sl u pd padded at_ od ordered) (hk : kept ≤ 6) (k9 : k < 20) : EvA G 3 kX9_turn [.ref m, .int (nI k), .int v] μ sz 0 0 (QX m f f2 p kept sl u pd padded at_ od ordered (mayTurnF (nI k) v) (f k) (upd f k v) μ) := by
  have hO := F.1
  have J : mayTurnF (nI k) v = nI 0 → k < 475 → ∀ o3 : Option Value, Rn G 3 kX9_turn 36 [some (.ref m), some (.int (nI k)), some (.int v), o3] [] μ sz 0 0 (QX m f f2 p kept sl u pd padded at_ od ordered (mayTurnF (nI k) v) (f k) (upd f k v) μ) := by
    intro hm k4 o3
    refine Rn.aload_n (pc1 := 37)  dX9_turn_36 rfl rfl rfl ?_
    refine Rn.cV_v (pc1 := 40) (eX9_records F hk) dX9_turn_37 rfl qX9_44 oX9_records (by first | assumption | exact mset_same | exact mget_ne (by omega) (by assumption)) rfl rfl rfl rfl (Nat.le_of_ble_eq_true rfl) (by decide) (by decide) (fun μ37 h37 => ?_)
    obtain ⟨F1, z1⟩ := h37
    have hO1 := F1.1
    have hA1 := F1.2.1
    refine Rn.aload_n (pc1 := 41)  dX9_turn_40 rfl rfl rfl ?_
    refine Rn.getfield (pc1 := 44)  dX9_turn_41 rfl fX9_7 (by first | assumption | exact mset_same | exact mget_ne (by omega) (by assumption)) rfl ?_
    refine Rn.iload_n (pc1 := 45)  dX9_turn_44 rfl rfl rfl ?_
    refine Rn.iaload (pc1 := 46) (v := f k)  dX9_turn_45 rfl (by first | assumption | exact mset_same | exact mget_ne (by omega) (by assumption)) (vp_nI (j := k) rfl (by omega) (by decide)) (by rw [nI_clamp (by omega)] <;> (first | rfl | assumption | (simp (disch := omega) only [upd_ne, upd_at, blk_out]; done) | (simp (disch := omega) only [upd_ne, upd_at, blk_out]; assumption))) ?_
    refine Rn.istore_n (pc1 := 47)  dX9_turn_46 rfl rfl (by decide) rfl rfl ?_
    refine Rn.aload_n (pc1 := 48)  dX9_turn_47 rfl rfl rfl ?_
    refine Rn.getfield (pc1 := 51)  dX9_turn_48 rfl fX9_7 (by first | assumption | exact mset_same | exact mget_ne (by omega) (by assumption)) rfl ?_
    refine Rn.iload_n (pc1 := 52)  dX9_turn_51 rfl rfl rfl ?_
    refine Rn.iload_n (pc1 := 53)  dX9_turn_52 rfl rfl rfl ?_
    refine Rn.iastore (pc1 := 54)  dX9_turn_53 rfl (by first | assumption | exact mset_same | exact mget_ne (by omega) (by assumption)) (vp_nI (j := k) rfl (by omega) (by decide)) (updI (j := k) rfl (by omega)) ?_
    refine Rn.iload_n (pc1 := 55)  dX9_turn_54 rfl rfl rfl ?_
    exact Rn.ireturn dX9_turn_55 rfl rfl ⟨_, rfl, Or.inr ⟨hm, rfl, F1.set1 (upd f k v)⟩, z1.set_ (by omega) (by omega)⟩
  refine EvA.of (L := [some (.ref m), some (.int (nI k)), some (.int v), none]) (by decide +kernel) (Nat.le_of_ble_eq_true rfl) rfl ?_
  refine Rn.iload_n (pc1 := 1)  dX9_turn_0 rfl rfl rfl ?_
  refine Rn.if_ne (pc1 := 4) 17 dX9_turn_1 rfl (by decide) (fun c1 => ?_) (fun c1 => ?_)
  · have k0 : ¬ nI k = nI 0 := c1
    refine Rn.iload_n (pc1 := 18)  dX9_turn_17 rfl rfl rfl ?_
    refine Rn.iconst (pc1 := 19) (v := nI 1) dX9_turn_18 rfl (by decide) ?_
    refine Rn.icmp_ne (pc1 := 22) 33 dX9_turn_19 rfl (by decide) (fun c19 => ?_) (fun c19 => ?_)
    · have hm : mayTurnF (nI k) v = -2 := by unfold mayTurnF; rw [if_neg k0, if_neg (fun q => c19 q.1)]
      refine Rn.bipush (pc1 := 35) (v := (-2)) dX9_turn_33 rfl (by decide) ?_
      exact Rn.ireturn dX9_turn_35 rfl rfl ⟨_, rfl, Or.inl ⟨by rw [hm]; decide, hm.symm, F⟩, Fr.rf⟩
    · have k1 : nI k = nI 1 := c19
      refine Rn.iload_n (pc1 := 23)  dX9_turn_22 rfl rfl rfl ?_
      refine Rn.iconst (pc1 := 24) (v := nI 0) dX9_turn_23 rfl (by decide) ?_
      refine Rn.sipush (pc1 := 27) (v := nI 999) dX9_turn_24 rfl (by decide) ?_
      refine Rn.cS_i (pc1 := 30) (eX9_in) dX9_turn_27 rfl qX9_32 oX9_in rfl rfl (Nat.le_of_ble_eq_true rfl) (by decide) (by decide) (fun v27 μ27 h27 => ?_)
      obtain ⟨rfl, rfl⟩ := h27
      refine Rn.if_ne (pc1 := 33) 36 dX9_turn_30 rfl (by decide) (fun c30 => ?_) (fun c30 => ?_)
      · first | exact J (by unfold mayTurnF; rw [if_pos k0, bI_n c11]; rfl) (by omega) _ | exact J (by unfold mayTurnF; rw [if_neg k0, if_pos ⟨k1, bI_n c30⟩]) (by omega) _
      · have hm : mayTurnF (nI k) v = -2 := by unfold mayTurnF; rw [if_neg k0, if_neg (fun q => by rw [bI_0 c30] at q; cases q.2)]
        refine Rn.bipush (pc1 := 35) (v := (-2)) dX9_turn_33 rfl (by decide) ?_
        exact Rn.ireturn dX9_turn_35 rfl rfl ⟨_, rfl, Or.inl ⟨by rw [hm]; decide, hm.symm, F⟩, Fr.rf⟩
  · have k0 : nI k = nI 0 := c1
    refine Rn.iload_n (pc1 := 5)  dX9_turn_4 rfl rfl rfl ?_
    refine Rn.iconst (pc1 := 6) (v := nI 1) dX9_turn_5 rfl (by decide) ?_
    refine Rn.bipush (pc1 := 8) (v := nI 20) dX9_turn_6 rfl (by decide) ?_
    refine Rn.cS_i (pc1 := 11) (eX9_in) dX9_turn_8 rfl qX9_32 oX9_in rfl rfl (Nat.le_of_ble_eq_true rfl) (by decide) (by decide) (fun v8 μ8 h8 => ?_)
    obtain ⟨rfl, rfl⟩ := h8
    refine Rn.if_ne (pc1 := 14) 36 dX9_turn_11 rfl (by decide) (fun c11 => ?_) (fun c11 => ?_)
    · first | exact J (by unfold mayTurnF; rw [if_pos k0, bI_n c11]; rfl) (by omega) _ | exact J (by unfold mayTurnF; rw [if_neg k0, if_pos ⟨k1, bI_n c30⟩]) (by omega) _
    · have hm : mayTurnF (nI k) v = -2 := by unfold mayTurnF; rw [if_pos k0, bI_0 c11]; rfl
      refine Rn.goto 33 dX9_turn_14 (by decide) ?_
      refine Rn.bipush (pc1 := 35) (v := (-2)) dX9_turn_33 rfl (by decide) ?_
      exact Rn.ireturn dX9_turn_35 rfl rfl ⟨_, rfl, Or.inl ⟨by rw [hm]; decide, hm.symm, F⟩, Fr.rf⟩
theorem eX9_set {k v : Int32} (F : MR μ m f f2 p kept sl u pd padded at_ od ordered) (I : IV f h rc sc B) (hk : kept ≤ 6) : EvA G 3 kX9_set [.ref m, .int k, .int v] μ sz 0 0 (QX m f f2 p kept sl u pd padded at_ od ordered (maySetF h k v) (f 3) (setsF f h k.toNatClampNeg v) μ) := by
  have hO := F.1
  refine EvA.of (L := [some (.ref m), some (.int k), some (.int v), none]) (by decide +kernel) (Nat.le_of_ble_eq_true rfl) rfl ?_
  refine Rn.aload_n (pc1 := 1)  dX9_set_0 rfl rfl rfl ?_
  refine Rn.iload_n (pc1 := 2)  dX9_set_1 rfl rfl rfl ?_
  refine Rn.iload_n (pc1 := 3)  dX9_set_2 rfl rfl rfl ?_
  refine Rn.cV_i (pc1 := 6) (eX9_maySet F I) dX9_set_3 rfl qX9_76 oX9_maySet (by first | assumption | exact mset_same | exact mget_ne (by omega) (by assumption)) rfl rfl rfl rfl (Nat.le_of_ble_eq_true rfl) (by decide) (by decide) (fun v3 μ3 h3 => ?_)
  obtain ⟨rfl, rfl⟩ := h3
  refine Rn.istore_n (pc1 := 7)  dX9_set_6 rfl rfl (by decide) rfl rfl ?_
  refine Rn.iload_n (pc1 := 8)  dX9_set_7 rfl rfl rfl ?_
  refine Rn.if_eq (pc1 := 11) 13 dX9_set_8 rfl (by decide) (fun c8 => ?_) (fun c8 => ?_)
  · have hm : maySetF h k v = nI 0 := c8
    obtain ⟨q, hq, rfl⟩ : ∃ q, q ≤ 11 ∧ k = nI q := by
      unfold maySetF at hm
      by_cases e : inB k (nI 0) (nI 11) = true
      · exact inB_nI (by decide) e
      · rw [if_neg e] at hm; exact absurd hm (by decide)
    have h60 : h < 60 := by
      unfold maySetF at hm
      by_cases e : h = 60
      · exfalso
        revert hm
        exact ifC (P := fun x : Int32 => x = nI 0 → False) (fun _ => ifC (P := fun x : Int32 => x = nI 0 → False) (fun _ => ifC (P := fun x : Int32 => x = nI 0 → False) (fun _ => by decide) (fun z => absurd e z)) (fun _ => by decide)) (fun _ => by decide)
      · have := I.2.1.1; omega
    rw [nI_clamp (by omega)]
    refine Rn.aload_n (pc1 := 14)  dX9_set_13 rfl rfl rfl ?_
    refine Rn.cV_v (pc1 := 17) (eX9_records F hk) dX9_set_14 rfl qX9_44 oX9_records (by first | assumption | exact mset_same | exact mget_ne (by omega) (by assumption)) rfl rfl rfl rfl (Nat.le_of_ble_eq_true rfl) (by decide) (by decide) (fun μ14 h14 => ?_)
    obtain ⟨F1, z1⟩ := h14
    have hO1 := F1.1
    refine Rn.aload_n (pc1 := 18)  dX9_set_17 rfl rfl rfl ?_
    refine Rn.iload_n (pc1 := 19)  dX9_set_18 rfl rfl rfl ?_
    refine Rn.iload_n (pc1 := 20)  dX9_set_19 rfl rfl rfl ?_
    refine Rn.cV_i (pc1 := 23) (eX9_sets F1 I (by omega) h60) dX9_set_20 rfl qX9_80 oX9_sets (by first | assumption | exact mset_same | exact mget_ne (by omega) (by assumption)) rfl rfl rfl rfl (Nat.le_of_ble_eq_true rfl) (by decide) (by decide) (fun v20 μ20 h20 => ?_)
    obtain ⟨rfl, F2, z2⟩ := h20
    exact Rn.ireturn dX9_set_23 rfl rfl ⟨_, rfl, Or.inr ⟨hm, rfl, F2⟩, z1.trans z2⟩
  · refine Rn.iload_n (pc1 := 12)  dX9_set_11 rfl rfl rfl ?_
    exact Rn.ireturn dX9_set_12 rfl rfl ⟨_, rfl, Or.inl ⟨c8, rfl, F⟩, Fr.rf⟩
theorem eX9_remove {k : Int32} (F : MR μ m f f2 p kept sl u pd padded at_ od ordered) (I : IV f h rc sc B) (hk : kept ≤ 6) : EvA G 3 kX9_remove [.ref m, .int k] μ sz 0 0 (QX m f f2 p kept sl u pd padded at_ od ordered (mayRemoveF f h k) (f 3) (setsF f h k.toNatClampNeg (-6)) μ) := by
  have hO := F.1
  refine EvA.of (L := [some (.ref m), some (.int k), none]) (by decide +kernel) (Nat.le_of_ble_eq_true rfl) rfl ?_
  refine Rn.aload_n (pc1 := 1)  dX9_remove_0 rfl rfl rfl ?_
  refine Rn.iload_n (pc1 := 2)  dX9_remove_1 rfl rfl rfl ?_
  refine Rn.cV_i (pc1 := 5) (eX9_mayRemove F I) dX9_remove_2 rfl qX9_83 oX9_mayRemove (by first | assumption | exact mset_same | exact mget_ne (by omega) (by assumption)) rfl rfl rfl rfl (Nat.le_of_ble_eq_true rfl) (by decide) (by decide) (fun v2 μ2 h2 => ?_)
  obtain ⟨rfl, rfl⟩ := h2
  refine Rn.istore_n (pc1 := 6)  dX9_remove_5 rfl rfl (by decide) rfl rfl ?_
  refine Rn.iload_n (pc1 := 7)  dX9_remove_6 rfl rfl rfl ?_
  refine Rn.if_eq (pc1 := 10) 12 dX9_remove_7 rfl (by decide) (fun c7 => ?_) (fun c7 => ?_)
  · have hm : mayRemoveF f h k = nI 0 := c7
    obtain ⟨q, hq, rfl⟩ : ∃ q, q ≤ 11 ∧ k = nI q := by
      unfold mayRemoveF at hm
      by_cases e : inB k (nI 0) (nI 11) = true
      · exact inB_nI (by decide) e
      · rw [if_neg e] at hm; exact absurd hm (by decide)
    have h60 : h < 60 := by
      unfold mayRemoveF at hm
      by_cases e : h = 60
      · exfalso
        revert hm
        exact ifC (P := fun x : Int32 => x = nI 0 → False) (fun _ => ifC (P := fun x : Int32 => x = nI 0 → False) (fun _ => by decide) (fun z => absurd e z)) (fun _ => by decide)
      · have := I.2.1.1; omega
    rw [nI_clamp (by omega)]
    refine Rn.aload_n (pc1 := 13)  dX9_remove_12 rfl rfl rfl ?_
    refine Rn.cV_v (pc1 := 16) (eX9_records F hk) dX9_remove_13 rfl qX9_44 oX9_records (by first | assumption | exact mset_same | exact mget_ne (by omega) (by assumption)) rfl rfl rfl rfl (Nat.le_of_ble_eq_true rfl) (by decide) (by decide) (fun μ13 h13 => ?_)
    obtain ⟨F1, z1⟩ := h13
    have hO1 := F1.1
    refine Rn.aload_n (pc1 := 17)  dX9_remove_16 rfl rfl rfl ?_
    refine Rn.iload_n (pc1 := 18)  dX9_remove_17 rfl rfl rfl ?_
    refine Rn.bipush (pc1 := 20) (v := (-6)) dX9_remove_18 rfl (by decide) ?_
    refine Rn.cV_i (pc1 := 23) (eX9_sets F1 I (by omega) h60) dX9_remove_20 rfl qX9_80 oX9_sets (by first | assumption | exact mset_same | exact mget_ne (by omega) (by assumption)) rfl rfl rfl rfl (Nat.le_of_ble_eq_true rfl) (by decide) (by decide) (fun v20 μ20 h20 => ?_)
    obtain ⟨rfl, F2, z2⟩ := h20
    exact Rn.ireturn dX9_remove_23 rfl rfl ⟨_, rfl, Or.inr ⟨hm, rfl, F2⟩, z1.trans z2⟩
  · refine Rn.iload_n (pc1 := 11)  dX9_remove_10 rfl rfl rfl ?_
    exact Rn.ireturn dX9_remove_11 rfl rfl ⟨_, rfl, Or.inl ⟨c7, rfl, F⟩, Fr.rf⟩
theorem eX9_pass {v : Int32} (F : MR μ m f f2 p kept sl u pd padded at_ od ordered) (hk : kept ≤ 6) : EvA G 3 kX9_pass [.ref m, .int v] μ sz 0 0 (QX m f f2 p kept sl u pd padded at_ od ordered (mayPassF f v) (f 2 + v) (upd f 2 (f 2 + v)) μ) := by
  have hO := F.1
  refine EvA.of (L := [some (.ref m), some (.int v), none]) (by decide +kernel) (Nat.le_of_ble_eq_true rfl) rfl ?_
  refine Rn.aload_n (pc1 := 1)  dX9_pass_0 rfl rfl rfl ?_
  refine Rn.iload_n (pc1 := 2)  dX9_pass_1 rfl rfl rfl ?_
  refine Rn.cV_i (pc1 := 5) (eX9_mayPass F) dX9_pass_2 rfl qX9_87 oX9_mayPass (by first | assumption | exact mset_same | exact mget_ne (by omega) (by assumption)) rfl rfl rfl rfl (Nat.le_of_ble_eq_true rfl) (by decide) (by decide) (fun v2 μ2 h2 => ?_)
  obtain ⟨rfl, rfl⟩ := h2
  refine Rn.istore_n (pc1 := 6)  dX9_pass_5 rfl rfl (by decide) rfl rfl ?_
  refine Rn.iload_n (pc1 := 7)  dX9_pass_6 rfl rfl rfl ?_
  refine Rn.if_eq (pc1 := 10) 12 dX9_pass_7 rfl (by decide) (fun c7 => ?_) (fun c7 => ?_)
  · refine Rn.aload_n (pc1 := 13)  dX9_pass_12 rfl rfl rfl ?_
    refine Rn.cV_v (pc1 := 16) (eX9_records F hk) dX9_pass_13 rfl qX9_44 oX9_records (by first | assumption | exact mset_same | exact mget_ne (by omega) (by assumption)) rfl rfl rfl rfl (Nat.le_of_ble_eq_true rfl) (by decide) (by decide) (fun μ13 h13 => ?_)
    obtain ⟨F1, z1⟩ := h13
    have hO1 := F1.1
    have hA1 := F1.2.1
    refine Rn.aload_n (pc1 := 17)  dX9_pass_16 rfl rfl rfl ?_
    refine Rn.getfield (pc1 := 20)  dX9_pass_17 rfl fX9_7 (by first | assumption | exact mset_same | exact mget_ne (by omega) (by assumption)) rfl ?_
    refine Rn.iconst (pc1 := 21) (v := nI 2) dX9_pass_20 rfl (by decide) ?_
    refine Rn.dup2 (pc1 := 22)  dX9_pass_21 rfl rfl rfl ?_
    refine Rn.iaload (pc1 := 23) (v := f 2)  dX9_pass_22 rfl (by first | assumption | exact mset_same | exact mget_ne (by omega) (by assumption)) (vp_nI (j := 2) rfl (by omega) (by decide)) (by rw [nI_clamp (by omega)] <;> (first | rfl | assumption | (simp (disch := omega) only [upd_ne, upd_at, blk_out]; done) | (simp (disch := omega) only [upd_ne, upd_at, blk_out]; assumption))) ?_
    refine Rn.iload_n (pc1 := 24)  dX9_pass_23 rfl rfl rfl ?_
    refine Rn.iadd (pc1 := 25)  dX9_pass_24 rfl rfl ?_
    refine Rn.iastore (pc1 := 26)  dX9_pass_25 rfl (by first | assumption | exact mset_same | exact mget_ne (by omega) (by assumption)) (vp_nI (j := 2) rfl (by omega) (by decide)) (updI (j := 2) rfl (by omega)) ?_
    refine Rn.aload_n (pc1 := 27)  dX9_pass_26 rfl rfl rfl ?_
    refine Rn.getfield (pc1 := 30)  dX9_pass_27 rfl fX9_7 (by first | assumption | exact mset_same | exact mget_ne (by omega) (by assumption)) rfl ?_
    refine Rn.iconst (pc1 := 31) (v := nI 2) dX9_pass_30 rfl (by decide) ?_
    refine Rn.iaload (pc1 := 32) (v := f 2 + v)  dX9_pass_31 rfl (by first | assumption | exact mset_same | exact mget_ne (by omega) (by assumption)) (vp_nI (j := 2) rfl (by omega) (by decide)) (by rw [nI_clamp (by omega)] <;> (first | rfl | assumption | (simp (disch := omega) only [upd_ne, upd_at, blk_out]; done) | (simp (disch := omega) only [upd_ne, upd_at, blk_out]; assumption))) ?_
    exact Rn.ireturn dX9_pass_32 rfl rfl ⟨_, rfl, Or.inr ⟨c7, rfl, F1.set1 (upd f 2 (f 2 + v))⟩, z1.set_ (by omega) (by omega)⟩
  · refine Rn.iload_n (pc1 := 11)  dX9_pass_10 rfl rfl rfl ?_
    exact Rn.ireturn dX9_pass_11 rfl rfl ⟨_, rfl, Or.inl ⟨c7, rfl, F⟩, Fr.rf⟩
theorem eX9_snapshot (F : MR μ m f f2 p kept sl u pd padded at_ od ordered) (I : IV f h rc sc B) (hk : kept ≤ 6) : EvA G 3 kX9_snapshot [.ref m] μ sz 0 0 (QX m f f2 p kept sl u pd padded at_ od ordered (nI 0) (f 3) (shotF f sc) μ) := by
  have hO := F.1
  refine EvA.of (L := [some (.ref m)]) (by decide +kernel) (Nat.le_of_ble_eq_true rfl) rfl ?_
  refine Rn.aload_n (pc1 := 1)  dX9_snapshot_0 rfl rfl rfl ?_
  refine Rn.cV_v (pc1 := 4) (eX9_records F hk) dX9_snapshot_1 rfl qX9_44 oX9_records (by first | assumption | exact mset_same | exact mget_ne (by omega) (by assumption)) rfl rfl rfl rfl (Nat.le_of_ble_eq_true rfl) (by decide) (by decide) (fun μ1 h1 => ?_)
  obtain ⟨F1, z1⟩ := h1
  have hO1 := F1.1
  refine Rn.aload_n (pc1 := 5)  dX9_snapshot_4 rfl rfl rfl ?_
  refine Rn.cV_i (pc1 := 8) (eX9_shoots F1 I) dX9_snapshot_5 rfl qX9_94 oX9_shoots (by first | assumption | exact mset_same | exact mget_ne (by omega) (by assumption)) rfl rfl rfl rfl (Nat.le_of_ble_eq_true rfl) (by decide) (by decide) (fun v5 μ5 h5 => ?_)
  obtain ⟨rfl, F2, z2⟩ := h5
  exact Rn.ireturn dX9_snapshot_8 rfl rfl ⟨_, rfl, Or.inr ⟨rfl, rfl, F2⟩, z1.trans z2⟩
theorem eX9_reader (F : MR μ m f f2 p kept sl u pd padded at_ od ordered) (I : IV f h rc sc B) (hk : kept ≤ 6) : EvA G 3 kX9_reader [.ref m] μ sz 0 0 (QX m f f2 p kept sl u pd padded at_ od ordered (mayComeF rc) (nI rc) (comeF f rc) μ) := by
  have hO := F.1
  have hA := F.2.1
  have h7 := I.1.2.1
  have hrc := I.2.1.2.1
  refine EvA.of (L := [some (.ref m)]) (by decide +kernel) (Nat.le_of_ble_eq_true rfl) rfl ?_
  refine Rn.aload_n (pc1 := 1)  dX9_reader_0 rfl rfl rfl ?_
  refine Rn.getfield (pc1 := 4)  dX9_reader_1 rfl fX9_7 (by first | assumption | exact mset_same | exact mget_ne (by omega) (by assumption)) rfl ?_
  refine Rn.bipush (pc1 := 6) (v := nI 7) dX9_reader_4 rfl (by decide) ?_
  refine Rn.iaload (pc1 := 7) (v := nI rc)  dX9_reader_6 rfl (by first | assumption | exact mset_same | exact mget_ne (by omega) (by assumption)) (vp_nI (j := 7) rfl (by omega) (by decide)) (by rw [nI_clamp (by omega)] <;> (first | rfl | assumption | (simp (disch := omega) only [upd_ne, upd_at, blk_out]; done) | (simp (disch := omega) only [upd_ne, upd_at, blk_out]; assumption))) ?_
  refine Rn.bipush (pc1 := 9) (v := nI 6) dX9_reader_7 rfl (by decide) ?_
  refine Rn.icmp_ne (pc1 := 12) 15 dX9_reader_9 rfl (by decide) (fun c9 => ?_) (fun c9 => ?_)
  · have r6 : ¬ rc = 6 := fun q => c9 (by rw [q])
    have hm : mayComeF rc = nI 0 := if_neg r6
    refine Rn.aload_n (pc1 := 16)  dX9_reader_15 rfl rfl rfl ?_
    refine Rn.cV_v (pc1 := 19) (eX9_records F hk) dX9_reader_16 rfl qX9_44 oX9_records (by first | assumption | exact mset_same | exact mget_ne (by omega) (by assumption)) rfl rfl rfl rfl (Nat.le_of_ble_eq_true rfl) (by decide) (by decide) (fun μ16 h16 => ?_)
    obtain ⟨F1, z1⟩ := h16
    have hO1 := F1.1
    refine Rn.aload_n (pc1 := 20)  dX9_reader_19 rfl rfl rfl ?_
    refine Rn.cV_i (pc1 := 23) (eX9_comes F1 I (by omega)) dX9_reader_20 rfl qX9_102 oX9_comes (by first | assumption | exact mset_same | exact mget_ne (by omega) (by assumption)) rfl rfl rfl rfl (Nat.le_of_ble_eq_true rfl) (by decide) (by decide) (fun v20 μ20 h20 => ?_)
    obtain ⟨rfl, F2, z2⟩ := h20
    exact Rn.ireturn dX9_reader_23 rfl rfl ⟨_, rfl, Or.inr ⟨hm, rfl, F2⟩, z1.trans z2⟩
  · have r6 : rc = 6 := (nI_eq (by omega) (by decide)).mp c9
    have hm : mayComeF rc = -4 := if_pos r6
    refine Rn.bipush (pc1 := 14) (v := (-4)) dX9_reader_12 rfl (by decide) ?_
    exact Rn.ireturn dX9_reader_14 rfl rfl ⟨_, rfl, Or.inl ⟨by rw [hm]; decide, hm.symm, F⟩, Fr.rf⟩
theorem mayRead_t {r v : Int32} (hm : mayReadF f rc r v = nI 0) (hrc : rc ≤ 6) : ∃ i M, i < rc ∧ M ≤ 99 ∧ r = nI i ∧ v = nI M := by
  unfold mayReadF at hm
  by_cases e : isRdB rc r = true
  · rw [if_pos e] at hm
    by_cases e2 : inB v (nI 1) (nI 99) = true
    · obtain ⟨i, hi, e3⟩ := isRdB_t (by omega) e
      have e4 : inB v (nI 0) (nI 99) = true := by
        revert e2; unfold inB; intro q
        simp only [Bool.and_eq_true, decide_eq_true_eq] at q ⊢
        exact ⟨by have := q.1; rw [Int32.le_iff_toInt_le] at this ⊢; have a1 : (nI 1).toInt = 1 := by decide
                  have a0 : (nI 0).toInt = 0 := by decide
                  omega, q.2⟩
      obtain ⟨M, hM, e5⟩ := inB_nI (by decide) e4
      exact ⟨i, M, hi, hM, e3, e5⟩
    · rw [if_neg e2] at hm; exact absurd hm (by decide)
  · rw [if_neg e] at hm; exact absurd hm (by decide)
theorem eX9_read {r v : Int32} (F : MR μ m f f2 p kept sl u pd padded at_ od ordered) (I : IV f h rc sc B) (hB : B < 2 ^ 30) (hk : kept ≤ 6) : EvA G 3 kX9_read [.ref m, .int r, .int v] μ sz 0 0 (QX m f f2 p kept sl u pd padded at_ od ordered (mayReadF f rc r v) (nI (rdC f h r.toNatClampNeg v.toNatClampNeg)) (readF f r.toNatClampNeg (rdK f h r.toNatClampNeg) (rdC f h r.toNatClampNeg v.toNatClampNeg)) μ) := by
  have hO := F.1
  have hrc := I.2.1.2.1
  refine EvA.of (L := [some (.ref m), some (.int r), some (.int v), none]) (by decide +kernel) (Nat.le_of_ble_eq_true rfl) rfl ?_
  refine Rn.aload_n (pc1 := 1)  dX9_read_0 rfl rfl rfl ?_
  refine Rn.iload_n (pc1 := 2)  dX9_read_1 rfl rfl rfl ?_
  refine Rn.iload_n (pc1 := 3)  dX9_read_2 rfl rfl rfl ?_
  refine Rn.cV_i (pc1 := 6) (eX9_mayRead F I) dX9_read_3 rfl qX9_108 oX9_mayRead (by first | assumption | exact mset_same | exact mget_ne (by omega) (by assumption)) rfl rfl rfl rfl (Nat.le_of_ble_eq_true rfl) (by decide) (by decide) (fun v3 μ3 h3 => ?_)
  obtain ⟨rfl, rfl⟩ := h3
  refine Rn.istore_n (pc1 := 7)  dX9_read_6 rfl rfl (by decide) rfl rfl ?_
  refine Rn.iload_n (pc1 := 8)  dX9_read_7 rfl rfl rfl ?_
  refine Rn.if_eq (pc1 := 11) 13 dX9_read_8 rfl (by decide) (fun c8 => ?_) (fun c8 => ?_)
  · have hm : mayReadF f rc r v = nI 0 := c8
    obtain ⟨i, M, hi, hM, rfl, rfl⟩ := mayRead_t hm hrc
    rw [nI_clamp (show i < 2 ^ 31 by omega), nI_clamp (show M < 2 ^ 31 by omega)]
    refine Rn.aload_n (pc1 := 14)  dX9_read_13 rfl rfl rfl ?_
    refine Rn.cV_v (pc1 := 17) (eX9_records F hk) dX9_read_14 rfl qX9_44 oX9_records (by first | assumption | exact mset_same | exact mget_ne (by omega) (by assumption)) rfl rfl rfl rfl (Nat.le_of_ble_eq_true rfl) (by decide) (by decide) (fun μ14 h14 => ?_)
    obtain ⟨F1, z1⟩ := h14
    have hO1 := F1.1
    refine Rn.aload_n (pc1 := 18)  dX9_read_17 rfl rfl rfl ?_
    refine Rn.iload_n (pc1 := 19)  dX9_read_18 rfl rfl rfl ?_
    refine Rn.iload_n (pc1 := 20)  dX9_read_19 rfl rfl rfl ?_
    refine Rn.cV_i (pc1 := 23) (eX9_reads F1 I hB (show i < 6 by omega) hM) dX9_read_20 rfl qX9_111 oX9_reads (by first | assumption | exact mset_same | exact mget_ne (by omega) (by assumption)) rfl rfl rfl rfl (Nat.le_of_ble_eq_true rfl) (by decide) (by decide) (fun v20 μ20 h20 => ?_)
    obtain ⟨rfl, F2, z2⟩ := h20
    exact Rn.ireturn dX9_read_23 rfl rfl ⟨_, rfl, Or.inr ⟨hm, rfl, F2⟩, z1.trans z2⟩
  · refine Rn.iload_n (pc1 := 12)  dX9_read_11 rfl rfl rfl ?_
    exact Rn.ireturn dX9_read_12 rfl rfl ⟨_, rfl, Or.inl ⟨c8, rfl, F⟩, Fr.rf⟩
theorem eX9_confirm {r : Int32} (F : MR μ m f f2 p kept sl u pd padded at_ od ordered) (I : IV f h rc sc B) (hk : kept ≤ 6) : EvA G 3 kX9_confirm [.ref m, .int r] μ sz 0 0 (QX m f f2 p kept sl u pd padded at_ od ordered (mayIsF rc r) (f (261 + 27 * r.toNatClampNeg)) (confF f r.toNatClampNeg) μ) := by
  have hO := F.1
  have hrc := I.2.1.2.1
  refine EvA.of (L := [some (.ref m), some (.int r)]) (by decide +kernel) (Nat.le_of_ble_eq_true rfl) rfl ?_
  refine Rn.aload_n (pc1 := 1)  dX9_confirm_0 rfl rfl rfl ?_
  refine Rn.iload_n (pc1 := 2)  dX9_confirm_1 rfl rfl rfl ?_
  refine Rn.cV_i (pc1 := 5) (eX9_isReader F I) dX9_confirm_2 rfl qX9_105 oX9_isReader (by first | assumption | exact mset_same | exact mget_ne (by omega) (by assumption)) rfl rfl rfl rfl (Nat.le_of_ble_eq_true rfl) (by decide) (by decide) (fun v2 μ2 h2 => ?_)
  obtain ⟨rfl, rfl⟩ := h2
  refine Rn.if_ne (pc1 := 8) 10 dX9_confirm_5 rfl (by decide) (fun c5 => ?_) (fun c5 => ?_)
  · have hm : mayIsF rc r = nI 0 := if_pos (bI_n c5)
    obtain ⟨i, hi, rfl⟩ := isRdB_t (by omega) (bI_n c5)
    rw [nI_clamp (show i < 2 ^ 31 by omega)]
    refine Rn.aload_n (pc1 := 11)  dX9_confirm_10 rfl rfl rfl ?_
    refine Rn.cV_v (pc1 := 14) (eX9_records F hk) dX9_confirm_11 rfl qX9_44 oX9_records (by first | assumption | exact mset_same | exact mget_ne (by omega) (by assumption)) rfl rfl rfl rfl (Nat.le_of_ble_eq_true rfl) (by decide) (by decide) (fun μ11 h11 => ?_)
    obtain ⟨F1, z1⟩ := h11
    have hO1 := F1.1
    refine Rn.aload_n (pc1 := 15)  dX9_confirm_14 rfl rfl rfl ?_
    refine Rn.iload_n (pc1 := 16)  dX9_confirm_15 rfl rfl rfl ?_
    refine Rn.iconst (pc1 := 17) (v := nI 1) dX9_confirm_16 rfl (by decide) ?_
    refine Rn.cV_i (pc1 := 20) (eX9_takes1 F1 (show i < 6 by omega)) dX9_confirm_17 rfl qX9_114 oX9_takes (by first | assumption | exact mset_same | exact mget_ne (by omega) (by assumption)) rfl rfl rfl rfl (Nat.le_of_ble_eq_true rfl) (by decide) (by decide) (fun v17 μ17 h17 => ?_)
    obtain ⟨rfl, F2, z2⟩ := h17
    exact Rn.ireturn dX9_confirm_20 rfl rfl ⟨_, rfl, Or.inr ⟨hm, rfl, F2⟩, z1.trans z2⟩
  · have hm : mayIsF rc r = -1 := if_neg (by rw [bI_0 c5]; decide)
    refine Rn.iconst (pc1 := 9) (v := (-1)) dX9_confirm_8 rfl (by decide) ?_
    exact Rn.ireturn dX9_confirm_9 rfl rfl ⟨_, rfl, Or.inl ⟨by rw [hm]; decide, hm.symm, F⟩, Fr.rf⟩
theorem eX9_goBack {r : Int32} (F : MR μ m f f2 p kept sl u pd padded at_ od ordered) (I : IV f h rc sc B) (hk : kept ≤ 6) : EvA G 3 kX9_goBack [.ref m, .int r] μ sz 0 0 (QX m f f2 p kept sl u pd padded at_ od ordered (mayIsF rc r) (f (261 + 27 * r.toNatClampNeg + 1)) (backF f r.toNatClampNeg) μ) := by
  have hO := F.1
  have hrc := I.2.1.2.1
  refine EvA.of (L := [some (.ref m), some (.int r)]) (by decide +kernel) (Nat.le_of_ble_eq_true rfl) rfl ?_
  refine Rn.aload_n (pc1 := 1)  dX9_goBack_0 rfl rfl rfl ?_
  refine Rn.iload_n (pc1 := 2)  dX9_goBack_1 rfl rfl rfl ?_
  refine Rn.cV_i (pc1 := 5) (eX9_isReader F I) dX9_goBack_2 rfl qX9_105 oX9_isReader (by first | assumption | exact mset_same | exact mget_ne (by omega) (by assumption)) rfl rfl rfl rfl (Nat.le_of_ble_eq_true rfl) (by decide) (by decide) (fun v2 μ2 h2 => ?_)
  obtain ⟨rfl, rfl⟩ := h2
  refine Rn.if_ne (pc1 := 8) 10 dX9_goBack_5 rfl (by decide) (fun c5 => ?_) (fun c5 => ?_)
  · have hm : mayIsF rc r = nI 0 := if_pos (bI_n c5)
    obtain ⟨i, hi, rfl⟩ := isRdB_t (by omega) (bI_n c5)
    rw [nI_clamp (show i < 2 ^ 31 by omega)]
    refine Rn.aload_n (pc1 := 11)  dX9_goBack_10 rfl rfl rfl ?_
    refine Rn.cV_v (pc1 := 14) (eX9_records F hk) dX9_goBack_11 rfl qX9_44 oX9_records (by first | assumption | exact mset_same | exact mget_ne (by omega) (by assumption)) rfl rfl rfl rfl (Nat.le_of_ble_eq_true rfl) (by decide) (by decide) (fun μ11 h11 => ?_)
    obtain ⟨F1, z1⟩ := h11
    have hO1 := F1.1
    refine Rn.aload_n (pc1 := 15)  dX9_goBack_14 rfl rfl rfl ?_
    refine Rn.iload_n (pc1 := 16)  dX9_goBack_15 rfl rfl rfl ?_
    refine Rn.iconst (pc1 := 17) (v := nI 0) dX9_goBack_16 rfl (by decide) ?_
    refine Rn.cV_i (pc1 := 20) (eX9_takes0 F1 (show i < 6 by omega)) dX9_goBack_17 rfl qX9_114 oX9_takes (by first | assumption | exact mset_same | exact mget_ne (by omega) (by assumption)) rfl rfl rfl rfl (Nat.le_of_ble_eq_true rfl) (by decide) (by decide) (fun v17 μ17 h17 => ?_)
    obtain ⟨rfl, F2, z2⟩ := h17
    exact Rn.ireturn dX9_goBack_20 rfl rfl ⟨_, rfl, Or.inr ⟨hm, rfl, F2⟩, z1.trans z2⟩
  · have hm : mayIsF rc r = -1 := if_neg (by rw [bI_0 c5]; decide)
    refine Rn.iconst (pc1 := 9) (v := (-1)) dX9_goBack_8 rfl (by decide) ?_
    exact Rn.ireturn dX9_goBack_9 rfl rfl ⟨_, rfl, Or.inl ⟨by rw [hm]; decide, hm.symm, F⟩, Fr.rf⟩
theorem eX9_beginAnew {r : Int32} (F : MR μ m f f2 p kept sl u pd padded at_ od ordered) (I : IV f h rc sc B) (hk : kept ≤ 6) : EvA G 3 kX9_beginAnew [.ref m, .int r] μ sz 0 0 (QX m f f2 p kept sl u pd padded at_ od ordered (mayIsF rc r) (nI h) (beginF f r.toNatClampNeg (nI 0) (fun _ => -6)) μ) := by
  have hO := F.1
  have hrc := I.2.1.2.1
  refine EvA.of (L := [some (.ref m), some (.int r)]) (by decide +kernel) (Nat.le_of_ble_eq_true rfl) rfl ?_
  refine Rn.aload_n (pc1 := 1)  dX9_beginAnew_0 rfl rfl rfl ?_
  refine Rn.iload_n (pc1 := 2)  dX9_beginAnew_1 rfl rfl rfl ?_
  refine Rn.cV_i (pc1 := 5) (eX9_isReader F I) dX9_beginAnew_2 rfl qX9_105 oX9_isReader (by first | assumption | exact mset_same | exact mget_ne (by omega) (by assumption)) rfl rfl rfl rfl (Nat.le_of_ble_eq_true rfl) (by decide) (by decide) (fun v2 μ2 h2 => ?_)
  obtain ⟨rfl, rfl⟩ := h2
  refine Rn.if_ne (pc1 := 8) 10 dX9_beginAnew_5 rfl (by decide) (fun c5 => ?_) (fun c5 => ?_)
  · have hm : mayIsF rc r = nI 0 := if_pos (bI_n c5)
    obtain ⟨i, hi, rfl⟩ := isRdB_t (by omega) (bI_n c5)
    rw [nI_clamp (show i < 2 ^ 31 by omega)]
    refine Rn.aload_n (pc1 := 11)  dX9_beginAnew_10 rfl rfl rfl ?_
    refine Rn.cV_v (pc1 := 14) (eX9_records F hk) dX9_beginAnew_11 rfl qX9_44 oX9_records (by first | assumption | exact mset_same | exact mget_ne (by omega) (by assumption)) rfl rfl rfl rfl (Nat.le_of_ble_eq_true rfl) (by decide) (by decide) (fun μ11 h11 => ?_)
    obtain ⟨F1, z1⟩ := h11
    have hO1 := F1.1
    refine Rn.aload_n (pc1 := 15)  dX9_beginAnew_14 rfl rfl rfl ?_
    refine Rn.iload_n (pc1 := 16)  dX9_beginAnew_15 rfl rfl rfl ?_
    refine Rn.iconst (pc1 := 17) (v := nI 0) dX9_beginAnew_16 rfl (by decide) ?_
    refine Rn.iconst (pc1 := 18) (v := (-1)) dX9_beginAnew_17 rfl (by decide) ?_
    refine Rn.cV_i (pc1 := 21) (eX9_begins F1 (show i < 6 by omega) (Or.inl ⟨rfl, rfl⟩)) dX9_beginAnew_18 rfl qX9_98 oX9_begins (by first | assumption | exact mset_same | exact mget_ne (by omega) (by assumption)) rfl rfl rfl rfl (Nat.le_of_ble_eq_true rfl) (by decide) (by decide) (fun v18 μ18 h18 => ?_)
    obtain ⟨rfl, F2, z2⟩ := h18
    have hO2 := F2.1
    have hA2 := F2.2.1
    have e6 : beginF f i (nI 0) (fun _ => -6) 6 = nI h := by unfold beginF; rw [blk_out (by omega), blk_out (by omega), upd_ne (by omega), upd_ne (by omega)]; exact I.1.1
    refine Rn.pop (pc1 := 22)  dX9_beginAnew_21 rfl rfl ?_
    refine Rn.aload_n (pc1 := 23)  dX9_beginAnew_22 rfl rfl rfl ?_
    refine Rn.getfield (pc1 := 26)  dX9_beginAnew_23 rfl fX9_7 (by first | assumption | exact mset_same | exact mget_ne (by omega) (by assumption)) rfl ?_
    refine Rn.bipush (pc1 := 28) (v := nI 6) dX9_beginAnew_26 rfl (by decide) ?_
    refine Rn.iaload (pc1 := 29) (v := nI h)  dX9_beginAnew_28 rfl (by first | assumption | exact mset_same | exact mget_ne (by omega) (by assumption)) (vp_nI (j := 6) rfl (by omega) (by decide)) (by rw [nI_clamp (by omega)] <;> (first | rfl | assumption | (simp (disch := omega) only [upd_ne, upd_at, blk_out]; done) | (simp (disch := omega) only [upd_ne, upd_at, blk_out]; assumption))) ?_
    exact Rn.ireturn dX9_beginAnew_29 rfl rfl ⟨_, rfl, Or.inr ⟨hm, rfl, F2⟩, z1.trans z2⟩
  · have hm : mayIsF rc r = -1 := if_neg (by rw [bI_0 c5]; decide)
    refine Rn.iconst (pc1 := 9) (v := (-1)) dX9_beginAnew_8 rfl (by decide) ?_
    exact Rn.ireturn dX9_beginAnew_9 rfl rfl ⟨_, rfl, Or.inl ⟨by rw [hm]; decide, hm.symm, F⟩, Fr.rf⟩
theorem mayLoad_t {r s : Int32} (hm : mayLoadF f rc sc r s = nI 0) (hrc : rc ≤ 6) (hsc : sc ≤ 4) : ∃ i n, i < rc ∧ n < sc ∧ r = nI i ∧ s = nI n := by
  unfold mayLoadF at hm
  by_cases e : isRdB rc r = true ∧ isRdB sc s = true
  · obtain ⟨i, hi, e3⟩ := isRdB_t (by omega) e.1
    obtain ⟨n, hn, e4⟩ := isRdB_t (by omega) e.2
    exact ⟨i, n, hi, hn, e3, e4⟩
  · rw [if_neg e] at hm; exact absurd hm (by decide)
theorem eX9_load {r s : Int32} (F : MR μ m f f2 p kept sl u pd padded at_ od ordered) (I : IV f h rc sc B) (hk : kept ≤ 6) : EvA G 3 kX9_load [.ref m, .int r, .int s] μ sz 0 0 (QX m f f2 p kept sl u pd padded at_ od ordered (mayLoadF f rc sc r s) (f (423 + 13 * s.toNatClampNeg)) (beginF f r.toNatClampNeg (f (423 + 13 * s.toNatClampNeg)) (fun k => f (423 + 13 * s.toNatClampNeg + 1 + k))) μ) := by
  have hO := F.1
  have hrc := I.2.1.2.1
  have hsc := I.2.1.2.2
  refine EvA.of (L := [some (.ref m), some (.int r), some (.int s), none]) (by decide +kernel) (Nat.le_of_ble_eq_true rfl) rfl ?_
  refine Rn.aload_n (pc1 := 1)  dX9_load_0 rfl rfl rfl ?_
  refine Rn.iload_n (pc1 := 2)  dX9_load_1 rfl rfl rfl ?_
  refine Rn.iload_n (pc1 := 3)  dX9_load_2 rfl rfl rfl ?_
  refine Rn.cV_i (pc1 := 6) (eX9_mayLoad F I) dX9_load_3 rfl qX9_121 oX9_mayLoad (by first | assumption | exact mset_same | exact mget_ne (by omega) (by assumption)) rfl rfl rfl rfl (Nat.le_of_ble_eq_true rfl) (by decide) (by decide) (fun v3 μ3 h3 => ?_)
  obtain ⟨rfl, rfl⟩ := h3
  refine Rn.istore_n (pc1 := 7)  dX9_load_6 rfl rfl (by decide) rfl rfl ?_
  refine Rn.iload_n (pc1 := 8)  dX9_load_7 rfl rfl rfl ?_
  refine Rn.if_eq (pc1 := 11) 13 dX9_load_8 rfl (by decide) (fun c8 => ?_) (fun c8 => ?_)
  · have hm : mayLoadF f rc sc r s = nI 0 := c8
    obtain ⟨i, n, hi, hn, rfl, rfl⟩ := mayLoad_t hm hrc hsc
    rw [nI_clamp (show i < 2 ^ 31 by omega), nI_clamp (show n < 2 ^ 31 by omega)]
    refine Rn.aload_n (pc1 := 14)  dX9_load_13 rfl rfl rfl ?_
    refine Rn.cV_v (pc1 := 17) (eX9_records F hk) dX9_load_14 rfl qX9_44 oX9_records (by first | assumption | exact mset_same | exact mget_ne (by omega) (by assumption)) rfl rfl rfl rfl (Nat.le_of_ble_eq_true rfl) (by decide) (by decide) (fun μ14 h14 => ?_)
    obtain ⟨F1, z1⟩ := h14
    have hO1 := F1.1
    refine Rn.aload_n (pc1 := 18)  dX9_load_17 rfl rfl rfl ?_
    refine Rn.iload_n (pc1 := 19)  dX9_load_18 rfl rfl rfl ?_
    refine Rn.iload_n (pc1 := 20)  dX9_load_19 rfl rfl rfl ?_
    refine Rn.cV_i (pc1 := 23) (eX9_loads F1 (show i < 6 by omega) (show n < 4 by omega)) dX9_load_20 rfl qX9_124 oX9_loads (by first | assumption | exact mset_same | exact mget_ne (by omega) (by assumption)) rfl rfl rfl rfl (Nat.le_of_ble_eq_true rfl) (by decide) (by decide) (fun v20 μ20 h20 => ?_)
    obtain ⟨rfl, F2, z2⟩ := h20
    exact Rn.ireturn dX9_load_23 rfl rfl ⟨_, rfl, Or.inr ⟨hm, rfl, F2⟩, z1.trans z2⟩
  · refine Rn.iload_n (pc1 := 12)  dX9_load_11 rfl rfl rfl ?_
    exact Rn.ireturn dX9_load_12 rfl rfl ⟨_, rfl, Or.inl ⟨c8, rfl, F⟩, Fr.rf⟩
end M4
