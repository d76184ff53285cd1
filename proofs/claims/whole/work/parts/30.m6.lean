/-! ===== the reference: what it answers about its row ===== -/
theorem thin_congr {f f' : Nat → Int32} {h : Nat} {s mi : Int32} (q1 : f' 1 = f 1) (q3 : f' 3 = f 3) (q4 : f' 4 = f 4) (q : ∀ j, 21 ≤ j → j < 21 + 4 * h → f' j = f j) : leftF f' h s mi = leftF f h s mi ∧ floorF f' h s mi = floorF f h s mi := by
  have e : ∀ i, i < h → pF f' h s mi i = pF f h s mi i := fun i hi => by
    unfold pF
    rw [q1, q3]
    exact goB_congr (fun j _ h2 => ⟨q _ (by omega) (by omega), q _ (by omega) (by omega), q _ (by omega) (by omega), q _ (by omega) (by omega)⟩) hi
  refine ⟨leftN_congr e, ?_⟩
  unfold floorF
  rw [q4]
  exact floorN_congr (fun i hi => ⟨e i hi, lastB_congr (fun j _ h2 => q _ (by omega) (by omega)) hi, q _ (by omega) (by omega)⟩)
theorem thinF_46 {f : Nat → Int32} {h : Nat} {s mi : Int32} : thinF f h s mi 4 = floorF f h s mi ∧ thinF f h s mi 6 = nI (leftF f h s mi) := ⟨rfl, rfl⟩
theorem thinF_hi {f : Nat → Int32} {h j : Nat} {s mi : Int32} (hh : h ≤ 60) (hj : 261 ≤ j) : thinF f h s mi j = f j := by
  have hl : leftF f h s mi ≤ h := leftN_le _ _
  unfold thinF
  rw [if_neg (by omega), if_neg (by omega), if_neg (by omega), if_neg (by omega)]
theorem bk_at {f f2 : Nat → Int32} {j : Nat} (hj : j < 475) : blk f2 0 475 (fun k => f (0 + k)) j = f j := (blk_in (q := j) (by omega) hj).trans (by rw [Nat.zero_add])
theorem lateN_congr' {f f' : Nat → Int32} {fl : Int32} : ∀ n, (∀ i, i < n → f' (261 + 27 * i) = f (261 + 27 * i)) → lateN f' fl n = lateN f fl n
  | 0, _ => rfl
  | n + 1, q => by unfold lateN; rw [lateN_congr' n (fun i hi => q i (by omega)), q n (by omega)]
section M6
variable {G : GG} {μ : Mm} {sz m kept padded at_ ordered h rc sc B : Nat} {f f2 p sl pd od : Nat → Int32} {u : Nat → Bool}
theorem eX9_thin (F : MR μ m f f2 p kept sl u pd padded at_ od ordered) (I : IV f h rc sc B) (hk : kept ≤ 6) : EvA G 3 kX9_thin [.ref m] μ sz 0 0 (rI fun v μ' => v = nI (h - leftF f h (f 0) (f 2)) ∧ (∃ g, MR μ' m g f2 (pushM p kept f) (keep1 kept) sl u pd padded at_ od ordered ∧ ∀ j, (j < 21 + 4 * leftF f h (f 0) (f 2) ∨ 261 ≤ j) → g j = thinF f h (f 0) (f 2) j) ∧ Fr m (m + 8) μ μ') := by
  have hO := F.1
  refine EvA.of (L := [some (.ref m)]) (by decide +kernel) (Nat.le_of_ble_eq_true rfl) rfl ?_
  refine Rn.aload_n (pc1 := 1)  dX9_thin_0 rfl rfl rfl ?_
  refine Rn.cV_v (pc1 := 4) (eX9_records F hk) dX9_thin_1 rfl qX9_44 oX9_records (by first | assumption | exact mset_same | exact mget_ne (by omega) (by assumption)) rfl rfl rfl rfl (Nat.le_of_ble_eq_true rfl) (by decide) (by decide) (fun μ1 h1 => ?_)
  obtain ⟨F1, z1⟩ := h1
  have hO1 := F1.1
  refine Rn.aload_n (pc1 := 5)  dX9_thin_4 rfl rfl rfl ?_
  refine Rn.getfield (pc1 := 8)  dX9_thin_5 rfl fX9_7 (by first | assumption | exact mset_same | exact mget_ne (by omega) (by assumption)) rfl ?_
  refine Rn.cS_i (pc1 := 11) (eX9_thins F1.2.1 I.2.1.1 I.1.1 I.size) dX9_thin_8 rfl qX9_90 oX9_thins rfl rfl (Nat.le_of_ble_eq_true rfl) (by decide) (by decide) (fun v8 μ8 h8 => ?_)
  obtain ⟨rfl, g, rfl, hg⟩ := h8
  exact Rn.ireturn dX9_thin_11 rfl rfl ⟨_, rfl, rfl, ⟨g, F1.set1 g, hg⟩, z1.set_ (by omega) (by omega)⟩
theorem eX9_thinsThen {v : Int32} (F : MR μ m f f2 p kept sl u pd padded at_ od ordered) (I : IV f h rc sc B) : EvA G 3 kX9_thinsThen [.ref m, .int v] μ sz 0 0 (rV fun μ' => (∃ g, MR μ' m f g p kept sl u pd padded at_ od ordered ∧ g 6 = nI (leftF f h (f 0) (f 2 + v)) ∧ g 4 = floorF f h (f 0) (f 2 + v) ∧ g 7 = nI rc ∧ ∀ j, 261 ≤ j → j < 475 → g j = f j) ∧ Fr m (m + 8) μ μ') := by
  have hO := F.1
  have hh := I.2.1.1
  have q : ∀ j, j < 475 → j ≠ 2 → upd (blk f2 0 475 (fun k => f (0 + k))) 2 (f 2 + v) j = f j := fun j h1 h2 => (upd_ne h2).trans (bk_at h1)
  have q2 : upd (blk f2 0 475 (fun k => f (0 + k))) 2 (f 2 + v) 2 = f 2 + v := upd_at rfl
  have tc := thin_congr (f := f) (f' := upd (blk f2 0 475 (fun k => f (0 + k))) 2 (f 2 + v)) (h := h) (s := f 0) (mi := f 2 + v) (q 1 (by omega) (by omega)) (q 3 (by omega) (by omega)) (q 4 (by omega) (by omega)) (fun j h1 h2 => q j (by omega) (by omega))
  refine EvA.of (L := [some (.ref m), some (.int v)]) (by decide +kernel) (Nat.le_of_ble_eq_true rfl) rfl ?_
  refine Rn.aload_n (pc1 := 1)  dX9_thinsThen_0 rfl rfl rfl ?_
  refine Rn.getfield (pc1 := 4)  dX9_thinsThen_1 rfl fX9_7 (by first | assumption | exact mset_same | exact mget_ne (by omega) (by assumption)) rfl ?_
  refine Rn.iconst (pc1 := 5) (v := nI 0) dX9_thinsThen_4 rfl (by decide) ?_
  refine Rn.aload_n (pc1 := 6)  dX9_thinsThen_5 rfl rfl rfl ?_
  refine Rn.getfield (pc1 := 9)  dX9_thinsThen_6 rfl fX9_13 (by first | assumption | exact mset_same | exact mget_ne (by omega) (by assumption)) rfl ?_
  refine Rn.iconst (pc1 := 10) (v := nI 0) dX9_thinsThen_9 rfl (by decide) ?_
  refine Rn.cS_v (pc1 := 13) (eX9_lays F.2.1 F.2.2.1 (by omega) (by omega) (by omega) (by decide) (by decide)) dX9_thinsThen_10 rfl qX9_40 oX9_lays rfl rfl (Nat.le_of_ble_eq_true rfl) (by decide) (by decide) (fun μ10 h10 => ?_)
  subst h10
  have F1 := F.set2 (blk f2 0 475 (fun k => f (0 + k)))
  have hO1 := F1.1
  refine Rn.aload_n (pc1 := 14)  dX9_thinsThen_13 rfl rfl rfl ?_
  refine Rn.getfield (pc1 := 17)  dX9_thinsThen_14 rfl fX9_13 (by first | assumption | exact mset_same | exact mget_ne (by omega) (by assumption)) rfl ?_
  refine Rn.iconst (pc1 := 18) (v := nI 2) dX9_thinsThen_17 rfl (by decide) ?_
  refine Rn.dup2 (pc1 := 19)  dX9_thinsThen_18 rfl rfl rfl ?_
  refine Rn.iaload (pc1 := 20) (v := f 2)  dX9_thinsThen_19 rfl F1.2.2.1 (vp_nI (j := 2) rfl (by omega) (by decide)) (bk_at (j := 2) (by omega)) ?_
  refine Rn.iload_n (pc1 := 21)  dX9_thinsThen_20 rfl rfl rfl ?_
  refine Rn.iadd (pc1 := 22)  dX9_thinsThen_21 rfl rfl ?_
  refine Rn.iastore (pc1 := 23)  dX9_thinsThen_22 rfl (by first | assumption | exact mset_same | exact mget_ne (by omega) (by assumption)) (vp_nI (j := 2) rfl (by omega) (by decide)) (updI (j := 2) rfl (by omega)) ?_
  rw [mset_mset]
  refine Rn.aload_n (pc1 := 24)  dX9_thinsThen_23 rfl rfl rfl ?_
  refine Rn.getfield (pc1 := 27)  dX9_thinsThen_24 rfl fX9_13 (by first | assumption | exact mset_same | exact mget_ne (by omega) (by assumption)) rfl ?_
  refine Rn.cS_i (pc1 := 30) (eX9_thins mset_same hh ((q 6 (by omega) (by omega)).trans I.1.1) (by rw [q 0 (by omega) (by omega)]; exact I.size)) dX9_thinsThen_27 rfl qX9_90 oX9_thins rfl rfl (Nat.le_of_ble_eq_true rfl) (by decide) (by decide) (fun v27 μ27 h27 => ?_)
  obtain ⟨rfl, g, rfl, hg⟩ := h27
  rw [mset_mset]
  rw [q 0 (by omega) (by omega), q2] at hg
  refine Rn.pop (pc1 := 31)  dX9_thinsThen_30 rfl rfl ?_
  exact Rn.vreturn dX9_thinsThen_31 rfl ⟨rfl, ⟨g, F.set2 g, (hg 6 (by omega)).trans (by rw [← tc.1]; rfl), (hg 4 (by omega)).trans (by rw [← tc.2]; rfl), (hg 7 (by omega)).trans (by unfold thinF; rw [if_neg (by omega), if_neg (by omega), if_neg (by omega), if_neg (by omega), q 7 (by omega) (by omega)]; exact I.1.2.1), fun j h1 h2 => (hg j (by omega)).trans ((thinF_hi hh h1).trans (q j h2 (by omega)))⟩, Fr.set (by omega) (by omega)⟩
theorem eX9_leftIn {v : Int32} (F : MR μ m f f2 p kept sl u pd padded at_ od ordered) (I : IV f h rc sc B) : EvA G 4 kX9_leftIn [.ref m, .int v] μ sz 0 0 (rI fun r μ' => r = leftInQ f v ∧ (∃ g, MR μ' m f g p kept sl u pd padded at_ od ordered) ∧ Fr m (m + 8) μ μ') := by
  have hO := F.1
  refine EvA.of (L := [some (.ref m), some (.int v)]) (by decide +kernel) (Nat.le_of_ble_eq_true rfl) rfl ?_
  refine Rn.iload_n (pc1 := 1)  dX9_leftIn_0 rfl rfl rfl ?_
  refine Rn.iconst (pc1 := 2) (v := nI 0) dX9_leftIn_1 rfl (by decide) ?_
  refine Rn.sipush (pc1 := 5) (v := nI 999) dX9_leftIn_2 rfl (by decide) ?_
  refine Rn.cS_i (pc1 := 8) (eX9_in) dX9_leftIn_5 rfl qX9_32 oX9_in rfl rfl (Nat.le_of_ble_eq_true rfl) (by decide) (by decide) (fun v5 μ5 h5 => ?_)
  obtain ⟨rfl, rfl⟩ := h5
  refine Rn.if_ne (pc1 := 11) 14 dX9_leftIn_8 rfl (by decide) (fun c8 => ?_) (fun c8 => ?_)
  · have hm : leftInQ f v = nI (leftF f h (f 0) (f 2 + v)) := (if_pos (bI_n c8)).trans (by rw [I.h.1])
    refine Rn.aload_n (pc1 := 15)  dX9_leftIn_14 rfl rfl rfl ?_
    refine Rn.iload_n (pc1 := 16)  dX9_leftIn_15 rfl rfl rfl ?_
    refine Rn.cV_v (pc1 := 19) (eX9_thinsThen F I) dX9_leftIn_16 rfl qX9_142 oX9_thinsThen (by first | assumption | exact mset_same | exact mget_ne (by omega) (by assumption)) rfl rfl rfl rfl (Nat.le_of_ble_eq_true rfl) (by decide) (by decide) (fun μ16 h16 => ?_)
    obtain ⟨⟨g, F1, g6, _⟩, z1⟩ := h16
    have hO1 := F1.1
    have hA1 := F1.2.2.1
    refine Rn.aload_n (pc1 := 20)  dX9_leftIn_19 rfl rfl rfl ?_
    refine Rn.getfield (pc1 := 23)  dX9_leftIn_20 rfl fX9_13 (by first | assumption | exact mset_same | exact mget_ne (by omega) (by assumption)) rfl ?_
    refine Rn.bipush (pc1 := 25) (v := nI 6) dX9_leftIn_23 rfl (by decide) ?_
    refine Rn.iaload (pc1 := 26)  dX9_leftIn_25 rfl (by assumption) (vp_nI (j := 6) rfl (by omega) (by decide)) rfl ?_
    exact Rn.ireturn dX9_leftIn_26 rfl rfl ⟨_, rfl, g6.trans hm.symm, ⟨g, F1⟩, z1⟩
  · have hm : leftInQ f v = -2 := if_neg (by rw [bI_0 c8]; decide)
    refine Rn.bipush (pc1 := 13) (v := (-2)) dX9_leftIn_11 rfl (by decide) ?_
    exact Rn.ireturn dX9_leftIn_13 rfl rfl ⟨_, rfl, hm.symm, ⟨f2, F⟩, Fr.rf⟩
theorem eX9_lateIn {v : Int32} (F : MR μ m f f2 p kept sl u pd padded at_ od ordered) (I : IV f h rc sc B) : EvA G 4 kX9_lateIn [.ref m, .int v] μ sz 0 0 (rI fun r μ' => r = lateInQ f v ∧ (∃ g, MR μ' m f g p kept sl u pd padded at_ od ordered) ∧ Fr m (m + 8) μ μ') := by
  have hO := F.1
  have hrc := I.2.1.2.1
  refine EvA.of (L := [some (.ref m), some (.int v)]) (by decide +kernel) (Nat.le_of_ble_eq_true rfl) rfl ?_
  refine Rn.iload_n (pc1 := 1)  dX9_lateIn_0 rfl rfl rfl ?_
  refine Rn.iconst (pc1 := 2) (v := nI 0) dX9_lateIn_1 rfl (by decide) ?_
  refine Rn.sipush (pc1 := 5) (v := nI 999) dX9_lateIn_2 rfl (by decide) ?_
  refine Rn.cS_i (pc1 := 8) (eX9_in) dX9_lateIn_5 rfl qX9_32 oX9_in rfl rfl (Nat.le_of_ble_eq_true rfl) (by decide) (by decide) (fun v5 μ5 h5 => ?_)
  obtain ⟨rfl, rfl⟩ := h5
  refine Rn.if_ne (pc1 := 11) 14 dX9_lateIn_8 rfl (by decide) (fun c8 => ?_) (fun c8 => ?_)
  · have hm : lateInQ f v = lateN f (floorF f h (f 0) (f 2 + v)) rc := (if_pos (bI_n c8)).trans (by rw [I.h.1, I.h.2.1])
    refine Rn.aload_n (pc1 := 15)  dX9_lateIn_14 rfl rfl rfl ?_
    refine Rn.iload_n (pc1 := 16)  dX9_lateIn_15 rfl rfl rfl ?_
    refine Rn.cV_v (pc1 := 19) (eX9_thinsThen F I) dX9_lateIn_16 rfl qX9_142 oX9_thinsThen (by first | assumption | exact mset_same | exact mget_ne (by omega) (by assumption)) rfl rfl rfl rfl (Nat.le_of_ble_eq_true rfl) (by decide) (by decide) (fun μ16 h16 => ?_)
    obtain ⟨⟨g, F1, g6, g4, g7, gh⟩, z1⟩ := h16
    have hO1 := F1.1
    have hA1 := F1.2.2.1
    refine Rn.aload_n (pc1 := 20)  dX9_lateIn_19 rfl rfl rfl ?_
    refine Rn.getfield (pc1 := 23)  dX9_lateIn_20 rfl fX9_13 (by first | assumption | exact mset_same | exact mget_ne (by omega) (by assumption)) rfl ?_
    refine Rn.cS_i (pc1 := 26) (eX9_lateOnes hA1 g7 hrc) dX9_lateIn_23 rfl qX9_136 oX9_lateOnes rfl rfl (Nat.le_of_ble_eq_true rfl) (by decide) (by decide) (fun v23 μ23 h23 => ?_)
    obtain ⟨rfl, rfl⟩ := h23
    exact Rn.ireturn dX9_lateIn_26 rfl rfl ⟨_, rfl, (by rw [hm, g4]; exact lateN_congr' rc (fun i hi => gh _ (by omega) (by omega))), ⟨g, F1⟩, z1⟩
  · have hm : lateInQ f v = -2 := if_neg (by rw [bI_0 c8]; decide)
    refine Rn.bipush (pc1 := 13) (v := (-2)) dX9_lateIn_11 rfl (by decide) ?_
    exact Rn.ireturn dX9_lateIn_13 rfl rfl ⟨_, rfl, hm.symm, ⟨f2, F⟩, Fr.rf⟩
theorem eX9_gentlest (F : MR μ m f f2 p kept sl u pd padded at_ od ordered) (I : IV f h rc sc B) : EvA G 3 kX9_gentlest [.ref m] μ sz 0 0 (rI fun r μ' => r = nI (gN f h 19).1 ∧ (∃ g, MR μ' m f g p kept sl u pd padded at_ od ordered) ∧ Fr m (m + 8) μ μ') := by
  have hh := I.2.1.1
  have hl : ∀ s mi, leftF f h s mi ≤ h := fun s mi => leftN_le _ _
  have hle : ∀ n, (gN f h n).2 ≤ 60 := fun n => by
    induction n with
    | zero => exact Nat.le_trans (hl _ _) hh
    | succ n ih => unfold gN; split; exact Nat.le_trans (hl _ _) hh; exact ih
  have step : ∀ (t : Nat) (fo mo : Int32) (f2 : Nat → Int32) (μ0 : Mm), 1 ≤ t → t ≤ 20 → MR μ0 m f f2 p kept sl u pd padded at_ od ordered → Fr m (m + 8) μ μ0 → (∀ (fo' mo' : Int32) (g : Nat → Int32) (μ1 : Mm), MR μ1 m f g p kept sl u pd padded at_ od ordered → Fr m (m + 8) μ μ1 → (¬ nI (leftF f h (nI t) (f 2)) ≤ mo ∧ fo' = nI t ∧ mo' = nI (leftF f h (nI t) (f 2)) ∨ nI (leftF f h (nI t) (f 2)) ≤ mo ∧ fo' = fo ∧ mo' = mo) → Rn G 3 kX9_gentlest 80 [some (.ref m), some (.int fo'), some (.int mo'), some (.int (nI t))] [] μ1 sz 0 0 (rI fun r μ' => r = nI (gN f h 19).1 ∧ (∃ g, MR μ' m f g p kept sl u pd padded at_ od ordered) ∧ Fr m (m + 8) μ μ')) → Rn G 3 kX9_gentlest 6 [some (.ref m), some (.int fo), some (.int mo), some (.int (nI t))] [] μ0 sz 0 0 (rI fun r μ' => r = nI (gN f h 19).1 ∧ (∃ g, MR μ' m f g p kept sl u pd padded at_ od ordered) ∧ Fr m (m + 8) μ μ') := by
    intro t fo mo f2 μ0 t1 t2 F z N
    have hO := F.1
    have q : ∀ j, j < 475 → j ≠ 0 → upd (blk f2 0 475 (fun k => f (0 + k))) 0 (nI t) j = f j := fun j h1 h2 => (upd_ne h2).trans (bk_at h1)
    have q0 : upd (blk f2 0 475 (fun k => f (0 + k))) 0 (nI t) 0 = nI t := upd_at rfl
    have tc := thin_congr (f := f) (f' := upd (blk f2 0 475 (fun k => f (0 + k))) 0 (nI t)) (h := h) (s := nI t) (mi := f 2) (q 1 (by omega) (by omega)) (q 3 (by omega) (by omega)) (q 4 (by omega) (by omega)) (fun j h1 h2 => q j (by omega) (by omega))
    refine Rn.iload_n (pc1 := 7)  dX9_gentlest_6 rfl rfl rfl ?_
    refine Rn.bipush (pc1 := 9) (v := nI 20) dX9_gentlest_7 rfl (by decide) ?_
    refine Rn.icmp_gt (pc1 := 12) 86 dX9_gentlest_9 rfl (by decide) (fun c9 => ?_) (fun c9 => ?_)
    · exact absurd c9 (nI_nlt (by omega) (by omega))
    · refine Rn.aload_n (pc1 := 13)  dX9_gentlest_12 rfl rfl rfl ?_
      refine Rn.getfield (pc1 := 16)  dX9_gentlest_13 rfl fX9_7 (by first | assumption | exact mset_same | exact mget_ne (by omega) (by assumption)) rfl ?_
      refine Rn.iconst (pc1 := 17) (v := nI 0) dX9_gentlest_16 rfl (by decide) ?_
      refine Rn.aload_n (pc1 := 18)  dX9_gentlest_17 rfl rfl rfl ?_
      refine Rn.getfield (pc1 := 21)  dX9_gentlest_18 rfl fX9_13 (by first | assumption | exact mset_same | exact mget_ne (by omega) (by assumption)) rfl ?_
      refine Rn.iconst (pc1 := 22) (v := nI 0) dX9_gentlest_21 rfl (by decide) ?_
      refine Rn.cS_v (pc1 := 25) (eX9_lays F.2.1 F.2.2.1 (by omega) (by omega) (by omega) (by decide) (by decide)) dX9_gentlest_22 rfl qX9_40 oX9_lays rfl rfl (Nat.le_of_ble_eq_true rfl) (by decide) (by decide) (fun μ22 h22 => ?_)
      subst h22
      have F1 := F.set2 (blk f2 0 475 (fun k => f (0 + k)))
      have hO1 := F1.1
      refine Rn.aload_n (pc1 := 26)  dX9_gentlest_25 rfl rfl rfl ?_
      refine Rn.getfield (pc1 := 29)  dX9_gentlest_26 rfl fX9_13 (by first | assumption | exact mset_same | exact mget_ne (by omega) (by assumption)) rfl ?_
      refine Rn.iconst (pc1 := 30) (v := nI 0) dX9_gentlest_29 rfl (by decide) ?_
      refine Rn.iload_n (pc1 := 31)  dX9_gentlest_30 rfl rfl rfl ?_
      refine Rn.iastore (pc1 := 32)  dX9_gentlest_31 rfl (by first | assumption | exact mset_same | exact mget_ne (by omega) (by assumption)) (vp_nI (j := 0) rfl (by omega) (by decide)) (updI (j := 0) rfl (by omega)) ?_
      rw [mset_mset]
      refine Rn.aload_n (pc1 := 33)  dX9_gentlest_32 rfl rfl rfl ?_
      refine Rn.getfield (pc1 := 36)  dX9_gentlest_33 rfl fX9_13 (by first | assumption | exact mset_same | exact mget_ne (by omega) (by assumption)) rfl ?_
      refine Rn.cS_i (pc1 := 39) (eX9_thins mset_same hh ((q 6 (by omega) (by omega)).trans I.1.1) (by rw [q0]; exact nI_le t1 (by omega))) dX9_gentlest_36 rfl qX9_90 oX9_thins rfl rfl (Nat.le_of_ble_eq_true rfl) (by decide) (by decide) (fun v36 μ36 h36 => ?_)
      obtain ⟨rfl, g, rfl, hg⟩ := h36
      rw [mset_mset]
      rw [q0, q 2 (by omega) (by omega)] at hg
      have F2 := F.set2 g
      have hO2 := F2.1
      have g6 : g 6 = nI (leftF f h (nI t) (f 2)) := (hg 6 (by omega)).trans (by rw [← tc.1]; rfl)
      refine Rn.pop (pc1 := 40)  dX9_gentlest_39 rfl rfl ?_
      refine Rn.aload_n (pc1 := 41)  dX9_gentlest_40 rfl rfl rfl ?_
      refine Rn.getfield (pc1 := 44)  dX9_gentlest_41 rfl fX9_13 (by first | assumption | exact mset_same | exact mget_ne (by omega) (by assumption)) rfl ?_
      refine Rn.bipush (pc1 := 46) (v := nI 6) dX9_gentlest_44 rfl (by decide) ?_
      refine Rn.iaload (pc1 := 47) (v := nI (leftF f h (nI t) (f 2)))  dX9_gentlest_46 rfl mset_same (vp_nI (j := 6) rfl (by omega) (by decide)) g6 ?_
      refine Rn.iload_n (pc1 := 48)  dX9_gentlest_47 rfl rfl rfl ?_
      refine Rn.icmp_le (pc1 := 51) 55 dX9_gentlest_48 rfl (by decide) (fun c48 => ?_) (fun c48 => ?_)
      · refine Rn.iload_n (pc1 := 56)  dX9_gentlest_55 rfl rfl rfl ?_
        refine Rn.istore_n (pc1 := 57)  dX9_gentlest_56 rfl rfl (by decide) rfl rfl ?_
        refine Rn.aload_n (pc1 := 58)  dX9_gentlest_57 rfl rfl rfl ?_
        refine Rn.getfield (pc1 := 61)  dX9_gentlest_58 rfl fX9_13 (by first | assumption | exact mset_same | exact mget_ne (by omega) (by assumption)) rfl ?_
        refine Rn.bipush (pc1 := 63) (v := nI 6) dX9_gentlest_61 rfl (by decide) ?_
        refine Rn.iaload (pc1 := 64) (v := nI (leftF f h (nI t) (f 2)))  dX9_gentlest_63 rfl mset_same (vp_nI (j := 6) rfl (by omega) (by decide)) g6 ?_
        refine Rn.iload_n (pc1 := 65)  dX9_gentlest_64 rfl rfl rfl ?_
        refine Rn.icmp_le (pc1 := 68) 78 dX9_gentlest_65 rfl (by decide) (fun c65 => ?_) (fun c65 => ?_)
        · refine Rn.iload_n (pc1 := 79)  dX9_gentlest_78 rfl rfl rfl ?_
          refine Rn.istore_n (pc1 := 80)  dX9_gentlest_79 rfl rfl (by decide) rfl rfl ?_
          first | exact absurd c48 c65 | exact absurd c65 c48 | exact N _ _ g _ F2 (z.set_ (by omega) (by omega)) (Or.inl ⟨c48, rfl, rfl⟩) | exact N _ _ g _ F2 (z.set_ (by omega) (by omega)) (Or.inr ⟨c48, rfl, rfl⟩)
        · refine Rn.aload_n (pc1 := 69)  dX9_gentlest_68 rfl rfl rfl ?_
          refine Rn.getfield (pc1 := 72)  dX9_gentlest_69 rfl fX9_13 (by first | assumption | exact mset_same | exact mget_ne (by omega) (by assumption)) rfl ?_
          refine Rn.bipush (pc1 := 74) (v := nI 6) dX9_gentlest_72 rfl (by decide) ?_
          refine Rn.iaload (pc1 := 75) (v := nI (leftF f h (nI t) (f 2)))  dX9_gentlest_74 rfl mset_same (vp_nI (j := 6) rfl (by omega) (by decide)) g6 ?_
          refine Rn.goto 79 dX9_gentlest_75 (by decide) ?_
          refine Rn.istore_n (pc1 := 80)  dX9_gentlest_79 rfl rfl (by decide) rfl rfl ?_
          first | exact absurd c48 c65 | exact absurd c65 c48 | exact N _ _ g _ F2 (z.set_ (by omega) (by omega)) (Or.inl ⟨c48, rfl, rfl⟩) | exact N _ _ g _ F2 (z.set_ (by omega) (by omega)) (Or.inr ⟨c48, rfl, rfl⟩)
      · refine Rn.iload_n (pc1 := 52)  dX9_gentlest_51 rfl rfl rfl ?_
        refine Rn.goto 56 dX9_gentlest_52 (by decide) ?_
        refine Rn.istore_n (pc1 := 57)  dX9_gentlest_56 rfl rfl (by decide) rfl rfl ?_
        refine Rn.aload_n (pc1 := 58)  dX9_gentlest_57 rfl rfl rfl ?_
        refine Rn.getfield (pc1 := 61)  dX9_gentlest_58 rfl fX9_13 (by first | assumption | exact mset_same | exact mget_ne (by omega) (by assumption)) rfl ?_
        refine Rn.bipush (pc1 := 63) (v := nI 6) dX9_gentlest_61 rfl (by decide) ?_
        refine Rn.iaload (pc1 := 64) (v := nI (leftF f h (nI t) (f 2)))  dX9_gentlest_63 rfl mset_same (vp_nI (j := 6) rfl (by omega) (by decide)) g6 ?_
        refine Rn.iload_n (pc1 := 65)  dX9_gentlest_64 rfl rfl rfl ?_
        refine Rn.icmp_le (pc1 := 68) 78 dX9_gentlest_65 rfl (by decide) (fun c65 => ?_) (fun c65 => ?_)
        · refine Rn.iload_n (pc1 := 79)  dX9_gentlest_78 rfl rfl rfl ?_
          refine Rn.istore_n (pc1 := 80)  dX9_gentlest_79 rfl rfl (by decide) rfl rfl ?_
          first | exact absurd c48 c65 | exact absurd c65 c48 | exact N _ _ g _ F2 (z.set_ (by omega) (by omega)) (Or.inl ⟨c48, rfl, rfl⟩) | exact N _ _ g _ F2 (z.set_ (by omega) (by omega)) (Or.inr ⟨c48, rfl, rfl⟩)
        · refine Rn.aload_n (pc1 := 69)  dX9_gentlest_68 rfl rfl rfl ?_
          refine Rn.getfield (pc1 := 72)  dX9_gentlest_69 rfl fX9_13 (by first | assumption | exact mset_same | exact mget_ne (by omega) (by assumption)) rfl ?_
          refine Rn.bipush (pc1 := 74) (v := nI 6) dX9_gentlest_72 rfl (by decide) ?_
          refine Rn.iaload (pc1 := 75) (v := nI (leftF f h (nI t) (f 2)))  dX9_gentlest_74 rfl mset_same (vp_nI (j := 6) rfl (by omega) (by decide)) g6 ?_
          refine Rn.goto 79 dX9_gentlest_75 (by decide) ?_
          refine Rn.istore_n (pc1 := 80)  dX9_gentlest_79 rfl rfl (by decide) rfl rfl ?_
          first | exact absurd c48 c65 | exact absurd c65 c48 | exact N _ _ g _ F2 (z.set_ (by omega) (by omega)) (Or.inl ⟨c48, rfl, rfl⟩) | exact N _ _ g _ F2 (z.set_ (by omega) (by omega)) (Or.inr ⟨c48, rfl, rfl⟩)
  have loop : ∀ (k n : Nat), n + k = 19 → ∀ (f2 : Nat → Int32) (μ0 : Mm), MR μ0 m f f2 p kept sl u pd padded at_ od ordered → Fr m (m + 8) μ μ0 → Rn G 3 kX9_gentlest 6 [some (.ref m), some (.int (nI (gN f h n).1)), some (.int (nI (gN f h n).2)), some (.int (nI (n + 2)))] [] μ0 sz 0 0 (rI fun r μ' => r = nI (gN f h 19).1 ∧ (∃ g, MR μ' m f g p kept sl u pd padded at_ od ordered) ∧ Fr m (m + 8) μ μ') := by
    intro k
    induction k with
    | zero =>
      intro n hn f2 μ0 F z
      obtain rfl : n = 19 := by omega
      have hO := F.1
      refine Rn.iload_n (pc1 := 7)  dX9_gentlest_6 rfl rfl rfl ?_
      refine Rn.bipush (pc1 := 9) (v := nI 20) dX9_gentlest_7 rfl (by decide) ?_
      refine Rn.icmp_gt (pc1 := 12) 86 dX9_gentlest_9 rfl (by decide) (fun c9 => ?_) (fun c9 => ?_)
      · refine Rn.iload_n (pc1 := 87)  dX9_gentlest_86 rfl rfl rfl ?_
        exact Rn.ireturn dX9_gentlest_87 rfl rfl ⟨_, rfl, rfl, ⟨f2, F⟩, z⟩
      · exact absurd (nI_lt (show 20 < 21 by omega) (by decide)) c9
    | succ k ih =>
      intro n hn f2 μ0 F z
      have hn1 := hle n
      have hn2 := hl (nI (n + 2)) (f 2)
      refine step (n + 2) _ _ f2 μ0 (by omega) (by omega) F z ?_
      intro fo mo g μ1 F1 z1 hc
      have e : gN f h (n + 1) = (if (gN f h n).2 < leftF f h (nI (n + 2)) (f 2) then (n + 2, leftF f h (nI (n + 2)) (f 2)) else gN f h n) := rfl
      have N := ih (n + 1) (by omega) g μ1 F1 z1
      have e2 : fo = nI (gN f h (n + 1)).1 ∧ mo = nI (gN f h (n + 1)).2 := by
        rw [e]
        rcases hc with ⟨c, rfl, rfl⟩ | ⟨c, rfl, rfl⟩
        · rw [nI_leI (by omega) (by omega)] at c; rw [if_pos (by omega)]; exact ⟨rfl, rfl⟩
        · rw [nI_leI (by omega) (by omega)] at c; rw [if_neg (by omega)]; exact ⟨rfl, rfl⟩
      obtain ⟨rfl, rfl⟩ := e2
      refine Rn.iinc (pc1 := 83)  dX9_gentlest_80 rfl rfl (nI_1 (n + 2)) (by decide) rfl rfl ?_
      refine Rn.goto 6 dX9_gentlest_83 (by decide) ?_
      exact N
  refine EvA.of (L := [some (.ref m), none, none, none]) (by decide +kernel) (Nat.le_of_ble_eq_true rfl) rfl ?_
  refine Rn.iconst (pc1 := 1) (v := nI 1) dX9_gentlest_0 rfl (by decide) ?_
  refine Rn.istore_n (pc1 := 2)  dX9_gentlest_1 rfl rfl (by decide) rfl rfl ?_
  refine Rn.iconst (pc1 := 3) (v := (-1)) dX9_gentlest_2 rfl (by decide) ?_
  refine Rn.istore_n (pc1 := 4)  dX9_gentlest_3 rfl rfl (by decide) rfl rfl ?_
  refine Rn.iconst (pc1 := 5) (v := nI 1) dX9_gentlest_4 rfl (by decide) ?_
  refine Rn.istore_n (pc1 := 6)  dX9_gentlest_5 rfl rfl (by decide) rfl rfl ?_
  refine step 1 _ _ f2 μ (by omega) (by omega) F Fr.rf ?_
  intro fo mo g μ1 F1 z1 hc
  have hn2 := hl (nI 1) (f 2)
  have e2 : fo = nI 1 ∧ mo = nI (leftF f h (nI 1) (f 2)) := by
    rcases hc with ⟨c, rfl, rfl⟩ | ⟨c, rfl, rfl⟩
    · exact ⟨rfl, rfl⟩
    · exact absurd c (i32_nle.mpr (by
        have e9 : nI 0 ≤ nI (leftF f h (nI 1) (f 2)) := nI_le (Nat.zero_le _) (by omega)
        exact Int32.lt_of_lt_of_le (by decide) e9))
  obtain ⟨rfl, rfl⟩ := e2
  refine Rn.iinc dX9_gentlest_80 rfl rfl (nI_1 1) (by decide) rfl rfl ?_
  refine Rn.goto 6 dX9_gentlest_83 (by decide) ?_
  exact loop 19 0 (by omega) g μ1 F1 z1
end M6
