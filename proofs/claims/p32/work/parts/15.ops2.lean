section OPS2
variable {G : GG} {μ : Mm} {sz : Nat} {a h rc sc : Nat} {f : Nat → Int32}
theorem eX6_letBeginAnew {r : Int32} (F : SA μ a f h rc sc) (hnn : ∀ j, j < h → nI 0 ≤ e0 f j) : EvA G 4 kX6_letBeginAnew [.ref a, .int r] μ sz 0 0 (rI fun v μ' => (isRdB rc r = false ∧ v = -1 ∧ μ' = μ) ∨ (isRdB rc r = true ∧ ∃ i, i < rc ∧ r = nI i ∧ v = nI h ∧ SA μ' a (beginF f i (nI 0) (fun _ => -6)) h rc sc ∧ Fr a (a + 52) μ μ')) := by
  have hO : μ a = _ := F.2.1
  have hrc := F.1.2.1
  refine EvA.of (L := [some (.ref a), some (.int r), none]) (by decide +kernel) (Nat.le_of_ble_eq_true rfl) rfl ?_
  cases hr : isRdB rc r
  · refine Rn.aload_n (pc1 := 1)  dX6_letBeginAnew_0 rfl rfl rfl ?_
    refine Rn.iload_n (pc1 := 2)  dX6_letBeginAnew_1 rfl rfl rfl ?_
    refine Rn.cV_r (pc1 := 5) (eX6_readerAt_n F (isRdB_f (by omega) hr)) dX6_letBeginAnew_2 rfl qX6_62 oX6_readerAt (by first | assumption | exact mset_same | exact mget_ne (by omega) (by assumption)) rfl rfl rfl rfl (Nat.le_of_ble_eq_true rfl) (by decide) (by decide) (fun v2 μ2 h2 => ?_)
    obtain ⟨rfl, rfl⟩ := h2
    show Rn G 4 kX6_letBeginAnew 5 _ [.null] _ _ _ _ _
    refine Rn.astore_nN (pc1 := 6)  dX6_letBeginAnew_5 rfl rfl (by decide) rfl rfl ?_
    refine Rn.aload_nN (pc1 := 7)  dX6_letBeginAnew_6 rfl rfl rfl ?_
    refine Rn.ifnonnullN (pc1 := 10) dX6_letBeginAnew_7 rfl ?_
    refine Rn.iconst (pc1 := 11) (v := (-1)) dX6_letBeginAnew_10 rfl (by decide) ?_
    exact Rn.ireturn dX6_letBeginAnew_11 rfl rfl ⟨_, rfl, Or.inl ⟨rfl, rfl, rfl⟩⟩
  · obtain ⟨i, hi, rfl⟩ := isRdB_t (by omega) hr
    obtain ⟨vw, cv, R, rv, rw⟩ := F.rd hi
    have rO := R.1
    refine Rn.aload_n (pc1 := 1)  dX6_letBeginAnew_0 rfl rfl rfl ?_
    refine Rn.iload_n (pc1 := 2)  dX6_letBeginAnew_1 rfl rfl rfl ?_
    refine Rn.cV_r (pc1 := 5) (eX6_readerAt_y F rfl hi) dX6_letBeginAnew_2 rfl qX6_62 oX6_readerAt (by first | assumption | exact mset_same | exact mget_ne (by omega) (by assumption)) rfl rfl rfl rfl (Nat.le_of_ble_eq_true rfl) (by decide) (by decide) (fun v2 μ2 h2 => ?_)
    obtain ⟨rfl, rfl⟩ := h2
    refine Rn.astore_n (pc1 := 6) (x := a + 10 + 5 * i)  dX6_letBeginAnew_5 rfl rfl (by decide) rfl rfl ?_
    refine Rn.aload_n (pc1 := 7)  dX6_letBeginAnew_6 rfl rfl rfl ?_
    refine Rn.ifnonnull 12 dX6_letBeginAnew_7 (by decide) ?_
    refine Rn.aload_n (pc1 := 13)  dX6_letBeginAnew_12 rfl rfl rfl ?_
    refine Rn.cV_v (pc1 := 16) (eX3_startOver R) dX6_letBeginAnew_13 rfl qX6_120 oX3_startOver (by first | assumption | exact mset_same | exact mget_ne (by omega) (by assumption)) rfl rfl rfl rfl (Nat.le_of_ble_eq_true rfl) (by decide) (by decide) (fun μ13 h13 => ?_)
    obtain ⟨R1, z1⟩ := h13
    have rO1 := R1.1
    obtain ⟨F2, z2⟩ := F.setR hi z1 R1 (beginF f i (nI 0) (fun _ => -6)) (fun j hj => by
        unfold beginF; rw [blk_out (by omega), blk_out (by omega), upd_ne (by omega), upd_ne (by omega)])
      ⟨by unfold beginF; rw [blk_out (by omega), blk_out (by omega), upd_ne (by omega), upd_at rfl], by unfold beginF; rw [blk_out (by omega), blk_out (by omega), upd_at rfl], by unfold beginF; rw [blk_out (by omega), blk_out (by omega), upd_ne (by omega), upd_ne (by omega)], fun k hk => by unfold beginF; rw [blk_out (by omega), blk_in rfl hk], fun k hk => by unfold beginF; rw [blk_in rfl hk]⟩
    have hO2 : μ13 a = _ := F2.2.1
    obtain ⟨g0, g1, g2, g3, fd1, fd2⟩ := F2.2.2.2.2.1
    have fO := fd1.1
    refine Rn.aload_n (pc1 := 17)  dX6_letBeginAnew_16 rfl rfl rfl ?_
    refine Rn.getfield (pc1 := 20)  dX6_letBeginAnew_17 rfl fX6_37 (by first | assumption | exact mset_same | exact mget_ne (by omega) (by assumption)) rfl ?_
    refine Rn.aload_n (pc1 := 21)  dX6_letBeginAnew_20 rfl rfl rfl ?_
    refine Rn.getfield (pc1 := 24)  dX6_letBeginAnew_21 rfl fX6_126 (by first | assumption | exact mset_same | exact mget_ne (by omega) (by assumption)) rfl ?_
    refine Rn.cV_i (pc1 := 27) (eX0_aheadOf fd1 F.1.1) dX6_letBeginAnew_24 rfl qX6_143 oX0_aheadOf (by first | assumption | exact mset_same | exact mget_ne (by omega) (by assumption)) rfl rfl rfl rfl (Nat.le_of_ble_eq_true rfl) (by decide) (by decide) (fun v24 μ24 h24 => ?_)
    obtain ⟨⟨k, k1, rfl, k2, k3⟩, rfl⟩ := h24
    refine Rn.ireturn dX6_letBeginAnew_27 rfl rfl ⟨_, rfl, Or.inr ⟨rfl, i, hi, rfl, ?_, F2, z2⟩⟩
    have hk0 : k = 0 := by
      rcases Nat.eq_zero_or_pos k with q | q
      · exact q
      · have h0 := k2 0 q
        have hh := F.1.1
        rw [(fd2 0 (by omega)).1] at h0
        have h1 := hnn 0 (by omega)
        unfold beginF at h0
        rw [blk_out (by omega), blk_out (by omega), upd_ne (by omega), upd_ne (by omega)] at h0
        exact absurd h0 (i32_nlt.mpr h1)
    rw [hk0, Nat.sub_zero]
theorem eX6_letLoad {r s : Int32} (F : SA μ a f h rc sc) : EvA G 4 kX6_letLoad [.ref a, .int r, .int s] μ sz 0 0 (rI fun v μ' => (mayLoadF f rc sc r s ≠ nI 0 ∧ v = mayLoadF f rc sc r s ∧ μ' = μ) ∨ (mayLoadF f rc sc r s = nI 0 ∧ ∃ i n, i < rc ∧ n < sc ∧ r = nI i ∧ s = nI n ∧ v = f (423 + 13 * n) ∧ SA μ' a (beginF f i (f (423 + 13 * n)) (fun k => f (423 + 13 * n + 1 + k))) h rc sc ∧ Fr a (a + 52) μ μ')) := by
  have hO : μ a = _ := F.2.1
  have hrc := F.1.2.1
  have hsc := F.1.2.2
  obtain ⟨g0, g1, g2, g3, fd1, fd2⟩ := F.2.2.2.2.1
  have fO := fd1.1
  refine EvA.of (L := [some (.ref a), some (.int r), some (.int s), none, none]) (by decide +kernel) (Nat.le_of_ble_eq_true rfl) rfl ?_
  cases hr : isRdB rc r
  · have n : mayLoadF f rc sc r s = -1 := by unfold mayLoadF; rw [hr, if_neg (fun q => Bool.noConfusion q.1)]
    cases hs : isRdB sc s
    · refine Rn.aload_n (pc1 := 1)  dX6_letLoad_0 rfl rfl rfl ?_
      refine Rn.iload_n (pc1 := 2)  dX6_letLoad_1 rfl rfl rfl ?_
      refine Rn.cV_r (pc1 := 5) (eX6_readerAt_n F (isRdB_f (by omega) hr)) dX6_letLoad_2 rfl qX6_62 oX6_readerAt (by first | assumption | exact mset_same | exact mget_ne (by omega) (by assumption)) rfl rfl rfl rfl (Nat.le_of_ble_eq_true rfl) (by decide) (by decide) (fun v2 μ2 h2 => ?_)
      obtain ⟨rfl, rfl⟩ := h2
      show Rn G 4 kX6_letLoad 5 _ [.null] _ _ _ _ _
      refine Rn.astore_nN (pc1 := 6)  dX6_letLoad_5 rfl rfl (by decide) rfl rfl ?_
      refine Rn.aload_n (pc1 := 7)  dX6_letLoad_6 rfl rfl rfl ?_
      refine Rn.iload_n (pc1 := 8)  dX6_letLoad_7 rfl rfl rfl ?_
      refine Rn.cV_r (pc1 := 11) (eX6_snapshotAt_n F (isRdB_f (by omega) hs)) dX6_letLoad_8 rfl qX6_69 oX6_snapshotAt (by first | assumption | exact mset_same | exact mget_ne (by omega) (by assumption)) rfl rfl rfl rfl (Nat.le_of_ble_eq_true rfl) (by decide) (by decide) (fun v8 μ8 h8 => ?_)
      obtain ⟨rfl, rfl⟩ := h8
      show Rn G 4 kX6_letLoad 11 _ [.null] _ _ _ _ _
      refine Rn.astoreN (pc1 := 13)  dX6_letLoad_11 rfl (by decide) rfl rfl ?_
      refine Rn.aload_nN (pc1 := 14)  dX6_letLoad_13 rfl rfl rfl ?_
      refine Rn.ifnullN 22 dX6_letLoad_14 (by decide) ?_
      refine Rn.iconst (pc1 := 23) (v := (-1)) dX6_letLoad_22 rfl (by decide) ?_
      exact Rn.ireturn dX6_letLoad_23 rfl rfl ⟨_, rfl, Or.inl ⟨by rw [n]; decide, n.symm, rfl⟩⟩
    · obtain ⟨i, hi, rfl⟩ := isRdB_t (by omega) hs
      refine Rn.aload_n (pc1 := 1)  dX6_letLoad_0 rfl rfl rfl ?_
      refine Rn.iload_n (pc1 := 2)  dX6_letLoad_1 rfl rfl rfl ?_
      refine Rn.cV_r (pc1 := 5) (eX6_readerAt_n F (isRdB_f (by omega) hr)) dX6_letLoad_2 rfl qX6_62 oX6_readerAt (by first | assumption | exact mset_same | exact mget_ne (by omega) (by assumption)) rfl rfl rfl rfl (Nat.le_of_ble_eq_true rfl) (by decide) (by decide) (fun v2 μ2 h2 => ?_)
      obtain ⟨rfl, rfl⟩ := h2
      show Rn G 4 kX6_letLoad 5 _ [.null] _ _ _ _ _
      refine Rn.astore_nN (pc1 := 6)  dX6_letLoad_5 rfl rfl (by decide) rfl rfl ?_
      refine Rn.aload_n (pc1 := 7)  dX6_letLoad_6 rfl rfl rfl ?_
      refine Rn.iload_n (pc1 := 8)  dX6_letLoad_7 rfl rfl rfl ?_
      refine Rn.cV_r (pc1 := 11) (eX6_snapshotAt_y F rfl hi) dX6_letLoad_8 rfl qX6_69 oX6_snapshotAt (by first | assumption | exact mset_same | exact mget_ne (by omega) (by assumption)) rfl rfl rfl rfl (Nat.le_of_ble_eq_true rfl) (by decide) (by decide) (fun v8 μ8 h8 => ?_)
      obtain ⟨rfl, rfl⟩ := h8
      refine Rn.astore (pc1 := 13) (x := a + 40 + 3 * i)  dX6_letLoad_11 rfl (by decide) rfl rfl ?_
      refine Rn.aload_nN (pc1 := 14)  dX6_letLoad_13 rfl rfl rfl ?_
      refine Rn.ifnullN 22 dX6_letLoad_14 (by decide) ?_
      refine Rn.iconst (pc1 := 23) (v := (-1)) dX6_letLoad_22 rfl (by decide) ?_
      exact Rn.ireturn dX6_letLoad_23 rfl rfl ⟨_, rfl, Or.inl ⟨by rw [n]; decide, n.symm, rfl⟩⟩
  · obtain ⟨i, hi, rfl⟩ := isRdB_t (by omega) hr
    obtain ⟨vw, cv, R, rv, rw⟩ := F.rd hi
    have rO := R.1
    cases hs : isRdB sc s
    · have n : mayLoadF f rc sc (nI i) s = -1 := by unfold mayLoadF; rw [hs, if_neg (fun q => Bool.noConfusion q.2)]
      refine Rn.aload_n (pc1 := 1)  dX6_letLoad_0 rfl rfl rfl ?_
      refine Rn.iload_n (pc1 := 2)  dX6_letLoad_1 rfl rfl rfl ?_
      refine Rn.cV_r (pc1 := 5) (eX6_readerAt_y F rfl hi) dX6_letLoad_2 rfl qX6_62 oX6_readerAt (by first | assumption | exact mset_same | exact mget_ne (by omega) (by assumption)) rfl rfl rfl rfl (Nat.le_of_ble_eq_true rfl) (by decide) (by decide) (fun v2 μ2 h2 => ?_)
      obtain ⟨rfl, rfl⟩ := h2
      refine Rn.astore_n (pc1 := 6) (x := a + 10 + 5 * i)  dX6_letLoad_5 rfl rfl (by decide) rfl rfl ?_
      refine Rn.aload_n (pc1 := 7)  dX6_letLoad_6 rfl rfl rfl ?_
      refine Rn.iload_n (pc1 := 8)  dX6_letLoad_7 rfl rfl rfl ?_
      refine Rn.cV_r (pc1 := 11) (eX6_snapshotAt_n F (isRdB_f (by omega) hs)) dX6_letLoad_8 rfl qX6_69 oX6_snapshotAt (by first | assumption | exact mset_same | exact mget_ne (by omega) (by assumption)) rfl rfl rfl rfl (Nat.le_of_ble_eq_true rfl) (by decide) (by decide) (fun v8 μ8 h8 => ?_)
      obtain ⟨rfl, rfl⟩ := h8
      show Rn G 4 kX6_letLoad 11 _ [.null] _ _ _ _ _
      refine Rn.astoreN (pc1 := 13)  dX6_letLoad_11 rfl (by decide) rfl rfl ?_
      refine Rn.aload_n (pc1 := 14)  dX6_letLoad_13 rfl rfl rfl ?_
      refine Rn.ifnull (pc1 := 17) dX6_letLoad_14 rfl ?_
      refine Rn.aloadN (pc1 := 19)  dX6_letLoad_17 rfl rfl ?_
      refine Rn.ifnonnullN (pc1 := 22) dX6_letLoad_19 rfl ?_
      refine Rn.iconst (pc1 := 23) (v := (-1)) dX6_letLoad_22 rfl (by decide) ?_
      exact Rn.ireturn dX6_letLoad_23 rfl rfl ⟨_, rfl, Or.inl ⟨by rw [n]; decide, n.symm, rfl⟩⟩
    · obtain ⟨j, hj, rfl⟩ := isRdB_t (by omega) hs
      obtain ⟨tb, S, st⟩ := F.sn hj
      have sO := S.1
      have n0 : mayLoadF f rc sc (nI i) (nI j) = if lateB (f (423 + 13 * j)) (f 4) = true then -5 else nI 0 := by unfold mayLoadF; rw [if_pos ⟨hr, hs⟩, nI_clamp (by omega)]
      refine Rn.aload_n (pc1 := 1)  dX6_letLoad_0 rfl rfl rfl ?_
      refine Rn.iload_n (pc1 := 2)  dX6_letLoad_1 rfl rfl rfl ?_
      refine Rn.cV_r (pc1 := 5) (eX6_readerAt_y F rfl hi) dX6_letLoad_2 rfl qX6_62 oX6_readerAt (by first | assumption | exact mset_same | exact mget_ne (by omega) (by assumption)) rfl rfl rfl rfl (Nat.le_of_ble_eq_true rfl) (by decide) (by decide) (fun v2 μ2 h2 => ?_)
      obtain ⟨rfl, rfl⟩ := h2
      refine Rn.astore_n (pc1 := 6) (x := a + 10 + 5 * i)  dX6_letLoad_5 rfl rfl (by decide) rfl rfl ?_
      refine Rn.aload_n (pc1 := 7)  dX6_letLoad_6 rfl rfl rfl ?_
      refine Rn.iload_n (pc1 := 8)  dX6_letLoad_7 rfl rfl rfl ?_
      refine Rn.cV_r (pc1 := 11) (eX6_snapshotAt_y F rfl hj) dX6_letLoad_8 rfl qX6_69 oX6_snapshotAt (by first | assumption | exact mset_same | exact mget_ne (by omega) (by assumption)) rfl rfl rfl rfl (Nat.le_of_ble_eq_true rfl) (by decide) (by decide) (fun v8 μ8 h8 => ?_)
      obtain ⟨rfl, rfl⟩ := h8
      refine Rn.astore (pc1 := 13) (x := a + 40 + 3 * j)  dX6_letLoad_11 rfl (by decide) rfl rfl ?_
      refine Rn.aload_n (pc1 := 14)  dX6_letLoad_13 rfl rfl rfl ?_
      refine Rn.ifnull (pc1 := 17) dX6_letLoad_14 rfl ?_
      refine Rn.aload (pc1 := 19)  dX6_letLoad_17 rfl rfl ?_
      refine Rn.ifnonnull 24 dX6_letLoad_19 (by decide) ?_
      refine Rn.aload (pc1 := 26)  dX6_letLoad_24 rfl rfl ?_
      refine Rn.getfield (pc1 := 29)  dX6_letLoad_26 rfl fX6_116 (by first | assumption | exact mset_same | exact mget_ne (by omega) (by assumption)) rfl ?_
      refine Rn.aload_n (pc1 := 30)  dX6_letLoad_29 rfl rfl rfl ?_
      refine Rn.getfield (pc1 := 33)  dX6_letLoad_30 rfl fX6_37 (by first | assumption | exact mset_same | exact mget_ne (by omega) (by assumption)) rfl ?_
      refine Rn.getfield (pc1 := 36)  dX6_letLoad_33 rfl fX6_107 (by first | assumption | exact mset_same | exact mget_ne (by omega) (by assumption)) rfl ?_
      refine Rn.cN_i (pc1 := 39) (eX8_isLate) dX6_letLoad_36 rfl nX6_129 oX8_isLate rfl rfl (Nat.le_of_ble_eq_true rfl) (by decide) (by decide) (fun v36 μ36 h36 => ?_)
      obtain ⟨rfl, rfl⟩ := h36
      refine Rn.if_eq (pc1 := 42) 45 dX6_letLoad_39 rfl (by decide) (fun c39 => ?_) (fun c39 => ?_)
      · have n : mayLoadF f rc sc (nI i) (nI j) = nI 0 := by rw [n0, bI_0 c39]; rfl
        refine Rn.aload_n (pc1 := 46)  dX6_letLoad_45 rfl rfl rfl ?_
        refine Rn.aload (pc1 := 48)  dX6_letLoad_46 rfl rfl ?_
        refine Rn.cV_v (pc1 := 51) (eX3_takeOver R S (by omega)) dX6_letLoad_48 rfl qX6_146 oX3_takeOver (by first | assumption | exact mset_same | exact mget_ne (by omega) (by assumption)) rfl rfl rfl rfl (Nat.le_of_ble_eq_true rfl) (by decide) (by decide) (fun μ48 h48 => ?_)
        obtain ⟨R1, z1⟩ := h48
        have rO1 := R1.1
        refine Rn.aload_n (pc1 := 52)  dX6_letLoad_51 rfl rfl rfl ?_
        refine Rn.getfield (pc1 := 55)  dX6_letLoad_52 rfl fX6_126 (by first | assumption | exact mset_same | exact mget_ne (by omega) (by assumption)) rfl ?_
        refine Rn.ireturn dX6_letLoad_55 rfl rfl ⟨_, rfl, Or.inr ⟨n, i, j, hi, hj, rfl, rfl, rfl, F.setR hi z1 R1 _ (fun k hk => ?_) ⟨?_, ?_, ?_, fun k hk => ?_, fun k hk => ?_⟩⟩⟩
        · unfold beginF; rw [blk_out (by omega), blk_out (by omega), upd_ne (by omega), upd_ne (by omega)]
        · unfold beginF; rw [blk_out (by omega), blk_out (by omega), upd_ne (by omega), upd_at rfl]
        · unfold beginF; rw [blk_out (by omega), blk_out (by omega), upd_at rfl]
        · unfold beginF; rw [blk_out (by omega), blk_out (by omega), upd_ne (by omega), upd_ne (by omega)]
        · unfold beginF; rw [blk_out (by omega), blk_in rfl hk]; exact st k hk
        · unfold beginF; rw [blk_in rfl hk]; exact st k hk
      · have n : mayLoadF f rc sc (nI i) (nI j) = -5 := by rw [n0, if_pos (bI_n c39)]
        refine Rn.bipush (pc1 := 44) (v := (-5)) dX6_letLoad_42 rfl (by decide) ?_
        exact Rn.ireturn dX6_letLoad_44 rfl rfl ⟨_, rfl, Or.inl ⟨by rw [n]; decide, n.symm, rfl⟩⟩
theorem eX6_letRead {r m : Int32} (F : SA μ a f h rc sc) (hk : ∀ j, j < h → ∃ q, q < 12 ∧ e1 f j = nI q) : EvA G 4 kX6_letRead [.ref a, .int r, .int m] μ sz 0 0 (rI fun v μ' => (mayReadF f rc r m ≠ nI 0 ∧ v = mayReadF f rc r m ∧ μ' = μ) ∨ (mayReadF f rc r m = nI 0 ∧ ∃ i M k c, i < rc ∧ r = nI i ∧ m = nI M ∧ 1 ≤ M ∧ M ≤ 99 ∧ k + c ≤ h ∧ c = min M (h - k) ∧ v = nI c ∧ (∀ j, j < k → e0 f j < f (261 + 27 * i)) ∧ (k < h → f (261 + 27 * i) ≤ e0 f k) ∧ SA μ' a (readF f i k c) h rc sc ∧ Fr a (a + 52) μ μ')) := by
  have hO : μ a = _ := F.2.1
  have hrc := F.1.2.1
  have hh := F.1.1
  obtain ⟨g0, g1, g2, g3, fd1, fd2⟩ := F.2.2.2.2.1
  have fO := fd1.1
  refine EvA.of (L := [some (.ref a), some (.int r), some (.int m), none]) (by decide +kernel) (Nat.le_of_ble_eq_true rfl) rfl ?_
  cases hr : isRdB rc r
  · have n : mayReadF f rc r m = -1 := by unfold mayReadF; rw [hr]; rfl
    refine Rn.aload_n (pc1 := 1)  dX6_letRead_0 rfl rfl rfl ?_
    refine Rn.iload_n (pc1 := 2)  dX6_letRead_1 rfl rfl rfl ?_
    refine Rn.cV_r (pc1 := 5) (eX6_readerAt_n F (isRdB_f (by omega) hr)) dX6_letRead_2 rfl qX6_62 oX6_readerAt (by first | assumption | exact mset_same | exact mget_ne (by omega) (by assumption)) rfl rfl rfl rfl (Nat.le_of_ble_eq_true rfl) (by decide) (by decide) (fun v2 μ2 h2 => ?_)
    obtain ⟨rfl, rfl⟩ := h2
    show Rn G 4 kX6_letRead 5 _ [.null] _ _ _ _ _
    refine Rn.astore_nN (pc1 := 6)  dX6_letRead_5 rfl rfl (by decide) rfl rfl ?_
    refine Rn.aload_nN (pc1 := 7)  dX6_letRead_6 rfl rfl rfl ?_
    refine Rn.ifnonnullN (pc1 := 10) dX6_letRead_7 rfl ?_
    refine Rn.iconst (pc1 := 11) (v := (-1)) dX6_letRead_10 rfl (by decide) ?_
    exact Rn.ireturn dX6_letRead_11 rfl rfl ⟨_, rfl, Or.inl ⟨by rw [n]; decide, n.symm, rfl⟩⟩
  · obtain ⟨i, hi, rfl⟩ := isRdB_t (by omega) hr
    obtain ⟨vw, cv, R, rv, rw⟩ := F.rd hi
    have rO := R.1
    refine Rn.aload_n (pc1 := 1)  dX6_letRead_0 rfl rfl rfl ?_
    refine Rn.iload_n (pc1 := 2)  dX6_letRead_1 rfl rfl rfl ?_
    refine Rn.cV_r (pc1 := 5) (eX6_readerAt_y F rfl hi) dX6_letRead_2 rfl qX6_62 oX6_readerAt (by first | assumption | exact mset_same | exact mget_ne (by omega) (by assumption)) rfl rfl rfl rfl (Nat.le_of_ble_eq_true rfl) (by decide) (by decide) (fun v2 μ2 h2 => ?_)
    obtain ⟨rfl, rfl⟩ := h2
    refine Rn.astore_n (pc1 := 6) (x := a + 10 + 5 * i)  dX6_letRead_5 rfl rfl (by decide) rfl rfl ?_
    refine Rn.aload_n (pc1 := 7)  dX6_letRead_6 rfl rfl rfl ?_
    refine Rn.ifnonnull 12 dX6_letRead_7 (by decide) ?_
    refine Rn.iload_n (pc1 := 13)  dX6_letRead_12 rfl rfl rfl ?_
    refine Rn.iconst (pc1 := 14) (v := nI 1) dX6_letRead_13 rfl (by decide) ?_
    refine Rn.icmp_lt (pc1 := 17) 23 dX6_letRead_14 rfl (by decide) (fun c14 => ?_) (fun c14 => ?_)
    · have n : mayReadF f rc (nI i) m = -2 := by unfold mayReadF; rw [hr, inB_lo c14]; rfl
      refine Rn.bipush (pc1 := 25) (v := (-2)) dX6_letRead_23 rfl (by decide) ?_
      exact Rn.ireturn dX6_letRead_25 rfl rfl ⟨_, rfl, Or.inl ⟨by rw [n]; decide, n.symm, rfl⟩⟩
    · refine Rn.iload_n (pc1 := 18)  dX6_letRead_17 rfl rfl rfl ?_
      refine Rn.bipush (pc1 := 20) (v := nI 99) dX6_letRead_18 rfl (by decide) ?_
      refine Rn.icmp_le (pc1 := 23) 26 dX6_letRead_20 rfl (by decide) (fun c20 => ?_) (fun c20 => ?_)
      · have n0 : mayReadF f rc (nI i) m = if lateB (f (261 + 27 * i)) (f 4) = true then -5 else nI 0 := by unfold mayReadF; rw [if_pos hr, if_pos (inB_t c14 (i32_nlt.mpr c20)), nI_clamp (by omega)]
        have c14b : nI 0 ≤ m := by
          have := i32_nlt.mp c14
          rw [Int32.le_iff_toInt_le] at this ⊢
          rw [nI_toInt (by decide)] at this ⊢
          omega
        obtain ⟨M, hM, rfl⟩ := nI_of (x := m) (i32_nlt.mpr c14b)
        have hM1 : M ≤ 99 := (nI_leI hM (by decide)).mp c20
        have hM2 : 1 ≤ M := by rw [nI_ltI hM (by decide)] at c14; omega
        refine Rn.aload_n (pc1 := 27)  dX6_letRead_26 rfl rfl rfl ?_
        refine Rn.getfield (pc1 := 30)  dX6_letRead_27 rfl fX6_126 (by first | assumption | exact mset_same | exact mget_ne (by omega) (by assumption)) rfl ?_
        refine Rn.aload_n (pc1 := 31)  dX6_letRead_30 rfl rfl rfl ?_
        refine Rn.getfield (pc1 := 34)  dX6_letRead_31 rfl fX6_37 (by first | assumption | exact mset_same | exact mget_ne (by omega) (by assumption)) rfl ?_
        refine Rn.getfield (pc1 := 37)  dX6_letRead_34 rfl fX6_107 (by first | assumption | exact mset_same | exact mget_ne (by omega) (by assumption)) rfl ?_
        refine Rn.cN_i (pc1 := 40) (eX8_isLate) dX6_letRead_37 rfl nX6_129 oX8_isLate rfl rfl (Nat.le_of_ble_eq_true rfl) (by decide) (by decide) (fun v37 μ37 h37 => ?_)
        obtain ⟨rfl, rfl⟩ := h37
        refine Rn.if_eq (pc1 := 43) 46 dX6_letRead_40 rfl (by decide) (fun c40 => ?_) (fun c40 => ?_)
        · have n : mayReadF f rc (nI i) (nI M) = nI 0 := by rw [n0, bI_0 c40]; rfl
          refine Rn.aload_n (pc1 := 47)  dX6_letRead_46 rfl rfl rfl ?_
          refine Rn.aload_n (pc1 := 48)  dX6_letRead_47 rfl rfl rfl ?_
          refine Rn.getfield (pc1 := 51)  dX6_letRead_48 rfl fX6_37 (by first | assumption | exact mset_same | exact mget_ne (by omega) (by assumption)) rfl ?_
          refine Rn.iload_n (pc1 := 52)  dX6_letRead_51 rfl rfl rfl ?_
          refine Rn.cV_i (pc1 := 55) (eX3_readOn R fd1 hh hM1 (fun j hj => by obtain ⟨q, q1, q2⟩ := hk j hj; exact ⟨q, q1, (fd2 j hj).2.1.trans q2⟩) (by omega)) dX6_letRead_52 rfl qX6_133 oX3_readOn (by first | assumption | exact mset_same | exact mget_ne (by omega) (by assumption)) rfl rfl rfl rfl (Nat.le_of_ble_eq_true rfl) (by decide) (by decide) (fun v52 μ52 h52 => ?_)
          obtain ⟨k, c, k1, k2, rfl, k3, k4, R1, z1⟩ := h52
          refine Rn.ireturn dX6_letRead_55 rfl rfl ⟨_, rfl, Or.inr ⟨n, i, M, k, c, hi, rfl, rfl, hM2, hM1, k1, k2, rfl, fun j hj => ?_, fun hj => ?_, F.setR hi z1 R1 _ (fun k hk => ?_) ⟨?_, ?_, ?_, fun q hq => ?_, fun q hq => ?_⟩⟩⟩
          · have := k3 j hj; rw [(fd2 j (by omega)).1] at this; exact this
          · have := k4 hj; rw [(fd2 k hj).1] at this; exact this
          · unfold readF; rw [upd_ne (by omega), upd_ne (by omega), blk_out (by omega)]
          · unfold readF; rw [upd_ne (by omega), upd_at rfl]
            cases c with
            | zero => rfl
            | succ c => show g0 (k + c) + nI 1 = _; rw [(fd2 (k + c) (by omega)).1]; rfl
          · unfold readF; rw [upd_ne (by omega), upd_ne (by omega), blk_out (by omega)]
          · unfold readF; rw [upd_at rfl]
          · unfold readF; rw [upd_ne (by omega), upd_ne (by omega), blk_in rfl hq]
            exact vwN_congr (h := h) (fun j hj => (fd2 j hj).2.1) (fun j hj => (fd2 j hj).2.2.1) rv c k1 q hq
          · unfold readF; rw [upd_ne (by omega), upd_ne (by omega), blk_out (by omega)]; exact rw q hq
        · have n : mayReadF f rc (nI i) (nI M) = -5 := by rw [n0, if_pos (bI_n c40)]
          refine Rn.bipush (pc1 := 45) (v := (-5)) dX6_letRead_43 rfl (by decide) ?_
          exact Rn.ireturn dX6_letRead_45 rfl rfl ⟨_, rfl, Or.inl ⟨by rw [n]; decide, n.symm, rfl⟩⟩
      · have n : mayReadF f rc (nI i) m = -2 := by unfold mayReadF; rw [hr, inB_hi (i32_nle.mp c20)]; rfl
        refine Rn.bipush (pc1 := 25) (v := (-2)) dX6_letRead_23 rfl (by decide) ?_
        exact Rn.ireturn dX6_letRead_25 rfl rfl ⟨_, rfl, Or.inl ⟨by rw [n]; decide, n.symm, rfl⟩⟩
theorem eX6_addReader (F : SA μ a f h rc sc) : EvA G 4 kX6_addReader [.ref a] μ sz 0 0 (rI fun v μ' => (rc = 6 ∧ v = -4 ∧ μ' = μ) ∨ (rc < 6 ∧ v = nI rc ∧ SA μ' a (comeF f rc) h (rc + 1) sc ∧ Fr a (a + 52) μ μ')) := by
  have hO : μ a = _ := F.2.1
  have hrc := F.1.2.1
  refine EvA.of (L := [some (.ref a), none, none]) (by decide +kernel) (Nat.le_of_ble_eq_true rfl) rfl ?_
  refine Rn.aload_n (pc1 := 1)  dX6_addReader_0 rfl rfl rfl ?_
  refine Rn.getfield (pc1 := 4)  dX6_addReader_1 rfl fX6_21 (by first | assumption | exact mset_same | exact mget_ne (by omega) (by assumption)) rfl ?_
  refine Rn.bipush (pc1 := 6) (v := nI 6) dX6_addReader_4 rfl (by decide) ?_
  refine Rn.icmp_lt (pc1 := 9) 12 dX6_addReader_6 rfl (by decide) (fun c6 => ?_) (fun c6 => ?_)
  · have n : rc < 6 := by rw [nI_ltI (by omega) (by decide)] at c6; exact c6
    refine Rn.aload_n (pc1 := 13)  dX6_addReader_12 rfl rfl rfl ?_
    refine Rn.getfield (pc1 := 16)  dX6_addReader_13 rfl fX6_21 (by first | assumption | exact mset_same | exact mget_ne (by omega) (by assumption)) rfl ?_
    refine Rn.istore_n (pc1 := 17)  dX6_addReader_16 rfl rfl (by decide) rfl rfl ?_
    refine Rn.aload_n (pc1 := 18)  dX6_addReader_17 rfl rfl rfl ?_
    refine Rn.dup (pc1 := 19)  dX6_addReader_18 rfl rfl ?_
    refine Rn.getfield (pc1 := 22)  dX6_addReader_19 rfl fX6_21 (by first | assumption | exact mset_same | exact mget_ne (by omega) (by assumption)) rfl ?_
    refine Rn.iconst (pc1 := 23) (v := nI 1) dX6_addReader_22 rfl (by decide) ?_
    refine Rn.iadd (pc1 := 24)  dX6_addReader_23 rfl (nI_add rc 1) ?_
    refine Rn.putfield (pc1 := 27)  dX6_addReader_24 rfl pX6_21 (fun h => Bool.noConfusion h) (by first | assumption | exact mset_same | exact mget_ne (by omega) (by assumption)) (Nat.le_of_ble_eq_true rfl) rfl rfl rfl ?_
    have F1 : SAg _ a f h (rc + 1) sc rc sc := F.setO (c := obj 6 [.int (f 0), .int (f 1), .int (f 2), .int (nI (rc + 1)), .int (nI sc), .ref (a + 1), .ref (a + 3), .ref (a + 8), .ref (a + 9)]) f (rc + 1) sc (by omega) F.1.2.2 (fun j hj => rfl) rfl
    have z1 : Fr a (a + 1) μ (mset μ a (obj 6 [.int (f 0), .int (f 1), .int (f 2), .int (nI (rc + 1)), .int (nI sc), .ref (a + 1), .ref (a + 3), .ref (a + 8), .ref (a + 9)])) := Fr.set (by omega) (by omega)
    show Rn G 4 kX6_addReader 27 _ _ (mset μ a (obj 6 [.int (f 0), .int (f 1), .int (f 2), .int (nI (rc + 1)), .int (nI sc), .ref (a + 1), .ref (a + 3), .ref (a + 8), .ref (a + 9)])) _ _ _ _
    generalize (mset μ a (obj 6 [.int (f 0), .int (f 1), .int (f 2), .int (nI (rc + 1)), .int (nI sc), .ref (a + 1), .ref (a + 3), .ref (a + 8), .ref (a + 9)])) = μ1 at F1 z1 ⊢
    obtain ⟨w0, w1, w2, w3, w4, w5, w6⟩ := id F1
    obtain ⟨pl, cp, rs, vw, cv, R, -⟩ := w5 rc n
    have rO := R.1
    refine Rn.aload_n (pc1 := 28)  dX6_addReader_27 rfl rfl rfl ?_
    refine Rn.iload_n (pc1 := 29)  dX6_addReader_28 rfl rfl rfl ?_
    refine Rn.cV_r (pc1 := 32) (eX6_readerAt_y F1 rfl (show rc < rc + 1 by omega)) dX6_addReader_29 rfl qX6_62 oX6_readerAt (by first | assumption | exact mset_same | exact mget_ne (by omega) (by assumption)) rfl rfl rfl rfl (Nat.le_of_ble_eq_true rfl) (by decide) (by decide) (fun v29 μ29 h29 => ?_)
    obtain ⟨rfl, rfl⟩ := h29
    refine Rn.astore_n (pc1 := 33) (x := a + 10 + 5 * rc)  dX6_addReader_32 rfl rfl (by decide) rfl rfl ?_
    refine Rn.aload_n (pc1 := 34)  dX6_addReader_33 rfl rfl rfl ?_
    refine Rn.ifnull (pc1 := 37) dX6_addReader_34 rfl ?_
    refine Rn.aload_n (pc1 := 38)  dX6_addReader_37 rfl rfl rfl ?_
    refine Rn.cV_v (pc1 := 41) (eX3_startOver R) dX6_addReader_38 rfl qX6_120 oX3_startOver (by first | assumption | exact mset_same | exact mget_ne (by omega) (by assumption)) rfl rfl rfl rfl (Nat.le_of_ble_eq_true rfl) (by decide) (by decide) (fun μ38 h38 => ?_)
    obtain ⟨R1, z2⟩ := h38
    have rO1 := R1.1
    refine Rn.aload_n (pc1 := 42)  dX6_addReader_41 rfl rfl rfl ?_
    refine Rn.iconst (pc1 := 43) (v := nI 0) dX6_addReader_42 rfl (by decide) ?_
    refine Rn.putfield (pc1 := 46)  dX6_addReader_43 rfl pX6_123 (fun h => Bool.noConfusion h) (by assumption) (Nat.le_of_ble_eq_true rfl) rfl rfl rfl ?_
    have R2 := R1.setO (nI 0) (nI 0) (nI 0)
    have z3 := z2.set_ (q := a + 10 + 5 * rc) (c := obj 3 [.int (nI 0), .int (nI 0), .int (nI 0), .ref (a + 10 + 5 * rc + 1), .ref (a + 10 + 5 * rc + 3)]) (by omega) (by omega)
    have hq : ∀ j, j ≠ 7 → (j < 261 + 27 * rc ∨ 261 + 27 * rc + 27 ≤ j) → f j = comeF f rc j := fun j h1 h2 => by
      unfold comeF beginF
      rw [upd_ne (by omega), blk_out (by omega), blk_out (by omega), upd_ne (by omega), upd_ne (by omega), upd_ne (by omega)]
    refine Rn.iload_n (pc1 := 47)  dX6_addReader_46 rfl rfl rfl ?_
    refine Rn.ireturn dX6_addReader_47 rfl rfl ⟨_, rfl, Or.inr ⟨n, rfl, ⟨w0, (w1.fr z3 (by omega)).to ⟨hq _ (by omega) (by omega), hq _ (by omega) (by omega), hq _ (by omega) (by omega)⟩, w2.fr z3 (by omega), (w3.fr z3 (by omega)).to (fun j _ => hq _ (by omega) (by omega)), (w4.fr z3 (by omega)).to ⟨hq _ (by omega) (by omega), hq _ (by omega) (by omega), hq _ (by omega) (by omega)⟩ (fun j h1 _ => hq _ (by omega) (by omega)), fun k hk => ?_, fun n hn => ((w6 n hn).fr z3 (by omega)).to (fun z => z) (fun hl j h1 h2 => hq _ (by omega) (by omega))⟩, (z1.wide (by omega) (by omega)).trans (z3.wide (by omega) (by omega))⟩⟩
    by_cases e : k = rc
    · subst e
      refine ⟨_, _, _, _, _, R2, fun _ => ⟨?_, ?_, ?_, fun q hq => ?_, fun q hq => ?_⟩⟩
      · unfold comeF beginF; rw [upd_ne (by omega), blk_out (by omega), blk_out (by omega), upd_ne (by omega), upd_at rfl]
      · unfold comeF beginF; rw [upd_ne (by omega), blk_out (by omega), blk_out (by omega), upd_at rfl]
      · unfold comeF beginF; rw [upd_ne (by omega), blk_out (by omega), blk_out (by omega), upd_ne (by omega), upd_ne (by omega), upd_at rfl]
      · unfold comeF beginF; rw [upd_ne (by omega), blk_out (by omega), blk_in rfl hq]
      · unfold comeF beginF; rw [upd_ne (by omega), blk_in rfl hq]
    · exact ((w5 k hk).fr z3 (by omega)).to (fun z => by omega) (fun hl j h1 h2 => hq _ (by omega) (by omega))
  · have n : rc = 6 := by rw [nI_ltI (by omega) (by decide)] at c6; omega
    refine Rn.bipush (pc1 := 11) (v := (-4)) dX6_addReader_9 rfl (by decide) ?_
    exact Rn.ireturn dX6_addReader_11 rfl rfl ⟨_, rfl, Or.inl ⟨n, rfl, rfl⟩⟩
end OPS2
