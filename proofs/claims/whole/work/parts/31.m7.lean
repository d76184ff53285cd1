/-! ===== the reference: its questions ===== -/
theorem entryQ_w {f : Nat → Int32} {h e w : Nat} (hh : h ≤ 60) (he : e < h) (hw : w ≤ 5) : entryQ f h (nI e) (nI w) = entryW f h e w := by
  unfold entryQ
  rw [isRdB_of (by omega) he, if_pos rfl, show inB (nI w) (nI 0) (nI 5) = true by unfold inB; rw [Bool.and_eq_true, decide_eq_true_eq, decide_eq_true_eq]; exact ⟨nI_le (Nat.zero_le _) (by omega), nI_le hw (by omega)⟩, if_pos rfl, nI_clamp (by omega), nI_clamp (by omega)]
theorem inB_ofw {w n : Nat} (hw : w ≤ n) (hn : n < 1000) : inB (nI w) (nI 0) (nI n) = true := by unfold inB; rw [Bool.and_eq_true, decide_eq_true_eq, decide_eq_true_eq]; exact ⟨nI_le (Nat.zero_le _) (by omega), nI_le hw (by omega)⟩
theorem ofReaderQ_w {f : Nat → Int32} {h rc i w : Nat} (hrc : rc ≤ 6) (hi : i < rc) (hw : w ≤ 6) : ofReaderQ f h rc (nI i) (nI w) = ofRdW f h i w := by
  unfold ofReaderQ
  rw [isRdB_of (by omega) hi, if_pos rfl, inB_ofw hw (by omega), if_pos rfl, nI_clamp (by omega), nI_clamp (by omega)]
theorem ofSnapshotQ_w {f : Nat → Int32} {h sc n w : Nat} (hsc : sc ≤ 4) (hn : n < sc) (hw : w ≤ 2) : ofSnapshotQ f h sc (nI n) (nI w) = ofSnW f h n w := by
  unfold ofSnapshotQ
  rw [isRdB_of (by omega) hn, if_pos rfl, inB_ofw hw (by omega), if_pos rfl, nI_clamp (by omega), nI_clamp (by omega)]
theorem countQ_w {f : Nat → Int32} {len held w : Nat} (hw : w ≤ 12) : countQ f len held (nI w) = countW f len held w := by
  unfold countQ
  rw [inB_ofw hw (by omega), if_pos rfl, nI_clamp (by omega)]
section M7
variable {G : GG} {μ : Mm} {sz m kept padded at_ ordered h rc sc B : Nat} {f f2 p sl pd od : Nat → Int32} {u : Nat → Bool}
theorem eX9_table {k : Int32} (F : MR μ m f f2 p kept sl u pd padded at_ od ordered) : EvA G 2 kX9_table [.ref m, .int k] μ sz 0 0 (rI fun r μ' => r = tableQ f k ∧ μ' = μ) := by
  have hO := F.1
  have hA := F.2.1
  refine EvA.of (L := [some (.ref m), some (.int k)]) (by decide +kernel) (Nat.le_of_ble_eq_true rfl) rfl ?_
  refine Rn.iload_n (pc1 := 1)  dX9_table_0 rfl rfl rfl ?_
  refine Rn.cS_i (pc1 := 4) (eX9_isKey) dX9_table_1 rfl qX9_72 oX9_isKey rfl rfl (Nat.le_of_ble_eq_true rfl) (by decide) (by decide) (fun v1 μ1 h1 => ?_)
  obtain ⟨rfl, rfl⟩ := h1
  refine Rn.if_eq (pc1 := 7) 19 dX9_table_4 rfl (by decide) (fun c4 => ?_) (fun c4 => ?_)
  · rw [show tableQ f k = -1 from if_neg (by rw [bI_0 c4]; decide)]
    refine Rn.iconst (pc1 := 20) (v := (-1)) dX9_table_19 rfl (by decide) ?_
    exact Rn.ireturn dX9_table_20 rfl rfl ⟨_, rfl, rfl, rfl⟩
  · have e : tableQ f k = f (9 + k.toNatClampNeg) := if_pos (bI_n c4)
    obtain ⟨j, hj, rfl⟩ := inB_nI (by decide) (bI_n c4)
    rw [nI_clamp (by omega)] at e
    rw [e]
    refine Rn.aload_n (pc1 := 8)  dX9_table_7 rfl rfl rfl ?_
    refine Rn.getfield (pc1 := 11)  dX9_table_8 rfl fX9_7 (by first | assumption | exact mset_same | exact mget_ne (by omega) (by assumption)) rfl ?_
    refine Rn.bipush (pc1 := 13) (v := nI 9) dX9_table_11 rfl (by decide) ?_
    refine Rn.iload_n (pc1 := 14)  dX9_table_13 rfl rfl rfl ?_
    refine Rn.iadd (pc1 := 15)  dX9_table_14 rfl (nI_add 9 j) ?_
    refine Rn.iaload (pc1 := 16) (v := f (9 + j))  dX9_table_15 rfl (by first | assumption | exact mset_same | exact mget_ne (by omega) (by assumption)) (vp_nI (j := 9 + j) rfl (by omega) (by decide)) (by rw [nI_clamp (by omega)] <;> (first | rfl | assumption | (simp (disch := omega) only [upd_ne, upd_at, blk_out]; done) | (simp (disch := omega) only [upd_ne, upd_at, blk_out]; assumption))) ?_
    refine Rn.goto 20 dX9_table_16 (by decide) ?_
    exact Rn.ireturn dX9_table_20 rfl rfl ⟨_, rfl, rfl, rfl⟩
theorem eX9_view {r k : Int32} (F : MR μ m f f2 p kept sl u pd padded at_ od ordered) (I : IV f h rc sc B) : EvA G 2 kX9_view [.ref m, .int r, .int k] μ sz 0 0 (rI fun v μ' => v = viewQ f rc r k ∧ μ' = μ) := by
  have hO := F.1
  have hA := F.2.1
  have hrc := I.2.1.2.1
  refine EvA.of (L := [some (.ref m), some (.int r), some (.int k)]) (by decide +kernel) (Nat.le_of_ble_eq_true rfl) rfl ?_
  refine Rn.aload_n (pc1 := 1)  dX9_view_0 rfl rfl rfl ?_
  refine Rn.iload_n (pc1 := 2)  dX9_view_1 rfl rfl rfl ?_
  refine Rn.cV_i (pc1 := 5) (eX9_isReader F I) dX9_view_2 rfl qX9_105 oX9_isReader (by first | assumption | exact mset_same | exact mget_ne (by omega) (by assumption)) rfl rfl rfl rfl (Nat.le_of_ble_eq_true rfl) (by decide) (by decide) (fun v2 μ2 h2 => ?_)
  obtain ⟨rfl, rfl⟩ := h2
  refine Rn.if_eq (pc1 := 8) 31 dX9_view_5 rfl (by decide) (fun c5 => ?_) (fun c5 => ?_)
  · rw [show viewQ f rc r k = -1 from if_neg (fun z => by rw [bI_0 c5] at z; cases z.1)]
    refine Rn.iconst (pc1 := 32) (v := (-1)) dX9_view_31 rfl (by decide) ?_
    exact Rn.ireturn dX9_view_32 rfl rfl ⟨_, rfl, rfl, rfl⟩
  · refine Rn.iload_n (pc1 := 9)  dX9_view_8 rfl rfl rfl ?_
    refine Rn.cS_i (pc1 := 12) (eX9_isKey) dX9_view_9 rfl qX9_72 oX9_isKey rfl rfl (Nat.le_of_ble_eq_true rfl) (by decide) (by decide) (fun v9 μ9 h9 => ?_)
    obtain ⟨rfl, rfl⟩ := h9
    refine Rn.if_eq (pc1 := 15) 31 dX9_view_12 rfl (by decide) (fun c12 => ?_) (fun c12 => ?_)
    · rw [show viewQ f rc r k = -1 from if_neg (fun z => by rw [bI_0 c12] at z; cases z.2)]
      refine Rn.iconst (pc1 := 32) (v := (-1)) dX9_view_31 rfl (by decide) ?_
      exact Rn.ireturn dX9_view_32 rfl rfl ⟨_, rfl, rfl, rfl⟩
    · have e : viewQ f rc r k = f (261 + 27 * r.toNatClampNeg + 3 + k.toNatClampNeg) := if_pos ⟨bI_n c5, bI_n c12⟩
      obtain ⟨i, hi, rfl⟩ := isRdB_t (by omega) (bI_n c5)
      obtain ⟨j, hj, rfl⟩ := inB_nI (by decide) (bI_n c12)
      rw [nI_clamp (show i < 2 ^ 31 by omega), nI_clamp (show j < 2 ^ 31 by omega)] at e
      rw [e]
      refine Rn.aload_n (pc1 := 16)  dX9_view_15 rfl rfl rfl ?_
      refine Rn.getfield (pc1 := 19)  dX9_view_16 rfl fX9_7 (by first | assumption | exact mset_same | exact mget_ne (by omega) (by assumption)) rfl ?_
      refine Rn.iload_n (pc1 := 20)  dX9_view_19 rfl rfl rfl ?_
      refine Rn.cS_i (pc1 := 23) (eX9_row) dX9_view_20 rfl qX9_62 oX9_row rfl rfl (Nat.le_of_ble_eq_true rfl) (by decide) (by decide) (fun v20 μ20 h20 => ?_)
      obtain ⟨rfl, rfl⟩ := h20
      refine Rn.iconst (pc1 := 24) (v := nI 3) dX9_view_23 rfl (by decide) ?_
      refine Rn.iadd (pc1 := 25)  dX9_view_24 rfl (nI_add (261 + 27 * i) 3) ?_
      refine Rn.iload_n (pc1 := 26)  dX9_view_25 rfl rfl rfl ?_
      refine Rn.iadd (pc1 := 27)  dX9_view_26 rfl (nI_add (261 + 27 * i + 3) j) ?_
      refine Rn.iaload (pc1 := 28) (v := f (261 + 27 * i + 3 + j))  dX9_view_27 rfl (by first | assumption | exact mset_same | exact mget_ne (by omega) (by assumption)) (vp_nI (j := 261 + 27 * i + 3 + j) rfl (by omega) (by decide)) (by rw [nI_clamp (by omega)] <;> (first | rfl | assumption | (simp (disch := omega) only [upd_ne, upd_at, blk_out]; done) | (simp (disch := omega) only [upd_ne, upd_at, blk_out]; assumption))) ?_
      refine Rn.goto 32 dX9_view_28 (by decide) ?_
      exact Rn.ireturn dX9_view_32 rfl rfl ⟨_, rfl, rfl, rfl⟩
theorem eX9_entry {e w : Int32} (F : MR μ m f f2 p kept sl u pd padded at_ od ordered) (I : IV f h rc sc B) : EvA G 2 kX9_entry [.ref m, .int e, .int w] μ sz 0 0 (rI fun v μ' => v = entryQ f h e w ∧ μ' = μ) := by
  have hO := F.1
  have hA := F.2.1
  have hh := I.2.1.1
  refine EvA.of (L := [some (.ref m), some (.int e), some (.int w)]) (by decide +kernel) (Nat.le_of_ble_eq_true rfl) rfl ?_
  refine Rn.iload_n (pc1 := 1)  dX9_entry_0 rfl rfl rfl ?_
  refine Rn.iconst (pc1 := 2) (v := nI 0) dX9_entry_1 rfl (by decide) ?_
  refine Rn.aload_n (pc1 := 3)  dX9_entry_2 rfl rfl rfl ?_
  refine Rn.getfield (pc1 := 6)  dX9_entry_3 rfl fX9_7 (by first | assumption | exact mset_same | exact mget_ne (by omega) (by assumption)) rfl ?_
  refine Rn.bipush (pc1 := 8) (v := nI 6) dX9_entry_6 rfl (by decide) ?_
  refine Rn.iaload (pc1 := 9) (v := nI h)  dX9_entry_8 rfl (by assumption) (vp_nI (j := 6) rfl (by omega) (by decide)) I.1.1 ?_
  refine Rn.iconst (pc1 := 10) (v := nI 1) dX9_entry_9 rfl (by decide) ?_
  refine Rn.isub (pc1 := 11)  dX9_entry_10 rfl rfl ?_
  refine Rn.cS_i (pc1 := 14) (eX9_in) dX9_entry_11 rfl qX9_32 oX9_in rfl rfl (Nat.le_of_ble_eq_true rfl) (by decide) (by decide) (fun v11 μ11 h11 => ?_)
  obtain ⟨rfl, rfl⟩ := h11
  refine Rn.if_ne (pc1 := 17) 19 dX9_entry_14 rfl (by decide) (fun c14 => ?_) (fun c14 => ?_)
  · obtain ⟨q, hq, rfl⟩ := isRdB_t (rc := h) (by omega) (bI_n c14)
    refine Rn.iload_n (pc1 := 20)  dX9_entry_19 rfl rfl rfl ?_
    refine Rn.iconst (pc1 := 21) (v := nI 0) dX9_entry_20 rfl (by decide) ?_
    refine Rn.iconst (pc1 := 22) (v := nI 5) dX9_entry_21 rfl (by decide) ?_
    refine Rn.cS_i (pc1 := 25) (eX9_in) dX9_entry_22 rfl qX9_32 oX9_in rfl rfl (Nat.le_of_ble_eq_true rfl) (by decide) (by decide) (fun v22 μ22 h22 => ?_)
    obtain ⟨rfl, rfl⟩ := h22
    refine Rn.if_ne (pc1 := 28) 31 dX9_entry_25 rfl (by decide) (fun c25 => ?_) (fun c25 => ?_)
    · obtain ⟨w, hw, rfl⟩ := inB_nI (by decide) (bI_n c25)
      rw [entryQ_w hh hq hw]
      refine Rn.iload_n (pc1 := 32)  dX9_entry_31 rfl rfl rfl ?_
      refine Rn.iconst (pc1 := 33) (v := nI 4) dX9_entry_32 rfl (by decide) ?_
      refine Rn.icmp_ge (pc1 := 36) 46 dX9_entry_33 rfl (by decide) (fun c33 => ?_) (fun c33 => ?_)
      · have w4 : 4 ≤ w := (nI_leI (by omega) (by omega)).mp c33
        refine Rn.iload_n (pc1 := 47)  dX9_entry_46 rfl rfl rfl ?_
        refine Rn.iconst (pc1 := 48) (v := nI 4) dX9_entry_47 rfl (by decide) ?_
        refine Rn.icmp_ne (pc1 := 51) 65 dX9_entry_48 rfl (by decide) (fun c48 => ?_) (fun c48 => ?_)
        · have w5 : ¬ w = 4 := fun z => c48 (by rw [z])
          refine Rn.aload_n (pc1 := 66)  dX9_entry_65 rfl rfl rfl ?_
          refine Rn.getfield (pc1 := 69)  dX9_entry_66 rfl fX9_7 (by first | assumption | exact mset_same | exact mget_ne (by omega) (by assumption)) rfl ?_
          refine Rn.iload_n (pc1 := 70)  dX9_entry_69 rfl rfl rfl ?_
          refine Rn.cS_i (pc1 := 73) (eX9_isClosed hA (show q < 60 by omega) I.size) dX9_entry_70 rfl qX9_51 oX9_isClosed rfl rfl (Nat.le_of_ble_eq_true rfl) (by decide) (by decide) (fun v70 μ70 h70 => ?_)
          obtain ⟨rfl, rfl⟩ := h70
          rw [show entryW f h q w = bI (closB (e0 f q) (f 3) (f 0)) by unfold entryW; rw [if_neg (by omega), if_neg w5]]
          refine Rn.if_eq (pc1 := 76) 80 dX9_entry_73 rfl (by decide) (fun c73 => ?_) (fun c73 => ?_)
          · rw [c73]
            refine Rn.iconst (pc1 := 81) (v := nI 0) dX9_entry_80 rfl (by decide) ?_
            exact Rn.ireturn dX9_entry_81 rfl rfl ⟨_, rfl, rfl, rfl⟩
          · rw [bI_n c73]
            refine Rn.iconst (pc1 := 77) (v := nI 1) dX9_entry_76 rfl (by decide) ?_
            refine Rn.goto 81 dX9_entry_77 (by decide) ?_
            exact Rn.ireturn dX9_entry_81 rfl rfl ⟨_, rfl, rfl, rfl⟩
        · have w5 : w = 4 := (nI_eq (by omega) (by omega)).mp c48
          refine Rn.aload_n (pc1 := 52)  dX9_entry_51 rfl rfl rfl ?_
          refine Rn.getfield (pc1 := 55)  dX9_entry_52 rfl fX9_7 (by first | assumption | exact mset_same | exact mget_ne (by omega) (by assumption)) rfl ?_
          refine Rn.iload_n (pc1 := 56)  dX9_entry_55 rfl rfl rfl ?_
          refine Rn.cS_i (pc1 := 59) (eX9_isLast hA hh I.1.1 hq) dX9_entry_56 rfl qX9_55 oX9_isLast rfl rfl (Nat.le_of_ble_eq_true rfl) (by decide) (by decide) (fun v56 μ56 h56 => ?_)
          obtain ⟨rfl, rfl⟩ := h56
          rw [show entryW f h q w = bI (lastB (e1 f) q h) by unfold entryW; rw [if_neg (by omega), if_pos w5]]
          refine Rn.if_eq (pc1 := 62) 80 dX9_entry_59 rfl (by decide) (fun c59 => ?_) (fun c59 => ?_)
          · rw [c59]
            refine Rn.iconst (pc1 := 81) (v := nI 0) dX9_entry_80 rfl (by decide) ?_
            exact Rn.ireturn dX9_entry_81 rfl rfl ⟨_, rfl, rfl, rfl⟩
          · rw [bI_n c59]
            refine Rn.goto 76 dX9_entry_62 (by decide) ?_
            refine Rn.iconst (pc1 := 77) (v := nI 1) dX9_entry_76 rfl (by decide) ?_
            refine Rn.goto 81 dX9_entry_77 (by decide) ?_
            exact Rn.ireturn dX9_entry_81 rfl rfl ⟨_, rfl, rfl, rfl⟩
      · have w4 : w < 4 := by
          rcases Nat.lt_or_ge w 4 with z | z
          · exact z
          · exact absurd (nI_le z (by omega)) c33
        refine Rn.aload_n (pc1 := 37)  dX9_entry_36 rfl rfl rfl ?_
        refine Rn.getfield (pc1 := 40)  dX9_entry_37 rfl fX9_7 (by first | assumption | exact mset_same | exact mget_ne (by omega) (by assumption)) rfl ?_
        refine Rn.iload_n (pc1 := 41)  dX9_entry_40 rfl rfl rfl ?_
        refine Rn.iload_n (pc1 := 42)  dX9_entry_41 rfl rfl rfl ?_
        refine Rn.cS_i (pc1 := 45) (eX9_of hA (show 21 + 4 * q + w < 475 by omega)) dX9_entry_42 rfl qX9_47 oX9_of rfl rfl (Nat.le_of_ble_eq_true rfl) (by decide) (by decide) (fun v42 μ42 h42 => ?_)
        obtain ⟨rfl, rfl⟩ := h42
        rw [show entryW f h q w = f (21 + 4 * q + w) from if_pos w4]
        exact Rn.ireturn dX9_entry_45 rfl rfl ⟨_, rfl, rfl, rfl⟩
    · rw [show entryQ f h (nI q) w = -2 by unfold entryQ; rw [isRdB_of (by omega) hq, if_pos rfl, bI_0 c25]; rfl]
      refine Rn.bipush (pc1 := 30) (v := (-2)) dX9_entry_28 rfl (by decide) ?_
      exact Rn.ireturn dX9_entry_30 rfl rfl ⟨_, rfl, rfl, rfl⟩
  · rw [show entryQ f h e w = -1 from if_neg (by unfold isRdB; rw [bI_0 c14]; decide)]
    refine Rn.iconst (pc1 := 18) (v := (-1)) dX9_entry_17 rfl (by decide) ?_
    exact Rn.ireturn dX9_entry_18 rfl rfl ⟨_, rfl, rfl, rfl⟩
theorem eX9_unlike {b : Nat} (F : MR μ m f f2 p kept sl u pd padded at_ od ordered) (hb : b + 12 ≤ 475) : EvA G 0 kX9_unlike [.ref m, .int (nI b)] μ sz 0 0 (rI fun v μ' => v = difN (fun k => f (b + k)) (fun k => f (9 + k)) 12 ∧ μ' = μ) := by
  have hO := F.1
  have hA := F.2.1
  have loop : ∀ (n k : Nat), k + n = 12 → Rn G 0 kX9_unlike 4 [some (.ref m), some (.int (nI b)), some (.int (difN (fun k => f (b + k)) (fun k => f (9 + k)) k)), some (.int (nI k))] [] μ sz 0 0 (rI fun v μ' => v = difN (fun k => f (b + k)) (fun k => f (9 + k)) 12 ∧ μ' = μ) := by
    intro n
    induction n with
    | zero =>
      intro k hk
      obtain rfl : k = 12 := by omega
      refine Rn.iload_n (pc1 := 5)  dX9_unlike_4 rfl rfl rfl ?_
      refine Rn.bipush (pc1 := 7) (v := nI 12) dX9_unlike_5 rfl (by decide) ?_
      refine Rn.icmp_ge (pc1 := 10) 46 dX9_unlike_7 rfl (by decide) (fun c7 => ?_) (fun c7 => ?_)
      · refine Rn.iload_n (pc1 := 47)  dX9_unlike_46 rfl rfl rfl ?_
        exact Rn.ireturn dX9_unlike_47 rfl rfl ⟨_, rfl, rfl, rfl⟩
      · exact absurd (nI_le (Nat.le_refl _) (by decide)) c7
    | succ n ih =>
      intro k hk
      refine Rn.iload_n (pc1 := 5)  dX9_unlike_4 rfl rfl rfl ?_
      refine Rn.bipush (pc1 := 7) (v := nI 12) dX9_unlike_5 rfl (by decide) ?_
      refine Rn.icmp_ge (pc1 := 10) 46 dX9_unlike_7 rfl (by decide) (fun c7 => ?_) (fun c7 => ?_)
      · exact absurd c7 (nI_ge (by omega) (by decide))
      · refine Rn.iload_n (pc1 := 11)  dX9_unlike_10 rfl rfl rfl ?_
        refine Rn.aload_n (pc1 := 12)  dX9_unlike_11 rfl rfl rfl ?_
        refine Rn.getfield (pc1 := 15)  dX9_unlike_12 rfl fX9_7 (by first | assumption | exact mset_same | exact mget_ne (by omega) (by assumption)) rfl ?_
        refine Rn.iload_n (pc1 := 16)  dX9_unlike_15 rfl rfl rfl ?_
        refine Rn.iload_n (pc1 := 17)  dX9_unlike_16 rfl rfl rfl ?_
        refine Rn.iadd (pc1 := 18)  dX9_unlike_17 rfl (nI_add b k) ?_
        refine Rn.iaload (pc1 := 19) (v := f (b + k))  dX9_unlike_18 rfl (by first | assumption | exact mset_same | exact mget_ne (by omega) (by assumption)) (vp_nI (j := b + k) rfl (by omega) (by decide)) (by rw [nI_clamp (by omega)] <;> (first | rfl | assumption | (simp (disch := omega) only [upd_ne, upd_at, blk_out]; done) | (simp (disch := omega) only [upd_ne, upd_at, blk_out]; assumption))) ?_
        refine Rn.aload_n (pc1 := 20)  dX9_unlike_19 rfl rfl rfl ?_
        refine Rn.getfield (pc1 := 23)  dX9_unlike_20 rfl fX9_7 (by first | assumption | exact mset_same | exact mget_ne (by omega) (by assumption)) rfl ?_
        refine Rn.bipush (pc1 := 25) (v := nI 9) dX9_unlike_23 rfl (by decide) ?_
        refine Rn.iload_n (pc1 := 26)  dX9_unlike_25 rfl rfl rfl ?_
        refine Rn.iadd (pc1 := 27)  dX9_unlike_26 rfl (nI_add 9 k) ?_
        refine Rn.iaload (pc1 := 28) (v := f (9 + k))  dX9_unlike_27 rfl (by first | assumption | exact mset_same | exact mget_ne (by omega) (by assumption)) (vp_nI (j := 9 + k) rfl (by omega) (by decide)) (by rw [nI_clamp (by omega)] <;> (first | rfl | assumption | (simp (disch := omega) only [upd_ne, upd_at, blk_out]; done) | (simp (disch := omega) only [upd_ne, upd_at, blk_out]; assumption))) ?_
        refine Rn.icmp_ne (pc1 := 31) 35 dX9_unlike_28 rfl (by decide) (fun c28 => ?_) (fun c28 => ?_)
        · have e2 : difN (fun k => f (b + k)) (fun k => f (9 + k)) k ||| (nI 1 <<< (nI k &&& 31)) = difN (fun k => f (b + k)) (fun k => f (9 + k)) (k + 1) := (if_neg c28).symm
          refine Rn.iconst (pc1 := 36) (v := nI 1) dX9_unlike_35 rfl (by decide) ?_
          refine Rn.iload_n (pc1 := 37)  dX9_unlike_36 rfl rfl rfl ?_
          refine Rn.ishl (pc1 := 38)  dX9_unlike_37 rfl rfl ?_
          refine Rn.ior (pc1 := 39)  dX9_unlike_38 rfl e2 ?_
          refine Rn.istore_n (pc1 := 40)  dX9_unlike_39 rfl rfl (by decide) rfl rfl ?_
          refine Rn.iinc (pc1 := 43)  dX9_unlike_40 rfl rfl (nI_1 k) (by decide) rfl rfl ?_
          refine Rn.goto 4 dX9_unlike_43 (by decide) ?_
          exact ih (k + 1) (by omega)
        · have e2 : difN (fun k => f (b + k)) (fun k => f (9 + k)) k ||| nI 0 = difN (fun k => f (b + k)) (fun k => f (9 + k)) (k + 1) := by rw [show difN (fun k => f (b + k)) (fun k => f (9 + k)) (k + 1) = difN (fun k => f (b + k)) (fun k => f (9 + k)) k from if_pos c28]; exact Int32.or_zero
          refine Rn.iconst (pc1 := 32) (v := nI 0) dX9_unlike_31 rfl (by decide) ?_
          refine Rn.goto 38 dX9_unlike_32 (by decide) ?_
          refine Rn.ior (pc1 := 39)  dX9_unlike_38 rfl e2 ?_
          refine Rn.istore_n (pc1 := 40)  dX9_unlike_39 rfl rfl (by decide) rfl rfl ?_
          refine Rn.iinc (pc1 := 43)  dX9_unlike_40 rfl rfl (nI_1 k) (by decide) rfl rfl ?_
          refine Rn.goto 4 dX9_unlike_43 (by decide) ?_
          exact ih (k + 1) (by omega)
  refine EvA.of (L := [some (.ref m), some (.int (nI b)), none, none]) (by decide +kernel) (Nat.le_of_ble_eq_true rfl) rfl ?_
  refine Rn.iconst (pc1 := 1) (v := nI 0) dX9_unlike_0 rfl (by decide) ?_
  refine Rn.istore_n (pc1 := 2)  dX9_unlike_1 rfl rfl (by decide) rfl rfl ?_
  refine Rn.iconst (pc1 := 3) (v := nI 0) dX9_unlike_2 rfl (by decide) ?_
  refine Rn.istore_n (pc1 := 4)  dX9_unlike_3 rfl rfl (by decide) rfl rfl ?_
  exact loop 12 0 (by omega)
theorem eX9_valued {b : Nat} (F : MR μ m f f2 p kept sl u pd padded at_ od ordered) (hb : b + 12 ≤ 475) : EvA G 0 kX9_valued [.ref m, .int (nI b)] μ sz 0 0 (rI fun v μ' => v = nI (cntN (fun k => f (b + k)) 12) ∧ μ' = μ) := by
  have hO := F.1
  have hA := F.2.1
  have loop : ∀ (n k : Nat), k + n = 12 → Rn G 0 kX9_valued 4 [some (.ref m), some (.int (nI b)), some (.int (nI (cntN (fun k => f (b + k)) k))), some (.int (nI k))] [] μ sz 0 0 (rI fun v μ' => v = nI (cntN (fun k => f (b + k)) 12) ∧ μ' = μ) := by
    intro n
    induction n with
    | zero =>
      intro k hk
      obtain rfl : k = 12 := by omega
      refine Rn.iload_n (pc1 := 5)  dX9_valued_4 rfl rfl rfl ?_
      refine Rn.bipush (pc1 := 7) (v := nI 12) dX9_valued_5 rfl (by decide) ?_
      refine Rn.icmp_ge (pc1 := 10) 37 dX9_valued_7 rfl (by decide) (fun c7 => ?_) (fun c7 => ?_)
      · refine Rn.iload_n (pc1 := 38)  dX9_valued_37 rfl rfl rfl ?_
        exact Rn.ireturn dX9_valued_38 rfl rfl ⟨_, rfl, rfl, rfl⟩
      · exact absurd (nI_le (Nat.le_refl _) (by decide)) c7
    | succ n ih =>
      intro k hk
      refine Rn.iload_n (pc1 := 5)  dX9_valued_4 rfl rfl rfl ?_
      refine Rn.bipush (pc1 := 7) (v := nI 12) dX9_valued_5 rfl (by decide) ?_
      refine Rn.icmp_ge (pc1 := 10) 37 dX9_valued_7 rfl (by decide) (fun c7 => ?_) (fun c7 => ?_)
      · exact absurd c7 (nI_ge (by omega) (by decide))
      · refine Rn.iload_n (pc1 := 11)  dX9_valued_10 rfl rfl rfl ?_
        refine Rn.aload_n (pc1 := 12)  dX9_valued_11 rfl rfl rfl ?_
        refine Rn.getfield (pc1 := 15)  dX9_valued_12 rfl fX9_7 (by first | assumption | exact mset_same | exact mget_ne (by omega) (by assumption)) rfl ?_
        refine Rn.iload_n (pc1 := 16)  dX9_valued_15 rfl rfl rfl ?_
        refine Rn.iload_n (pc1 := 17)  dX9_valued_16 rfl rfl rfl ?_
        refine Rn.iadd (pc1 := 18)  dX9_valued_17 rfl (nI_add b k) ?_
        refine Rn.iaload (pc1 := 19) (v := f (b + k))  dX9_valued_18 rfl (by first | assumption | exact mset_same | exact mget_ne (by omega) (by assumption)) (vp_nI (j := b + k) rfl (by omega) (by decide)) (by rw [nI_clamp (by omega)] <;> (first | rfl | assumption | (simp (disch := omega) only [upd_ne, upd_at, blk_out]; done) | (simp (disch := omega) only [upd_ne, upd_at, blk_out]; assumption))) ?_
        refine Rn.bipush (pc1 := 21) (v := (-6)) dX9_valued_19 rfl (by decide) ?_
        refine Rn.icmp_ne (pc1 := 24) 28 dX9_valued_21 rfl (by decide) (fun c21 => ?_) (fun c21 => ?_)
        · have e2 : nI (cntN (fun k => f (b + k)) k) + nI 1 = nI (cntN (fun k => f (b + k)) (k + 1)) := by rw [nI_add]; show _ = nI (_ + _); rw [if_neg c21]
          refine Rn.iconst (pc1 := 29) (v := nI 1) dX9_valued_28 rfl (by decide) ?_
          refine Rn.iadd (pc1 := 30)  dX9_valued_29 rfl e2 ?_
          refine Rn.istore_n (pc1 := 31)  dX9_valued_30 rfl rfl (by decide) rfl rfl ?_
          refine Rn.iinc (pc1 := 34)  dX9_valued_31 rfl rfl (nI_1 k) (by decide) rfl rfl ?_
          refine Rn.goto 4 dX9_valued_34 (by decide) ?_
          exact ih (k + 1) (by omega)
        · have e2 : nI (cntN (fun k => f (b + k)) k) + nI 0 = nI (cntN (fun k => f (b + k)) (k + 1)) := by rw [nI_add]; show _ = nI (_ + _); rw [if_pos c21]
          refine Rn.iconst (pc1 := 25) (v := nI 0) dX9_valued_24 rfl (by decide) ?_
          refine Rn.goto 29 dX9_valued_25 (by decide) ?_
          refine Rn.iadd (pc1 := 30)  dX9_valued_29 rfl e2 ?_
          refine Rn.istore_n (pc1 := 31)  dX9_valued_30 rfl rfl (by decide) rfl rfl ?_
          refine Rn.iinc (pc1 := 34)  dX9_valued_31 rfl rfl (nI_1 k) (by decide) rfl rfl ?_
          refine Rn.goto 4 dX9_valued_34 (by decide) ?_
          exact ih (k + 1) (by omega)
  refine EvA.of (L := [some (.ref m), some (.int (nI b)), none, none]) (by decide +kernel) (Nat.le_of_ble_eq_true rfl) rfl ?_
  refine Rn.iconst (pc1 := 1) (v := nI 0) dX9_valued_0 rfl (by decide) ?_
  refine Rn.istore_n (pc1 := 2)  dX9_valued_1 rfl rfl (by decide) rfl rfl ?_
  refine Rn.iconst (pc1 := 3) (v := nI 0) dX9_valued_2 rfl (by decide) ?_
  refine Rn.istore_n (pc1 := 4)  dX9_valued_3 rfl rfl (by decide) rfl rfl ?_
  exact loop 12 0 (by omega)
theorem eX9_ofReader {r w : Int32} (F : MR μ m f f2 p kept sl u pd padded at_ od ordered) (I : IV f h rc sc B) : EvA G 2 kX9_ofReader [.ref m, .int r, .int w] μ sz 0 0 (rI fun v μ' => v = ofReaderQ f h rc r w ∧ μ' = μ) := by
  have hO := F.1
  have hA := F.2.1
  have hrc := I.2.1.2.1
  refine EvA.of (L := [some (.ref m), some (.int r), some (.int w), none]) (by decide +kernel) (Nat.le_of_ble_eq_true rfl) rfl ?_
  refine Rn.aload_n (pc1 := 1)  dX9_ofReader_0 rfl rfl rfl ?_
  refine Rn.iload_n (pc1 := 2)  dX9_ofReader_1 rfl rfl rfl ?_
  refine Rn.cV_i (pc1 := 5) (eX9_isReader F I) dX9_ofReader_2 rfl qX9_105 oX9_isReader (by first | assumption | exact mset_same | exact mget_ne (by omega) (by assumption)) rfl rfl rfl rfl (Nat.le_of_ble_eq_true rfl) (by decide) (by decide) (fun v2 μ2 h2 => ?_)
  obtain ⟨rfl, rfl⟩ := h2
  refine Rn.if_ne (pc1 := 8) 10 dX9_ofReader_5 rfl (by decide) (fun c5 => ?_) (fun c5 => ?_)
  · obtain ⟨i, hi, rfl⟩ := isRdB_t (by omega) (bI_n c5)
    refine Rn.iload_n (pc1 := 11)  dX9_ofReader_10 rfl rfl rfl ?_
    refine Rn.iconst (pc1 := 12) (v := nI 0) dX9_ofReader_11 rfl (by decide) ?_
    refine Rn.bipush (pc1 := 14) (v := nI 6) dX9_ofReader_12 rfl (by decide) ?_
    refine Rn.cS_i (pc1 := 17) (eX9_in) dX9_ofReader_14 rfl qX9_32 oX9_in rfl rfl (Nat.le_of_ble_eq_true rfl) (by decide) (by decide) (fun v14 μ14 h14 => ?_)
    obtain ⟨rfl, rfl⟩ := h14
    refine Rn.if_ne (pc1 := 20) 23 dX9_ofReader_17 rfl (by decide) (fun c17 => ?_) (fun c17 => ?_)
    · obtain ⟨w, hw, rfl⟩ := inB_nI (by decide) (bI_n c17)
      rw [ofReaderQ_w hrc hi hw]
      refine Rn.iload_n (pc1 := 24)  dX9_ofReader_23 rfl rfl rfl ?_
      refine Rn.cS_i (pc1 := 27) (eX9_row) dX9_ofReader_24 rfl qX9_62 oX9_row rfl rfl (Nat.le_of_ble_eq_true rfl) (by decide) (by decide) (fun v24 μ24 h24 => ?_)
      obtain ⟨rfl, rfl⟩ := h24
      refine Rn.istore_n (pc1 := 28)  dX9_ofReader_27 rfl rfl (by decide) rfl rfl ?_
      refine Rn.iload_n (pc1 := 29)  dX9_ofReader_28 rfl rfl rfl ?_
      refine Rn.iconst (pc1 := 30) (v := nI 2) dX9_ofReader_29 rfl (by decide) ?_
      refine Rn.icmp_ge (pc1 := 33) 42 dX9_ofReader_30 rfl (by decide) (fun c30 => ?_) (fun c30 => ?_)
      · have w2 : 2 ≤ w := (nI_leI (by omega) (by omega)).mp c30
        refine Rn.iload_n (pc1 := 43)  dX9_ofReader_42 rfl rfl rfl ?_
        refine Rn.iconst (pc1 := 44) (v := nI 5) dX9_ofReader_43 rfl (by decide) ?_
        refine Rn.icmp_ge (pc1 := 47) 98 dX9_ofReader_44 rfl (by decide) (fun c44 => ?_) (fun c44 => ?_)
        · have w5 : 5 ≤ w := (nI_leI (by omega) (by omega)).mp c44
          refine Rn.aload_n (pc1 := 99)  dX9_ofReader_98 rfl rfl rfl ?_
          refine Rn.iload_n (pc1 := 100)  dX9_ofReader_99 rfl rfl rfl ?_
          refine Rn.iload_n (pc1 := 101)  dX9_ofReader_100 rfl rfl rfl ?_
          refine Rn.iconst (pc1 := 102) (v := nI 5) dX9_ofReader_101 rfl (by decide) ?_
          refine Rn.icmp_ne (pc1 := 105) 109 dX9_ofReader_102 rfl (by decide) (fun c102 => ?_) (fun c102 => ?_)
          · have w6 : w = 6 := by
              rcases (show w = 5 ∨ w = 6 by omega) with z | z
              · exact absurd (by rw [z]) c102
              · exact z
            subst w6
            refine Rn.bipush (pc1 := 111) (v := nI 15) dX9_ofReader_109 rfl (by decide) ?_
            refine Rn.iadd (pc1 := 112)  dX9_ofReader_111 rfl (nI_add (261 + 27 * i) _) ?_
            refine Rn.cV_i (pc1 := 115) (eX9_unlike F (by omega)) dX9_ofReader_112 rfl qX9_130 oX9_unlike (by first | assumption | exact mset_same | exact mget_ne (by omega) (by assumption)) rfl rfl rfl rfl (Nat.le_of_ble_eq_true rfl) (by decide) (by decide) (fun v112 μ112 h112 => ?_)
            obtain ⟨rfl, rfl⟩ := h112
            exact Rn.ireturn dX9_ofReader_115 rfl rfl ⟨_, rfl, rfl, rfl⟩
          · have w6 : w = 5 := (nI_eq (by omega) (by omega)).mp c102
            subst w6
            refine Rn.iconst (pc1 := 106) (v := nI 3) dX9_ofReader_105 rfl (by decide) ?_
            refine Rn.goto 111 dX9_ofReader_106 (by decide) ?_
            refine Rn.iadd (pc1 := 112)  dX9_ofReader_111 rfl (nI_add (261 + 27 * i) _) ?_
            refine Rn.cV_i (pc1 := 115) (eX9_unlike F (by omega)) dX9_ofReader_112 rfl qX9_130 oX9_unlike (by first | assumption | exact mset_same | exact mget_ne (by omega) (by assumption)) rfl rfl rfl rfl (Nat.le_of_ble_eq_true rfl) (by decide) (by decide) (fun v112 μ112 h112 => ?_)
            obtain ⟨rfl, rfl⟩ := h112
            exact Rn.ireturn dX9_ofReader_115 rfl rfl ⟨_, rfl, rfl, rfl⟩
        · have w5 : w < 5 := by
            rcases Nat.lt_or_ge w 5 with z | z
            · exact z
            · exact absurd (nI_le z (by omega)) c44
          refine Rn.iload_n (pc1 := 48)  dX9_ofReader_47 rfl rfl rfl ?_
          refine Rn.iconst (pc1 := 49) (v := nI 2) dX9_ofReader_48 rfl (by decide) ?_
          refine Rn.icmp_ne (pc1 := 52) 65 dX9_ofReader_49 rfl (by decide) (fun c49 => ?_) (fun c49 => ?_)
          · have w3 : ¬ w = 2 := fun z => c49 (by rw [z])
            refine Rn.iload_n (pc1 := 66)  dX9_ofReader_65 rfl rfl rfl ?_
            refine Rn.iconst (pc1 := 67) (v := nI 3) dX9_ofReader_66 rfl (by decide) ?_
            refine Rn.icmp_ne (pc1 := 70) 89 dX9_ofReader_67 rfl (by decide) (fun c67 => ?_) (fun c67 => ?_)
            · have w4 : w = 4 := by
                rcases (show w = 3 ∨ w = 4 by omega) with z | z
                · exact absurd (by rw [z]) c67
                · exact z
              subst w4
              refine Rn.aload_n (pc1 := 90)  dX9_ofReader_89 rfl rfl rfl ?_
              refine Rn.getfield (pc1 := 93)  dX9_ofReader_90 rfl fX9_7 (by first | assumption | exact mset_same | exact mget_ne (by omega) (by assumption)) rfl ?_
              refine Rn.iload_n (pc1 := 94)  dX9_ofReader_93 rfl rfl rfl ?_
              refine Rn.iconst (pc1 := 95) (v := nI 2) dX9_ofReader_94 rfl (by decide) ?_
              refine Rn.iadd (pc1 := 96)  dX9_ofReader_95 rfl (nI_add (261 + 27 * i) 2) ?_
              refine Rn.iaload (pc1 := 97) (v := f (261 + 27 * i + 2))  dX9_ofReader_96 rfl (by first | assumption | exact mset_same | exact mget_ne (by omega) (by assumption)) (vp_nI (j := 261 + 27 * i + 2) rfl (by omega) (by decide)) (by rw [nI_clamp (by omega)] <;> (first | rfl | assumption | (simp (disch := omega) only [upd_ne, upd_at, blk_out]; done) | (simp (disch := omega) only [upd_ne, upd_at, blk_out]; assumption))) ?_
              exact Rn.ireturn dX9_ofReader_97 rfl rfl ⟨_, rfl, rfl, rfl⟩
            · have w4 : w = 3 := (nI_eq (by omega) (by omega)).mp c67
              subst w4
              refine Rn.aload_n (pc1 := 71)  dX9_ofReader_70 rfl rfl rfl ?_
              refine Rn.getfield (pc1 := 74)  dX9_ofReader_71 rfl fX9_7 (by first | assumption | exact mset_same | exact mget_ne (by omega) (by assumption)) rfl ?_
              refine Rn.iload_n (pc1 := 75)  dX9_ofReader_74 rfl rfl rfl ?_
              refine Rn.cS_i (pc1 := 78) (eX9_isLate hA (show i < 6 by omega)) dX9_ofReader_75 rfl qX9_69 oX9_isLate rfl rfl (Nat.le_of_ble_eq_true rfl) (by decide) (by decide) (fun v75 μ75 h75 => ?_)
              obtain ⟨rfl, rfl⟩ := h75
              rw [show ofRdW f h i 3 = bI (lateB (f (261 + 27 * i)) (f 4)) from rfl]
              refine Rn.if_eq (pc1 := 81) 85 dX9_ofReader_78 rfl (by decide) (fun c78 => ?_) (fun c78 => ?_)
              · rw [c78]
                refine Rn.iconst (pc1 := 86) (v := nI 0) dX9_ofReader_85 rfl (by decide) ?_
                refine Rn.goto 97 dX9_ofReader_86 (by decide) ?_
                exact Rn.ireturn dX9_ofReader_97 rfl rfl ⟨_, rfl, rfl, rfl⟩
              · rw [bI_n c78]
                refine Rn.iconst (pc1 := 82) (v := nI 1) dX9_ofReader_81 rfl (by decide) ?_
                refine Rn.goto 97 dX9_ofReader_82 (by decide) ?_
                exact Rn.ireturn dX9_ofReader_97 rfl rfl ⟨_, rfl, rfl, rfl⟩
          · have w3 : w = 2 := (nI_eq (by omega) (by omega)).mp c49
            subst w3
            refine Rn.aload_n (pc1 := 53)  dX9_ofReader_52 rfl rfl rfl ?_
            refine Rn.aload_n (pc1 := 54)  dX9_ofReader_53 rfl rfl rfl ?_
            refine Rn.getfield (pc1 := 57)  dX9_ofReader_54 rfl fX9_7 (by first | assumption | exact mset_same | exact mget_ne (by omega) (by assumption)) rfl ?_
            refine Rn.iload_n (pc1 := 58)  dX9_ofReader_57 rfl rfl rfl ?_
            refine Rn.iaload (pc1 := 59) (v := f (261 + 27 * i))  dX9_ofReader_58 rfl (by first | assumption | exact mset_same | exact mget_ne (by omega) (by assumption)) (vp_nI (j := 261 + 27 * i) rfl (by omega) (by decide)) (by rw [nI_clamp (by omega)] <;> (first | rfl | assumption | (simp (disch := omega) only [upd_ne, upd_at, blk_out]; done) | (simp (disch := omega) only [upd_ne, upd_at, blk_out]; assumption))) ?_
            refine Rn.cV_i (pc1 := 62) (eX9_ahead F I) dX9_ofReader_59 rfl qX9_127 oX9_ahead (by first | assumption | exact mset_same | exact mget_ne (by omega) (by assumption)) rfl rfl rfl rfl (Nat.le_of_ble_eq_true rfl) (by decide) (by decide) (fun v59 μ59 h59 => ?_)
            obtain ⟨rfl, rfl⟩ := h59
            refine Rn.goto 97 dX9_ofReader_62 (by decide) ?_
            exact Rn.ireturn dX9_ofReader_97 rfl rfl ⟨_, rfl, rfl, rfl⟩
      · have w2 : w < 2 := by
          rcases Nat.lt_or_ge w 2 with z | z
          · exact z
          · exact absurd (nI_le z (by omega)) c30
        refine Rn.aload_n (pc1 := 34)  dX9_ofReader_33 rfl rfl rfl ?_
        refine Rn.getfield (pc1 := 37)  dX9_ofReader_34 rfl fX9_7 (by first | assumption | exact mset_same | exact mget_ne (by omega) (by assumption)) rfl ?_
        refine Rn.iload_n (pc1 := 38)  dX9_ofReader_37 rfl rfl rfl ?_
        refine Rn.iload_n (pc1 := 39)  dX9_ofReader_38 rfl rfl rfl ?_
        refine Rn.iadd (pc1 := 40)  dX9_ofReader_39 rfl (nI_add (261 + 27 * i) w) ?_
        refine Rn.iaload (pc1 := 41) (v := f (261 + 27 * i + w))  dX9_ofReader_40 rfl (by first | assumption | exact mset_same | exact mget_ne (by omega) (by assumption)) (vp_nI (j := 261 + 27 * i + w) rfl (by omega) (by decide)) (by rw [nI_clamp (by omega)] <;> (first | rfl | assumption | (simp (disch := omega) only [upd_ne, upd_at, blk_out]; done) | (simp (disch := omega) only [upd_ne, upd_at, blk_out]; assumption))) ?_
        exact Rn.ireturn dX9_ofReader_41 rfl rfl ⟨_, rfl, (by rcases (show w = 0 ∨ w = 1 by omega) with z | z <;> subst z <;> rfl), rfl⟩
    · rw [show ofReaderQ f h rc (nI i) w = -2 by unfold ofReaderQ; rw [isRdB_of (by omega) hi, if_pos rfl, bI_0 c17]; rfl]
      refine Rn.bipush (pc1 := 22) (v := (-2)) dX9_ofReader_20 rfl (by decide) ?_
      exact Rn.ireturn dX9_ofReader_22 rfl rfl ⟨_, rfl, rfl, rfl⟩
  · rw [show ofReaderQ f h rc r w = -1 from if_neg (by rw [bI_0 c5]; decide)]
    refine Rn.iconst (pc1 := 9) (v := (-1)) dX9_ofReader_8 rfl (by decide) ?_
    exact Rn.ireturn dX9_ofReader_9 rfl rfl ⟨_, rfl, rfl, rfl⟩
theorem eX9_ofSnapshot {r w : Int32} (F : MR μ m f f2 p kept sl u pd padded at_ od ordered) (I : IV f h rc sc B) : EvA G 2 kX9_ofSnapshot [.ref m, .int r, .int w] μ sz 0 0 (rI fun v μ' => v = ofSnapshotQ f h sc r w ∧ μ' = μ) := by
  have hO := F.1
  have hA := F.2.1
  have hsc := I.2.1.2.2
  refine EvA.of (L := [some (.ref m), some (.int r), some (.int w), none]) (by decide +kernel) (Nat.le_of_ble_eq_true rfl) rfl ?_
  refine Rn.aload_n (pc1 := 1)  dX9_ofSnapshot_0 rfl rfl rfl ?_
  refine Rn.iload_n (pc1 := 2)  dX9_ofSnapshot_1 rfl rfl rfl ?_
  refine Rn.cV_i (pc1 := 5) (eX9_isShot F I) dX9_ofSnapshot_2 rfl qX9_118 oX9_isShot (by first | assumption | exact mset_same | exact mget_ne (by omega) (by assumption)) rfl rfl rfl rfl (Nat.le_of_ble_eq_true rfl) (by decide) (by decide) (fun v2 μ2 h2 => ?_)
  obtain ⟨rfl, rfl⟩ := h2
  refine Rn.if_ne (pc1 := 8) 10 dX9_ofSnapshot_5 rfl (by decide) (fun c5 => ?_) (fun c5 => ?_)
  · obtain ⟨n, hn, rfl⟩ := isRdB_t (by omega) (bI_n c5)
    refine Rn.iload_n (pc1 := 11)  dX9_ofSnapshot_10 rfl rfl rfl ?_
    refine Rn.iconst (pc1 := 12) (v := nI 0) dX9_ofSnapshot_11 rfl (by decide) ?_
    refine Rn.iconst (pc1 := 13) (v := nI 2) dX9_ofSnapshot_12 rfl (by decide) ?_
    refine Rn.cS_i (pc1 := 16) (eX9_in) dX9_ofSnapshot_13 rfl qX9_32 oX9_in rfl rfl (Nat.le_of_ble_eq_true rfl) (by decide) (by decide) (fun v13 μ13 h13 => ?_)
    obtain ⟨rfl, rfl⟩ := h13
    refine Rn.if_ne (pc1 := 19) 22 dX9_ofSnapshot_16 rfl (by decide) (fun c16 => ?_) (fun c16 => ?_)
    · obtain ⟨w, hw, rfl⟩ := inB_nI (by decide) (bI_n c16)
      rw [ofSnapshotQ_w hsc hn hw]
      refine Rn.sipush (pc1 := 25) (v := nI 423) dX9_ofSnapshot_22 rfl (by decide) ?_
      refine Rn.bipush (pc1 := 27) (v := nI 13) dX9_ofSnapshot_25 rfl (by decide) ?_
      refine Rn.iload_n (pc1 := 28)  dX9_ofSnapshot_27 rfl rfl rfl ?_
      refine Rn.imul (pc1 := 29)  dX9_ofSnapshot_28 rfl (nI_mul 13 n) ?_
      refine Rn.iadd (pc1 := 30)  dX9_ofSnapshot_29 rfl (nI_add 423 (13 * n)) ?_
      refine Rn.istore_n (pc1 := 31)  dX9_ofSnapshot_30 rfl rfl (by decide) rfl rfl ?_
      refine Rn.iload_n (pc1 := 32)  dX9_ofSnapshot_31 rfl rfl rfl ?_
      refine Rn.if_ne (pc1 := 35) 44 dX9_ofSnapshot_32 rfl (by decide) (fun c32 => ?_) (fun c32 => ?_)
      · have w0 : ¬ w = 0 := fun z => c32 (by rw [z])
        refine Rn.iload_n (pc1 := 45)  dX9_ofSnapshot_44 rfl rfl rfl ?_
        refine Rn.iconst (pc1 := 46) (v := nI 1) dX9_ofSnapshot_45 rfl (by decide) ?_
        refine Rn.icmp_ne (pc1 := 49) 59 dX9_ofSnapshot_46 rfl (by decide) (fun c46 => ?_) (fun c46 => ?_)
        · have w1 : w = 2 := by
            rcases (show w = 1 ∨ w = 2 by omega) with z | z
            · exact absurd (by rw [z]) c46
            · exact z
          subst w1
          refine Rn.aload_n (pc1 := 60)  dX9_ofSnapshot_59 rfl rfl rfl ?_
          refine Rn.aload_n (pc1 := 61)  dX9_ofSnapshot_60 rfl rfl rfl ?_
          refine Rn.getfield (pc1 := 64)  dX9_ofSnapshot_61 rfl fX9_7 (by first | assumption | exact mset_same | exact mget_ne (by omega) (by assumption)) rfl ?_
          refine Rn.iload_n (pc1 := 65)  dX9_ofSnapshot_64 rfl rfl rfl ?_
          refine Rn.iaload (pc1 := 66) (v := f (423 + 13 * n))  dX9_ofSnapshot_65 rfl (by first | assumption | exact mset_same | exact mget_ne (by omega) (by assumption)) (vp_nI (j := 423 + 13 * n) rfl (by omega) (by decide)) (by rw [nI_clamp (by omega)] <;> (first | rfl | assumption | (simp (disch := omega) only [upd_ne, upd_at, blk_out]; done) | (simp (disch := omega) only [upd_ne, upd_at, blk_out]; assumption))) ?_
          refine Rn.cV_i (pc1 := 69) (eX9_ahead F I) dX9_ofSnapshot_66 rfl qX9_127 oX9_ahead (by first | assumption | exact mset_same | exact mget_ne (by omega) (by assumption)) rfl rfl rfl rfl (Nat.le_of_ble_eq_true rfl) (by decide) (by decide) (fun v66 μ66 h66 => ?_)
          obtain ⟨rfl, rfl⟩ := h66
          exact Rn.ireturn dX9_ofSnapshot_69 rfl rfl ⟨_, rfl, rfl, rfl⟩
        · have w1 : w = 1 := (nI_eq (by omega) (by omega)).mp c46
          subst w1
          refine Rn.aload_n (pc1 := 50)  dX9_ofSnapshot_49 rfl rfl rfl ?_
          refine Rn.iload_n (pc1 := 51)  dX9_ofSnapshot_50 rfl rfl rfl ?_
          refine Rn.iconst (pc1 := 52) (v := nI 1) dX9_ofSnapshot_51 rfl (by decide) ?_
          refine Rn.iadd (pc1 := 53)  dX9_ofSnapshot_52 rfl (nI_add (423 + 13 * n) 1) ?_
          refine Rn.cV_i (pc1 := 56) (eX9_valued F (by omega)) dX9_ofSnapshot_53 rfl qX9_133 oX9_valued (by first | assumption | exact mset_same | exact mget_ne (by omega) (by assumption)) rfl rfl rfl rfl (Nat.le_of_ble_eq_true rfl) (by decide) (by decide) (fun v53 μ53 h53 => ?_)
          obtain ⟨rfl, rfl⟩ := h53
          refine Rn.goto 69 dX9_ofSnapshot_56 (by decide) ?_
          exact Rn.ireturn dX9_ofSnapshot_69 rfl rfl ⟨_, rfl, rfl, rfl⟩
      · have w0 : w = 0 := (nI_eq (by omega) (by omega)).mp c32
        subst w0
        refine Rn.aload_n (pc1 := 36)  dX9_ofSnapshot_35 rfl rfl rfl ?_
        refine Rn.getfield (pc1 := 39)  dX9_ofSnapshot_36 rfl fX9_7 (by first | assumption | exact mset_same | exact mget_ne (by omega) (by assumption)) rfl ?_
        refine Rn.iload_n (pc1 := 40)  dX9_ofSnapshot_39 rfl rfl rfl ?_
        refine Rn.iaload (pc1 := 41) (v := f (423 + 13 * n))  dX9_ofSnapshot_40 rfl (by first | assumption | exact mset_same | exact mget_ne (by omega) (by assumption)) (vp_nI (j := 423 + 13 * n) rfl (by omega) (by decide)) (by rw [nI_clamp (by omega)] <;> (first | rfl | assumption | (simp (disch := omega) only [upd_ne, upd_at, blk_out]; done) | (simp (disch := omega) only [upd_ne, upd_at, blk_out]; assumption))) ?_
        refine Rn.goto 69 dX9_ofSnapshot_41 (by decide) ?_
        exact Rn.ireturn dX9_ofSnapshot_69 rfl rfl ⟨_, rfl, rfl, rfl⟩
    · rw [show ofSnapshotQ f h sc (nI n) w = -2 by unfold ofSnapshotQ; rw [isRdB_of (by omega) hn, if_pos rfl, bI_0 c16]; rfl]
      refine Rn.bipush (pc1 := 21) (v := (-2)) dX9_ofSnapshot_19 rfl (by decide) ?_
      exact Rn.ireturn dX9_ofSnapshot_21 rfl rfl ⟨_, rfl, rfl, rfl⟩
  · rw [show ofSnapshotQ f h sc r w = -1 from if_neg (by rw [bI_0 c5]; decide)]
    refine Rn.iconst (pc1 := 9) (v := (-1)) dX9_ofSnapshot_8 rfl (by decide) ?_
    exact Rn.ireturn dX9_ofSnapshot_9 rfl rfl ⟨_, rfl, rfl, rfl⟩
theorem eX9_count {w : Int32} (F : MR μ m f f2 p kept sl u pd padded at_ od ordered) (I : IV f h rc sc B) : EvA G 3 kX9_count [.ref m, .int w] μ sz 0 0 (rI fun v μ' => v = countQ f padded kept w ∧ μ' = μ) := by
  have hO := F.1
  have hA := F.2.1
  refine EvA.of (L := [some (.ref m), some (.int w)]) (by decide +kernel) (Nat.le_of_ble_eq_true rfl) rfl ?_
  refine Rn.iload_n (pc1 := 1)  dX9_count_0 rfl rfl rfl ?_
  refine Rn.iconst (pc1 := 2) (v := nI 0) dX9_count_1 rfl (by decide) ?_
  refine Rn.bipush (pc1 := 4) (v := nI 12) dX9_count_2 rfl (by decide) ?_
  refine Rn.cS_i (pc1 := 7) (eX9_in) dX9_count_4 rfl qX9_32 oX9_in rfl rfl (Nat.le_of_ble_eq_true rfl) (by decide) (by decide) (fun v4 μ4 h4 => ?_)
  obtain ⟨rfl, rfl⟩ := h4
  refine Rn.if_ne (pc1 := 10) 13 dX9_count_7 rfl (by decide) (fun c7 => ?_) (fun c7 => ?_)
  · obtain ⟨w, hw, rfl⟩ := inB_nI (by decide) (bI_n c7)
    rw [countQ_w hw]
    refine Rn.iload_n (pc1 := 14)  dX9_count_13 rfl rfl rfl ?_
    refine Rn.iconst (pc1 := 15) (v := nI 4) dX9_count_14 rfl (by decide) ?_
    refine Rn.icmp_ge (pc1 := 18) 67 dX9_count_15 rfl (by decide) (fun c15 => ?_) (fun c15 => ?_)
    · have w4 : 4 ≤ w := (nI_leI (by omega) (by omega)).mp c15
      refine Rn.iload_n (pc1 := 68)  dX9_count_67 rfl rfl rfl ?_
      refine Rn.bipush (pc1 := 70) (v := nI 9) dX9_count_68 rfl (by decide) ?_
      refine Rn.icmp_ge (pc1 := 73) 141 dX9_count_70 rfl (by decide) (fun c70 => ?_) (fun c70 => ?_)
      · have w9 : 9 ≤ w := (nI_leI (by omega) (by omega)).mp c70
        refine Rn.iload_n (pc1 := 142)  dX9_count_141 rfl rfl rfl ?_
        refine Rn.bipush (pc1 := 144) (v := nI 11) dX9_count_142 rfl (by decide) ?_
        refine Rn.icmp_ge (pc1 := 147) 159 dX9_count_144 rfl (by decide) (fun c144 => ?_) (fun c144 => ?_)
        · have w11 : 11 ≤ w := (nI_leI (by omega) (by omega)).mp c144
          refine Rn.iload_n (pc1 := 160)  dX9_count_159 rfl rfl rfl ?_
          refine Rn.bipush (pc1 := 162) (v := nI 11) dX9_count_160 rfl (by decide) ?_
          refine Rn.icmp_ne (pc1 := 165) 172 dX9_count_162 rfl (by decide) (fun c162 => ?_) (fun c162 => ?_)
          · have w12 : w = 12 := by
              rcases (show w = 11 ∨ w = 12 by omega) with z | z
              · exact absurd (by rw [z]) c162
              · exact z
            subst w12
            refine Rn.aload_n (pc1 := 173)  dX9_count_172 rfl rfl rfl ?_
            refine Rn.getfield (pc1 := 176)  dX9_count_173 rfl fX9_36 (by first | assumption | exact mset_same | exact mget_ne (by omega) (by assumption)) rfl ?_
            exact Rn.ireturn dX9_count_176 rfl rfl ⟨_, rfl, rfl, rfl⟩
          · have w12 : w = 11 := (nI_eq (by omega) (by omega)).mp c162
            subst w12
            refine Rn.aload_n (pc1 := 166)  dX9_count_165 rfl rfl rfl ?_
            refine Rn.getfield (pc1 := 169)  dX9_count_166 rfl fX9_139 (by first | assumption | exact mset_same | exact mget_ne (by omega) (by assumption)) rfl ?_
            refine Rn.goto 176 dX9_count_169 (by decide) ?_
            exact Rn.ireturn dX9_count_176 rfl rfl ⟨_, rfl, rfl, rfl⟩
        · have w11 : w < 11 := by
            rcases Nat.lt_or_ge w 11 with z | z
            · exact z
            · exact absurd (nI_le z (by omega)) c144
          rw [show countW f padded kept w = f (w - 9) by rcases (show w = 9 ∨ w = 10 by omega) with z | z <;> subst z <;> rfl]
          refine Rn.aload_n (pc1 := 148)  dX9_count_147 rfl rfl rfl ?_
          refine Rn.getfield (pc1 := 151)  dX9_count_148 rfl fX9_7 (by first | assumption | exact mset_same | exact mget_ne (by omega) (by assumption)) rfl ?_
          refine Rn.iload_n (pc1 := 152)  dX9_count_151 rfl rfl rfl ?_
          refine Rn.bipush (pc1 := 154) (v := nI 9) dX9_count_152 rfl (by decide) ?_
          refine Rn.isub (pc1 := 155)  dX9_count_154 rfl (nI_sub (show 9 ≤ w by omega)) ?_
          refine Rn.iaload (pc1 := 156) (v := f (w - 9))  dX9_count_155 rfl (by first | assumption | exact mset_same | exact mget_ne (by omega) (by assumption)) (vp_nI (j := w - 9) rfl (by omega) (by decide)) (by rw [nI_clamp (by omega)] <;> (first | rfl | assumption | (simp (disch := omega) only [upd_ne, upd_at, blk_out]; done) | (simp (disch := omega) only [upd_ne, upd_at, blk_out]; assumption))) ?_
          refine Rn.goto 176 dX9_count_156 (by decide) ?_
          exact Rn.ireturn dX9_count_176 rfl rfl ⟨_, rfl, rfl, rfl⟩
      · have w9 : w < 9 := by
          rcases Nat.lt_or_ge w 9 with z | z
          · exact z
          · exact absurd (nI_le z (by omega)) c70
        refine Rn.iload_n (pc1 := 74)  dX9_count_73 rfl rfl rfl ?_
        refine Rn.iconst (pc1 := 75) (v := nI 4) dX9_count_74 rfl (by decide) ?_
        refine Rn.icmp_ne (pc1 := 78) 87 dX9_count_75 rfl (by decide) (fun c75 => ?_) (fun c75 => ?_)
        · have w5 : ¬ w = 4 := fun z => c75 (by rw [z])
          refine Rn.iload_n (pc1 := 88)  dX9_count_87 rfl rfl rfl ?_
          refine Rn.iconst (pc1 := 89) (v := nI 5) dX9_count_88 rfl (by decide) ?_
          refine Rn.icmp_ne (pc1 := 92) 101 dX9_count_89 rfl (by decide) (fun c89 => ?_) (fun c89 => ?_)
          · have w6 : ¬ w = 5 := fun z => c89 (by rw [z])
            refine Rn.iload_n (pc1 := 102)  dX9_count_101 rfl rfl rfl ?_
            refine Rn.bipush (pc1 := 104) (v := nI 6) dX9_count_102 rfl (by decide) ?_
            refine Rn.icmp_ne (pc1 := 107) 117 dX9_count_104 rfl (by decide) (fun c104 => ?_) (fun c104 => ?_)
            · have w7 : ¬ w = 6 := fun z => c104 (by rw [z])
              refine Rn.iload_n (pc1 := 118)  dX9_count_117 rfl rfl rfl ?_
              refine Rn.bipush (pc1 := 120) (v := nI 7) dX9_count_118 rfl (by decide) ?_
              refine Rn.icmp_ne (pc1 := 123) 133 dX9_count_120 rfl (by decide) (fun c120 => ?_) (fun c120 => ?_)
              · have w8 : w = 8 := by
                  rcases (show w = 7 ∨ w = 8 by omega) with z | z
                  · exact absurd (by rw [z]) c120
                  · exact z
                subst w8
                refine Rn.aload_n (pc1 := 134)  dX9_count_133 rfl rfl rfl ?_
                refine Rn.getfield (pc1 := 137)  dX9_count_134 rfl fX9_7 (by first | assumption | exact mset_same | exact mget_ne (by omega) (by assumption)) rfl ?_
                refine Rn.bipush (pc1 := 139) (v := nI 8) dX9_count_137 rfl (by decide) ?_
                refine Rn.iaload (pc1 := 140) (v := f 8)  dX9_count_139 rfl (by first | assumption | exact mset_same | exact mget_ne (by omega) (by assumption)) (vp_nI (j := 8) rfl (by omega) (by decide)) (by rw [nI_clamp (by omega)] <;> (first | rfl | assumption | (simp (disch := omega) only [upd_ne, upd_at, blk_out]; done) | (simp (disch := omega) only [upd_ne, upd_at, blk_out]; assumption))) ?_
                exact Rn.ireturn dX9_count_140 rfl rfl ⟨_, rfl, rfl, rfl⟩
              · have w8 : w = 7 := (nI_eq (by omega) (by omega)).mp c120
                subst w8
                refine Rn.aload_n (pc1 := 124)  dX9_count_123 rfl rfl rfl ?_
                refine Rn.getfield (pc1 := 127)  dX9_count_124 rfl fX9_7 (by first | assumption | exact mset_same | exact mget_ne (by omega) (by assumption)) rfl ?_
                refine Rn.cS_i (pc1 := 130) (eX9_lateOnes hA I.1.2.1 I.2.1.2.1) dX9_count_127 rfl qX9_136 oX9_lateOnes rfl rfl (Nat.le_of_ble_eq_true rfl) (by decide) (by decide) (fun v127 μ127 h127 => ?_)
                obtain ⟨rfl, rfl⟩ := h127
                rw [show countW f padded kept 7 = lateN f (f 4) (rF f) from rfl, I.h.2.1]
                refine Rn.goto 140 dX9_count_130 (by decide) ?_
                exact Rn.ireturn dX9_count_140 rfl rfl ⟨_, rfl, rfl, rfl⟩
            · have w7 : w = 6 := (nI_eq (by omega) (by omega)).mp c104
              subst w7
              refine Rn.aload_n (pc1 := 108)  dX9_count_107 rfl rfl rfl ?_
              refine Rn.getfield (pc1 := 111)  dX9_count_108 rfl fX9_7 (by first | assumption | exact mset_same | exact mget_ne (by omega) (by assumption)) rfl ?_
              refine Rn.bipush (pc1 := 113) (v := nI 7) dX9_count_111 rfl (by decide) ?_
              refine Rn.iaload (pc1 := 114) (v := f 7)  dX9_count_113 rfl (by first | assumption | exact mset_same | exact mget_ne (by omega) (by assumption)) (vp_nI (j := 7) rfl (by omega) (by decide)) (by rw [nI_clamp (by omega)] <;> (first | rfl | assumption | (simp (disch := omega) only [upd_ne, upd_at, blk_out]; done) | (simp (disch := omega) only [upd_ne, upd_at, blk_out]; assumption))) ?_
              refine Rn.goto 140 dX9_count_114 (by decide) ?_
              exact Rn.ireturn dX9_count_140 rfl rfl ⟨_, rfl, rfl, rfl⟩
          · have w6 : w = 5 := (nI_eq (by omega) (by omega)).mp c89
            subst w6
            refine Rn.aload_n (pc1 := 93)  dX9_count_92 rfl rfl rfl ?_
            refine Rn.getfield (pc1 := 96)  dX9_count_93 rfl fX9_7 (by first | assumption | exact mset_same | exact mget_ne (by omega) (by assumption)) rfl ?_
            refine Rn.iconst (pc1 := 97) (v := nI 5) dX9_count_96 rfl (by decide) ?_
            refine Rn.iaload (pc1 := 98) (v := f 5)  dX9_count_97 rfl (by first | assumption | exact mset_same | exact mget_ne (by omega) (by assumption)) (vp_nI (j := 5) rfl (by omega) (by decide)) (by rw [nI_clamp (by omega)] <;> (first | rfl | assumption | (simp (disch := omega) only [upd_ne, upd_at, blk_out]; done) | (simp (disch := omega) only [upd_ne, upd_at, blk_out]; assumption))) ?_
            refine Rn.goto 140 dX9_count_98 (by decide) ?_
            exact Rn.ireturn dX9_count_140 rfl rfl ⟨_, rfl, rfl, rfl⟩
        · have w5 : w = 4 := (nI_eq (by omega) (by omega)).mp c75
          subst w5
          refine Rn.aload_n (pc1 := 79)  dX9_count_78 rfl rfl rfl ?_
          refine Rn.getfield (pc1 := 82)  dX9_count_79 rfl fX9_7 (by first | assumption | exact mset_same | exact mget_ne (by omega) (by assumption)) rfl ?_
          refine Rn.iconst (pc1 := 83) (v := nI 4) dX9_count_82 rfl (by decide) ?_
          refine Rn.iaload (pc1 := 84) (v := f 4)  dX9_count_83 rfl (by first | assumption | exact mset_same | exact mget_ne (by omega) (by assumption)) (vp_nI (j := 4) rfl (by omega) (by decide)) (by rw [nI_clamp (by omega)] <;> (first | rfl | assumption | (simp (disch := omega) only [upd_ne, upd_at, blk_out]; done) | (simp (disch := omega) only [upd_ne, upd_at, blk_out]; assumption))) ?_
          refine Rn.goto 140 dX9_count_84 (by decide) ?_
          exact Rn.ireturn dX9_count_140 rfl rfl ⟨_, rfl, rfl, rfl⟩
    · have w4 : w < 4 := by
        rcases Nat.lt_or_ge w 4 with z | z
        · exact z
        · exact absurd (nI_le z (by omega)) c15
      refine Rn.iload_n (pc1 := 19)  dX9_count_18 rfl rfl rfl ?_
      refine Rn.if_ne (pc1 := 22) 32 dX9_count_19 rfl (by decide) (fun c19 => ?_) (fun c19 => ?_)
      · have w0 : ¬ w = 0 := fun z => c19 (by rw [z])
        refine Rn.iload_n (pc1 := 33)  dX9_count_32 rfl rfl rfl ?_
        refine Rn.iconst (pc1 := 34) (v := nI 1) dX9_count_33 rfl (by decide) ?_
        refine Rn.icmp_ne (pc1 := 37) 46 dX9_count_34 rfl (by decide) (fun c34 => ?_) (fun c34 => ?_)
        · have w1 : ¬ w = 1 := fun z => c34 (by rw [z])
          refine Rn.iload_n (pc1 := 47)  dX9_count_46 rfl rfl rfl ?_
          refine Rn.iconst (pc1 := 48) (v := nI 2) dX9_count_47 rfl (by decide) ?_
          refine Rn.icmp_ne (pc1 := 51) 60 dX9_count_48 rfl (by decide) (fun c48 => ?_) (fun c48 => ?_)
          · have w2 : w = 3 := by
              rcases (show w = 2 ∨ w = 3 by omega) with z | z
              · exact absurd (by rw [z]) c48
              · exact z
            subst w2
            refine Rn.aload_n (pc1 := 61)  dX9_count_60 rfl rfl rfl ?_
            refine Rn.getfield (pc1 := 64)  dX9_count_61 rfl fX9_7 (by first | assumption | exact mset_same | exact mget_ne (by omega) (by assumption)) rfl ?_
            refine Rn.iconst (pc1 := 65) (v := nI 2) dX9_count_64 rfl (by decide) ?_
            refine Rn.iaload (pc1 := 66) (v := f 2)  dX9_count_65 rfl (by first | assumption | exact mset_same | exact mget_ne (by omega) (by assumption)) (vp_nI (j := 2) rfl (by omega) (by decide)) (by rw [nI_clamp (by omega)] <;> (first | rfl | assumption | (simp (disch := omega) only [upd_ne, upd_at, blk_out]; done) | (simp (disch := omega) only [upd_ne, upd_at, blk_out]; assumption))) ?_
            exact Rn.ireturn dX9_count_66 rfl rfl ⟨_, rfl, rfl, rfl⟩
          · have w2 : w = 2 := (nI_eq (by omega) (by omega)).mp c48
            subst w2
            refine Rn.aload_n (pc1 := 52)  dX9_count_51 rfl rfl rfl ?_
            refine Rn.bipush (pc1 := 54) (v := nI 9) dX9_count_52 rfl (by decide) ?_
            refine Rn.cV_i (pc1 := 57) (eX9_valued F (show 9 + 12 ≤ 475 by omega)) dX9_count_54 rfl qX9_133 oX9_valued (by first | assumption | exact mset_same | exact mget_ne (by omega) (by assumption)) rfl rfl rfl rfl (Nat.le_of_ble_eq_true rfl) (by decide) (by decide) (fun v54 μ54 h54 => ?_)
            obtain ⟨rfl, rfl⟩ := h54
            refine Rn.goto 66 dX9_count_57 (by decide) ?_
            exact Rn.ireturn dX9_count_66 rfl rfl ⟨_, rfl, rfl, rfl⟩
        · have w1 : w = 1 := (nI_eq (by omega) (by omega)).mp c34
          subst w1
          refine Rn.aload_n (pc1 := 38)  dX9_count_37 rfl rfl rfl ?_
          refine Rn.getfield (pc1 := 41)  dX9_count_38 rfl fX9_7 (by first | assumption | exact mset_same | exact mget_ne (by omega) (by assumption)) rfl ?_
          refine Rn.iconst (pc1 := 42) (v := nI 3) dX9_count_41 rfl (by decide) ?_
          refine Rn.iaload (pc1 := 43) (v := f 3)  dX9_count_42 rfl (by first | assumption | exact mset_same | exact mget_ne (by omega) (by assumption)) (vp_nI (j := 3) rfl (by omega) (by decide)) (by rw [nI_clamp (by omega)] <;> (first | rfl | assumption | (simp (disch := omega) only [upd_ne, upd_at, blk_out]; done) | (simp (disch := omega) only [upd_ne, upd_at, blk_out]; assumption))) ?_
          refine Rn.goto 66 dX9_count_43 (by decide) ?_
          exact Rn.ireturn dX9_count_66 rfl rfl ⟨_, rfl, rfl, rfl⟩
      · have w0 : w = 0 := (nI_eq (by omega) (by omega)).mp c19
        subst w0
        refine Rn.aload_n (pc1 := 23)  dX9_count_22 rfl rfl rfl ?_
        refine Rn.getfield (pc1 := 26)  dX9_count_23 rfl fX9_7 (by first | assumption | exact mset_same | exact mget_ne (by omega) (by assumption)) rfl ?_
        refine Rn.bipush (pc1 := 28) (v := nI 6) dX9_count_26 rfl (by decide) ?_
        refine Rn.iaload (pc1 := 29) (v := f 6)  dX9_count_28 rfl (by first | assumption | exact mset_same | exact mget_ne (by omega) (by assumption)) (vp_nI (j := 6) rfl (by omega) (by decide)) (by rw [nI_clamp (by omega)] <;> (first | rfl | assumption | (simp (disch := omega) only [upd_ne, upd_at, blk_out]; done) | (simp (disch := omega) only [upd_ne, upd_at, blk_out]; assumption))) ?_
        refine Rn.goto 66 dX9_count_29 (by decide) ?_
        exact Rn.ireturn dX9_count_66 rfl rfl ⟨_, rfl, rfl, rfl⟩
  · rw [show countQ f padded kept w = -2 from if_neg (by rw [bI_0 c7]; decide)]
    refine Rn.bipush (pc1 := 12) (v := (-2)) dX9_count_10 rfl (by decide) ?_
    exact Rn.ireturn dX9_count_12 rfl rfl ⟨_, rfl, rfl, rfl⟩
end M7
