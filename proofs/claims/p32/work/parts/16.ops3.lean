section OPS3M
variable {f : Nat → Int32} {h : Nat}
def SrtF (f : Nat → Int32) (h : Nat) : Prop := ∀ i j, i < j → j < h → e0 f i < e0 f j
def cntA (f : Nat → Int32) (pl : Int32) : Nat → Nat
  | 0 => 0
  | n + 1 => cntA f pl n + if pl ≤ e0 f n then 1 else 0
theorem cntA_low {pl : Int32} : ∀ {n : Nat}, (∀ j, j < n → e0 f j < pl) → cntA f pl n = 0
  | 0, _ => rfl
  | n + 1, q => by
    show _ + _ = 0
    rw [cntA_low (fun j hj => q j (by omega)), if_neg (fun z => i32_nlt.mpr z (q n (by omega)))]
theorem i32_lt_trans {x y z : Int32} (h1 : x ≤ y) (h2 : y < z) : x ≤ z := by
  rw [Int32.le_iff_toInt_le] at h1 ⊢; rw [Int32.lt_iff_toInt_lt] at h2; omega
theorem cntA_eq {pl : Int32} {k : Nat} (hs : SrtF f h) (k2 : ∀ j, j < k → e0 f j < pl) (k3 : k < h → pl ≤ e0 f k) : ∀ {n : Nat}, n ≤ h → cntA f pl n = n - k
  | 0, _ => by rw [Nat.zero_sub]; rfl
  | n + 1, hn => by
    show _ + _ = _
    rw [cntA_eq hs k2 k3 (by omega)]
    by_cases q : n < k
    · rw [if_neg (fun z => i32_nlt.mpr z (k2 n q))]; omega
    · have : pl ≤ e0 f n := by
        by_cases e : n = k
        · rw [e]; exact k3 (by omega)
        · exact i32_lt_trans (k3 (by omega)) (hs k n (by omega) (by omega))
      rw [if_pos this]; omega
def lateN (f : Nat → Int32) (fl : Int32) : Nat → Int32
  | 0 => nI 0
  | n + 1 => if lateB (f (261 + 27 * n)) fl = true then lateN f fl n ||| (nI 1 <<< (nI n &&& 31)) else lateN f fl n
def auF (f : Nat → Int32) (h : Nat) (pl : Int32) : Int32 := if lateB pl (f 4) = true then -6 else nI (cntA f pl h)
def wayF (f : Nat → Int32) (h sc i w : Nat) : Int32 := if w = 5 then nI h else if w = 0 then auF f h (f (261 + 27 * i)) else if w - 1 < sc then auF f h (f (423 + 13 * (w - 1))) else -6
def shN (f : Nat → Int32) (h sc i : Nat) : Nat → Nat × Int32
  | 0 => (5, nI h)
  | n + 1 => if ¬ wayF f h sc i (4 - n) = -6 ∧ wayF f h sc i (4 - n) ≤ (shN f h sc i n).2 then (4 - n, wayF f h sc i (4 - n)) else shN f h sc i n
theorem shN_ok (f : Nat → Int32) (h sc i : Nat) : ∀ n, wayF f h sc i (shN f h sc i n).1 = (shN f h sc i n).2 ∧ (shN f h sc i n).1 ≤ 5
  | 0 => ⟨rfl, Nat.le_refl 5⟩
  | n + 1 => by
    unfold shN
    split
    · exact ⟨rfl, by omega⟩
    · exact shN_ok f h sc i n
end OPS3M
section OPS3
variable {G : GG} {μ : Mm} {sz : Nat} {a h rc sc : Nat} {f : Nat → Int32}
theorem eS_ahead {pl : Int32} (F : SA μ a f h rc sc) (hs : SrtF f h) : EvA G 2 kX0_aheadOf [.ref (a + 3), .int pl] μ sz 0 0 (rI fun v μ' => v = nI (cntA f pl h) ∧ μ' = μ) := by
  obtain ⟨g0, g1, g2, g3, fd1, fd2⟩ := F.2.2.2.2.1
  refine (eX0_aheadOf (pl := pl) fd1 F.1.1).imp ?_
  rintro r μ' ⟨v, rfl, ⟨k, k1, rfl, k2, k3⟩, rfl⟩
  refine ⟨_, rfl, ?_, rfl⟩
  rw [cntA_eq hs (k := k) (fun j hj => by have := k2 j hj; rw [(fd2 j (by omega)).1] at this; exact this) (fun hj => by have := k3 hj; rw [(fd2 k hj).1] at this; exact this) (Nat.le_refl h)]
theorem eX6_aheadUnlessLate {pl : Int32} (F : SA μ a f h rc sc) (hs : SrtF f h) : EvA G 3 kX6_aheadUnlessLate [.ref a, .int pl] μ sz 0 0 (rI fun v μ' => v = auF f h pl ∧ μ' = μ) := by
  have hO : μ a = _ := F.2.1
  obtain ⟨g0, g1, g2, g3, fd1, fd2⟩ := id F.2.2.2.2.1
  have fO := fd1.1
  refine EvA.of (L := [some (.ref a), some (.int pl)]) (by decide +kernel) (Nat.le_of_ble_eq_true rfl) rfl ?_
  refine Rn.iload_n (pc1 := 1)  dX6_aheadUnlessLate_0 rfl rfl rfl ?_
  refine Rn.aload_n (pc1 := 2)  dX6_aheadUnlessLate_1 rfl rfl rfl ?_
  refine Rn.getfield (pc1 := 5)  dX6_aheadUnlessLate_2 rfl fX6_37 (by first | assumption | exact mset_same | exact mget_ne (by omega) (by assumption)) rfl ?_
  refine Rn.getfield (pc1 := 8)  dX6_aheadUnlessLate_5 rfl fX6_107 (by first | assumption | exact mset_same | exact mget_ne (by omega) (by assumption)) rfl ?_
  refine Rn.cN_i (pc1 := 11) (eX8_isLate) dX6_aheadUnlessLate_8 rfl nX6_129 oX8_isLate rfl rfl (Nat.le_of_ble_eq_true rfl) (by decide) (by decide) (fun v8 μ8 h8 => ?_)
  obtain ⟨rfl, rfl⟩ := h8
  refine Rn.if_eq (pc1 := 14) 19 dX6_aheadUnlessLate_11 rfl (by decide) (fun c11 => ?_) (fun c11 => ?_)
  · have n : auF f h pl = nI (cntA f pl h) := if_neg (by rw [bI_0 c11]; decide)
    refine Rn.aload_n (pc1 := 20)  dX6_aheadUnlessLate_19 rfl rfl rfl ?_
    refine Rn.getfield (pc1 := 23)  dX6_aheadUnlessLate_20 rfl fX6_37 (by first | assumption | exact mset_same | exact mget_ne (by omega) (by assumption)) rfl ?_
    refine Rn.iload_n (pc1 := 24)  dX6_aheadUnlessLate_23 rfl rfl rfl ?_
    refine Rn.cV_i (pc1 := 27) (eS_ahead F hs) dX6_aheadUnlessLate_24 rfl qX6_143 oX0_aheadOf (by first | assumption | exact mset_same | exact mget_ne (by omega) (by assumption)) rfl rfl rfl rfl (Nat.le_of_ble_eq_true rfl) (by decide) (by decide) (fun v24 μ24 h24 => ?_)
    obtain ⟨rfl, rfl⟩ := h24
    exact Rn.ireturn dX6_aheadUnlessLate_27 rfl rfl ⟨_, rfl, n.symm, rfl⟩
  · have n : auF f h pl = -6 := if_pos (bI_n c11)
    refine Rn.bipush (pc1 := 16) (v := (-6)) dX6_aheadUnlessLate_14 rfl (by decide) ?_
    refine Rn.goto 27 dX6_aheadUnlessLate_16 (by decide) ?_
    exact Rn.ireturn dX6_aheadUnlessLate_27 rfl rfl ⟨_, rfl, n.symm, rfl⟩
theorem eX6_entriesOnWay {i w : Nat} (F : SA μ a f h rc sc) (hs : SrtF f h) (hi : i < rc) (hw : w ≤ 5) : EvA G 4 kX6_entriesOnWay [.ref a, .ref (a + 10 + 5 * i), .int (nI w)] μ sz 0 0 (rI fun v μ' => v = wayF f h sc i w ∧ μ' = μ) := by
  have hO : μ a = _ := F.2.1
  obtain ⟨g0, g1, g2, g3, fd1, fd2⟩ := id F.2.2.2.2.1
  have fO := fd1.1
  have hsc := F.1.2.2
  obtain ⟨vw, cv, R, rv, rw⟩ := F.rd hi
  have rO := R.1
  refine EvA.of (L := [some (.ref a), some (.ref (a + 10 + 5 * i)), some (.int (nI w)), none]) (by decide +kernel) (Nat.le_of_ble_eq_true rfl) rfl ?_
  refine Rn.iload_n (pc1 := 1)  dX6_entriesOnWay_0 rfl rfl rfl ?_
  refine Rn.iconst (pc1 := 2) (v := nI 5) dX6_entriesOnWay_1 rfl (by decide) ?_
  refine Rn.icmp_ne (pc1 := 5) 13 dX6_entriesOnWay_2 rfl (by decide) (fun c2 => ?_) (fun c2 => ?_)
  · rw [nI_eq (by omega) (by decide)] at c2
    refine Rn.iload_n (pc1 := 14)  dX6_entriesOnWay_13 rfl rfl rfl ?_
    refine Rn.if_ne (pc1 := 17) 26 dX6_entriesOnWay_14 rfl (by decide) (fun c14 => ?_) (fun c14 => ?_)
    · rw [nI_eq (by omega) (by decide)] at c14
      refine Rn.aload_n (pc1 := 27)  dX6_entriesOnWay_26 rfl rfl rfl ?_
      refine Rn.iload_n (pc1 := 28)  dX6_entriesOnWay_27 rfl rfl rfl ?_
      refine Rn.iconst (pc1 := 29) (v := nI 1) dX6_entriesOnWay_28 rfl (by decide) ?_
      refine Rn.isub (pc1 := 30)  dX6_entriesOnWay_29 rfl (nI_sub (show 1 ≤ w by omega)) ?_
      have n : wayF f h sc i w = if w - 1 < sc then auF f h (f (423 + 13 * (w - 1))) else -6 := by unfold wayF; rw [if_neg c2, if_neg c14]
      by_cases hq : w - 1 < sc
      · obtain ⟨tb, S, st⟩ := F.sn hq
        have sO := S.1
        rw [if_pos hq] at n
        refine Rn.cV_r (pc1 := 33) (eX6_snapshotAt_y F rfl hq) dX6_entriesOnWay_30 rfl qX6_69 oX6_snapshotAt (by first | assumption | exact mset_same | exact mget_ne (by omega) (by assumption)) rfl rfl rfl rfl (Nat.le_of_ble_eq_true rfl) (by decide) (by decide) (fun v30 μ30 h30 => ?_)
        obtain ⟨rfl, rfl⟩ := h30
        refine Rn.astore_n (pc1 := 34) (x := a + 40 + 3 * (w - 1))  dX6_entriesOnWay_33 rfl rfl (by decide) rfl rfl ?_
        refine Rn.aload_n (pc1 := 35)  dX6_entriesOnWay_34 rfl rfl rfl ?_
        refine Rn.ifnonnull 43 dX6_entriesOnWay_35 (by decide) ?_
        refine Rn.aload_n (pc1 := 44)  dX6_entriesOnWay_43 rfl rfl rfl ?_
        refine Rn.aload_n (pc1 := 45)  dX6_entriesOnWay_44 rfl rfl rfl ?_
        refine Rn.getfield (pc1 := 48)  dX6_entriesOnWay_45 rfl fX6_116 (by first | assumption | exact mset_same | exact mget_ne (by omega) (by assumption)) rfl ?_
        refine Rn.cV_i (pc1 := 51) (eX6_aheadUnlessLate F hs) dX6_entriesOnWay_48 rfl qX6_152 oX6_aheadUnlessLate (by first | assumption | exact mset_same | exact mget_ne (by omega) (by assumption)) rfl rfl rfl rfl (Nat.le_of_ble_eq_true rfl) (by decide) (by decide) (fun v48 μ48 h48 => ?_)
        obtain ⟨rfl, rfl⟩ := h48
        exact Rn.ireturn dX6_entriesOnWay_51 rfl rfl ⟨_, rfl, n.symm, rfl⟩
      · rw [if_neg hq] at n
        refine Rn.cV_r (pc1 := 33) (eX6_snapshotAt_n F (fun j hj e => by rw [nI_eq (by omega) (by omega)] at e; omega)) dX6_entriesOnWay_30 rfl qX6_69 oX6_snapshotAt (by first | assumption | exact mset_same | exact mget_ne (by omega) (by assumption)) rfl rfl rfl rfl (Nat.le_of_ble_eq_true rfl) (by decide) (by decide) (fun v30 μ30 h30 => ?_)
        obtain ⟨rfl, rfl⟩ := h30
        show Rn G 4 kX6_entriesOnWay 33 _ [.null] _ _ _ _ _
        refine Rn.astore_nN (pc1 := 34)  dX6_entriesOnWay_33 rfl rfl (by decide) rfl rfl ?_
        refine Rn.aload_nN (pc1 := 35)  dX6_entriesOnWay_34 rfl rfl rfl ?_
        refine Rn.ifnonnullN (pc1 := 38) dX6_entriesOnWay_35 rfl ?_
        refine Rn.bipush (pc1 := 40) (v := (-6)) dX6_entriesOnWay_38 rfl (by decide) ?_
        refine Rn.goto 51 dX6_entriesOnWay_40 (by decide) ?_
        exact Rn.ireturn dX6_entriesOnWay_51 rfl rfl ⟨_, rfl, n.symm, rfl⟩
    · rw [nI_eq (by omega) (by decide)] at c14
      subst c14
      refine Rn.aload_n (pc1 := 18)  dX6_entriesOnWay_17 rfl rfl rfl ?_
      refine Rn.aload_n (pc1 := 19)  dX6_entriesOnWay_18 rfl rfl rfl ?_
      refine Rn.getfield (pc1 := 22)  dX6_entriesOnWay_19 rfl fX6_126 (by first | assumption | exact mset_same | exact mget_ne (by omega) (by assumption)) rfl ?_
      refine Rn.cV_i (pc1 := 25) (eX6_aheadUnlessLate F hs) dX6_entriesOnWay_22 rfl qX6_152 oX6_aheadUnlessLate (by first | assumption | exact mset_same | exact mget_ne (by omega) (by assumption)) rfl rfl rfl rfl (Nat.le_of_ble_eq_true rfl) (by decide) (by decide) (fun v22 μ22 h22 => ?_)
      obtain ⟨rfl, rfl⟩ := h22
      exact Rn.ireturn dX6_entriesOnWay_25 rfl rfl ⟨_, rfl, rfl, rfl⟩
  · rw [nI_eq (by omega) (by decide)] at c2
    subst c2
    refine Rn.aload_n (pc1 := 6)  dX6_entriesOnWay_5 rfl rfl rfl ?_
    refine Rn.getfield (pc1 := 9)  dX6_entriesOnWay_6 rfl fX6_37 (by first | assumption | exact mset_same | exact mget_ne (by omega) (by assumption)) rfl ?_
    refine Rn.getfield (pc1 := 12)  dX6_entriesOnWay_9 rfl fX6_149 (by first | assumption | exact mset_same | exact mget_ne (by omega) (by assumption)) rfl ?_
    exact Rn.ireturn dX6_entriesOnWay_12 rfl rfl ⟨_, rfl, rfl, rfl⟩
theorem lX6_shortestWay {i : Nat} (F : SA μ a f h rc sc) (hs : SrtF f h) (hi : i < rc) : ∀ (m n : Nat), n + m = 5 → ∀ (o5 : Option Value), Rn G 5 kX6_shortestWay 12 [some (.ref a), some (.ref (a + 10 + 5 * i)), some (.int (nI (shN f h sc i n).1)), some (.int (shN f h sc i n).2), some (.int (nI 4 - nI n)), o5] [] μ sz 0 0 (rI fun v μ' => v = nI (shN f h sc i 5).1 ∧ μ' = μ) := by
  have hO : μ a = _ := F.2.1
  intro m
  induction m with
  | zero =>
    intro n hn o5
    obtain rfl : n = 5 := by omega
    refine Rn.iload (pc1 := 14)  dX6_shortestWay_12 rfl rfl ?_
    refine Rn.if_lt (pc1 := 17) 51 dX6_shortestWay_14 rfl (by decide) (fun c14 => ?_) (fun c14 => ?_)
    · refine Rn.iload_n (pc1 := 52)  dX6_shortestWay_51 rfl rfl rfl ?_
      exact Rn.ireturn dX6_shortestWay_52 rfl rfl ⟨_, rfl, rfl, rfl⟩
    · exact absurd (show nI 4 - nI 5 < nI 0 by decide) c14
  | succ m ih =>
    intro n hn o5
    rw [nI_sub (show n ≤ 4 by omega)]
    generalize hx : shN f h sc i n = x
    refine Rn.iload (pc1 := 14)  dX6_shortestWay_12 rfl rfl ?_
    refine Rn.if_lt (pc1 := 17) 51 dX6_shortestWay_14 rfl (by decide) (fun c14 => ?_) (fun c14 => ?_)
    · exact absurd c14 (nI_nlt (Nat.zero_le _) (by omega))
    · refine Rn.aload_n (pc1 := 18)  dX6_shortestWay_17 rfl rfl rfl ?_
      refine Rn.aload_n (pc1 := 19)  dX6_shortestWay_18 rfl rfl rfl ?_
      refine Rn.iload (pc1 := 21)  dX6_shortestWay_19 rfl rfl ?_
      refine Rn.cV_i (pc1 := 24) (eX6_entriesOnWay F hs hi (show 4 - n ≤ 5 by omega)) dX6_shortestWay_21 rfl qX6_155 oX6_entriesOnWay (by first | assumption | exact mset_same | exact mget_ne (by omega) (by assumption)) rfl rfl rfl rfl (Nat.le_of_ble_eq_true rfl) (by decide) (by decide) (fun v21 μ21 h21 => ?_)
      obtain ⟨rfl, rfl⟩ := h21
      refine Rn.istore (pc1 := 26)  dX6_shortestWay_24 rfl (by decide) rfl rfl ?_
      refine Rn.iload (pc1 := 28)  dX6_shortestWay_26 rfl rfl ?_
      refine Rn.bipush (pc1 := 30) (v := (-6)) dX6_shortestWay_28 rfl (by decide) ?_
      refine Rn.icmp_eq (pc1 := 33) 45 dX6_shortestWay_30 rfl (by decide) (fun c30 => ?_) (fun c30 => ?_)
      · have e : shN f h sc i (n + 1) = x := by unfold shN; rw [if_neg (fun q => q.1 c30), hx]
        refine Rn.iinc (pc1 := 48) (v := nI 4 - nI (n + 1))  dX6_shortestWay_45 rfl rfl (by rw [← nI_sub (show n ≤ 4 by omega), show Int32.ofInt (-1) = - nI 1 from by decide, ← nI_add, Int32.sub_eq_add_neg, Int32.sub_eq_add_neg, Int32.neg_add, Int32.add_assoc, Int32.sub_eq_add_neg]) (by decide) rfl rfl ?_
        refine Rn.goto 12 dX6_shortestWay_48 (by decide) ?_
        have := ih (n + 1) (by omega); rw [e] at this; exact this _
      · refine Rn.iload (pc1 := 35)  dX6_shortestWay_33 rfl rfl ?_
        refine Rn.iload_n (pc1 := 36)  dX6_shortestWay_35 rfl rfl rfl ?_
        refine Rn.icmp_gt (pc1 := 39) 45 dX6_shortestWay_36 rfl (by decide) (fun c36 => ?_) (fun c36 => ?_)
        · have e : shN f h sc i (n + 1) = x := by unfold shN; rw [if_neg (fun q => i32_nle.mpr c36 (by rw [← hx]; exact q.2)), hx]
          refine Rn.iinc (pc1 := 48) (v := nI 4 - nI (n + 1))  dX6_shortestWay_45 rfl rfl (by rw [← nI_sub (show n ≤ 4 by omega), show Int32.ofInt (-1) = - nI 1 from by decide, ← nI_add, Int32.sub_eq_add_neg, Int32.sub_eq_add_neg, Int32.neg_add, Int32.add_assoc, Int32.sub_eq_add_neg]) (by decide) rfl rfl ?_
          refine Rn.goto 12 dX6_shortestWay_48 (by decide) ?_
          have := ih (n + 1) (by omega); rw [e] at this; exact this _
        · have e : shN f h sc i (n + 1) = (4 - n, wayF f h sc i (4 - n)) := by unfold shN; rw [if_pos ⟨c30, by rw [hx]; exact i32_nlt.mp c36⟩]
          refine Rn.iload (pc1 := 41)  dX6_shortestWay_39 rfl rfl ?_
          refine Rn.istore_n (pc1 := 42)  dX6_shortestWay_41 rfl rfl (by decide) rfl rfl ?_
          refine Rn.iload (pc1 := 44)  dX6_shortestWay_42 rfl rfl ?_
          refine Rn.istore_n (pc1 := 45)  dX6_shortestWay_44 rfl rfl (by decide) rfl rfl ?_
          refine Rn.iinc (pc1 := 48) (v := nI 4 - nI (n + 1))  dX6_shortestWay_45 rfl rfl (by rw [← nI_sub (show n ≤ 4 by omega), show Int32.ofInt (-1) = - nI 1 from by decide, ← nI_add, Int32.sub_eq_add_neg, Int32.sub_eq_add_neg, Int32.neg_add, Int32.add_assoc, Int32.sub_eq_add_neg]) (by decide) rfl rfl ?_
          refine Rn.goto 12 dX6_shortestWay_48 (by decide) ?_
          have := ih (n + 1) (by omega); rw [e] at this; exact this _
theorem eX6_shortestWay {i : Nat} (F : SA μ a f h rc sc) (hs : SrtF f h) (hi : i < rc) : EvA G 5 kX6_shortestWay [.ref a, .ref (a + 10 + 5 * i)] μ sz 0 0 (rI fun v μ' => v = nI (shN f h sc i 5).1 ∧ μ' = μ) := by
  have hO : μ a = _ := F.2.1
  refine EvA.of (L := [some (.ref a), some (.ref (a + 10 + 5 * i)), none, none, none, none]) (by decide +kernel) (Nat.le_of_ble_eq_true rfl) rfl ?_
  refine Rn.iconst (pc1 := 1) (v := nI 5) dX6_shortestWay_0 rfl (by decide) ?_
  refine Rn.istore_n (pc1 := 2)  dX6_shortestWay_1 rfl rfl (by decide) rfl rfl ?_
  refine Rn.aload_n (pc1 := 3)  dX6_shortestWay_2 rfl rfl rfl ?_
  refine Rn.aload_n (pc1 := 4)  dX6_shortestWay_3 rfl rfl rfl ?_
  refine Rn.iload_n (pc1 := 5)  dX6_shortestWay_4 rfl rfl rfl ?_
  refine Rn.cV_i (pc1 := 8) (eX6_entriesOnWay F hs hi (Nat.le_refl 5)) dX6_shortestWay_5 rfl qX6_155 oX6_entriesOnWay (by first | assumption | exact mset_same | exact mget_ne (by omega) (by assumption)) rfl rfl rfl rfl (Nat.le_of_ble_eq_true rfl) (by decide) (by decide) (fun v5 μ5 h5 => ?_)
  obtain ⟨rfl, rfl⟩ := h5
  refine Rn.istore_n (pc1 := 9)  dX6_shortestWay_8 rfl rfl (by decide) rfl rfl ?_
  refine Rn.iconst (pc1 := 10) (v := nI 4) dX6_shortestWay_9 rfl (by decide) ?_
  refine Rn.istore (pc1 := 12)  dX6_shortestWay_10 rfl (by decide) rfl rfl ?_
  exact lX6_shortestWay F hs hi 5 0 (by omega) _
theorem eX6_lateBelow {fl : Int32} (F : SA μ a f h rc sc) : EvA G 1 kX6_lateBelow [.ref a, .int fl] μ sz 0 0 (rI fun v μ' => v = lateN f fl rc ∧ μ' = μ) := by
  have hO : μ a = _ := F.2.1
  have hrc := F.1.2.1
  have loop : ∀ (m i : Nat), i + m = rc → ∀ o4 : Option Value, Rn G 1 kX6_lateBelow 4 [some (.ref a), some (.int fl), some (.int (lateN f fl i)), some (.int (nI i)), o4] [] μ sz 0 0 (rI fun v μ' => v = lateN f fl rc ∧ μ' = μ) := by
    intro m
    induction m with
    | zero =>
      intro i hi o4
      obtain rfl : i = rc := by omega
      refine Rn.iload_n (pc1 := 5)  dX6_lateBelow_4 rfl rfl rfl ?_
      refine Rn.aload_n (pc1 := 6)  dX6_lateBelow_5 rfl rfl rfl ?_
      refine Rn.getfield (pc1 := 9)  dX6_lateBelow_6 rfl fX6_21 (by first | assumption | exact mset_same | exact mget_ne (by omega) (by assumption)) rfl ?_
      refine Rn.icmp_ge (pc1 := 12) 48 dX6_lateBelow_9 rfl (by decide) (fun c9 => ?_) (fun c9 => ?_)
      · refine Rn.iload_n (pc1 := 49)  dX6_lateBelow_48 rfl rfl rfl ?_
        exact Rn.ireturn dX6_lateBelow_49 rfl rfl ⟨_, rfl, rfl, rfl⟩
      · exact absurd (nI_le (Nat.le_refl _) (by omega)) c9
    | succ m ih =>
      intro i hi o4
      obtain ⟨vw, cv, R, rv, rw⟩ := F.rd (show i < rc by omega)
      have rO := R.1
      refine Rn.iload_n (pc1 := 5)  dX6_lateBelow_4 rfl rfl rfl ?_
      refine Rn.aload_n (pc1 := 6)  dX6_lateBelow_5 rfl rfl rfl ?_
      refine Rn.getfield (pc1 := 9)  dX6_lateBelow_6 rfl fX6_21 (by first | assumption | exact mset_same | exact mget_ne (by omega) (by assumption)) rfl ?_
      refine Rn.icmp_ge (pc1 := 12) 48 dX6_lateBelow_9 rfl (by decide) (fun c9 => ?_) (fun c9 => ?_)
      · exact absurd c9 (nI_ge (by omega) (by omega))
      · refine Rn.aload_n (pc1 := 13)  dX6_lateBelow_12 rfl rfl rfl ?_
        refine Rn.iload_n (pc1 := 14)  dX6_lateBelow_13 rfl rfl rfl ?_
        refine Rn.cV_r (pc1 := 17) (eX6_readerAt_y F rfl (show i < rc by omega)) dX6_lateBelow_14 rfl qX6_62 oX6_readerAt (by first | assumption | exact mset_same | exact mget_ne (by omega) (by assumption)) rfl rfl rfl rfl (Nat.le_of_ble_eq_true rfl) (by decide) (by decide) (fun v14 μ14 h14 => ?_)
        obtain ⟨rfl, rfl⟩ := h14
        refine Rn.astore (pc1 := 19) (x := a + 10 + 5 * i)  dX6_lateBelow_17 rfl (by decide) rfl rfl ?_
        refine Rn.aload (pc1 := 21)  dX6_lateBelow_19 rfl rfl ?_
        refine Rn.ifnull (pc1 := 24) dX6_lateBelow_21 rfl ?_
        refine Rn.aload (pc1 := 26)  dX6_lateBelow_24 rfl rfl ?_
        refine Rn.getfield (pc1 := 29)  dX6_lateBelow_26 rfl fX6_126 (by first | assumption | exact mset_same | exact mget_ne (by omega) (by assumption)) rfl ?_
        refine Rn.iload_n (pc1 := 30)  dX6_lateBelow_29 rfl rfl rfl ?_
        refine Rn.cN_i (pc1 := 33) (eX8_isLate) dX6_lateBelow_30 rfl nX6_129 oX8_isLate rfl rfl (Nat.le_of_ble_eq_true rfl) (by decide) (by decide) (fun v30 μ30 h30 => ?_)
        obtain ⟨rfl, rfl⟩ := h30
        refine Rn.if_eq (pc1 := 36) 42 dX6_lateBelow_33 rfl (by decide) (fun c33 => ?_) (fun c33 => ?_)
        · have e : lateN f fl (i + 1) = lateN f fl i := if_neg (by rw [bI_0 c33]; decide)
          refine Rn.iinc (pc1 := 45)  dX6_lateBelow_42 rfl rfl (nI_1 i) (by decide) rfl rfl ?_
          refine Rn.goto 4 dX6_lateBelow_45 (by decide) ?_
          have := ih (i + 1) (by omega); rw [e] at this; exact this _
        · have e : lateN f fl (i + 1) = lateN f fl i ||| (nI 1 <<< (nI i &&& 31)) := if_pos (bI_n c33)
          refine Rn.iload_n (pc1 := 37)  dX6_lateBelow_36 rfl rfl rfl ?_
          refine Rn.iconst (pc1 := 38) (v := nI 1) dX6_lateBelow_37 rfl (by decide) ?_
          refine Rn.iload_n (pc1 := 39)  dX6_lateBelow_38 rfl rfl rfl ?_
          refine Rn.ishl (pc1 := 40)  dX6_lateBelow_39 rfl rfl ?_
          refine Rn.ior (pc1 := 41)  dX6_lateBelow_40 rfl rfl ?_
          refine Rn.istore_n (pc1 := 42)  dX6_lateBelow_41 rfl rfl (by decide) rfl rfl ?_
          refine Rn.iinc (pc1 := 45)  dX6_lateBelow_42 rfl rfl (nI_1 i) (by decide) rfl rfl ?_
          refine Rn.goto 4 dX6_lateBelow_45 (by decide) ?_
          have := ih (i + 1) (by omega); rw [e] at this; exact this _
  refine EvA.of (L := [some (.ref a), some (.int fl), none, none, none]) (by decide +kernel) (Nat.le_of_ble_eq_true rfl) rfl ?_
  refine Rn.iconst (pc1 := 1) (v := nI 0) dX6_lateBelow_0 rfl (by decide) ?_
  refine Rn.istore_n (pc1 := 2)  dX6_lateBelow_1 rfl rfl (by decide) rfl rfl ?_
  refine Rn.iconst (pc1 := 3) (v := nI 0) dX6_lateBelow_2 rfl (by decide) ?_
  refine Rn.istore_n (pc1 := 4)  dX6_lateBelow_3 rfl rfl (by decide) rfl rfl ?_
  exact loop rc 0 (by omega) _
/-- the loop that moves the snapshots by one -/
theorem lX6_makeSnapshot {sc' : Nat} {f' : Nat → Int32} {o1 : Option Value} (h1 : sc' ≤ sc + 1) (h3 : sc' ≤ 4) (hf : ∀ n q, n + 1 < sc' → q < 13 → f' (423 + 13 * (n + 1) + q) = f (423 + 13 * n + q)) {Q : Option Value → Mm → Prop}
    (K : ∀ μ2 : Mm, SAg μ2 a f h rc sc' rc 0 → Fr a (a + 52) μ μ2 → (∀ n, n < 4 → 0 < n → SnA μ2 (a + 40 + 3 * n) f' n (n < sc')) → Rn G 4 kX6_makeSnapshot 50 [some (.ref a), some (.int (nI 0))] [] μ2 sz 0 0 Q) : ∀ (i : Nat), i < sc' → ∀ (μ1 : Mm), SAg μ1 a f h rc sc' rc 0 → Fr a (a + 52) μ μ1 → (∀ n, n < 4 → n ≤ i → SnA μ1 (a + 40 + 3 * n) f n (n < sc)) → (∀ n, n < 4 → i < n → SnA μ1 (a + 40 + 3 * n) f' n (n < sc')) → Rn G 4 kX6_makeSnapshot 25 [some (.ref a), some (.int (nI i))] [] μ1 sz 0 0 Q := by
  intro i
  induction i with
  | zero =>
    intro hi μ1 F1 z1 p1 p2
    refine Rn.iload_n (pc1 := 26)  dX6_makeSnapshot_25 rfl rfl rfl ?_
    refine Rn.if_le (pc1 := 29) 50 dX6_makeSnapshot_26 rfl (by decide) (fun c26 => ?_) (fun c26 => ?_)
    · exact K μ1 F1 z1 p2
    · exact absurd (show nI 0 ≤ nI 0 by decide) c26
  | succ i ih =>
    intro hi μ1 F1 z1 p1 p2
    have hO : μ1 a = _ := F1.2.1
    obtain ⟨nu, tb, s1, s2⟩ := p1 i (by omega) (by omega)
    obtain ⟨nu', tb', t1, t2⟩ := p1 (i + 1) (by omega) (by omega)
    refine Rn.iload_n (pc1 := 26)  dX6_makeSnapshot_25 rfl rfl rfl ?_
    refine Rn.if_le (pc1 := 29) 50 dX6_makeSnapshot_26 rfl (by decide) (fun c26 => ?_) (fun c26 => ?_)
    · exact absurd c26 (nI_ge (by omega) (by omega))
    · refine Rn.aload_n (pc1 := 30)  dX6_makeSnapshot_29 rfl rfl rfl ?_
      refine Rn.iload_n (pc1 := 31)  dX6_makeSnapshot_30 rfl rfl rfl ?_
      refine Rn.iconst (pc1 := 32) (v := nI 1) dX6_makeSnapshot_31 rfl (by decide) ?_
      refine Rn.isub (pc1 := 33)  dX6_makeSnapshot_32 rfl (nI_sub (show 1 ≤ i + 1 by omega)) ?_
      refine Rn.cV_r (pc1 := 36) (eX6_snapshotAt_y F1 rfl (show i + 1 - 1 < sc' by omega)) dX6_makeSnapshot_33 rfl qX6_69 oX6_snapshotAt (by first | assumption | exact mset_same | exact mget_ne (by omega) (by assumption)) rfl rfl rfl rfl (Nat.le_of_ble_eq_true rfl) (by decide) (by decide) (fun v33 μ33 h33 => ?_)
      obtain ⟨rfl, rfl⟩ := h33
      refine Rn.aload_n (pc1 := 37)  dX6_makeSnapshot_36 rfl rfl rfl ?_
      refine Rn.iload_n (pc1 := 38)  dX6_makeSnapshot_37 rfl rfl rfl ?_
      refine Rn.cV_r (pc1 := 41) (eX6_snapshotAt_y F1 rfl (show i + 1 < sc' by omega)) dX6_makeSnapshot_38 rfl qX6_69 oX6_snapshotAt (by first | assumption | exact mset_same | exact mget_ne (by omega) (by assumption)) rfl rfl rfl rfl (Nat.le_of_ble_eq_true rfl) (by decide) (by decide) (fun v38 μ38 h38 => ?_)
      obtain ⟨rfl, rfl⟩ := h38
      refine Rn.cS_v (pc1 := 44) (eX6_copySnapshot s1 t1 (by omega)) dX6_makeSnapshot_41 rfl qX6_73 oX6_copySnapshot rfl rfl (Nat.le_of_ble_eq_true rfl) (by decide) (by decide) (fun μ41 h41 => ?_)
      obtain ⟨W1, z2⟩ := h41
      refine Rn.iinc (pc1 := 47) (v := nI i)  dX6_makeSnapshot_44 rfl rfl (by rw [← nI_1, show Int32.ofInt (-1) = - 1 from by decide, ← Int32.sub_eq_add_neg, Int32.add_sub_cancel]) (by decide) rfl rfl ?_
      refine Rn.goto 25 dX6_makeSnapshot_47 (by decide) ?_
      obtain ⟨w0, w1, w2, w3, w4, w5, w6⟩ := id F1
      refine ih (by omega) _ ⟨w0, w1.fr z2 (by omega), w2.fr z2 (by omega), w3.fr z2 (by omega), w4.fr z2 (by omega), fun k hk => (w5 k hk).fr z2 (by omega), fun k hk => ?_⟩ (z1.trans (z2.wide (by omega) (by omega))) (fun n hn hni => (p1 n hn (by omega)).fr z2 (by omega)) (fun n hn hni => ?_)
      · by_cases e : k = i + 1
        · subst e; exact ⟨_, _, W1, fun q => by omega⟩
        · exact (w6 k hk).fr z2 (by omega)
      · by_cases e : n = i + 1
        · subst e
          refine ⟨_, _, W1, fun q => ?_⟩
          obtain ⟨r1, r2⟩ := s2 (by omega)
          exact ⟨r1.trans (hf i 0 q (by omega)).symm, fun k hk => (r2 k hk).trans (by rw [show 423 + 13 * (i + 1) + 1 + k = 423 + 13 * (i + 1) + (1 + k) by omega, hf i (1 + k) q (by omega), show 423 + 13 * i + (1 + k) = 423 + 13 * i + 1 + k by omega])⟩
        · exact (p2 n hn (by omega)).fr z2 (by omega)
theorem eX6_makeSnapshot (F : SA μ a f h rc sc) : EvA G 4 kX6_makeSnapshot [.ref a] μ sz 0 0 (rI fun v μ' => v = f 3 ∧ SA μ' a (shotF f sc) h rc (if sc < 4 then sc + 1 else sc) ∧ Fr a (a + 52) μ μ') := by
  have hO : μ a = _ := F.2.1
  have hsc := F.1.2.2
  obtain ⟨sc', hsc'⟩ : ∃ x, x = if sc < 4 then sc + 1 else sc := ⟨_, rfl⟩
  rw [← hsc']
  have h4 : sc' ≤ 4 := by rw [hsc']; split <;> omega
  have h5 : sc' ≤ sc + 1 := by rw [hsc']; split <;> omega
  have h6 : 1 ≤ sc' := by rw [hsc']; split <;> omega
  have hq : ∀ j, j ≠ 8 → j < 423 → f j = shotF f sc j := fun j h1 h2 => by
    unfold shotF
    rw [upd_ne (by omega), blk_out (by omega), upd_ne (by omega), blk_out (by omega)]
  have hf : ∀ n q, n + 1 < sc' → q < 13 → shotF f sc (423 + 13 * (n + 1) + q) = f (423 + 13 * n + q) := fun n q h1 h2 => by
    unfold shotF
    rw [upd_ne (by omega), blk_out (by omega), upd_ne (by omega), blk_in (q := 13 * n + q) (by omega) (by omega), show 423 + (13 * n + q) = 423 + 13 * n + q by omega]
  have J : ∀ μ1 : Mm, SAg μ1 a f h rc sc' rc sc → Fr a (a + 52) μ μ1 → Rn G 4 kX6_makeSnapshot 18 [some (.ref a), none] [] μ1 sz 0 0 (rI fun v μ' => v = f 3 ∧ SA μ' a (shotF f sc) h rc sc' ∧ Fr a (a + 52) μ μ') := by
    intro μ1 F1 z1
    have hO : μ1 a = _ := F1.2.1
    refine Rn.aload_n (pc1 := 19)  dX6_makeSnapshot_18 rfl rfl rfl ?_
    refine Rn.getfield (pc1 := 22)  dX6_makeSnapshot_19 rfl fX6_24 (by first | assumption | exact mset_same | exact mget_ne (by omega) (by assumption)) rfl ?_
    refine Rn.iconst (pc1 := 23) (v := nI 1) dX6_makeSnapshot_22 rfl (by decide) ?_
    refine Rn.isub (pc1 := 24)  dX6_makeSnapshot_23 rfl (nI_sub h6) ?_
    refine Rn.istore_n (pc1 := 25)  dX6_makeSnapshot_24 rfl rfl (by decide) rfl rfl ?_
    obtain ⟨w0, w1, w2, w3, w4, w5, w6⟩ := id F1
    refine lX6_makeSnapshot (μ := μ1) (o1 := none) h5 h4 hf (fun μ2 F2 z2 p => ?_) (sc' - 1) (by omega) _ ⟨w0, w1, w2, w3, w4, w5, fun n hn => (w6 n hn).to (fun q => by omega) (fun _ _ _ _ => rfl)⟩ Fr.rf (fun n hn _ => w6 n hn) (fun n hn hni => (w6 n hn).to (fun q => by omega) (fun q => by omega))
    obtain ⟨v0, v1, v2, v3, v4, v5, v6⟩ := id F2
    have hO2 : μ2 a = _ := v1
    obtain ⟨g0, g1, g2, g3, fd1, fd2⟩ := v4
    have fO := fd1.1
    obtain ⟨nu, tb, S, -⟩ := v6 0 (by omega)
    have sO := S.1
    refine Rn.aload_n (pc1 := 51)  dX6_makeSnapshot_50 rfl rfl rfl ?_
    refine Rn.iconst (pc1 := 52) (v := nI 0) dX6_makeSnapshot_51 rfl (by decide) ?_
    refine Rn.cV_r (pc1 := 55) (eX6_snapshotAt_y F2 rfl (show 0 < sc' by omega)) dX6_makeSnapshot_52 rfl qX6_69 oX6_snapshotAt (by first | assumption | exact mset_same | exact mget_ne (by omega) (by assumption)) rfl rfl rfl rfl (Nat.le_of_ble_eq_true rfl) (by decide) (by decide) (fun v52 μ52 h52 => ?_)
    obtain ⟨rfl, rfl⟩ := h52
    refine Rn.astore_n (pc1 := 56) (x := a + 40 + 3 * 0)  dX6_makeSnapshot_55 rfl rfl (by decide) rfl rfl ?_
    refine Rn.aload_n (pc1 := 57)  dX6_makeSnapshot_56 rfl rfl rfl ?_
    refine Rn.ifnull (pc1 := 60) dX6_makeSnapshot_57 rfl ?_
    refine Rn.aload_n (pc1 := 61)  dX6_makeSnapshot_60 rfl rfl rfl ?_
    refine Rn.aload_n (pc1 := 62)  dX6_makeSnapshot_61 rfl rfl rfl ?_
    refine Rn.getfield (pc1 := 65)  dX6_makeSnapshot_62 rfl fX6_37 (by first | assumption | exact mset_same | exact mget_ne (by omega) (by assumption)) rfl ?_
    refine Rn.getfield (pc1 := 68)  dX6_makeSnapshot_65 rfl fX6_113 (by first | assumption | exact mset_same | exact mget_ne (by omega) (by assumption)) rfl ?_
    refine Rn.putfield (pc1 := 71)  dX6_makeSnapshot_68 rfl pX6_116 (fun h => Bool.noConfusion h) (by assumption) (Nat.le_of_ble_eq_true rfl) rfl rfl rfl ?_
    have S1 := S.setO (f 3)
    have z3 : Fr (a + 40 + 3 * 0) (a + 40 + 3 * 0 + 3) μ52 _ := Fr.set (q := a + 40 + 3 * 0) (c := obj 5 [.int (f 3), .ref (a + 40 + 3 * 0 + 1)]) (by omega) (by omega)
    have sO1 := S1.1
    have hO3 := (z3 a (by omega)).trans hO2
    have V1 := v3.fr z3 (by omega)
    have sV := S1.2.1
    refine Rn.aload_n (pc1 := 72)  dX6_makeSnapshot_71 rfl rfl rfl ?_
    refine Rn.getfield (pc1 := 75)  dX6_makeSnapshot_72 rfl fX6_119 (by first | assumption | exact mset_same | exact mget_ne (by omega) (by assumption)) rfl ?_
    refine Rn.aload_n (pc1 := 76)  dX6_makeSnapshot_75 rfl rfl rfl ?_
    refine Rn.getfield (pc1 := 79)  dX6_makeSnapshot_76 rfl fX6_30 (by first | assumption | exact mset_same | exact mget_ne (by omega) (by assumption)) rfl ?_
    refine Rn.cV_v (pc1 := 82) (eX7_copyFrom S1.2 V1 (by omega)) dX6_makeSnapshot_79 rfl qX6_55 oX7_copyFrom (by first | assumption | exact mset_same | exact mget_ne (by omega) (by assumption)) rfl rfl rfl rfl (Nat.le_of_ble_eq_true rfl) (by decide) (by decide) (fun μ79 h79 => ?_)
    obtain ⟨W1, z4⟩ := h79
    have z5 := z3.trans (z4.wide (a' := a + 40 + 3 * 0) (b' := a + 40 + 3 * 0 + 3) (by omega) (by omega))
    have hO4 := (z5 a (by omega)).trans hO2
    have fO4 := (z5 (a + 3) (by omega)).trans fO
    have sO4 := (z4 (a + 40 + 3 * 0) (by omega)).trans sO1
    refine Rn.aload_n (pc1 := 83)  dX6_makeSnapshot_82 rfl rfl rfl ?_
    refine Rn.getfield (pc1 := 86)  dX6_makeSnapshot_83 rfl fX6_37 (by first | assumption | exact mset_same | exact mget_ne (by omega) (by assumption)) rfl ?_
    refine Rn.getfield (pc1 := 89)  dX6_makeSnapshot_86 rfl fX6_113 (by first | assumption | exact mset_same | exact mget_ne (by omega) (by assumption)) rfl ?_
    refine Rn.ireturn dX6_makeSnapshot_89 rfl rfl ⟨_, rfl, rfl, ⟨v0, (v1.fr z5 (by omega)).to ⟨hq _ (by omega) (by omega), hq _ (by omega) (by omega), hq _ (by omega) (by omega)⟩, v2.fr z5 (by omega), (v3.fr z5 (by omega)).to (fun j _ => hq _ (by omega) (by omega)), (FdA.fr ⟨g0, g1, g2, g3, fd1, fd2⟩ z5 (by omega)).to ⟨hq _ (by omega) (by omega), hq _ (by omega) (by omega), hq _ (by omega) (by omega)⟩ (fun j h1 h2 => hq _ (by omega) (by omega)), fun k hk => ((v5 k hk).fr z5 (by omega)).to (fun z => z) (fun hl j h1 h2 => hq _ (by omega) (by omega)), fun n hn => ?_⟩, (z1.trans z2).trans (z5.wide (by omega) (by omega))⟩
    by_cases e : n = 0
    · subst e
      refine ⟨_, _, ⟨sO4, W1⟩, fun _ => ⟨?_, fun k hk => ?_⟩⟩
      · unfold shotF; rw [upd_ne (by omega), blk_out (by omega), upd_at rfl]
      · unfold shotF; rw [upd_ne (by omega), blk_in (q := k) (by omega) hk]
    · exact (p n hn (by omega)).fr z5 (by omega)
  refine EvA.of (L := [some (.ref a), none]) (by decide +kernel) (Nat.le_of_ble_eq_true rfl) rfl ?_
  refine Rn.aload_n (pc1 := 1)  dX6_makeSnapshot_0 rfl rfl rfl ?_
  refine Rn.getfield (pc1 := 4)  dX6_makeSnapshot_1 rfl fX6_24 (by first | assumption | exact mset_same | exact mget_ne (by omega) (by assumption)) rfl ?_
  refine Rn.iconst (pc1 := 5) (v := nI 4) dX6_makeSnapshot_4 rfl (by decide) ?_
  refine Rn.icmp_ge (pc1 := 8) 18 dX6_makeSnapshot_5 rfl (by decide) (fun c5 => ?_) (fun c5 => ?_)
  · have n : ¬ sc < 4 := by intro q; exact absurd c5 (nI_ge q (by decide))
    have e : sc' = sc := by rw [hsc', if_neg n]
    first
      | exact J _ (F.setO f rc sc' F.1.2.1 h4 (fun j hj => rfl) (by rw [e]; rfl)) (Fr.set (by omega) (by omega))
      | exact J _ (by rw [e]; exact F) Fr.rf
  · have n : sc < 4 := by rw [i32_nle, nI_ltI (by omega) (by decide)] at c5; exact c5
    have e : sc' = sc + 1 := by rw [hsc', if_pos n]
    refine Rn.aload_n (pc1 := 9)  dX6_makeSnapshot_8 rfl rfl rfl ?_
    refine Rn.dup (pc1 := 10)  dX6_makeSnapshot_9 rfl rfl ?_
    refine Rn.getfield (pc1 := 13)  dX6_makeSnapshot_10 rfl fX6_24 (by first | assumption | exact mset_same | exact mget_ne (by omega) (by assumption)) rfl ?_
    refine Rn.iconst (pc1 := 14) (v := nI 1) dX6_makeSnapshot_13 rfl (by decide) ?_
    refine Rn.iadd (pc1 := 15)  dX6_makeSnapshot_14 rfl (nI_add sc 1) ?_
    refine Rn.putfield (pc1 := 18)  dX6_makeSnapshot_15 rfl pX6_24 (fun h => Bool.noConfusion h) (by first | assumption | exact mset_same | exact mget_ne (by omega) (by assumption)) (Nat.le_of_ble_eq_true rfl) rfl rfl rfl ?_
    first
      | exact J _ (F.setO f rc sc' F.1.2.1 h4 (fun j hj => rfl) (by rw [e]; rfl)) (Fr.set (by omega) (by omega))
      | exact J _ (by rw [e]; exact F) Fr.rf
end OPS3
