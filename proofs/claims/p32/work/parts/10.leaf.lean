/-! ===== the small questions, rows of numbers, Values ===== -/
def inB (v lo hi : Int32) : Bool := decide (lo ≤ v) && decide (v ≤ hi)
theorem i32_nlt {x y : Int32} : ¬ x < y ↔ y ≤ x := by rw [Int32.lt_iff_toInt_lt, Int32.le_iff_toInt_le]; omega
theorem i32_nle {x y : Int32} : ¬ x ≤ y ↔ y < x := by rw [Int32.lt_iff_toInt_lt, Int32.le_iff_toInt_le]; omega
theorem inB_t {v lo hi : Int32} (h1 : ¬ v < lo) (h2 : ¬ hi < v) : inB v lo hi = true := by
  unfold inB
  rw [decide_eq_true (i32_nlt.mp h1), decide_eq_true (i32_nlt.mp h2)]; rfl
theorem inB_lo {v lo hi : Int32} (h1 : v < lo) : inB v lo hi = false := by
  unfold inB
  rw [decide_eq_false (i32_nle.mpr h1)]; rfl
theorem inB_hi {v lo hi : Int32} (h1 : hi < v) : inB v lo hi = false := by
  unfold inB
  rw [decide_eq_false (i32_nle.mpr h1), Bool.and_false]
theorem inB_nI {v : Int32} {n : Nat} (hn : n < 2 ^ 31) (h : inB v (nI 0) (nI n) = true) : ∃ j, j ≤ n ∧ v = nI j := by
  unfold inB at h
  rw [Bool.and_eq_true, decide_eq_true_eq, decide_eq_true_eq] at h
  obtain ⟨j, hj, rfl⟩ := nI_of (x := v) (i32_nlt.mpr h.1)
  exact ⟨j, (nI_leI hj hn).mp h.2, rfl⟩
theorem inB_of {j n : Nat} (hj : j ≤ n) (hn : n < 2 ^ 31) : inB (nI j) (nI 0) (nI n) = true := inB_t (nI_nlt (by omega) (by omega)) (nI_nlt hj hn)
theorem i32_lt12 {i : Int32} : nI 12 ≤ i ↔ nI 11 < i := by
  rw [Int32.lt_iff_toInt_lt, Int32.le_iff_toInt_le, nI_toInt (by decide), nI_toInt (by decide)]
  omega
def lateB (p f : Int32) : Bool := decide (nI 0 < p) && decide (p < f)
section LEAF
variable {G : GG} {μ : Mm} {sz : Nat}
theorem eX8_at {a n j : Nat} {i : Int32} {f : Nat → Int32} (h : μ a = some (ints n f)) (hi : i = nI j) (hj : j < n) (hn : n < 2 ^ 31) : EvA G 0 kX8_at [.ref a, .int i] μ sz 0 0 (rI fun v μ' => v = f j ∧ μ' = μ) := by
  refine EvA.of (L := [some (.ref a), some (.int i)]) (by decide +kernel) (Nat.le_of_ble_eq_true rfl) rfl ?_
  refine Rn.iload_n (pc1 := 1)  dX8_at_0 rfl rfl rfl ?_
  refine Rn.if_lt (pc1 := 4) 10 dX8_at_1 rfl (by decide) (fun c1 => ?_) (fun c1 => ?_)
  · exact absurd c1 (by rw [hi]; exact nI_nlt (Nat.zero_le _) (by omega))
  · refine Rn.iload_n (pc1 := 5)  dX8_at_4 rfl rfl rfl ?_
    refine Rn.aload_n (pc1 := 6)  dX8_at_5 rfl rfl rfl ?_
    refine Rn.alen (pc1 := 7) (v := nI n)  dX8_at_6 rfl (by first | assumption | exact mset_same | exact mget_ne (by omega) (by assumption)) (fun _ => rfl) rfl ?_
    refine Rn.icmp_lt (pc1 := 10) 12 dX8_at_7 rfl (by decide) (fun c7 => ?_) (fun c7 => ?_)
    · refine Rn.aload_n (pc1 := 13)  dX8_at_12 rfl rfl rfl ?_
      refine Rn.iload_n (pc1 := 14)  dX8_at_13 rfl rfl rfl ?_
      refine Rn.iaload (pc1 := 15)  dX8_at_14 rfl (by assumption) (vp_nI hi hj hn) (gI hi (by omega)) ?_
      exact Rn.ireturn dX8_at_15 rfl rfl ⟨_, rfl, rfl, rfl⟩
    · exact absurd (by rw [hi]; exact nI_lt hj hn) c7
theorem eX8_layAt {a n j : Nat} {i x : Int32} {f : Nat → Int32} (h : μ a = some (ints n f)) (hi : i = nI j) (hj : j < n) (hn : n < 2 ^ 31) : EvA G 0 kX8_layAt [.ref a, .int i, .int x] μ sz 0 0 (rV fun μ' => μ' = mset μ a (ints n (upd f j x))) := by
  refine EvA.of (L := [some (.ref a), some (.int i), some (.int x)]) (by decide +kernel) (Nat.le_of_ble_eq_true rfl) rfl ?_
  refine Rn.iload_n (pc1 := 1)  dX8_layAt_0 rfl rfl rfl ?_
  refine Rn.if_lt (pc1 := 4) 14 dX8_layAt_1 rfl (by decide) (fun c1 => ?_) (fun c1 => ?_)
  · exact absurd c1 (by rw [hi]; exact nI_nlt (Nat.zero_le _) (by omega))
  · refine Rn.iload_n (pc1 := 5)  dX8_layAt_4 rfl rfl rfl ?_
    refine Rn.aload_n (pc1 := 6)  dX8_layAt_5 rfl rfl rfl ?_
    refine Rn.alen (pc1 := 7) (v := nI n)  dX8_layAt_6 rfl (by first | assumption | exact mset_same | exact mget_ne (by omega) (by assumption)) (fun _ => rfl) rfl ?_
    refine Rn.icmp_ge (pc1 := 10) 14 dX8_layAt_7 rfl (by decide) (fun c7 => ?_) (fun c7 => ?_)
    · exact absurd c7 (by rw [hi]; exact nI_ge hj hn)
    · refine Rn.aload_n (pc1 := 11)  dX8_layAt_10 rfl rfl rfl ?_
      refine Rn.iload_n (pc1 := 12)  dX8_layAt_11 rfl rfl rfl ?_
      refine Rn.iload_n (pc1 := 13)  dX8_layAt_12 rfl rfl rfl ?_
      refine Rn.iastore (pc1 := 14)  dX8_layAt_13 rfl (by assumption) (vp_nI hi hj hn) (updI hi (by omega)) ?_
      exact Rn.vreturn dX8_layAt_14 rfl ⟨rfl, rfl⟩
theorem eX8_copyRow {a b n : Nat} {f g : Nat → Int32} (ha : μ a = some (ints n f)) (hb : μ b = some (ints n g)) (hab : a ≠ b) (hn : n < 2 ^ 31) : EvA G 0 kX8_copyRow [.ref a, .ref b] μ sz 0 0 (rV fun μ' => μ' = mset μ b (ints n (cpy n f g))) := by
  refine EvA.of (L := [some (.ref a), some (.ref b), none]) (by decide +kernel) (Nat.le_of_ble_eq_true rfl) rfl ?_
  have loop : ∀ (m j : Nat), j + m = n → Rn G 0 kX8_copyRow 2 [some (.ref a), some (.ref b), some (.int (nI j))] [] (mset μ b (ints n (cpy j f g))) sz 0 0 (rV fun μ' => μ' = mset μ b (ints n (cpy n f g))) := by
    intro m
    induction m with
    | zero =>
      intro j hj
      obtain rfl : j = n := by omega
      have ha' : mset μ b (ints j (cpy j f g)) a = some (ints j f) := mget_ne hab ha
      refine Rn.iload_n (pc1 := 3)  dX8_copyRow_2 rfl rfl rfl ?_
      refine Rn.aload_n (pc1 := 4)  dX8_copyRow_3 rfl rfl rfl ?_
      refine Rn.alen (pc1 := 5) (v := nI j)  dX8_copyRow_4 rfl (by first | assumption | exact mset_same | exact mget_ne (by omega) (by assumption)) (fun _ => rfl) rfl ?_
      refine Rn.icmp_ge (pc1 := 8) 26 dX8_copyRow_5 rfl (by decide) (fun c5 => ?_) (fun c5 => ?_)
      · exact Rn.vreturn dX8_copyRow_26 rfl ⟨rfl, rfl⟩
      · exact absurd (nI_le (Nat.le_refl j) hn) c5
    | succ m ih =>
      intro j hj
      have ha' : mset μ b (ints n (cpy j f g)) a = some (ints n f) := mget_ne hab ha
      refine Rn.iload_n (pc1 := 3)  dX8_copyRow_2 rfl rfl rfl ?_
      refine Rn.aload_n (pc1 := 4)  dX8_copyRow_3 rfl rfl rfl ?_
      refine Rn.alen (pc1 := 5) (v := nI n)  dX8_copyRow_4 rfl (by first | assumption | exact mset_same | exact mget_ne (by omega) (by assumption)) (fun _ => rfl) rfl ?_
      refine Rn.icmp_ge (pc1 := 8) 26 dX8_copyRow_5 rfl (by decide) (fun c5 => ?_) (fun c5 => ?_)
      · exact absurd c5 (nI_ge (by omega) hn)
      · refine Rn.iload_n (pc1 := 9)  dX8_copyRow_8 rfl rfl rfl ?_
        refine Rn.aload_n (pc1 := 10)  dX8_copyRow_9 rfl rfl rfl ?_
        refine Rn.alen (pc1 := 11) (v := nI n)  dX8_copyRow_10 rfl (by first | assumption | exact mset_same | exact mget_ne (by omega) (by assumption)) (fun _ => rfl) rfl ?_
        refine Rn.icmp_ge (pc1 := 14) 26 dX8_copyRow_11 rfl (by decide) (fun c11 => ?_) (fun c11 => ?_)
        · exact absurd c11 (nI_ge (by omega) hn)
        · refine Rn.aload_n (pc1 := 15)  dX8_copyRow_14 rfl rfl rfl ?_
          refine Rn.iload_n (pc1 := 16)  dX8_copyRow_15 rfl rfl rfl ?_
          refine Rn.aload_n (pc1 := 17)  dX8_copyRow_16 rfl rfl rfl ?_
          refine Rn.iload_n (pc1 := 18)  dX8_copyRow_17 rfl rfl rfl ?_
          refine Rn.iaload (pc1 := 19)  dX8_copyRow_18 rfl (by assumption) (vp_nI rfl (by omega) hn) (gI rfl (by omega)) ?_
          refine Rn.iastore (pc1 := 20)  dX8_copyRow_19 rfl mset_same (vp_nI rfl (by omega) hn) (updI rfl (by omega)) ?_
          rw [mset_mset, cpy_upd]
          refine Rn.iinc (pc1 := 23)  dX8_copyRow_20 rfl rfl (nI_1 j) (by decide) rfl rfl ?_
          refine Rn.goto 2 dX8_copyRow_23 (by decide) ?_
          exact ih (j + 1) (by omega)
  refine Rn.iconst (pc1 := 1) (v := nI 0) dX8_copyRow_0 rfl (by decide) ?_
  refine Rn.istore_n (pc1 := 2)  dX8_copyRow_1 rfl rfl (by decide) rfl rfl ?_
  have := loop n 0 (by omega); rw [cpy_0, mset_id hb] at this; exact this
theorem eX8_isKey {i : Int32} : EvA G 0 kX8_isKey [.int i] μ sz 0 0 (rI fun v μ' => v = bI (inB i (nI 0) (nI 11)) ∧ μ' = μ) := by
  refine EvA.of (L := [some (.int i)]) (by decide +kernel) (Nat.le_of_ble_eq_true rfl) rfl ?_
  refine Rn.iload_n (pc1 := 1)  dX8_isKey_0 rfl rfl rfl ?_
  refine Rn.if_lt (pc1 := 4) 14 dX8_isKey_1 rfl (by decide) (fun c1 => ?_) (fun c1 => ?_)
  · rw [inB_lo c1]
    refine Rn.iconst (pc1 := 15) (v := nI 0) dX8_isKey_14 rfl (by decide) ?_
    exact Rn.ireturn dX8_isKey_15 rfl rfl ⟨_, rfl, rfl, rfl⟩
  · refine Rn.iload_n (pc1 := 5)  dX8_isKey_4 rfl rfl rfl ?_
    refine Rn.bipush (pc1 := 7) (v := nI 12) dX8_isKey_5 rfl (by decide) ?_
    refine Rn.icmp_ge (pc1 := 10) 14 dX8_isKey_7 rfl (by decide) (fun c7 => ?_) (fun c7 => ?_)
    · rw [inB_hi (i32_lt12.mp c7)]
      refine Rn.iconst (pc1 := 15) (v := nI 0) dX8_isKey_14 rfl (by decide) ?_
      exact Rn.ireturn dX8_isKey_15 rfl rfl ⟨_, rfl, rfl, rfl⟩
    · rw [inB_t c1 (fun q => c7 (i32_lt12.mpr q))]
      refine Rn.iconst (pc1 := 11) (v := nI 1) dX8_isKey_10 rfl (by decide) ?_
      refine Rn.goto 15 dX8_isKey_11 (by decide) ?_
      exact Rn.ireturn dX8_isKey_15 rfl rfl ⟨_, rfl, rfl, rfl⟩
theorem eX8_isNumber {i : Int32} : EvA G 0 kX8_isNumber [.int i] μ sz 0 0 (rI fun v μ' => v = bI (inB i (nI 0) (nI 999)) ∧ μ' = μ) := by
  refine EvA.of (L := [some (.int i)]) (by decide +kernel) (Nat.le_of_ble_eq_true rfl) rfl ?_
  refine Rn.iload_n (pc1 := 1)  dX8_isNumber_0 rfl rfl rfl ?_
  refine Rn.if_lt (pc1 := 4) 15 dX8_isNumber_1 rfl (by decide) (fun c1 => ?_) (fun c1 => ?_)
  · rw [inB_lo c1]
    refine Rn.iconst (pc1 := 16) (v := nI 0) dX8_isNumber_15 rfl (by decide) ?_
    exact Rn.ireturn dX8_isNumber_16 rfl rfl ⟨_, rfl, rfl, rfl⟩
  · refine Rn.iload_n (pc1 := 5)  dX8_isNumber_4 rfl rfl rfl ?_
    refine Rn.sipush (pc1 := 8) (v := nI 999) dX8_isNumber_5 rfl (by decide) ?_
    refine Rn.icmp_gt (pc1 := 11) 15 dX8_isNumber_8 rfl (by decide) (fun c8 => ?_) (fun c8 => ?_)
    · rw [inB_hi c8]
      refine Rn.iconst (pc1 := 16) (v := nI 0) dX8_isNumber_15 rfl (by decide) ?_
      exact Rn.ireturn dX8_isNumber_16 rfl rfl ⟨_, rfl, rfl, rfl⟩
    · rw [inB_t c1 c8]
      refine Rn.iconst (pc1 := 12) (v := nI 1) dX8_isNumber_11 rfl (by decide) ?_
      refine Rn.goto 16 dX8_isNumber_12 (by decide) ?_
      exact Rn.ireturn dX8_isNumber_16 rfl rfl ⟨_, rfl, rfl, rfl⟩
theorem eX8_isLate {i x : Int32} : EvA G 0 kX8_isLate [.int i, .int x] μ sz 0 0 (rI fun v μ' => v = bI (lateB i x) ∧ μ' = μ) := by
  refine EvA.of (L := [some (.int i), some (.int x)]) (by decide +kernel) (Nat.le_of_ble_eq_true rfl) rfl ?_
  refine Rn.iload_n (pc1 := 1)  dX8_isLate_0 rfl rfl rfl ?_
  refine Rn.if_le (pc1 := 4) 13 dX8_isLate_1 rfl (by decide) (fun c1 => ?_) (fun c1 => ?_)
  · rw [show lateB i x = false by unfold lateB; rw [decide_eq_false (i32_nlt.mpr c1)]; rfl]
    refine Rn.iconst (pc1 := 14) (v := nI 0) dX8_isLate_13 rfl (by decide) ?_
    exact Rn.ireturn dX8_isLate_14 rfl rfl ⟨_, rfl, rfl, rfl⟩
  · refine Rn.iload_n (pc1 := 5)  dX8_isLate_4 rfl rfl rfl ?_
    refine Rn.iload_n (pc1 := 6)  dX8_isLate_5 rfl rfl rfl ?_
    refine Rn.icmp_ge (pc1 := 9) 13 dX8_isLate_6 rfl (by decide) (fun c6 => ?_) (fun c6 => ?_)
    · rw [show lateB i x = false by unfold lateB; rw [decide_eq_false (i32_nlt.mpr c6), Bool.and_false]]
      refine Rn.iconst (pc1 := 14) (v := nI 0) dX8_isLate_13 rfl (by decide) ?_
      exact Rn.ireturn dX8_isLate_14 rfl rfl ⟨_, rfl, rfl, rfl⟩
    · rw [show lateB i x = true by unfold lateB; rw [decide_eq_true (i32_nle.mp c1), decide_eq_true (i32_nle.mp c6)]; rfl]
      refine Rn.iconst (pc1 := 10) (v := nI 1) dX8_isLate_9 rfl (by decide) ?_
      refine Rn.goto 14 dX8_isLate_10 (by decide) ?_
      exact Rn.ireturn dX8_isLate_14 rfl rfl ⟨_, rfl, rfl, rfl⟩
theorem eX8_oneIf {b : Bool} : EvA G 0 kX8_oneIf [.int (bI b)] μ sz 0 0 (rI fun v μ' => v = bI b ∧ μ' = μ) := by
  refine EvA.of (L := [some (.int (bI b))]) (by decide +kernel) (Nat.le_of_ble_eq_true rfl) rfl ?_
  cases b
  · refine Rn.iload_n (pc1 := 1)  dX8_oneIf_0 rfl rfl rfl ?_
    refine Rn.if_eq (pc1 := 4) 8 dX8_oneIf_1 rfl (by decide) (fun c1 => ?_) (fun c1 => ?_)
    · refine Rn.iconst (pc1 := 9) (v := nI 0) dX8_oneIf_8 rfl (by decide) ?_
      exact Rn.ireturn dX8_oneIf_9 rfl rfl ⟨_, rfl, rfl, rfl⟩
    · exact absurd rfl c1
  · refine Rn.iload_n (pc1 := 1)  dX8_oneIf_0 rfl rfl rfl ?_
    refine Rn.if_eq (pc1 := 4) 8 dX8_oneIf_1 rfl (by decide) (fun c1 => ?_) (fun c1 => ?_)
    · exact absurd c1 (by decide)
    · refine Rn.iconst (pc1 := 5) (v := nI 1) dX8_oneIf_4 rfl (by decide) ?_
      refine Rn.goto 9 dX8_oneIf_5 (by decide) ?_
      exact Rn.ireturn dX8_oneIf_9 rfl rfl ⟨_, rfl, rfl, rfl⟩
/-- a Values object and its row: what it holds for the keys -/
def VA (μ : Mm) (a : Nat) (f : Nat → Int32) : Prop := μ a = some (obj 7 [.ref (a + 1)]) ∧ ∃ g, μ (a + 1) = some (ints 12 g) ∧ ∀ j, j < 12 → g j = f j
theorem VA.fr {μ' : Mm} {a x y : Nat} {f : Nat → Int32} (h : VA μ a f) (hF : Fr x y μ μ') (hd : a + 2 ≤ x ∨ y ≤ a) : VA μ' a f := by
  obtain ⟨h1, g, h2, h3⟩ := h
  exact ⟨(hF a (by omega)).trans h1, g, (hF (a + 1) (by omega)).trans h2, h3⟩
theorem VA.to {a : Nat} {f f' : Nat → Int32} (h : VA μ a f) (hf : ∀ j, j < 12 → f j = f' j) : VA μ a f' := by
  obtain ⟨h1, g, h2, h3⟩ := h
  exact ⟨h1, g, h2, fun j hj => (h3 j hj).trans (hf j hj)⟩
theorem eX7_of {a j : Nat} {i : Int32} {f : Nat → Int32} (h : VA μ a f) (hi : i = nI j) (hj : j < 12) : EvA G 1 kX7_of [.ref a, .int i] μ sz 0 0 (rI fun v μ' => v = f j ∧ μ' = μ) := by
  obtain ⟨h1, g, h2, h3⟩ := h
  refine EvA.of (L := [some (.ref a), some (.int i)]) (by decide +kernel) (Nat.le_of_ble_eq_true rfl) rfl ?_
  refine Rn.aload_n (pc1 := 1)  dX7_of_0 rfl rfl rfl ?_
  refine Rn.getfield (pc1 := 4)  dX7_of_1 rfl fX7_9 (by first | assumption | exact mset_same | exact mget_ne (by omega) (by assumption)) rfl ?_
  refine Rn.iload_n (pc1 := 5)  dX7_of_4 rfl rfl rfl ?_
  refine Rn.cN_i (pc1 := 8) (eX8_at h2 hi hj (by decide)) dX7_of_5 rfl nX7_26 oX8_at rfl rfl (Nat.le_of_ble_eq_true rfl) (by decide) (by decide) (fun v5 μ5 h5 => ?_)
  obtain ⟨rfl, rfl⟩ := h5
  exact Rn.ireturn dX7_of_8 rfl rfl ⟨_, rfl, h3 j hj, rfl⟩
theorem eX7_change {a j : Nat} {i x : Int32} {f : Nat → Int32} (h : VA μ a f) (hi : i = nI j) (hj : j < 12) : EvA G 1 kX7_change [.ref a, .int i, .int x] μ sz 0 0 (rV fun μ' => VA μ' a (upd f j x) ∧ Fr a (a + 2) μ μ') := by
  obtain ⟨h1, g, h2, h3⟩ := h
  refine EvA.of (L := [some (.ref a), some (.int i), some (.int x)]) (by decide +kernel) (Nat.le_of_ble_eq_true rfl) rfl ?_
  refine Rn.aload_n (pc1 := 1)  dX7_change_0 rfl rfl rfl ?_
  refine Rn.getfield (pc1 := 4)  dX7_change_1 rfl fX7_9 (by first | assumption | exact mset_same | exact mget_ne (by omega) (by assumption)) rfl ?_
  refine Rn.iload_n (pc1 := 5)  dX7_change_4 rfl rfl rfl ?_
  refine Rn.iload_n (pc1 := 6)  dX7_change_5 rfl rfl rfl ?_
  refine Rn.cN_v (pc1 := 9) (eX8_layAt h2 hi hj (by decide)) dX7_change_6 rfl nX7_18 oX8_layAt rfl rfl (Nat.le_of_ble_eq_true rfl) (by decide) (by decide) (fun μ6 h6 => ?_)
  subst h6
  refine Rn.vreturn dX7_change_9 rfl ⟨rfl, ⟨mget_ne (by omega) h1, _, mset_same, fun q hq => ?_⟩, Fr.set (by omega) (by omega)⟩
  unfold upd; rw [h3 q hq]
theorem eX7_copyFrom {a b : Nat} {f f' : Nat → Int32} (h : VA μ a f) (hb : VA μ b f') (hd : a + 2 ≤ b ∨ b + 2 ≤ a) : EvA G 1 kX7_copyFrom [.ref a, .ref b] μ sz 0 0 (rV fun μ' => VA μ' a f' ∧ Fr a (a + 2) μ μ') := by
  obtain ⟨h1, g, h2, h3⟩ := h
  obtain ⟨k1, g', k2, k3⟩ := hb
  refine EvA.of (L := [some (.ref a), some (.ref b)]) (by decide +kernel) (Nat.le_of_ble_eq_true rfl) rfl ?_
  refine Rn.aload_n (pc1 := 1)  dX7_copyFrom_0 rfl rfl rfl ?_
  refine Rn.getfield (pc1 := 4)  dX7_copyFrom_1 rfl fX7_9 (by first | assumption | exact mset_same | exact mget_ne (by omega) (by assumption)) rfl ?_
  refine Rn.aload_n (pc1 := 5)  dX7_copyFrom_4 rfl rfl rfl ?_
  refine Rn.getfield (pc1 := 8)  dX7_copyFrom_5 rfl fX7_9 (by first | assumption | exact mset_same | exact mget_ne (by omega) (by assumption)) rfl ?_
  refine Rn.cN_v (pc1 := 11) (eX8_copyRow k2 h2 (by omega) (by decide)) dX7_copyFrom_8 rfl nX7_22 oX8_copyRow rfl rfl (Nat.le_of_ble_eq_true rfl) (by decide) (by decide) (fun μ8 h8 => ?_)
  subst h8
  exact Rn.vreturn dX7_copyFrom_11 rfl ⟨rfl, ⟨mget_ne (by omega) h1, _, mset_same, fun q hq => (cpy_lt hq).trans (k3 q hq)⟩, Fr.set (by omega) (by omega)⟩
theorem eX7_clear {a : Nat} {f : Nat → Int32} (h : VA μ a f) : EvA G 1 kX7_clear [.ref a] μ sz 0 0 (rV fun μ' => VA μ' a (fun _ => -6) ∧ Fr a (a + 2) μ μ') := by
  obtain ⟨h1, g, h2, h3⟩ := h
  refine EvA.of (L := [some (.ref a), none]) (by decide +kernel) (Nat.le_of_ble_eq_true rfl) rfl ?_
  have loop : ∀ (m j : Nat), j + m = 12 → Rn G 1 kX7_clear 2 [some (.ref a), some (.int (nI j))] [] (mset μ (a + 1) (ints 12 (cpy j (fun _ => -6) g))) sz 0 0 (rV fun μ' => VA μ' a (fun _ => -6) ∧ Fr a (a + 2) μ μ') := by
    intro m
    induction m with
    | zero =>
      intro j hj
      obtain rfl : j = 12 := by omega
      refine Rn.iload_n (pc1 := 3)  dX7_clear_2 rfl rfl rfl ?_
      refine Rn.bipush (pc1 := 5) (v := nI 12) dX7_clear_3 rfl (by decide) ?_
      refine Rn.icmp_ge (pc1 := 8) 24 dX7_clear_5 rfl (by decide) (fun c5 => ?_) (fun c5 => ?_)
      · exact Rn.vreturn dX7_clear_24 rfl ⟨rfl, ⟨mget_ne (by omega) h1, _, mset_same, fun q hq => cpy_lt hq⟩, Fr.set (by omega) (by omega)⟩
      · exact absurd (nI_le (Nat.le_refl 12) (by decide)) c5
    | succ m ih =>
      intro j hj
      have h1' : mset μ (a + 1) (ints 12 (cpy j (fun _ => -6) g)) a = some (obj 7 [.ref (a + 1)]) := mget_ne (by omega) h1
      refine Rn.iload_n (pc1 := 3)  dX7_clear_2 rfl rfl rfl ?_
      refine Rn.bipush (pc1 := 5) (v := nI 12) dX7_clear_3 rfl (by decide) ?_
      refine Rn.icmp_ge (pc1 := 8) 24 dX7_clear_5 rfl (by decide) (fun c5 => ?_) (fun c5 => ?_)
      · exact absurd c5 (nI_ge (by omega) (by decide))
      · refine Rn.aload_n (pc1 := 9)  dX7_clear_8 rfl rfl rfl ?_
        refine Rn.getfield (pc1 := 12)  dX7_clear_9 rfl fX7_9 (by first | assumption | exact mset_same | exact mget_ne (by omega) (by assumption)) rfl ?_
        refine Rn.iload_n (pc1 := 13)  dX7_clear_12 rfl rfl rfl ?_
        refine Rn.bipush (pc1 := 15) (v := (-6)) dX7_clear_13 rfl (by decide) ?_
        refine Rn.cN_v (pc1 := 18) (eX8_layAt mset_same rfl (by omega) (by decide)) dX7_clear_15 rfl nX7_18 oX8_layAt rfl rfl (Nat.le_of_ble_eq_true rfl) (by decide) (by decide) (fun μ15 h15 => ?_)
        subst h15
        rw [mset_mset, cpy_upd (f := fun _ => -6)]
        refine Rn.iinc (pc1 := 21)  dX7_clear_18 rfl rfl (nI_1 j) (by decide) rfl rfl ?_
        refine Rn.goto 2 dX7_clear_21 (by decide) ?_
        exact ih (j + 1) (by omega)
  refine Rn.iconst (pc1 := 1) (v := nI 0) dX7_clear_0 rfl (by decide) ?_
  refine Rn.istore_n (pc1 := 2)  dX7_clear_1 rfl rfl (by decide) rfl rfl ?_
  have := loop 12 0 (by omega); rw [cpy_0, mset_id h2] at this; exact this
def cntN (f : Nat → Int32) : Nat → Nat
  | 0 => 0
  | n + 1 => cntN f n + if f n = -6 then 0 else 1
theorem cntN_le (f : Nat → Int32) : ∀ n, cntN f n ≤ n
  | 0 => Nat.le_refl 0
  | n + 1 => by have := cntN_le f n; unfold cntN; split <;> omega
theorem cntN_congr {f g : Nat → Int32} : ∀ n, (∀ j, j < n → f j = g j) → cntN f n = cntN g n
  | 0, _ => rfl
  | n + 1, h => by unfold cntN; rw [cntN_congr n (fun j hj => h j (by omega)), h n (by omega)]
def difN (f g : Nat → Int32) : Nat → Int32
  | 0 => 0
  | n + 1 => if f n = g n then difN f g n else difN f g n ||| (nI 1 <<< (nI n &&& 31))
theorem difN_congr {f g f' g' : Nat → Int32} : ∀ n, (∀ j, j < n → f j = f' j) → (∀ j, j < n → g j = g' j) → difN f g n = difN f' g' n
  | 0, _, _ => rfl
  | n + 1, h, k => by unfold difN; rw [difN_congr n (fun j hj => h j (by omega)) (fun j hj => k j (by omega)), h n (by omega), k n (by omega)]
theorem eX7_howMany {a : Nat} {f : Nat → Int32} (h : VA μ a f) : EvA G 2 kX7_howMany [.ref a] μ sz 0 0 (rI fun v μ' => v = nI (cntN f 12) ∧ μ' = μ) := by
  refine EvA.of (L := [some (.ref a), none, none]) (by decide +kernel) (Nat.le_of_ble_eq_true rfl) rfl ?_
  have h1 := h.1
  have loop : ∀ (m j : Nat), j + m = 12 → Rn G 2 kX7_howMany 4 [some (.ref a), some (.int (nI (cntN f j))), some (.int (nI j))] [] μ sz 0 0 (rI fun v μ' => v = nI (cntN f 12) ∧ μ' = μ) := by
    intro m
    induction m with
    | zero =>
      intro j hj
      obtain rfl : j = 12 := by omega
      refine Rn.iload_n (pc1 := 5)  dX7_howMany_4 rfl rfl rfl ?_
      refine Rn.bipush (pc1 := 7) (v := nI 12) dX7_howMany_5 rfl (by decide) ?_
      refine Rn.icmp_ge (pc1 := 10) 29 dX7_howMany_7 rfl (by decide) (fun c7 => ?_) (fun c7 => ?_)
      · refine Rn.iload_n (pc1 := 30)  dX7_howMany_29 rfl rfl rfl ?_
        exact Rn.ireturn dX7_howMany_30 rfl rfl ⟨_, rfl, rfl, rfl⟩
      · exact absurd (nI_le (Nat.le_refl 12) (by decide)) c7
    | succ m ih =>
      intro j hj
      refine Rn.iload_n (pc1 := 5)  dX7_howMany_4 rfl rfl rfl ?_
      refine Rn.bipush (pc1 := 7) (v := nI 12) dX7_howMany_5 rfl (by decide) ?_
      refine Rn.icmp_ge (pc1 := 10) 29 dX7_howMany_7 rfl (by decide) (fun c7 => ?_) (fun c7 => ?_)
      · exact absurd c7 (nI_ge (by omega) (by decide))
      · refine Rn.aload_n (pc1 := 11)  dX7_howMany_10 rfl rfl rfl ?_
        refine Rn.iload_n (pc1 := 12)  dX7_howMany_11 rfl rfl rfl ?_
        refine Rn.cV_i (pc1 := 15) (eX7_of h rfl (show j < 12 by omega)) dX7_howMany_12 rfl qX7_30 oX7_of (by first | assumption | exact mset_same | exact mget_ne (by omega) (by assumption)) rfl rfl rfl rfl (Nat.le_of_ble_eq_true rfl) (by decide) (by decide) (fun v12 μ12 h12 => ?_)
        obtain ⟨rfl, rfl⟩ := h12
        refine Rn.bipush (pc1 := 17) (v := (-6)) dX7_howMany_15 rfl (by decide) ?_
        refine Rn.icmp_eq (pc1 := 20) 23 dX7_howMany_17 rfl (by decide) (fun c17 => ?_) (fun c17 => ?_)
        · have e : cntN f (j + 1) = cntN f j := by show cntN f j + (if f j = -6 then 0 else 1) = _; rw [if_pos c17, Nat.add_zero]
          refine Rn.iinc (pc1 := 26)  dX7_howMany_23 rfl rfl (nI_1 j) (by decide) rfl rfl ?_
          refine Rn.goto 4 dX7_howMany_26 (by decide) ?_
          have := ih (j + 1) (by omega); rw [e] at this; exact this
        · have e : cntN f (j + 1) = cntN f j + 1 := by show cntN f j + (if f j = -6 then 0 else 1) = _; rw [if_neg c17]
          refine Rn.iinc (pc1 := 23)  dX7_howMany_20 rfl rfl (nI_1 _) (by decide) rfl rfl ?_
          refine Rn.iinc (pc1 := 26)  dX7_howMany_23 rfl rfl (nI_1 j) (by decide) rfl rfl ?_
          refine Rn.goto 4 dX7_howMany_26 (by decide) ?_
          have := ih (j + 1) (by omega); rw [e] at this; exact this
  refine Rn.iconst (pc1 := 1) (v := nI 0) dX7_howMany_0 rfl (by decide) ?_
  refine Rn.istore_n (pc1 := 2)  dX7_howMany_1 rfl rfl (by decide) rfl rfl ?_
  refine Rn.iconst (pc1 := 3) (v := nI 0) dX7_howMany_2 rfl (by decide) ?_
  refine Rn.istore_n (pc1 := 4)  dX7_howMany_3 rfl rfl (by decide) rfl rfl ?_
  exact loop 12 0 (by omega)
theorem eX7_differingFrom {a b : Nat} {f g : Nat → Int32} (h : VA μ a f) (hb : VA μ b g) : EvA G 2 kX7_differingFrom [.ref a, .ref b] μ sz 0 0 (rI fun v μ' => v = difN f g 12 ∧ μ' = μ) := by
  refine EvA.of (L := [some (.ref a), some (.ref b), none, none]) (by decide +kernel) (Nat.le_of_ble_eq_true rfl) rfl ?_
  have h1 := h.1
  have hb1 := hb.1
  have loop : ∀ (m j : Nat), j + m = 12 → Rn G 2 kX7_differingFrom 4 [some (.ref a), some (.ref b), some (.int (difN f g j)), some (.int (nI j))] [] μ sz 0 0 (rI fun v μ' => v = difN f g 12 ∧ μ' = μ) := by
    intro m
    induction m with
    | zero =>
      intro j hj
      obtain rfl : j = 12 := by omega
      refine Rn.iload_n (pc1 := 5)  dX7_differingFrom_4 rfl rfl rfl ?_
      refine Rn.bipush (pc1 := 7) (v := nI 12) dX7_differingFrom_5 rfl (by decide) ?_
      refine Rn.icmp_ge (pc1 := 10) 35 dX7_differingFrom_7 rfl (by decide) (fun c7 => ?_) (fun c7 => ?_)
      · refine Rn.iload_n (pc1 := 36)  dX7_differingFrom_35 rfl rfl rfl ?_
        exact Rn.ireturn dX7_differingFrom_36 rfl rfl ⟨_, rfl, rfl, rfl⟩
      · exact absurd (nI_le (Nat.le_refl 12) (by decide)) c7
    | succ m ih =>
      intro j hj
      refine Rn.iload_n (pc1 := 5)  dX7_differingFrom_4 rfl rfl rfl ?_
      refine Rn.bipush (pc1 := 7) (v := nI 12) dX7_differingFrom_5 rfl (by decide) ?_
      refine Rn.icmp_ge (pc1 := 10) 35 dX7_differingFrom_7 rfl (by decide) (fun c7 => ?_) (fun c7 => ?_)
      · exact absurd c7 (nI_ge (by omega) (by decide))
      · refine Rn.aload_n (pc1 := 11)  dX7_differingFrom_10 rfl rfl rfl ?_
        refine Rn.iload_n (pc1 := 12)  dX7_differingFrom_11 rfl rfl rfl ?_
        refine Rn.cV_i (pc1 := 15) (eX7_of h rfl (show j < 12 by omega)) dX7_differingFrom_12 rfl qX7_30 oX7_of (by first | assumption | exact mset_same | exact mget_ne (by omega) (by assumption)) rfl rfl rfl rfl (Nat.le_of_ble_eq_true rfl) (by decide) (by decide) (fun v12 μ12 h12 => ?_)
        obtain ⟨rfl, rfl⟩ := h12
        refine Rn.aload_n (pc1 := 16)  dX7_differingFrom_15 rfl rfl rfl ?_
        refine Rn.iload_n (pc1 := 17)  dX7_differingFrom_16 rfl rfl rfl ?_
        refine Rn.cV_i (pc1 := 20) (eX7_of hb rfl (show j < 12 by omega)) dX7_differingFrom_17 rfl qX7_30 oX7_of (by first | assumption | exact mset_same | exact mget_ne (by omega) (by assumption)) rfl rfl rfl rfl (Nat.le_of_ble_eq_true rfl) (by decide) (by decide) (fun v17 μ17 h17 => ?_)
        obtain ⟨rfl, rfl⟩ := h17
        refine Rn.icmp_eq (pc1 := 23) 29 dX7_differingFrom_20 rfl (by decide) (fun c20 => ?_) (fun c20 => ?_)
        · have e : difN f g (j + 1) = difN f g j := if_pos c20
          refine Rn.iinc (pc1 := 32)  dX7_differingFrom_29 rfl rfl (nI_1 j) (by decide) rfl rfl ?_
          refine Rn.goto 4 dX7_differingFrom_32 (by decide) ?_
          have := ih (j + 1) (by omega); rw [e] at this; exact this
        · have e : difN f g (j + 1) = difN f g j ||| (nI 1 <<< (nI j &&& 31)) := if_neg c20
          refine Rn.iload_n (pc1 := 24)  dX7_differingFrom_23 rfl rfl rfl ?_
          refine Rn.iconst (pc1 := 25) (v := nI 1) dX7_differingFrom_24 rfl (by decide) ?_
          refine Rn.iload_n (pc1 := 26)  dX7_differingFrom_25 rfl rfl rfl ?_
          refine Rn.ishl (pc1 := 27)  dX7_differingFrom_26 rfl rfl ?_
          refine Rn.ior (pc1 := 28)  dX7_differingFrom_27 rfl rfl ?_
          refine Rn.istore_n (pc1 := 29)  dX7_differingFrom_28 rfl rfl (by decide) rfl rfl ?_
          refine Rn.iinc (pc1 := 32)  dX7_differingFrom_29 rfl rfl (nI_1 j) (by decide) rfl rfl ?_
          refine Rn.goto 4 dX7_differingFrom_32 (by decide) ?_
          have := ih (j + 1) (by omega); rw [e] at this; exact this
  refine Rn.iconst (pc1 := 1) (v := nI 0) dX7_differingFrom_0 rfl (by decide) ?_
  refine Rn.istore_n (pc1 := 2)  dX7_differingFrom_1 rfl rfl (by decide) rfl rfl ?_
  refine Rn.iconst (pc1 := 3) (v := nI 0) dX7_differingFrom_2 rfl (by decide) ?_
  refine Rn.istore_n (pc1 := 4)  dX7_differingFrom_3 rfl rfl (by decide) rfl rfl ?_
  exact loop 12 0 (by omega)
end LEAF
