/-! ===== Feed: its object and its four rows ===== -/
def FB (μ : Mm) (a h : Nat) (nx fl gn : Int32) (g0 g1 g2 g3 : Nat → Int32) : Prop := μ a = some (obj 0 [.ref (a + 1), .ref (a + 2), .ref (a + 3), .ref (a + 4), .int (nI h), .int nx, .int fl, .int gn]) ∧ μ (a + 1) = some (ints 60 g0) ∧ μ (a + 2) = some (ints 60 g1) ∧ μ (a + 3) = some (ints 60 g2) ∧ μ (a + 4) = some (ints 60 g3)
section FEEDM
variable {μ : Mm} {a h : Nat} {nx fl gn : Int32} {g0 g1 g2 g3 : Nat → Int32}
theorem FB.fr {μ' : Mm} {x y : Nat} (F : FB μ a h nx fl gn g0 g1 g2 g3) (hF : Fr x y μ μ') (hd : a + 5 ≤ x ∨ y ≤ a) : FB μ' a h nx fl gn g0 g1 g2 g3 := ⟨(hF a (by omega)).trans F.1, (hF _ (by omega)).trans F.2.1, (hF _ (by omega)).trans F.2.2.1, (hF _ (by omega)).trans F.2.2.2.1, (hF _ (by omega)).trans F.2.2.2.2⟩
theorem FB.set0 (F : FB μ a h nx fl gn g0 g1 g2 g3) (g : Nat → Int32) : FB (mset μ (a + 1) (ints 60 g)) a h nx fl gn g g1 g2 g3 := ⟨mget_ne (by omega) F.1, mset_same, mget_ne (by omega) F.2.2.1, mget_ne (by omega) F.2.2.2.1, mget_ne (by omega) F.2.2.2.2⟩
theorem FB.set1 (F : FB μ a h nx fl gn g0 g1 g2 g3) (g : Nat → Int32) : FB (mset μ (a + 2) (ints 60 g)) a h nx fl gn g0 g g2 g3 := ⟨mget_ne (by omega) F.1, mget_ne (by omega) F.2.1, mset_same, mget_ne (by omega) F.2.2.2.1, mget_ne (by omega) F.2.2.2.2⟩
theorem FB.set2 (F : FB μ a h nx fl gn g0 g1 g2 g3) (g : Nat → Int32) : FB (mset μ (a + 3) (ints 60 g)) a h nx fl gn g0 g1 g g3 := ⟨mget_ne (by omega) F.1, mget_ne (by omega) F.2.1, mget_ne (by omega) F.2.2.1, mset_same, mget_ne (by omega) F.2.2.2.2⟩
theorem FB.set3 (F : FB μ a h nx fl gn g0 g1 g2 g3) (g : Nat → Int32) : FB (mset μ (a + 4) (ints 60 g)) a h nx fl gn g0 g1 g2 g := ⟨mget_ne (by omega) F.1, mget_ne (by omega) F.2.1, mget_ne (by omega) F.2.2.1, mget_ne (by omega) F.2.2.2.1, mset_same⟩
theorem FB.setO (F : FB μ a h nx fl gn g0 g1 g2 g3) (h' : Nat) (nx' fl' gn' : Int32) : FB (mset μ a (obj 0 [.ref (a + 1), .ref (a + 2), .ref (a + 3), .ref (a + 4), .int (nI h'), .int nx', .int fl', .int gn'])) a h' nx' fl' gn' g0 g1 g2 g3 := ⟨mset_same, mget_ne (by omega) F.2.1, mget_ne (by omega) F.2.2.1, mget_ne (by omega) F.2.2.2.1, mget_ne (by omega) F.2.2.2.2⟩
theorem Fr.set_ {μ0 : Mm} {x y q : Nat} {c : Cl} (hF : Fr x y μ0 μ) (h1 : x ≤ q) (h2 : q < y) : Fr x y μ0 (mset μ q c) := hF.trans (Fr.set h1 h2)
end FEEDM
-- what the questions answer
def lastB (g1 : Nat → Int32) (i : Nat) : Nat → Bool
  | 0 => true
  | n + 1 => lastB g1 i n && !(decide (i < n) && decide (g1 n = g1 i))
theorem lastB_iff {g1 : Nat → Int32} {i : Nat} : ∀ {n : Nat}, lastB g1 i n = true ↔ ∀ j, i < j → j < n → ¬ g1 j = g1 i
  | 0 => ⟨fun _ j _ h => by omega, fun _ => rfl⟩
  | n + 1 => by
    show (lastB g1 i n && !(decide (i < n) && decide (g1 n = g1 i))) = true ↔ _
    rw [Bool.and_eq_true, lastB_iff (n := n)]
    constructor
    · rintro ⟨h1, h2⟩ j hj hn
      by_cases e : j = n
      · subst e
        intro e2
        rw [decide_eq_true hj, decide_eq_true e2] at h2
        cases h2
      · exact h1 j hj (by omega)
    · intro h1
      refine ⟨fun j hj hn => h1 j hj (by omega), ?_⟩
      by_cases e : i < n
      · rw [decide_eq_false (h1 n e (by omega)), Bool.and_false]; rfl
      · rw [decide_eq_false e]; rfl
theorem bool_eq_of {b c : Bool} (h : b = true ↔ c = true) : b = c := by cases b <;> cases c <;> simp at h ⊢
theorem lastB_congr {g g' : Nat → Int32} {i n : Nat} (h : ∀ j, i ≤ j → j < n → g j = g' j) (hi : i < n) : lastB g i n = lastB g' i n := bool_eq_of (by
  rw [lastB_iff, lastB_iff]
  constructor
  · intro q j h1 h2; rw [← h j (by omega) h2, ← h i (by omega) hi]; exact q j h1 h2
  · intro q j h1 h2; rw [h j (by omega) h2, h i (by omega) hi]; exact q j h1 h2)
def closB (x nx size : Int32) : Bool := !decide (x / size = nx / size)
def oldB (v m grace minute : Int32) : Bool := decide (v = -6) && decide (grace < minute - m)
def goB (h : Nat) (nx size grace minute : Int32) (g0 g1 g2 g3 : Nat → Int32) (i : Nat) : Bool := closB (g0 i) nx size && (!lastB g1 i h || oldB (g2 i) (g3 i) grace minute)
theorem goB_congr {h i : Nat} {nx size grace minute : Int32} {g0 g1 g2 g3 k0 k1 k2 k3 : Nat → Int32} (q : ∀ j, i ≤ j → j < h → g0 j = k0 j ∧ g1 j = k1 j ∧ g2 j = k2 j ∧ g3 j = k3 j) (hi : i < h) : goB h nx size grace minute g0 g1 g2 g3 i = goB h nx size grace minute k0 k1 k2 k3 i := by
  unfold goB
  obtain ⟨e0, e1, e2, e3⟩ := q i (Nat.le_refl i) hi
  rw [lastB_congr (fun j h1 h2 => (q j h1 h2).2.1) hi, e0, e2, e3]
section FEED
variable {G : GG} {μ : Mm} {sz : Nat} {a h : Nat} {nx fl gn : Int32} {g0 g1 g2 g3 : Nat → Int32}
theorem eX0_numberAt {j : Nat} {i : Int32} (F : FB μ a h nx fl gn g0 g1 g2 g3) (hi : i = nI j) (hj : j < 60) : EvA G 1 kX0_numberAt [.ref a, .int i] μ sz 0 0 (rI fun v μ' => v = g0 j ∧ μ' = μ) := by
  have hO := F.1
  refine EvA.of (L := [some (.ref a), some (.int i)]) (by decide +kernel) (Nat.le_of_ble_eq_true rfl) rfl ?_
  refine Rn.aload_n (pc1 := 1)  dX0_numberAt_0 rfl rfl rfl ?_
  refine Rn.getfield (pc1 := 4)  dX0_numberAt_1 rfl fX0_9 (by first | assumption | exact mset_same) rfl ?_
  refine Rn.iload_n (pc1 := 5)  dX0_numberAt_4 rfl rfl rfl ?_
  refine Rn.cN_i (pc1 := 8) (eX8_at F.2.1 hi hj (by decide)) dX0_numberAt_5 rfl nX0_41 oX8_at rfl rfl (Nat.le_of_ble_eq_true rfl) (by decide) (by decide) (fun v5 μ5 h5 => ?_)
  obtain ⟨rfl, rfl⟩ := h5
  exact Rn.ireturn dX0_numberAt_8 rfl rfl ⟨_, rfl, rfl, rfl⟩
theorem eX0_keyAt {j : Nat} {i : Int32} (F : FB μ a h nx fl gn g0 g1 g2 g3) (hi : i = nI j) (hj : j < 60) : EvA G 1 kX0_keyAt [.ref a, .int i] μ sz 0 0 (rI fun v μ' => v = g1 j ∧ μ' = μ) := by
  have hO := F.1
  refine EvA.of (L := [some (.ref a), some (.int i)]) (by decide +kernel) (Nat.le_of_ble_eq_true rfl) rfl ?_
  refine Rn.aload_n (pc1 := 1)  dX0_keyAt_0 rfl rfl rfl ?_
  refine Rn.getfield (pc1 := 4)  dX0_keyAt_1 rfl fX0_15 (by first | assumption | exact mset_same) rfl ?_
  refine Rn.iload_n (pc1 := 5)  dX0_keyAt_4 rfl rfl rfl ?_
  refine Rn.cN_i (pc1 := 8) (eX8_at F.2.2.1 hi hj (by decide)) dX0_keyAt_5 rfl nX0_41 oX8_at rfl rfl (Nat.le_of_ble_eq_true rfl) (by decide) (by decide) (fun v5 μ5 h5 => ?_)
  obtain ⟨rfl, rfl⟩ := h5
  exact Rn.ireturn dX0_keyAt_8 rfl rfl ⟨_, rfl, rfl, rfl⟩
theorem eX0_valueAt {j : Nat} {i : Int32} (F : FB μ a h nx fl gn g0 g1 g2 g3) (hi : i = nI j) (hj : j < 60) : EvA G 1 kX0_valueAt [.ref a, .int i] μ sz 0 0 (rI fun v μ' => v = g2 j ∧ μ' = μ) := by
  have hO := F.1
  refine EvA.of (L := [some (.ref a), some (.int i)]) (by decide +kernel) (Nat.le_of_ble_eq_true rfl) rfl ?_
  refine Rn.aload_n (pc1 := 1)  dX0_valueAt_0 rfl rfl rfl ?_
  refine Rn.getfield (pc1 := 4)  dX0_valueAt_1 rfl fX0_18 (by first | assumption | exact mset_same) rfl ?_
  refine Rn.iload_n (pc1 := 5)  dX0_valueAt_4 rfl rfl rfl ?_
  refine Rn.cN_i (pc1 := 8) (eX8_at F.2.2.2.1 hi hj (by decide)) dX0_valueAt_5 rfl nX0_41 oX8_at rfl rfl (Nat.le_of_ble_eq_true rfl) (by decide) (by decide) (fun v5 μ5 h5 => ?_)
  obtain ⟨rfl, rfl⟩ := h5
  exact Rn.ireturn dX0_valueAt_8 rfl rfl ⟨_, rfl, rfl, rfl⟩
theorem eX0_minuteAt {j : Nat} {i : Int32} (F : FB μ a h nx fl gn g0 g1 g2 g3) (hi : i = nI j) (hj : j < 60) : EvA G 1 kX0_minuteAt [.ref a, .int i] μ sz 0 0 (rI fun v μ' => v = g3 j ∧ μ' = μ) := by
  have hO := F.1
  refine EvA.of (L := [some (.ref a), some (.int i)]) (by decide +kernel) (Nat.le_of_ble_eq_true rfl) rfl ?_
  refine Rn.aload_n (pc1 := 1)  dX0_minuteAt_0 rfl rfl rfl ?_
  refine Rn.getfield (pc1 := 4)  dX0_minuteAt_1 rfl fX0_21 (by first | assumption | exact mset_same) rfl ?_
  refine Rn.iload_n (pc1 := 5)  dX0_minuteAt_4 rfl rfl rfl ?_
  refine Rn.cN_i (pc1 := 8) (eX8_at F.2.2.2.2 hi hj (by decide)) dX0_minuteAt_5 rfl nX0_41 oX8_at rfl rfl (Nat.le_of_ble_eq_true rfl) (by decide) (by decide) (fun v5 μ5 h5 => ?_)
  obtain ⟨rfl, rfl⟩ := h5
  exact Rn.ireturn dX0_minuteAt_8 rfl rfl ⟨_, rfl, rfl, rfl⟩
theorem eX0_isFull (F : FB μ a h nx fl gn g0 g1 g2 g3) (hh : h ≤ 60) : EvA G 0 kX0_isFull [.ref a] μ sz 0 0 (rI fun v μ' => v = bI (decide (h = 60)) ∧ μ' = μ) := by
  have hO := F.1
  refine EvA.of (L := [some (.ref a)]) (by decide +kernel) (Nat.le_of_ble_eq_true rfl) rfl ?_
  refine Rn.aload_n (pc1 := 1)  dX0_isFull_0 rfl rfl rfl ?_
  refine Rn.getfield (pc1 := 4)  dX0_isFull_1 rfl fX0_24 (by first | assumption | exact mset_same) rfl ?_
  refine Rn.bipush (pc1 := 6) (v := nI 60) dX0_isFull_4 rfl (by decide) ?_
  refine Rn.icmp_lt (pc1 := 9) 13 dX0_isFull_6 rfl (by decide) (fun c6 => ?_) (fun c6 => ?_)
  · rw [decide_eq_false (show ¬ h = 60 by intro e; subst e; exact nI_nlt (Nat.le_refl 60) (by decide) c6)]
    refine Rn.iconst (pc1 := 14) (v := nI 0) dX0_isFull_13 rfl (by decide) ?_
    exact Rn.ireturn dX0_isFull_14 rfl rfl ⟨_, rfl, rfl, rfl⟩
  · rw [decide_eq_true (show h = 60 by have := (nI_ltI (a := h) (b := 60) (by omega) (by decide)).not.mp c6; omega)]
    refine Rn.iconst (pc1 := 10) (v := nI 1) dX0_isFull_9 rfl (by decide) ?_
    refine Rn.goto 14 dX0_isFull_10 (by decide) ?_
    exact Rn.ireturn dX0_isFull_14 rfl rfl ⟨_, rfl, rfl, rfl⟩
theorem eX0_layEntry {j : Nat} {i x0 x1 x2 x3 : Int32} (F : FB μ a h nx fl gn g0 g1 g2 g3) (hi : i = nI j) (hj : j < 60) : EvA G 1 kX0_layEntry [.ref a, .int i, .int x0, .int x1, .int x2, .int x3] μ sz 0 0 (rV fun μ' => FB μ' a h nx fl gn (upd g0 j x0) (upd g1 j x1) (upd g2 j x2) (upd g3 j x3) ∧ Fr a (a + 5) μ μ') := by
  have hO := F.1
  refine EvA.of (L := [some (.ref a), some (.int i), some (.int x0), some (.int x1), some (.int x2), some (.int x3)]) (by decide +kernel) (Nat.le_of_ble_eq_true rfl) rfl ?_
  refine Rn.aload_n (pc1 := 1)  dX0_layEntry_0 rfl rfl rfl ?_
  refine Rn.getfield (pc1 := 4)  dX0_layEntry_1 rfl fX0_9 (by first | assumption | exact mset_same) rfl ?_
  refine Rn.iload_n (pc1 := 5)  dX0_layEntry_4 rfl rfl rfl ?_
  refine Rn.iload_n (pc1 := 6)  dX0_layEntry_5 rfl rfl rfl ?_
  refine Rn.cN_v (pc1 := 9) (eX8_layAt F.2.1 hi hj (by decide)) dX0_layEntry_6 rfl nX0_49 oX8_layAt rfl rfl (Nat.le_of_ble_eq_true rfl) (by decide) (by decide) (fun μ6 h6 => ?_)
  subst h6
  have F1 := F.set0 (upd g0 j x0)
  have O1 := F1.1
  refine Rn.aload_n (pc1 := 10)  dX0_layEntry_9 rfl rfl rfl ?_
  refine Rn.getfield (pc1 := 13)  dX0_layEntry_10 rfl fX0_15 (by first | assumption | exact mset_same) rfl ?_
  refine Rn.iload_n (pc1 := 14)  dX0_layEntry_13 rfl rfl rfl ?_
  refine Rn.iload_n (pc1 := 15)  dX0_layEntry_14 rfl rfl rfl ?_
  refine Rn.cN_v (pc1 := 18) (eX8_layAt F1.2.2.1 hi hj (by decide)) dX0_layEntry_15 rfl nX0_49 oX8_layAt rfl rfl (Nat.le_of_ble_eq_true rfl) (by decide) (by decide) (fun μ15 h15 => ?_)
  subst h15
  have F2 := F1.set1 (upd g1 j x1)
  have O2 := F2.1
  refine Rn.aload_n (pc1 := 19)  dX0_layEntry_18 rfl rfl rfl ?_
  refine Rn.getfield (pc1 := 22)  dX0_layEntry_19 rfl fX0_18 (by first | assumption | exact mset_same) rfl ?_
  refine Rn.iload_n (pc1 := 23)  dX0_layEntry_22 rfl rfl rfl ?_
  refine Rn.iload (pc1 := 25)  dX0_layEntry_23 rfl rfl ?_
  refine Rn.cN_v (pc1 := 28) (eX8_layAt F2.2.2.2.1 hi hj (by decide)) dX0_layEntry_25 rfl nX0_49 oX8_layAt rfl rfl (Nat.le_of_ble_eq_true rfl) (by decide) (by decide) (fun μ25 h25 => ?_)
  subst h25
  have F3 := F2.set2 (upd g2 j x2)
  have O3 := F3.1
  refine Rn.aload_n (pc1 := 29)  dX0_layEntry_28 rfl rfl rfl ?_
  refine Rn.getfield (pc1 := 32)  dX0_layEntry_29 rfl fX0_21 (by first | assumption | exact mset_same) rfl ?_
  refine Rn.iload_n (pc1 := 33)  dX0_layEntry_32 rfl rfl rfl ?_
  refine Rn.iload (pc1 := 35)  dX0_layEntry_33 rfl rfl ?_
  refine Rn.cN_v (pc1 := 38) (eX8_layAt F3.2.2.2.2 hi hj (by decide)) dX0_layEntry_35 rfl nX0_49 oX8_layAt rfl rfl (Nat.le_of_ble_eq_true rfl) (by decide) (by decide) (fun μ35 h35 => ?_)
  subst h35
  have F4 := F3.set3 (upd g3 j x3)
  exact Rn.vreturn dX0_layEntry_38 rfl ⟨rfl, F4, (((Fr.set (by omega) (by omega)).set_ (by omega) (by omega)).set_ (by omega) (by omega)).set_ (by omega) (by omega)⟩
theorem eX0_append {k v m : Int32} (F : FB μ a h nx fl gn g0 g1 g2 g3) (hh : h < 60) : EvA G 2 kX0_append [.ref a, .int k, .int v, .int m] μ sz 0 0 (rI fun r μ' => r = nx ∧ FB μ' a (h + 1) (nx + nI 1) fl gn (upd g0 h nx) (upd g1 h k) (upd g2 h v) (upd g3 h m) ∧ Fr a (a + 5) μ μ') := by
  have hO := F.1
  refine EvA.of (L := [some (.ref a), some (.int k), some (.int v), some (.int m), none]) (by decide +kernel) (Nat.le_of_ble_eq_true rfl) rfl ?_
  refine Rn.aload_n (pc1 := 1)  dX0_append_0 rfl rfl rfl ?_
  refine Rn.getfield (pc1 := 4)  dX0_append_1 rfl fX0_28 (by first | assumption | exact mset_same) rfl ?_
  refine Rn.istore (pc1 := 6)  dX0_append_4 rfl (by decide) rfl rfl ?_
  refine Rn.aload_n (pc1 := 7)  dX0_append_6 rfl rfl rfl ?_
  refine Rn.aload_n (pc1 := 8)  dX0_append_7 rfl rfl rfl ?_
  refine Rn.getfield (pc1 := 11)  dX0_append_8 rfl fX0_24 (by first | assumption | exact mset_same) rfl ?_
  refine Rn.iload (pc1 := 13)  dX0_append_11 rfl rfl ?_
  refine Rn.iload_n (pc1 := 14)  dX0_append_13 rfl rfl rfl ?_
  refine Rn.iload_n (pc1 := 15)  dX0_append_14 rfl rfl rfl ?_
  refine Rn.iload_n (pc1 := 16)  dX0_append_15 rfl rfl rfl ?_
  refine Rn.cV_v (pc1 := 19) (eX0_layEntry F rfl hh) dX0_append_16 rfl qX0_45 oX0_layEntry (by first | assumption | exact mset_same) rfl rfl rfl rfl (Nat.le_of_ble_eq_true rfl) (by decide) (by decide) (fun μ16 h16 => ?_)
  obtain ⟨F1, q1⟩ := h16
  have O1 := F1.1
  refine Rn.aload_n (pc1 := 20)  dX0_append_19 rfl rfl rfl ?_
  refine Rn.dup (pc1 := 21)  dX0_append_20 rfl rfl ?_
  refine Rn.getfield (pc1 := 24)  dX0_append_21 rfl fX0_24 (by first | assumption | exact mset_same) rfl ?_
  refine Rn.iconst (pc1 := 25) (v := nI 1) dX0_append_24 rfl (by decide) ?_
  refine Rn.iadd (pc1 := 26)  dX0_append_25 rfl (nI_add h 1) ?_
  refine Rn.putfield (pc1 := 29)  dX0_append_26 rfl pX0_24 (fun h => Bool.noConfusion h) (by assumption) (Nat.le_of_ble_eq_true rfl) rfl rfl rfl ?_
  have F2 := F1.setO (h + 1) nx fl gn
  have O2 := F2.1
  refine Rn.aload_n (pc1 := 30)  dX0_append_29 rfl rfl rfl ?_
  refine Rn.dup (pc1 := 31)  dX0_append_30 rfl rfl ?_
  refine Rn.getfield (pc1 := 34)  dX0_append_31 rfl fX0_28 (by first | assumption | exact mset_same) rfl ?_
  refine Rn.iconst (pc1 := 35) (v := nI 1) dX0_append_34 rfl (by decide) ?_
  refine Rn.iadd (pc1 := 36)  dX0_append_35 rfl rfl ?_
  refine Rn.putfield (pc1 := 39)  dX0_append_36 rfl pX0_28 (fun h => Bool.noConfusion h) (by assumption) (Nat.le_of_ble_eq_true rfl) rfl rfl rfl ?_
  have F3 := F2.setO (h + 1) (nx + nI 1) fl gn
  refine Rn.iload (pc1 := 41)  dX0_append_39 rfl rfl ?_
  exact Rn.ireturn dX0_append_41 rfl rfl ⟨_, rfl, rfl, F3, (q1.set_ (by omega) (by omega)).set_ (by omega) (by omega)⟩
theorem eX0_firstFrom {pl : Int32} (F : FB μ a h nx fl gn g0 g1 g2 g3) (hh : h ≤ 60) : EvA G 1 kX0_firstFrom [.ref a, .int pl] μ sz 0 0 (rI fun v μ' => (∃ k, k ≤ h ∧ v = nI k ∧ (∀ j, j < k → g0 j < pl) ∧ (k < h → pl ≤ g0 k)) ∧ μ' = μ) := by
  have hO := F.1
  refine EvA.of (L := [some (.ref a), some (.int pl), none]) (by decide +kernel) (Nat.le_of_ble_eq_true rfl) rfl ?_
  have loop : ∀ (m i : Nat), i + m = h → (∀ j, j < i → g0 j < pl) → Rn G 1 kX0_firstFrom 2 [some (.ref a), some (.int pl), some (.int (nI i))] [] μ sz 0 0 (rI fun v μ' => (∃ k, k ≤ h ∧ v = nI k ∧ (∀ j, j < k → g0 j < pl) ∧ (k < h → pl ≤ g0 k)) ∧ μ' = μ) := by
    intro m
    induction m with
    | zero =>
      intro i hi hb
      obtain rfl : i = h := by omega
      refine Rn.iload_n (pc1 := 3)  dX0_firstFrom_2 rfl rfl rfl ?_
      refine Rn.aload_n (pc1 := 4)  dX0_firstFrom_3 rfl rfl rfl ?_
      refine Rn.getfield (pc1 := 7)  dX0_firstFrom_4 rfl fX0_24 (by first | assumption | exact mset_same) rfl ?_
      refine Rn.icmp_ge (pc1 := 10) 30 dX0_firstFrom_7 rfl (by decide) (fun c7 => ?_) (fun c7 => ?_)
      · refine Rn.aload_n (pc1 := 31)  dX0_firstFrom_30 rfl rfl rfl ?_
        refine Rn.getfield (pc1 := 34)  dX0_firstFrom_31 rfl fX0_24 (by first | assumption | exact mset_same) rfl ?_
        exact Rn.ireturn dX0_firstFrom_34 rfl rfl ⟨_, rfl, ⟨i, Nat.le_refl i, rfl, hb, fun q => by omega⟩, rfl⟩
      · exact absurd (nI_le (Nat.le_refl i) (by omega)) c7
    | succ m ih =>
      intro i hi hb
      refine Rn.iload_n (pc1 := 3)  dX0_firstFrom_2 rfl rfl rfl ?_
      refine Rn.aload_n (pc1 := 4)  dX0_firstFrom_3 rfl rfl rfl ?_
      refine Rn.getfield (pc1 := 7)  dX0_firstFrom_4 rfl fX0_24 (by first | assumption | exact mset_same) rfl ?_
      refine Rn.icmp_ge (pc1 := 10) 30 dX0_firstFrom_7 rfl (by decide) (fun c7 => ?_) (fun c7 => ?_)
      · exact absurd c7 (nI_ge (by omega) (by omega))
      · refine Rn.aload_n (pc1 := 11)  dX0_firstFrom_10 rfl rfl rfl ?_
        refine Rn.getfield (pc1 := 14)  dX0_firstFrom_11 rfl fX0_9 (by first | assumption | exact mset_same) rfl ?_
        refine Rn.iload_n (pc1 := 15)  dX0_firstFrom_14 rfl rfl rfl ?_
        refine Rn.cN_i (pc1 := 18) (eX8_at F.2.1 rfl (show i < 60 by omega) (by decide)) dX0_firstFrom_15 rfl nX0_41 oX8_at rfl rfl (Nat.le_of_ble_eq_true rfl) (by decide) (by decide) (fun v15 μ15 h15 => ?_)
        obtain ⟨rfl, rfl⟩ := h15
        refine Rn.iload_n (pc1 := 19)  dX0_firstFrom_18 rfl rfl rfl ?_
        refine Rn.icmp_lt (pc1 := 22) 24 dX0_firstFrom_19 rfl (by decide) (fun c19 => ?_) (fun c19 => ?_)
        · refine Rn.iinc (pc1 := 27)  dX0_firstFrom_24 rfl rfl (nI_1 i) (by decide) rfl rfl ?_
          refine Rn.goto 2 dX0_firstFrom_27 (by decide) ?_
          refine ih (i + 1) (by omega) (fun j hj => ?_)
          by_cases e : j = i
          · subst e; exact c19
          · exact hb j (by omega)
        · refine Rn.iload_n (pc1 := 23)  dX0_firstFrom_22 rfl rfl rfl ?_
          exact Rn.ireturn dX0_firstFrom_23 rfl rfl ⟨_, rfl, ⟨i, by omega, rfl, hb, fun _ => i32_nlt.mp c19⟩, rfl⟩
  refine Rn.iconst (pc1 := 1) (v := nI 0) dX0_firstFrom_0 rfl (by decide) ?_
  refine Rn.istore_n (pc1 := 2)  dX0_firstFrom_1 rfl rfl (by decide) rfl rfl ?_
  exact loop h 0 (by omega) (fun j hj => by omega)
theorem eX0_aheadOf {pl : Int32} (F : FB μ a h nx fl gn g0 g1 g2 g3) (hh : h ≤ 60) : EvA G 2 kX0_aheadOf [.ref a, .int pl] μ sz 0 0 (rI fun v μ' => (∃ k, k ≤ h ∧ v = nI (h - k) ∧ (∀ j, j < k → g0 j < pl) ∧ (k < h → pl ≤ g0 k)) ∧ μ' = μ) := by
  have hO := F.1
  refine EvA.of (L := [some (.ref a), some (.int pl)]) (by decide +kernel) (Nat.le_of_ble_eq_true rfl) rfl ?_
  refine Rn.aload_n (pc1 := 1)  dX0_aheadOf_0 rfl rfl rfl ?_
  refine Rn.getfield (pc1 := 4)  dX0_aheadOf_1 rfl fX0_24 (by first | assumption | exact mset_same) rfl ?_
  refine Rn.aload_n (pc1 := 5)  dX0_aheadOf_4 rfl rfl rfl ?_
  refine Rn.iload_n (pc1 := 6)  dX0_aheadOf_5 rfl rfl rfl ?_
  refine Rn.cV_i (pc1 := 9) (eX0_firstFrom F hh) dX0_aheadOf_6 rfl qX0_53 oX0_firstFrom (by first | assumption | exact mset_same) rfl rfl rfl rfl (Nat.le_of_ble_eq_true rfl) (by decide) (by decide) (fun v6 μ6 h6 => ?_)
  obtain ⟨⟨k, k1, rfl, k2, k3⟩, rfl⟩ := h6
  refine Rn.isub (pc1 := 10)  dX0_aheadOf_9 rfl (nI_sub k1) ?_
  exact Rn.ireturn dX0_aheadOf_10 rfl rfl ⟨_, rfl, ⟨k, k1, rfl, k2, k3⟩, rfl⟩
theorem eX0_isLastOfItsKey {j : Nat} {i : Int32} (F : FB μ a h nx fl gn g0 g1 g2 g3) (hh : h ≤ 60) (hi : i = nI j) (hj : j < h) : EvA G 1 kX0_isLastOfItsKey [.ref a, .int i] μ sz 0 0 (rI fun v μ' => v = bI (lastB g1 j h) ∧ μ' = μ) := by
  subst hi
  have hO := F.1
  refine EvA.of (L := [some (.ref a), some (.int i), none]) (by decide +kernel) (Nat.le_of_ble_eq_true rfl) rfl ?_
  have loop : ∀ (m l : Nat), l + m = h → j < l → (∀ q, j < q → q < l → ¬ g1 q = g1 j) → Rn G 1 kX0_isLastOfItsKey 4 [some (.ref a), some (.int (nI j)), some (.int (nI l))] [] μ sz 0 0 (rI fun v μ' => v = bI (lastB g1 j h) ∧ μ' = μ) := by
    intro m
    induction m with
    | zero =>
      intro l hl hjl hb
      obtain rfl : l = h := by omega
      rw [lastB_iff.mpr hb]
      refine Rn.iload_n (pc1 := 5)  dX0_isLastOfItsKey_4 rfl rfl rfl ?_
      refine Rn.aload_n (pc1 := 6)  dX0_isLastOfItsKey_5 rfl rfl rfl ?_
      refine Rn.getfield (pc1 := 9)  dX0_isLastOfItsKey_6 rfl fX0_24 (by first | assumption | exact mset_same) rfl ?_
      refine Rn.icmp_ge (pc1 := 12) 39 dX0_isLastOfItsKey_9 rfl (by decide) (fun c9 => ?_) (fun c9 => ?_)
      · refine Rn.iconst (pc1 := 40) (v := nI 1) dX0_isLastOfItsKey_39 rfl (by decide) ?_
        exact Rn.ireturn dX0_isLastOfItsKey_40 rfl rfl ⟨_, rfl, rfl, rfl⟩
      · exact absurd (nI_le (Nat.le_refl l) (by omega)) c9
    | succ m ih =>
      intro l hl hjl hb
      refine Rn.iload_n (pc1 := 5)  dX0_isLastOfItsKey_4 rfl rfl rfl ?_
      refine Rn.aload_n (pc1 := 6)  dX0_isLastOfItsKey_5 rfl rfl rfl ?_
      refine Rn.getfield (pc1 := 9)  dX0_isLastOfItsKey_6 rfl fX0_24 (by first | assumption | exact mset_same) rfl ?_
      refine Rn.icmp_ge (pc1 := 12) 39 dX0_isLastOfItsKey_9 rfl (by decide) (fun c9 => ?_) (fun c9 => ?_)
      · exact absurd c9 (nI_ge (by omega) (by omega))
      · refine Rn.aload_n (pc1 := 13)  dX0_isLastOfItsKey_12 rfl rfl rfl ?_
        refine Rn.getfield (pc1 := 16)  dX0_isLastOfItsKey_13 rfl fX0_15 (by first | assumption | exact mset_same) rfl ?_
        refine Rn.iload_n (pc1 := 17)  dX0_isLastOfItsKey_16 rfl rfl rfl ?_
        refine Rn.cN_i (pc1 := 20) (eX8_at F.2.2.1 rfl (show l < 60 by omega) (by decide)) dX0_isLastOfItsKey_17 rfl nX0_41 oX8_at rfl rfl (Nat.le_of_ble_eq_true rfl) (by decide) (by decide) (fun v17 μ17 h17 => ?_)
        obtain ⟨rfl, rfl⟩ := h17
        refine Rn.aload_n (pc1 := 21)  dX0_isLastOfItsKey_20 rfl rfl rfl ?_
        refine Rn.getfield (pc1 := 24)  dX0_isLastOfItsKey_21 rfl fX0_15 (by first | assumption | exact mset_same) rfl ?_
        refine Rn.iload_n (pc1 := 25)  dX0_isLastOfItsKey_24 rfl rfl rfl ?_
        refine Rn.cN_i (pc1 := 28) (eX8_at F.2.2.1 rfl (show j < 60 by omega) (by decide)) dX0_isLastOfItsKey_25 rfl nX0_41 oX8_at rfl rfl (Nat.le_of_ble_eq_true rfl) (by decide) (by decide) (fun v25 μ25 h25 => ?_)
        obtain ⟨rfl, rfl⟩ := h25
        refine Rn.icmp_ne (pc1 := 31) 33 dX0_isLastOfItsKey_28 rfl (by decide) (fun c28 => ?_) (fun c28 => ?_)
        · refine Rn.iinc (pc1 := 36)  dX0_isLastOfItsKey_33 rfl rfl (nI_1 l) (by decide) rfl rfl ?_
          refine Rn.goto 4 dX0_isLastOfItsKey_36 (by decide) ?_
          refine ih (l + 1) (by omega) (by omega) (fun q h1 h2 => ?_)
          by_cases e : q = l
          · subst e; exact c28
          · exact hb q h1 (by omega)
        · have e : lastB g1 j h = false := by
            cases hb2 : lastB g1 j h
            · rfl
            · exact absurd c28 (lastB_iff.mp hb2 l hjl (by omega))
          rw [e]
          refine Rn.iconst (pc1 := 32) (v := nI 0) dX0_isLastOfItsKey_31 rfl (by decide) ?_
          exact Rn.ireturn dX0_isLastOfItsKey_32 rfl rfl ⟨_, rfl, rfl, rfl⟩
  refine Rn.iload_n (pc1 := 1)  dX0_isLastOfItsKey_0 rfl rfl rfl ?_
  refine Rn.iconst (pc1 := 2) (v := nI 1) dX0_isLastOfItsKey_1 rfl (by decide) ?_
  refine Rn.iadd (pc1 := 3)  dX0_isLastOfItsKey_2 rfl (nI_add j 1) ?_
  refine Rn.istore_n (pc1 := 4)  dX0_isLastOfItsKey_3 rfl rfl (by decide) rfl rfl ?_
  exact loop (h - (j + 1)) (j + 1) (by omega) (by omega) (fun q h1 h2 => by omega)
theorem eX0_segmentOf {x s : Int32} (hs : nI 1 ≤ s) : EvA G 0 kX0_segmentOf [.int x, .int s] μ sz 0 0 (rI fun v μ' => v = x / s ∧ μ' = μ) := by
  refine EvA.of (L := [some (.int x), some (.int s)]) (by decide +kernel) (Nat.le_of_ble_eq_true rfl) rfl ?_
  refine Rn.iload_n (pc1 := 1)  dX0_segmentOf_0 rfl rfl rfl ?_
  refine Rn.iconst (pc1 := 2) (v := nI 1) dX0_segmentOf_1 rfl (by decide) ?_
  refine Rn.icmp_ge (pc1 := 5) 9 dX0_segmentOf_2 rfl (by decide) (fun c2 => ?_) (fun c2 => ?_)
  · refine Rn.iload_n (pc1 := 10)  dX0_segmentOf_9 rfl rfl rfl ?_
    refine Rn.iload_n (pc1 := 11)  dX0_segmentOf_10 rfl rfl rfl ?_
    refine Rn.idiv (pc1 := 12)  dX0_segmentOf_11 rfl (fun e => by rw [e] at hs; exact absurd hs (by decide)) rfl ?_
    exact Rn.ireturn dX0_segmentOf_12 rfl rfl ⟨_, rfl, rfl, rfl⟩
  · exact absurd hs c2
theorem eX0_isClosed {j : Nat} {i s : Int32} (F : FB μ a h nx fl gn g0 g1 g2 g3) (hi : i = nI j) (hj : j < 60) (hs : nI 1 ≤ s) : EvA G 1 kX0_isClosed [.ref a, .int i, .int s] μ sz 0 0 (rI fun v μ' => v = bI (closB (g0 j) nx s) ∧ μ' = μ) := by
  have hO := F.1
  refine EvA.of (L := [some (.ref a), some (.int i), some (.int s)]) (by decide +kernel) (Nat.le_of_ble_eq_true rfl) rfl ?_
  refine Rn.aload_n (pc1 := 1)  dX0_isClosed_0 rfl rfl rfl ?_
  refine Rn.getfield (pc1 := 4)  dX0_isClosed_1 rfl fX0_9 (by first | assumption | exact mset_same) rfl ?_
  refine Rn.iload_n (pc1 := 5)  dX0_isClosed_4 rfl rfl rfl ?_
  refine Rn.cN_i (pc1 := 8) (eX8_at F.2.1 hi hj (by decide)) dX0_isClosed_5 rfl nX0_41 oX8_at rfl rfl (Nat.le_of_ble_eq_true rfl) (by decide) (by decide) (fun v5 μ5 h5 => ?_)
  obtain ⟨rfl, rfl⟩ := h5
  refine Rn.iload_n (pc1 := 9)  dX0_isClosed_8 rfl rfl rfl ?_
  refine Rn.cS_i (pc1 := 12) (eX0_segmentOf hs) dX0_isClosed_9 rfl qX0_57 oX0_segmentOf rfl rfl (Nat.le_of_ble_eq_true rfl) (by decide) (by decide) (fun v9 μ9 h9 => ?_)
  obtain ⟨rfl, rfl⟩ := h9
  refine Rn.aload_n (pc1 := 13)  dX0_isClosed_12 rfl rfl rfl ?_
  refine Rn.getfield (pc1 := 16)  dX0_isClosed_13 rfl fX0_28 (by first | assumption | exact mset_same) rfl ?_
  refine Rn.iload_n (pc1 := 17)  dX0_isClosed_16 rfl rfl rfl ?_
  refine Rn.cS_i (pc1 := 20) (eX0_segmentOf hs) dX0_isClosed_17 rfl qX0_57 oX0_segmentOf rfl rfl (Nat.le_of_ble_eq_true rfl) (by decide) (by decide) (fun v17 μ17 h17 => ?_)
  obtain ⟨rfl, rfl⟩ := h17
  refine Rn.icmp_eq (pc1 := 23) 27 dX0_isClosed_20 rfl (by decide) (fun c20 => ?_) (fun c20 => ?_)
  · rw [show closB (g0 j) nx s = false by unfold closB; rw [decide_eq_true c20]; rfl]
    refine Rn.iconst (pc1 := 28) (v := nI 0) dX0_isClosed_27 rfl (by decide) ?_
    exact Rn.ireturn dX0_isClosed_28 rfl rfl ⟨_, rfl, rfl, rfl⟩
  · rw [show closB (g0 j) nx s = true by unfold closB; rw [decide_eq_false c20]; rfl]
    refine Rn.iconst (pc1 := 24) (v := nI 1) dX0_isClosed_23 rfl (by decide) ?_
    refine Rn.goto 28 dX0_isClosed_24 (by decide) ?_
    exact Rn.ireturn dX0_isClosed_28 rfl rfl ⟨_, rfl, rfl, rfl⟩
theorem eX0_isOldRemoval {j : Nat} {i gr mi : Int32} (F : FB μ a h nx fl gn g0 g1 g2 g3) (hi : i = nI j) (hj : j < 60) : EvA G 1 kX0_isOldRemoval [.ref a, .int i, .int gr, .int mi] μ sz 0 0 (rI fun v μ' => v = bI (oldB (g2 j) (g3 j) gr mi) ∧ μ' = μ) := by
  have hO := F.1
  refine EvA.of (L := [some (.ref a), some (.int i), some (.int gr), some (.int mi)]) (by decide +kernel) (Nat.le_of_ble_eq_true rfl) rfl ?_
  refine Rn.aload_n (pc1 := 1)  dX0_isOldRemoval_0 rfl rfl rfl ?_
  refine Rn.getfield (pc1 := 4)  dX0_isOldRemoval_1 rfl fX0_18 (by first | assumption | exact mset_same) rfl ?_
  refine Rn.iload_n (pc1 := 5)  dX0_isOldRemoval_4 rfl rfl rfl ?_
  refine Rn.cN_i (pc1 := 8) (eX8_at F.2.2.2.1 hi hj (by decide)) dX0_isOldRemoval_5 rfl nX0_41 oX8_at rfl rfl (Nat.le_of_ble_eq_true rfl) (by decide) (by decide) (fun v5 μ5 h5 => ?_)
  obtain ⟨rfl, rfl⟩ := h5
  refine Rn.bipush (pc1 := 10) (v := (-6)) dX0_isOldRemoval_8 rfl (by decide) ?_
  refine Rn.icmp_ne (pc1 := 13) 31 dX0_isOldRemoval_10 rfl (by decide) (fun c10 => ?_) (fun c10 => ?_)
  · rw [show oldB (g2 j) (g3 j) gr mi = false by unfold oldB; rw [decide_eq_false c10]; rfl]
    refine Rn.iconst (pc1 := 32) (v := nI 0) dX0_isOldRemoval_31 rfl (by decide) ?_
    exact Rn.ireturn dX0_isOldRemoval_32 rfl rfl ⟨_, rfl, rfl, rfl⟩
  · refine Rn.iload_n (pc1 := 14)  dX0_isOldRemoval_13 rfl rfl rfl ?_
    refine Rn.aload_n (pc1 := 15)  dX0_isOldRemoval_14 rfl rfl rfl ?_
    refine Rn.getfield (pc1 := 18)  dX0_isOldRemoval_15 rfl fX0_21 (by first | assumption | exact mset_same) rfl ?_
    refine Rn.iload_n (pc1 := 19)  dX0_isOldRemoval_18 rfl rfl rfl ?_
    refine Rn.cN_i (pc1 := 22) (eX8_at F.2.2.2.2 hi hj (by decide)) dX0_isOldRemoval_19 rfl nX0_41 oX8_at rfl rfl (Nat.le_of_ble_eq_true rfl) (by decide) (by decide) (fun v19 μ19 h19 => ?_)
    obtain ⟨rfl, rfl⟩ := h19
    refine Rn.isub (pc1 := 23)  dX0_isOldRemoval_22 rfl rfl ?_
    refine Rn.iload_n (pc1 := 24)  dX0_isOldRemoval_23 rfl rfl rfl ?_
    refine Rn.icmp_le (pc1 := 27) 31 dX0_isOldRemoval_24 rfl (by decide) (fun c24 => ?_) (fun c24 => ?_)
    · rw [show oldB (g2 j) (g3 j) gr mi = false by unfold oldB; rw [decide_eq_false (i32_nlt.mpr c24), Bool.and_false]]
      refine Rn.iconst (pc1 := 32) (v := nI 0) dX0_isOldRemoval_31 rfl (by decide) ?_
      exact Rn.ireturn dX0_isOldRemoval_32 rfl rfl ⟨_, rfl, rfl, rfl⟩
    · rw [show oldB (g2 j) (g3 j) gr mi = true by unfold oldB; rw [decide_eq_true (i32_nle.mp c24), decide_eq_true c10]; rfl]
      refine Rn.iconst (pc1 := 28) (v := nI 1) dX0_isOldRemoval_27 rfl (by decide) ?_
      refine Rn.goto 32 dX0_isOldRemoval_28 (by decide) ?_
      exact Rn.ireturn dX0_isOldRemoval_32 rfl rfl ⟨_, rfl, rfl, rfl⟩
theorem eX0_wouldGo {j : Nat} {i s gr mi : Int32} (F : FB μ a h nx fl gn g0 g1 g2 g3) (hh : h ≤ 60) (hi : i = nI j) (hj : j < h) (hs : nI 1 ≤ s) : EvA G 2 kX0_wouldGo [.ref a, .int i, .int s, .int gr, .int mi] μ sz 0 0 (rI fun v μ' => v = bI (goB h nx s gr mi g0 g1 g2 g3 j) ∧ μ' = μ) := by
  have hO := F.1
  refine EvA.of (L := [some (.ref a), some (.int i), some (.int s), some (.int gr), some (.int mi)]) (by decide +kernel) (Nat.le_of_ble_eq_true rfl) rfl ?_
  refine Rn.aload_n (pc1 := 1)  dX0_wouldGo_0 rfl rfl rfl ?_
  refine Rn.iload_n (pc1 := 2)  dX0_wouldGo_1 rfl rfl rfl ?_
  refine Rn.iload_n (pc1 := 3)  dX0_wouldGo_2 rfl rfl rfl ?_
  refine Rn.cV_i (pc1 := 6) (eX0_isClosed F hi (by omega) hs) dX0_wouldGo_3 rfl qX0_61 oX0_isClosed (by first | assumption | exact mset_same) rfl rfl rfl rfl (Nat.le_of_ble_eq_true rfl) (by decide) (by decide) (fun v3 μ3 h3 => ?_)
  obtain ⟨rfl, rfl⟩ := h3
  refine Rn.if_eq (pc1 := 9) 32 dX0_wouldGo_6 rfl (by decide) (fun c6 => ?_) (fun c6 => ?_)
  · rw [show goB h nx s gr mi g0 g1 g2 g3 j = false by unfold goB; rw [bI_0 c6]; rfl]
    refine Rn.iconst (pc1 := 33) (v := nI 0) dX0_wouldGo_32 rfl (by decide) ?_
    exact Rn.ireturn dX0_wouldGo_33 rfl rfl ⟨_, rfl, rfl, rfl⟩
  · refine Rn.aload_n (pc1 := 10)  dX0_wouldGo_9 rfl rfl rfl ?_
    refine Rn.iload_n (pc1 := 11)  dX0_wouldGo_10 rfl rfl rfl ?_
    refine Rn.cV_i (pc1 := 14) (eX0_isLastOfItsKey F hh hi hj) dX0_wouldGo_11 rfl qX0_65 oX0_isLastOfItsKey (by first | assumption | exact mset_same) rfl rfl rfl rfl (Nat.le_of_ble_eq_true rfl) (by decide) (by decide) (fun v11 μ11 h11 => ?_)
    obtain ⟨rfl, rfl⟩ := h11
    refine Rn.if_eq (pc1 := 17) 28 dX0_wouldGo_14 rfl (by decide) (fun c14 => ?_) (fun c14 => ?_)
    · rw [show goB h nx s gr mi g0 g1 g2 g3 j = true by unfold goB; rw [bI_n c6, bI_0 c14]; rfl]
      refine Rn.iconst (pc1 := 29) (v := nI 1) dX0_wouldGo_28 rfl (by decide) ?_
      refine Rn.goto 33 dX0_wouldGo_29 (by decide) ?_
      exact Rn.ireturn dX0_wouldGo_33 rfl rfl ⟨_, rfl, rfl, rfl⟩
    · refine Rn.aload_n (pc1 := 18)  dX0_wouldGo_17 rfl rfl rfl ?_
      refine Rn.iload_n (pc1 := 19)  dX0_wouldGo_18 rfl rfl rfl ?_
      refine Rn.iload_n (pc1 := 20)  dX0_wouldGo_19 rfl rfl rfl ?_
      refine Rn.iload (pc1 := 22)  dX0_wouldGo_20 rfl rfl ?_
      refine Rn.cV_i (pc1 := 25) (eX0_isOldRemoval F hi (by omega)) dX0_wouldGo_22 rfl qX0_69 oX0_isOldRemoval (by first | assumption | exact mset_same) rfl rfl rfl rfl (Nat.le_of_ble_eq_true rfl) (by decide) (by decide) (fun v22 μ22 h22 => ?_)
      obtain ⟨rfl, rfl⟩ := h22
      refine Rn.if_eq (pc1 := 28) 32 dX0_wouldGo_25 rfl (by decide) (fun c25 => ?_) (fun c25 => ?_)
      · rw [show goB h nx s gr mi g0 g1 g2 g3 j = false by unfold goB; rw [bI_0 c25, bI_n c14, Bool.and_false]]
        refine Rn.iconst (pc1 := 33) (v := nI 0) dX0_wouldGo_32 rfl (by decide) ?_
        exact Rn.ireturn dX0_wouldGo_33 rfl rfl ⟨_, rfl, rfl, rfl⟩
      · rw [show goB h nx s gr mi g0 g1 g2 g3 j = true by unfold goB; rw [bI_n c25, bI_n c6, Bool.or_true]; rfl]
        refine Rn.iconst (pc1 := 29) (v := nI 1) dX0_wouldGo_28 rfl (by decide) ?_
        refine Rn.goto 33 dX0_wouldGo_29 (by decide) ?_
        exact Rn.ireturn dX0_wouldGo_33 rfl rfl ⟨_, rfl, rfl, rfl⟩
