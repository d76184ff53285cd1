/-! ===== Feed: its object and its four rows ===== -/
def FB (μ : Mm) (a h : Nat) (nx fl gn : Int32) (g0 g1 g2 g3 : Nat → Int32) : Prop := μ a = some (obj 0 [.ref (a + 1), .ref (a + 2), .ref (a + 3), .ref (a + 4), .int (nI h), .int nx, .int fl, .int gn]) ∧ μ (a + 1) = some (ints 60 g0) ∧ μ (a + 2) = some (ints 60 g1) ∧ μ (a + 3) = some (ints 60 g2) ∧ μ (a + 4) = some (ints 60 g3)
section FEEDM
variable {μ : Mm} {a h : Nat} {nx fl gn : Int32} {g0 g1 g2 g3 : Nat → Int32}
theorem FB.fr {μ' : Mm} {x y : Nat} (F : FB μ a h nx fl gn g0 g1 g2 g3) (hF : Fr x y μ μ') (hd : a + 5 ≤ x ∨ y ≤ a) : FB μ' a h nx fl gn g0 g1 g2 g3 := ⟨(hF a (by omega)).trans F.1, (hF _ (by omega)).trans F.2.1, (hF _ (by omega)).trans F.2.2.1, (hF _ (by omega)).trans F.2.2.2.1, (hF _ (by omega)).trans F.2.2.2.2⟩
theorem FB.set0 (F : FB μ a h nx fl gn g0 g1 g2 g3) (g : Nat → Int32) : FB (mset μ (a + 1) (ints 60 g)) a h nx fl gn g g1 g2 g3 := ⟨mget_ne (by omega) F.1, mset_same, mget_ne (by omega) F.2.2.1, mget_ne (by omega) F.2.2.2.1, mget_ne (by omega) F.2.2.2.2⟩
theorem FB.set1 (F : FB μ a h nx fl gn g0 g1 g2 g3) (g : Nat → Int32) : FB (mset μ (a + 2) (ints 60 g)) a h nx fl gn g0 g g2 g3 := ⟨mget_ne (by omega) F.1, mget_ne (by omega) F.2.1, mset_same, mget_ne (by omega) F.2.2.2.1, mget_ne (by omega) F.2.2.2.2⟩
theorem FB.set2 (F : FB μ a h nx fl gn g0 g1 g2 g3) (g : Nat → Int32) : FB (mset μ (a + 3) (ints 60 g)) a h nx fl gn g0 g1 g g3 := ⟨mget_ne (by omega) F.1, mget_ne (by omega) F.2.1, mget_ne (by omega) F.2.2.1, mset_same, mget_ne (by omega) F.2.2.2.2⟩
theorem FB.set3 (F : FB μ a h nx fl gn g0 g1 g2 g3) (g : Nat → Int32) : FB (mset μ (a + 4) (ints 60 g)) a h nx fl gn g0 g1 g2 g := ⟨mget_ne (by omega) F.1, mget_ne (by omega) F.2.1, mget_ne (by omega) F.2.2.1, mget_ne (by omega) F.2.2.2.1, mset_same⟩
theorem FB.setO (F : FB μ a h nx fl gn g0 g1 g2 g3) (h' : Nat) (nx' fl' gn' : Int32) : FB (mset μ a (obj 0 [.ref (a + 1), .ref (a + 2), .ref (a + 3), .ref (a + 4), .int (nI h'), .int nx', .int fl', .int gn'])) a h' nx' fl' gn' g0 g1 g2 g3 := ⟨mset_same, mget_ne (by omega) F.2.1, mget_ne (by omega) F.2.2.1, mget_ne (by omega) F.2.2.2.1, mget_ne (by omega) F.2.2.2.2⟩
theorem Fr.set_ {μ0 : Mm} {x y q : Nat} {c : Cl} (hF : Fr x y μ0 μ) (h1 : x ≤ q) (h2 : q < y) : Fr x y μ0 (mset μ q c) := hF.trans (Fr.set h1 h2)
end FEEDM
-- what the questions answer
def lastB (g1 : Nat → Int32) (i : Nat) : Nat → Bool
  | 0 => true
  | n + 1 => lastB g1 i n && !(decide (i < n) && decide (g1 n = g1 i))
theorem lastB_iff {g1 : Nat → Int32} {i : Nat} : ∀ {n : Nat}, lastB g1 i n = true ↔ ∀ j, i < j → j < n → ¬ g1 j = g1 i
  | 0 => ⟨fun _ j _ h => by omega, fun _ => rfl⟩
  | n + 1 => by
    show (lastB g1 i n && !(decide (i < n) && decide (g1 n = g1 i))) = true ↔ _
    rw [Bool.and_eq_true, lastB_iff (n := n)]
    constructor
    · rintro ⟨h1, h2⟩ j hj hn
      by_cases e : j = n
      · subst e
        intro e2
        rw [decide_eq_true hj, decide_eq_true e2] at h2
        cases h2
      · exact h1 j hj (by omega)
    · intro h1
      refine ⟨fun j hj hn => h1 j hj (by omega), ?_⟩
      by_cases e : i < n
      · rw [decide_eq_false (h1 n e (by omega)), Bool.and_false]; rfl
      · rw [decide_eq_false e]; rfl
theorem bool_eq_of {b c : Bool} (h : b = true ↔ c = true) : b = c := by cases b <;> cases c <;> simp at h ⊢
theorem lastB_congr {g g' : Nat → Int32} {i n : Nat} (h : ∀ j, i ≤ j → j < n → g j = g' j) (hi : i < n) : lastB g i n = lastB g' i n := bool_eq_of (by
  rw [lastB_iff, lastB_iff]
  constructor
  · intro q j h1 h2; rw [← h j (by omega) h2, ← h i (by omega) hi]; exact q j h1 h2
  · intro q j h1 h2; rw [h j (by omega) h2, h i (by omega) hi]; exact q j h1 h2)
def closB (x nx size : Int32) : Bool := !decide (x / size = nx / size)
def oldB (v m grace minute : Int32) : Bool := decide (v = -6) && decide (grace < minute - m)
def goB (h : Nat) (nx size grace minute : Int32) (g0 g1 g2 g3 : Nat → Int32) (i : Nat) : Bool := closB (g0 i) nx size && (!lastB g1 i h || oldB (g2 i) (g3 i) grace minute)
theorem goB_congr {h i : Nat} {nx size grace minute : Int32} {g0 g1 g2 g3 k0 k1 k2 k3 : Nat → Int32} (q : ∀ j, i ≤ j → j < h → g0 j = k0 j ∧ g1 j = k1 j ∧ g2 j = k2 j ∧ g3 j = k3 j) (hi : i < h) : goB h nx size grace minute g0 g1 g2 g3 i = goB h nx size grace minute k0 k1 k2 k3 i := by
  unfold goB
  obtain ⟨e0, e1, e2, e3⟩ := q i (Nat.le_refl i) hi
  rw [lastB_congr (fun j h1 h2 => (q j h1 h2).2.1) hi, e0, e2, e3]
def leftN (p : Nat → Bool) : Nat → Nat
  | 0 => 0
  | n + 1 => leftN p n + if p n then 0 else 1
theorem leftN_le (p : Nat → Bool) : ∀ n, leftN p n ≤ n
  | 0 => Nat.le_refl 0
  | n + 1 => by have := leftN_le p n; unfold leftN; split <;> omega
def floorN (p q : Nat → Bool) (g0 : Nat → Int32) (fl : Int32) : Nat → Int32
  | 0 => fl
  | n + 1 => if q n = true ∧ p n = true then (if floorN p q g0 fl n < g0 n + nI 1 then g0 n + nI 1 else floorN p q g0 fl n) else floorN p q g0 fl n
def kept (p : Nat → Bool) : Nat → List Nat
  | 0 => []
  | n + 1 => if p n then kept p n else kept p n ++ [n]
theorem kept_len (p : Nat → Bool) : ∀ n, (kept p n).length = leftN p n
  | 0 => rfl
  | n + 1 => by
    unfold kept leftN
    by_cases h : p n = true
    · rw [if_pos h, if_pos h, kept_len p n, Nat.add_zero]
    · rw [if_neg h, if_neg h, List.length_append, kept_len p n]; rfl
section FEED
variable {G : GG} {μ : Mm} {sz : Nat} {a h : Nat} {nx fl gn : Int32} {g0 g1 g2 g3 : Nat → Int32}
theorem eX0_numberAt {j : Nat} {i : Int32} (F : FB μ a h nx fl gn g0 g1 g2 g3) (hi : i = nI j) (hj : j < 60) : EvA G 1 kX0_numberAt [.ref a, .int i] μ sz 0 0 (rI fun v μ' => v = g0 j ∧ μ' = μ) := by
  have hO := F.1
  refine EvA.of (L := [some (.ref a), some (.int i)]) (by decide +kernel) (Nat.le_of_ble_eq_true rfl) rfl ?_
  refine Rn.aload_n (pc1 := 1)  dX0_numberAt_0 rfl rfl rfl ?_
  refine Rn.getfield (pc1 := 4)  dX0_numberAt_1 rfl fX0_9 (by first | assumption | exact mset_same | exact mget_ne (by omega) (by assumption)) rfl ?_
  refine Rn.iload_n (pc1 := 5)  dX0_numberAt_4 rfl rfl rfl ?_
  refine Rn.cN_i (pc1 := 8) (eX8_at F.2.1 hi hj (by decide)) dX0_numberAt_5 rfl nX0_41 oX8_at rfl rfl (Nat.le_of_ble_eq_true rfl) (by decide) (by decide) (fun v5 μ5 h5 => ?_)
  obtain ⟨rfl, rfl⟩ := h5
  exact Rn.ireturn dX0_numberAt_8 rfl rfl ⟨_, rfl, rfl, rfl⟩
theorem eX0_keyAt {j : Nat} {i : Int32} (F : FB μ a h nx fl gn g0 g1 g2 g3) (hi : i = nI j) (hj : j < 60) : EvA G 1 kX0_keyAt [.ref a, .int i] μ sz 0 0 (rI fun v μ' => v = g1 j ∧ μ' = μ) := by
  have hO := F.1
  refine EvA.of (L := [some (.ref a), some (.int i)]) (by decide +kernel) (Nat.le_of_ble_eq_true rfl) rfl ?_
  refine Rn.aload_n (pc1 := 1)  dX0_keyAt_0 rfl rfl rfl ?_
  refine Rn.getfield (pc1 := 4)  dX0_keyAt_1 rfl fX0_15 (by first | assumption | exact mset_same | exact mget_ne (by omega) (by assumption)) rfl ?_
  refine Rn.iload_n (pc1 := 5)  dX0_keyAt_4 rfl rfl rfl ?_
  refine Rn.cN_i (pc1 := 8) (eX8_at F.2.2.1 hi hj (by decide)) dX0_keyAt_5 rfl nX0_41 oX8_at rfl rfl (Nat.le_of_ble_eq_true rfl) (by decide) (by decide) (fun v5 μ5 h5 => ?_)
  obtain ⟨rfl, rfl⟩ := h5
  exact Rn.ireturn dX0_keyAt_8 rfl rfl ⟨_, rfl, rfl, rfl⟩
theorem eX0_valueAt {j : Nat} {i : Int32} (F : FB μ a h nx fl gn g0 g1 g2 g3) (hi : i = nI j) (hj : j < 60) : EvA G 1 kX0_valueAt [.ref a, .int i] μ sz 0 0 (rI fun v μ' => v = g2 j ∧ μ' = μ) := by
  have hO := F.1
  refine EvA.of (L := [some (.ref a), some (.int i)]) (by decide +kernel) (Nat.le_of_ble_eq_true rfl) rfl ?_
  refine Rn.aload_n (pc1 := 1)  dX0_valueAt_0 rfl rfl rfl ?_
  refine Rn.getfield (pc1 := 4)  dX0_valueAt_1 rfl fX0_18 (by first | assumption | exact mset_same | exact mget_ne (by omega) (by assumption)) rfl ?_
  refine Rn.iload_n (pc1 := 5)  dX0_valueAt_4 rfl rfl rfl ?_
  refine Rn.cN_i (pc1 := 8) (eX8_at F.2.2.2.1 hi hj (by decide)) dX0_valueAt_5 rfl nX0_41 oX8_at rfl rfl (Nat.le_of_ble_eq_true rfl) (by decide) (by decide) (fun v5 μ5 h5 => ?_)
  obtain ⟨rfl, rfl⟩ := h5
  exact Rn.ireturn dX0_valueAt_8 rfl rfl ⟨_, rfl, rfl, rfl⟩
theorem eX0_minuteAt {j : Nat} {i : Int32} (F : FB μ a h nx fl gn g0 g1 g2 g3) (hi : i = nI j) (hj : j < 60) : EvA G 1 kX0_minuteAt [.ref a, .int i] μ sz 0 0 (rI fun v μ' => v = g3 j ∧ μ' = μ) := by
  have hO := F.1
  refine EvA.of (L := [some (.ref a), some (.int i)]) (by decide +kernel) (Nat.le_of_ble_eq_true rfl) rfl ?_
  refine Rn.aload_n (pc1 := 1)  dX0_minuteAt_0 rfl rfl rfl ?_
  refine Rn.getfield (pc1 := 4)  dX0_minuteAt_1 rfl fX0_21 (by first | assumption | exact mset_same | exact mget_ne (by omega) (by assumption)) rfl ?_
  refine Rn.iload_n (pc1 := 5)  dX0_minuteAt_4 rfl rfl rfl ?_
  refine Rn.cN_i (pc1 := 8) (eX8_at F.2.2.2.2 hi hj (by decide)) dX0_minuteAt_5 rfl nX0_41 oX8_at rfl rfl (Nat.le_of_ble_eq_true rfl) (by decide) (by decide) (fun v5 μ5 h5 => ?_)
  obtain ⟨rfl, rfl⟩ := h5
  exact Rn.ireturn dX0_minuteAt_8 rfl rfl ⟨_, rfl, rfl, rfl⟩
theorem eX0_isFull (F : FB μ a h nx fl gn g0 g1 g2 g3) (hh : h ≤ 60) : EvA G 0 kX0_isFull [.ref a] μ sz 0 0 (rI fun v μ' => v = bI (decide (h = 60)) ∧ μ' = μ) := by
  have hO := F.1
  refine EvA.of (L := [some (.ref a)]) (by decide +kernel) (Nat.le_of_ble_eq_true rfl) rfl ?_
  refine Rn.aload_n (pc1 := 1)  dX0_isFull_0 rfl rfl rfl ?_
  refine Rn.getfield (pc1 := 4)  dX0_isFull_1 rfl fX0_24 (by first | assumption | exact mset_same | exact mget_ne (by omega) (by assumption)) rfl ?_
  refine Rn.bipush (pc1 := 6) (v := nI 60) dX0_isFull_4 rfl (by decide) ?_
  refine Rn.icmp_lt (pc1 := 9) 13 dX0_isFull_6 rfl (by decide) (fun c6 => ?_) (fun c6 => ?_)
  · rw [decide_eq_false (show ¬ h = 60 by intro e; subst e; exact nI_nlt (Nat.le_refl 60) (by decide) c6)]
    refine Rn.iconst (pc1 := 14) (v := nI 0) dX0_isFull_13 rfl (by decide) ?_
    exact Rn.ireturn dX0_isFull_14 rfl rfl ⟨_, rfl, rfl, rfl⟩
  · rw [decide_eq_true (show h = 60 by rw [nI_ltI (by omega) (by decide)] at c6; omega)]
    refine Rn.iconst (pc1 := 10) (v := nI 1) dX0_isFull_9 rfl (by decide) ?_
    refine Rn.goto 14 dX0_isFull_10 (by decide) ?_
    exact Rn.ireturn dX0_isFull_14 rfl rfl ⟨_, rfl, rfl, rfl⟩
theorem eX0_layEntry {j : Nat} {i x0 x1 x2 x3 : Int32} (F : FB μ a h nx fl gn g0 g1 g2 g3) (hi : i = nI j) (hj : j < 60) : EvA G 1 kX0_layEntry [.ref a, .int i, .int x0, .int x1, .int x2, .int x3] μ sz 0 0 (rV fun μ' => FB μ' a h nx fl gn (upd g0 j x0) (upd g1 j x1) (upd g2 j x2) (upd g3 j x3) ∧ Fr a (a + 5) μ μ') := by
  have hO := F.1
  refine EvA.of (L := [some (.ref a), some (.int i), some (.int x0), some (.int x1), some (.int x2), some (.int x3)]) (by decide +kernel) (Nat.le_of_ble_eq_true rfl) rfl ?_
  refine Rn.aload_n (pc1 := 1)  dX0_layEntry_0 rfl rfl rfl ?_
  refine Rn.getfield (pc1 := 4)  dX0_layEntry_1 rfl fX0_9 (by first | assumption | exact mset_same | exact mget_ne (by omega) (by assumption)) rfl ?_
  refine Rn.iload_n (pc1 := 5)  dX0_layEntry_4 rfl rfl rfl ?_
  refine Rn.iload_n (pc1 := 6)  dX0_layEntry_5 rfl rfl rfl ?_
  refine Rn.cN_v (pc1 := 9) (eX8_layAt F.2.1 hi hj (by decide)) dX0_layEntry_6 rfl nX0_49 oX8_layAt rfl rfl (Nat.le_of_ble_eq_true rfl) (by decide) (by decide) (fun μ6 h6 => ?_)
  subst h6
  have F1 := F.set0 (upd g0 j x0)
  have O1 := F1.1
  refine Rn.aload_n (pc1 := 10)  dX0_layEntry_9 rfl rfl rfl ?_
  refine Rn.getfield (pc1 := 13)  dX0_layEntry_10 rfl fX0_15 (by first | assumption | exact mset_same | exact mget_ne (by omega) (by assumption)) rfl ?_
  refine Rn.iload_n (pc1 := 14)  dX0_layEntry_13 rfl rfl rfl ?_
  refine Rn.iload_n (pc1 := 15)  dX0_layEntry_14 rfl rfl rfl ?_
  refine Rn.cN_v (pc1 := 18) (eX8_layAt F1.2.2.1 hi hj (by decide)) dX0_layEntry_15 rfl nX0_49 oX8_layAt rfl rfl (Nat.le_of_ble_eq_true rfl) (by decide) (by decide) (fun μ15 h15 => ?_)
  subst h15
  have F2 := F1.set1 (upd g1 j x1)
  have O2 := F2.1
  refine Rn.aload_n (pc1 := 19)  dX0_layEntry_18 rfl rfl rfl ?_
  refine Rn.getfield (pc1 := 22)  dX0_layEntry_19 rfl fX0_18 (by first | assumption | exact mset_same | exact mget_ne (by omega) (by assumption)) rfl ?_
  refine Rn.iload_n (pc1 := 23)  dX0_layEntry_22 rfl rfl rfl ?_
  refine Rn.iload (pc1 := 25)  dX0_layEntry_23 rfl rfl ?_
  refine Rn.cN_v (pc1 := 28) (eX8_layAt F2.2.2.2.1 hi hj (by decide)) dX0_layEntry_25 rfl nX0_49 oX8_layAt rfl rfl (Nat.le_of_ble_eq_true rfl) (by decide) (by decide) (fun μ25 h25 => ?_)
  subst h25
  have F3 := F2.set2 (upd g2 j x2)
  have O3 := F3.1
  refine Rn.aload_n (pc1 := 29)  dX0_layEntry_28 rfl rfl rfl ?_
  refine Rn.getfield (pc1 := 32)  dX0_layEntry_29 rfl fX0_21 (by first | assumption | exact mset_same | exact mget_ne (by omega) (by assumption)) rfl ?_
  refine Rn.iload_n (pc1 := 33)  dX0_layEntry_32 rfl rfl rfl ?_
  refine Rn.iload (pc1 := 35)  dX0_layEntry_33 rfl rfl ?_
  refine Rn.cN_v (pc1 := 38) (eX8_layAt F3.2.2.2.2 hi hj (by decide)) dX0_layEntry_35 rfl nX0_49 oX8_layAt rfl rfl (Nat.le_of_ble_eq_true rfl) (by decide) (by decide) (fun μ35 h35 => ?_)
  subst h35
  have F4 := F3.set3 (upd g3 j x3)
  exact Rn.vreturn dX0_layEntry_38 rfl ⟨rfl, F4, (((Fr.set (by omega) (by omega)).set_ (by omega) (by omega)).set_ (by omega) (by omega)).set_ (by omega) (by omega)⟩
theorem eX0_append {k v m : Int32} (F : FB μ a h nx fl gn g0 g1 g2 g3) (hh : h < 60) : EvA G 2 kX0_append [.ref a, .int k, .int v, .int m] μ sz 0 0 (rI fun r μ' => r = nx ∧ FB μ' a (h + 1) (nx + nI 1) fl gn (upd g0 h nx) (upd g1 h k) (upd g2 h v) (upd g3 h m) ∧ Fr a (a + 5) μ μ') := by
  have hO := F.1
  refine EvA.of (L := [some (.ref a), some (.int k), some (.int v), some (.int m), none]) (by decide +kernel) (Nat.le_of_ble_eq_true rfl) rfl ?_
  refine Rn.aload_n (pc1 := 1)  dX0_append_0 rfl rfl rfl ?_
  refine Rn.getfield (pc1 := 4)  dX0_append_1 rfl fX0_28 (by first | assumption | exact mset_same | exact mget_ne (by omega) (by assumption)) rfl ?_
  refine Rn.istore (pc1 := 6)  dX0_append_4 rfl (by decide) rfl rfl ?_
  refine Rn.aload_n (pc1 := 7)  dX0_append_6 rfl rfl rfl ?_
  refine Rn.aload_n (pc1 := 8)  dX0_append_7 rfl rfl rfl ?_
  refine Rn.getfield (pc1 := 11)  dX0_append_8 rfl fX0_24 (by first | assumption | exact mset_same | exact mget_ne (by omega) (by assumption)) rfl ?_
  refine Rn.iload (pc1 := 13)  dX0_append_11 rfl rfl ?_
  refine Rn.iload_n (pc1 := 14)  dX0_append_13 rfl rfl rfl ?_
  refine Rn.iload_n (pc1 := 15)  dX0_append_14 rfl rfl rfl ?_
  refine Rn.iload_n (pc1 := 16)  dX0_append_15 rfl rfl rfl ?_
  refine Rn.cV_v (pc1 := 19) (eX0_layEntry F rfl hh) dX0_append_16 rfl qX0_45 oX0_layEntry (by first | assumption | exact mset_same | exact mget_ne (by omega) (by assumption)) rfl rfl rfl rfl (Nat.le_of_ble_eq_true rfl) (by decide) (by decide) (fun μ16 h16 => ?_)
  obtain ⟨F1, q1⟩ := h16
  have O1 := F1.1
  refine Rn.aload_n (pc1 := 20)  dX0_append_19 rfl rfl rfl ?_
  refine Rn.dup (pc1 := 21)  dX0_append_20 rfl rfl ?_
  refine Rn.getfield (pc1 := 24)  dX0_append_21 rfl fX0_24 (by first | assumption | exact mset_same | exact mget_ne (by omega) (by assumption)) rfl ?_
  refine Rn.iconst (pc1 := 25) (v := nI 1) dX0_append_24 rfl (by decide) ?_
  refine Rn.iadd (pc1 := 26)  dX0_append_25 rfl (nI_add h 1) ?_
  refine Rn.putfield (pc1 := 29)  dX0_append_26 rfl pX0_24 (fun h => Bool.noConfusion h) (by assumption) (Nat.le_of_ble_eq_true rfl) rfl rfl rfl ?_
  have F2 := F1.setO (h + 1) nx fl gn
  have O2 := F2.1
  refine Rn.aload_n (pc1 := 30)  dX0_append_29 rfl rfl rfl ?_
  refine Rn.dup (pc1 := 31)  dX0_append_30 rfl rfl ?_
  refine Rn.getfield (pc1 := 34)  dX0_append_31 rfl fX0_28 (by first | assumption | exact mset_same | exact mget_ne (by omega) (by assumption)) rfl ?_
  refine Rn.iconst (pc1 := 35) (v := nI 1) dX0_append_34 rfl (by decide) ?_
  refine Rn.iadd (pc1 := 36)  dX0_append_35 rfl rfl ?_
  refine Rn.putfield (pc1 := 39)  dX0_append_36 rfl pX0_28 (fun h => Bool.noConfusion h) (by assumption) (Nat.le_of_ble_eq_true rfl) rfl rfl rfl ?_
  have F3 := F2.setO (h + 1) (nx + nI 1) fl gn
  refine Rn.iload (pc1 := 41)  dX0_append_39 rfl rfl ?_
  exact Rn.ireturn dX0_append_41 rfl rfl ⟨_, rfl, rfl, F3, (q1.set_ (by omega) (by omega)).set_ (by omega) (by omega)⟩
theorem eX0_firstFrom {pl : Int32} (F : FB μ a h nx fl gn g0 g1 g2 g3) (hh : h ≤ 60) : EvA G 1 kX0_firstFrom [.ref a, .int pl] μ sz 0 0 (rI fun v μ' => (∃ k, k ≤ h ∧ v = nI k ∧ (∀ j, j < k → g0 j < pl) ∧ (k < h → pl ≤ g0 k)) ∧ μ' = μ) := by
  have hO := F.1
  refine EvA.of (L := [some (.ref a), some (.int pl), none]) (by decide +kernel) (Nat.le_of_ble_eq_true rfl) rfl ?_
  have loop : ∀ (m i : Nat), i + m = h → (∀ j, j < i → g0 j < pl) → Rn G 1 kX0_firstFrom 2 [some (.ref a), some (.int pl), some (.int (nI i))] [] μ sz 0 0 (rI fun v μ' => (∃ k, k ≤ h ∧ v = nI k ∧ (∀ j, j < k → g0 j < pl) ∧ (k < h → pl ≤ g0 k)) ∧ μ' = μ) := by
    intro m
    induction m with
    | zero =>
      intro i hi hb
      obtain rfl : i = h := by omega
      refine Rn.iload_n (pc1 := 3)  dX0_firstFrom_2 rfl rfl rfl ?_
      refine Rn.aload_n (pc1 := 4)  dX0_firstFrom_3 rfl rfl rfl ?_
      refine Rn.getfield (pc1 := 7)  dX0_firstFrom_4 rfl fX0_24 (by first | assumption | exact mset_same | exact mget_ne (by omega) (by assumption)) rfl ?_
      refine Rn.icmp_ge (pc1 := 10) 30 dX0_firstFrom_7 rfl (by decide) (fun c7 => ?_) (fun c7 => ?_)
      · refine Rn.aload_n (pc1 := 31)  dX0_firstFrom_30 rfl rfl rfl ?_
        refine Rn.getfield (pc1 := 34)  dX0_firstFrom_31 rfl fX0_24 (by first | assumption | exact mset_same | exact mget_ne (by omega) (by assumption)) rfl ?_
        exact Rn.ireturn dX0_firstFrom_34 rfl rfl ⟨_, rfl, ⟨i, Nat.le_refl i, rfl, hb, fun q => by omega⟩, rfl⟩
      · exact absurd (nI_le (Nat.le_refl i) (by omega)) c7
    | succ m ih =>
      intro i hi hb
      refine Rn.iload_n (pc1 := 3)  dX0_firstFrom_2 rfl rfl rfl ?_
      refine Rn.aload_n (pc1 := 4)  dX0_firstFrom_3 rfl rfl rfl ?_
      refine Rn.getfield (pc1 := 7)  dX0_firstFrom_4 rfl fX0_24 (by first | assumption | exact mset_same | exact mget_ne (by omega) (by assumption)) rfl ?_
      refine Rn.icmp_ge (pc1 := 10) 30 dX0_firstFrom_7 rfl (by decide) (fun c7 => ?_) (fun c7 => ?_)
      · exact absurd c7 (nI_ge (by omega) (by omega))
      · refine Rn.aload_n (pc1 := 11)  dX0_firstFrom_10 rfl rfl rfl ?_
        refine Rn.getfield (pc1 := 14)  dX0_firstFrom_11 rfl fX0_9 (by first | assumption | exact mset_same | exact mget_ne (by omega) (by assumption)) rfl ?_
        refine Rn.iload_n (pc1 := 15)  dX0_firstFrom_14 rfl rfl rfl ?_
        refine Rn.cN_i (pc1 := 18) (eX8_at F.2.1 rfl (show i < 60 by omega) (by decide)) dX0_firstFrom_15 rfl nX0_41 oX8_at rfl rfl (Nat.le_of_ble_eq_true rfl) (by decide) (by decide) (fun v15 μ15 h15 => ?_)
        obtain ⟨rfl, rfl⟩ := h15
        refine Rn.iload_n (pc1 := 19)  dX0_firstFrom_18 rfl rfl rfl ?_
        refine Rn.icmp_lt (pc1 := 22) 24 dX0_firstFrom_19 rfl (by decide) (fun c19 => ?_) (fun c19 => ?_)
        · refine Rn.iinc (pc1 := 27)  dX0_firstFrom_24 rfl rfl (nI_1 i) (by decide) rfl rfl ?_
          refine Rn.goto 2 dX0_firstFrom_27 (by decide) ?_
          refine ih (i + 1) (by omega) (fun j hj => ?_)
          by_cases e : j = i
          · subst e; exact c19
          · exact hb j (by omega)
        · refine Rn.iload_n (pc1 := 23)  dX0_firstFrom_22 rfl rfl rfl ?_
          exact Rn.ireturn dX0_firstFrom_23 rfl rfl ⟨_, rfl, ⟨i, by omega, rfl, hb, fun _ => i32_nlt.mp c19⟩, rfl⟩
  refine Rn.iconst (pc1 := 1) (v := nI 0) dX0_firstFrom_0 rfl (by decide) ?_
  refine Rn.istore_n (pc1 := 2)  dX0_firstFrom_1 rfl rfl (by decide) rfl rfl ?_
  exact loop h 0 (by omega) (fun j hj => by omega)
theorem eX0_aheadOf {pl : Int32} (F : FB μ a h nx fl gn g0 g1 g2 g3) (hh : h ≤ 60) : EvA G 2 kX0_aheadOf [.ref a, .int pl] μ sz 0 0 (rI fun v μ' => (∃ k, k ≤ h ∧ v = nI (h - k) ∧ (∀ j, j < k → g0 j < pl) ∧ (k < h → pl ≤ g0 k)) ∧ μ' = μ) := by
  have hO := F.1
  refine EvA.of (L := [some (.ref a), some (.int pl)]) (by decide +kernel) (Nat.le_of_ble_eq_true rfl) rfl ?_
  refine Rn.aload_n (pc1 := 1)  dX0_aheadOf_0 rfl rfl rfl ?_
  refine Rn.getfield (pc1 := 4)  dX0_aheadOf_1 rfl fX0_24 (by first | assumption | exact mset_same | exact mget_ne (by omega) (by assumption)) rfl ?_
  refine Rn.aload_n (pc1 := 5)  dX0_aheadOf_4 rfl rfl rfl ?_
  refine Rn.iload_n (pc1 := 6)  dX0_aheadOf_5 rfl rfl rfl ?_
  refine Rn.cV_i (pc1 := 9) (eX0_firstFrom F hh) dX0_aheadOf_6 rfl qX0_53 oX0_firstFrom (by first | assumption | exact mset_same | exact mget_ne (by omega) (by assumption)) rfl rfl rfl rfl (Nat.le_of_ble_eq_true rfl) (by decide) (by decide) (fun v6 μ6 h6 => ?_)
  obtain ⟨⟨k, k1, rfl, k2, k3⟩, rfl⟩ := h6
  refine Rn.isub (pc1 := 10)  dX0_aheadOf_9 rfl (nI_sub k1) ?_
  exact Rn.ireturn dX0_aheadOf_10 rfl rfl ⟨_, rfl, ⟨k, k1, rfl, k2, k3⟩, rfl⟩
theorem eX0_isLastOfItsKey {j : Nat} {i : Int32} (F : FB μ a h nx fl gn g0 g1 g2 g3) (hh : h ≤ 60) (hi : i = nI j) (hj : j < h) : EvA G 1 kX0_isLastOfItsKey [.ref a, .int i] μ sz 0 0 (rI fun v μ' => v = bI (lastB g1 j h) ∧ μ' = μ) := by
  have hO := F.1
  refine EvA.of (L := [some (.ref a), some (.int i), none]) (by decide +kernel) (Nat.le_of_ble_eq_true rfl) rfl ?_
  subst hi
  have loop : ∀ (m l : Nat), l + m = h → j < l → (∀ q, j < q → q < l → ¬ g1 q = g1 j) → Rn G 1 kX0_isLastOfItsKey 4 [some (.ref a), some (.int (nI j)), some (.int (nI l))] [] μ sz 0 0 (rI fun v μ' => v = bI (lastB g1 j h) ∧ μ' = μ) := by
    intro m
    induction m with
    | zero =>
      intro l hl hjl hb
      obtain rfl : l = h := by omega
      rw [lastB_iff.mpr hb]
      refine Rn.iload_n (pc1 := 5)  dX0_isLastOfItsKey_4 rfl rfl rfl ?_
      refine Rn.aload_n (pc1 := 6)  dX0_isLastOfItsKey_5 rfl rfl rfl ?_
      refine Rn.getfield (pc1 := 9)  dX0_isLastOfItsKey_6 rfl fX0_24 (by first | assumption | exact mset_same | exact mget_ne (by omega) (by assumption)) rfl ?_
      refine Rn.icmp_ge (pc1 := 12) 39 dX0_isLastOfItsKey_9 rfl (by decide) (fun c9 => ?_) (fun c9 => ?_)
      · refine Rn.iconst (pc1 := 40) (v := nI 1) dX0_isLastOfItsKey_39 rfl (by decide) ?_
        exact Rn.ireturn dX0_isLastOfItsKey_40 rfl rfl ⟨_, rfl, rfl, rfl⟩
      · exact absurd (nI_le (Nat.le_refl l) (by omega)) c9
    | succ m ih =>
      intro l hl hjl hb
      refine Rn.iload_n (pc1 := 5)  dX0_isLastOfItsKey_4 rfl rfl rfl ?_
      refine Rn.aload_n (pc1 := 6)  dX0_isLastOfItsKey_5 rfl rfl rfl ?_
      refine Rn.getfield (pc1 := 9)  dX0_isLastOfItsKey_6 rfl fX0_24 (by first | assumption | exact mset_same | exact mget_ne (by omega) (by assumption)) rfl ?_
      refine Rn.icmp_ge (pc1 := 12) 39 dX0_isLastOfItsKey_9 rfl (by decide) (fun c9 => ?_) (fun c9 => ?_)
      · exact absurd c9 (nI_ge (by omega) (by omega))
      · refine Rn.aload_n (pc1 := 13)  dX0_isLastOfItsKey_12 rfl rfl rfl ?_
        refine Rn.getfield (pc1 := 16)  dX0_isLastOfItsKey_13 rfl fX0_15 (by first | assumption | exact mset_same | exact mget_ne (by omega) (by assumption)) rfl ?_
        refine Rn.iload_n (pc1 := 17)  dX0_isLastOfItsKey_16 rfl rfl rfl ?_
        refine Rn.cN_i (pc1 := 20) (eX8_at F.2.2.1 rfl (show l < 60 by omega) (by decide)) dX0_isLastOfItsKey_17 rfl nX0_41 oX8_at rfl rfl (Nat.le_of_ble_eq_true rfl) (by decide) (by decide) (fun v17 μ17 h17 => ?_)
        obtain ⟨rfl, rfl⟩ := h17
        refine Rn.aload_n (pc1 := 21)  dX0_isLastOfItsKey_20 rfl rfl rfl ?_
        refine Rn.getfield (pc1 := 24)  dX0_isLastOfItsKey_21 rfl fX0_15 (by first | assumption | exact mset_same | exact mget_ne (by omega) (by assumption)) rfl ?_
        refine Rn.iload_n (pc1 := 25)  dX0_isLastOfItsKey_24 rfl rfl rfl ?_
        refine Rn.cN_i (pc1 := 28) (eX8_at F.2.2.1 rfl (show j < 60 by omega) (by decide)) dX0_isLastOfItsKey_25 rfl nX0_41 oX8_at rfl rfl (Nat.le_of_ble_eq_true rfl) (by decide) (by decide) (fun v25 μ25 h25 => ?_)
        obtain ⟨rfl, rfl⟩ := h25
        refine Rn.icmp_ne (pc1 := 31) 33 dX0_isLastOfItsKey_28 rfl (by decide) (fun c28 => ?_) (fun c28 => ?_)
        · refine Rn.iinc (pc1 := 36)  dX0_isLastOfItsKey_33 rfl rfl (nI_1 l) (by decide) rfl rfl ?_
          refine Rn.goto 4 dX0_isLastOfItsKey_36 (by decide) ?_
          refine ih (l + 1) (by omega) (by omega) (fun q h1 h2 => ?_)
          by_cases e : q = l
          · subst e; exact c28
          · exact hb q h1 (by omega)
        · have e : lastB g1 j h = false := by
            cases hb2 : lastB g1 j h
            · rfl
            · exact absurd c28 (lastB_iff.mp hb2 l hjl (by omega))
          rw [e]
          refine Rn.iconst (pc1 := 32) (v := nI 0) dX0_isLastOfItsKey_31 rfl (by decide) ?_
          exact Rn.ireturn dX0_isLastOfItsKey_32 rfl rfl ⟨_, rfl, rfl, rfl⟩
  refine Rn.iload_n (pc1 := 1)  dX0_isLastOfItsKey_0 rfl rfl rfl ?_
  refine Rn.iconst (pc1 := 2) (v := nI 1) dX0_isLastOfItsKey_1 rfl (by decide) ?_
  refine Rn.iadd (pc1 := 3)  dX0_isLastOfItsKey_2 rfl (nI_add j 1) ?_
  refine Rn.istore_n (pc1 := 4)  dX0_isLastOfItsKey_3 rfl rfl (by decide) rfl rfl ?_
  exact loop (h - (j + 1)) (j + 1) (by omega) (by omega) (fun q h1 h2 => by omega)
theorem eX0_segmentOf {x s : Int32} (hs : nI 1 ≤ s) : EvA G 0 kX0_segmentOf [.int x, .int s] μ sz 0 0 (rI fun v μ' => v = x / s ∧ μ' = μ) := by
  refine EvA.of (L := [some (.int x), some (.int s)]) (by decide +kernel) (Nat.le_of_ble_eq_true rfl) rfl ?_
  refine Rn.iload_n (pc1 := 1)  dX0_segmentOf_0 rfl rfl rfl ?_
  refine Rn.iconst (pc1 := 2) (v := nI 1) dX0_segmentOf_1 rfl (by decide) ?_
  refine Rn.icmp_ge (pc1 := 5) 9 dX0_segmentOf_2 rfl (by decide) (fun c2 => ?_) (fun c2 => ?_)
  · refine Rn.iload_n (pc1 := 10)  dX0_segmentOf_9 rfl rfl rfl ?_
    refine Rn.iload_n (pc1 := 11)  dX0_segmentOf_10 rfl rfl rfl ?_
    refine Rn.idiv (pc1 := 12)  dX0_segmentOf_11 rfl (fun e => by rw [e] at hs; exact absurd hs (by decide)) rfl ?_
    exact Rn.ireturn dX0_segmentOf_12 rfl rfl ⟨_, rfl, rfl, rfl⟩
  · exact absurd hs c2
theorem eX0_isClosed {j : Nat} {i s : Int32} (F : FB μ a h nx fl gn g0 g1 g2 g3) (hi : i = nI j) (hj : j < 60) (hs : nI 1 ≤ s) : EvA G 1 kX0_isClosed [.ref a, .int i, .int s] μ sz 0 0 (rI fun v μ' => v = bI (closB (g0 j) nx s) ∧ μ' = μ) := by
  have hO := F.1
  refine EvA.of (L := [some (.ref a), some (.int i), some (.int s)]) (by decide +kernel) (Nat.le_of_ble_eq_true rfl) rfl ?_
  refine Rn.aload_n (pc1 := 1)  dX0_isClosed_0 rfl rfl rfl ?_
  refine Rn.getfield (pc1 := 4)  dX0_isClosed_1 rfl fX0_9 (by first | assumption | exact mset_same | exact mget_ne (by omega) (by assumption)) rfl ?_
  refine Rn.iload_n (pc1 := 5)  dX0_isClosed_4 rfl rfl rfl ?_
  refine Rn.cN_i (pc1 := 8) (eX8_at F.2.1 hi hj (by decide)) dX0_isClosed_5 rfl nX0_41 oX8_at rfl rfl (Nat.le_of_ble_eq_true rfl) (by decide) (by decide) (fun v5 μ5 h5 => ?_)
  obtain ⟨rfl, rfl⟩ := h5
  refine Rn.iload_n (pc1 := 9)  dX0_isClosed_8 rfl rfl rfl ?_
  refine Rn.cS_i (pc1 := 12) (eX0_segmentOf hs) dX0_isClosed_9 rfl qX0_57 oX0_segmentOf rfl rfl (Nat.le_of_ble_eq_true rfl) (by decide) (by decide) (fun v9 μ9 h9 => ?_)
  obtain ⟨rfl, rfl⟩ := h9
  refine Rn.aload_n (pc1 := 13)  dX0_isClosed_12 rfl rfl rfl ?_
  refine Rn.getfield (pc1 := 16)  dX0_isClosed_13 rfl fX0_28 (by first | assumption | exact mset_same | exact mget_ne (by omega) (by assumption)) rfl ?_
  refine Rn.iload_n (pc1 := 17)  dX0_isClosed_16 rfl rfl rfl ?_
  refine Rn.cS_i (pc1 := 20) (eX0_segmentOf hs) dX0_isClosed_17 rfl qX0_57 oX0_segmentOf rfl rfl (Nat.le_of_ble_eq_true rfl) (by decide) (by decide) (fun v17 μ17 h17 => ?_)
  obtain ⟨rfl, rfl⟩ := h17
  refine Rn.icmp_eq (pc1 := 23) 27 dX0_isClosed_20 rfl (by decide) (fun c20 => ?_) (fun c20 => ?_)
  · rw [show closB (g0 j) nx s = false by unfold closB; rw [decide_eq_true c20]; rfl]
    refine Rn.iconst (pc1 := 28) (v := nI 0) dX0_isClosed_27 rfl (by decide) ?_
    exact Rn.ireturn dX0_isClosed_28 rfl rfl ⟨_, rfl, rfl, rfl⟩
  · rw [show closB (g0 j) nx s = true by unfold closB; rw [decide_eq_false c20]; rfl]
    refine Rn.iconst (pc1 := 24) (v := nI 1) dX0_isClosed_23 rfl (by decide) ?_
    refine Rn.goto 28 dX0_isClosed_24 (by decide) ?_
    exact Rn.ireturn dX0_isClosed_28 rfl rfl ⟨_, rfl, rfl, rfl⟩
theorem eX0_isOldRemoval {j : Nat} {i gr mi : Int32} (F : FB μ a h nx fl gn g0 g1 g2 g3) (hi : i = nI j) (hj : j < 60) : EvA G 1 kX0_isOldRemoval [.ref a, .int i, .int gr, .int mi] μ sz 0 0 (rI fun v μ' => v = bI (oldB (g2 j) (g3 j) gr mi) ∧ μ' = μ) := by
  have hO := F.1
  refine EvA.of (L := [some (.ref a), some (.int i), some (.int gr), some (.int mi)]) (by decide +kernel) (Nat.le_of_ble_eq_true rfl) rfl ?_
  refine Rn.aload_n (pc1 := 1)  dX0_isOldRemoval_0 rfl rfl rfl ?_
  refine Rn.getfield (pc1 := 4)  dX0_isOldRemoval_1 rfl fX0_18 (by first | assumption | exact mset_same | exact mget_ne (by omega) (by assumption)) rfl ?_
  refine Rn.iload_n (pc1 := 5)  dX0_isOldRemoval_4 rfl rfl rfl ?_
  refine Rn.cN_i (pc1 := 8) (eX8_at F.2.2.2.1 hi hj (by decide)) dX0_isOldRemoval_5 rfl nX0_41 oX8_at rfl rfl (Nat.le_of_ble_eq_true rfl) (by decide) (by decide) (fun v5 μ5 h5 => ?_)
  obtain ⟨rfl, rfl⟩ := h5
  refine Rn.bipush (pc1 := 10) (v := (-6)) dX0_isOldRemoval_8 rfl (by decide) ?_
  refine Rn.icmp_ne (pc1 := 13) 31 dX0_isOldRemoval_10 rfl (by decide) (fun c10 => ?_) (fun c10 => ?_)
  · rw [show oldB (g2 j) (g3 j) gr mi = false by unfold oldB; rw [decide_eq_false c10]; rfl]
    refine Rn.iconst (pc1 := 32) (v := nI 0) dX0_isOldRemoval_31 rfl (by decide) ?_
    exact Rn.ireturn dX0_isOldRemoval_32 rfl rfl ⟨_, rfl, rfl, rfl⟩
  · refine Rn.iload_n (pc1 := 14)  dX0_isOldRemoval_13 rfl rfl rfl ?_
    refine Rn.aload_n (pc1 := 15)  dX0_isOldRemoval_14 rfl rfl rfl ?_
    refine Rn.getfield (pc1 := 18)  dX0_isOldRemoval_15 rfl fX0_21 (by first | assumption | exact mset_same | exact mget_ne (by omega) (by assumption)) rfl ?_
    refine Rn.iload_n (pc1 := 19)  dX0_isOldRemoval_18 rfl rfl rfl ?_
    refine Rn.cN_i (pc1 := 22) (eX8_at F.2.2.2.2 hi hj (by decide)) dX0_isOldRemoval_19 rfl nX0_41 oX8_at rfl rfl (Nat.le_of_ble_eq_true rfl) (by decide) (by decide) (fun v19 μ19 h19 => ?_)
    obtain ⟨rfl, rfl⟩ := h19
    refine Rn.isub (pc1 := 23)  dX0_isOldRemoval_22 rfl rfl ?_
    refine Rn.iload_n (pc1 := 24)  dX0_isOldRemoval_23 rfl rfl rfl ?_
    refine Rn.icmp_le (pc1 := 27) 31 dX0_isOldRemoval_24 rfl (by decide) (fun c24 => ?_) (fun c24 => ?_)
    · rw [show oldB (g2 j) (g3 j) gr mi = false by unfold oldB; rw [decide_eq_false (i32_nlt.mpr c24), Bool.and_false]]
      refine Rn.iconst (pc1 := 32) (v := nI 0) dX0_isOldRemoval_31 rfl (by decide) ?_
      exact Rn.ireturn dX0_isOldRemoval_32 rfl rfl ⟨_, rfl, rfl, rfl⟩
    · rw [show oldB (g2 j) (g3 j) gr mi = true by unfold oldB; rw [decide_eq_true (i32_nle.mp c24), decide_eq_true c10]; rfl]
      refine Rn.iconst (pc1 := 28) (v := nI 1) dX0_isOldRemoval_27 rfl (by decide) ?_
      refine Rn.goto 32 dX0_isOldRemoval_28 (by decide) ?_
      exact Rn.ireturn dX0_isOldRemoval_32 rfl rfl ⟨_, rfl, rfl, rfl⟩
theorem eX0_wouldGo {j : Nat} {i s gr mi : Int32} (F : FB μ a h nx fl gn g0 g1 g2 g3) (hh : h ≤ 60) (hi : i = nI j) (hj : j < h) (hs : nI 1 ≤ s) : EvA G 2 kX0_wouldGo [.ref a, .int i, .int s, .int gr, .int mi] μ sz 0 0 (rI fun v μ' => v = bI (goB h nx s gr mi g0 g1 g2 g3 j) ∧ μ' = μ) := by
  have hO := F.1
  refine EvA.of (L := [some (.ref a), some (.int i), some (.int s), some (.int gr), some (.int mi)]) (by decide +kernel) (Nat.le_of_ble_eq_true rfl) rfl ?_
  refine Rn.aload_n (pc1 := 1)  dX0_wouldGo_0 rfl rfl rfl ?_
  refine Rn.iload_n (pc1 := 2)  dX0_wouldGo_1 rfl rfl rfl ?_
  refine Rn.iload_n (pc1 := 3)  dX0_wouldGo_2 rfl rfl rfl ?_
  refine Rn.cV_i (pc1 := 6) (eX0_isClosed F hi (by omega) hs) dX0_wouldGo_3 rfl qX0_61 oX0_isClosed (by first | assumption | exact mset_same | exact mget_ne (by omega) (by assumption)) rfl rfl rfl rfl (Nat.le_of_ble_eq_true rfl) (by decide) (by decide) (fun v3 μ3 h3 => ?_)
  obtain ⟨rfl, rfl⟩ := h3
  refine Rn.if_eq (pc1 := 9) 32 dX0_wouldGo_6 rfl (by decide) (fun c6 => ?_) (fun c6 => ?_)
  · rw [show goB h nx s gr mi g0 g1 g2 g3 j = false by unfold goB; rw [bI_0 c6]; rfl]
    refine Rn.iconst (pc1 := 33) (v := nI 0) dX0_wouldGo_32 rfl (by decide) ?_
    exact Rn.ireturn dX0_wouldGo_33 rfl rfl ⟨_, rfl, rfl, rfl⟩
  · refine Rn.aload_n (pc1 := 10)  dX0_wouldGo_9 rfl rfl rfl ?_
    refine Rn.iload_n (pc1 := 11)  dX0_wouldGo_10 rfl rfl rfl ?_
    refine Rn.cV_i (pc1 := 14) (eX0_isLastOfItsKey F hh hi hj) dX0_wouldGo_11 rfl qX0_65 oX0_isLastOfItsKey (by first | assumption | exact mset_same | exact mget_ne (by omega) (by assumption)) rfl rfl rfl rfl (Nat.le_of_ble_eq_true rfl) (by decide) (by decide) (fun v11 μ11 h11 => ?_)
    obtain ⟨rfl, rfl⟩ := h11
    refine Rn.if_eq (pc1 := 17) 28 dX0_wouldGo_14 rfl (by decide) (fun c14 => ?_) (fun c14 => ?_)
    · rw [show goB h nx s gr mi g0 g1 g2 g3 j = true by unfold goB; rw [bI_n c6, bI_0 c14]; rfl]
      refine Rn.iconst (pc1 := 29) (v := nI 1) dX0_wouldGo_28 rfl (by decide) ?_
      refine Rn.goto 33 dX0_wouldGo_29 (by decide) ?_
      exact Rn.ireturn dX0_wouldGo_33 rfl rfl ⟨_, rfl, rfl, rfl⟩
    · refine Rn.aload_n (pc1 := 18)  dX0_wouldGo_17 rfl rfl rfl ?_
      refine Rn.iload_n (pc1 := 19)  dX0_wouldGo_18 rfl rfl rfl ?_
      refine Rn.iload_n (pc1 := 20)  dX0_wouldGo_19 rfl rfl rfl ?_
      refine Rn.iload (pc1 := 22)  dX0_wouldGo_20 rfl rfl ?_
      refine Rn.cV_i (pc1 := 25) (eX0_isOldRemoval F hi (by omega)) dX0_wouldGo_22 rfl qX0_69 oX0_isOldRemoval (by first | assumption | exact mset_same | exact mget_ne (by omega) (by assumption)) rfl rfl rfl rfl (Nat.le_of_ble_eq_true rfl) (by decide) (by decide) (fun v22 μ22 h22 => ?_)
      obtain ⟨rfl, rfl⟩ := h22
      refine Rn.if_eq (pc1 := 28) 32 dX0_wouldGo_25 rfl (by decide) (fun c25 => ?_) (fun c25 => ?_)
      · rw [show goB h nx s gr mi g0 g1 g2 g3 j = false by unfold goB; rw [bI_0 c25, bI_n c14]; exact Bool.and_false _]
        refine Rn.iconst (pc1 := 33) (v := nI 0) dX0_wouldGo_32 rfl (by decide) ?_
        exact Rn.ireturn dX0_wouldGo_33 rfl rfl ⟨_, rfl, rfl, rfl⟩
      · rw [show goB h nx s gr mi g0 g1 g2 g3 j = true by unfold goB; rw [bI_n c25, bI_n c6, Bool.or_true]; rfl]
        refine Rn.iconst (pc1 := 29) (v := nI 1) dX0_wouldGo_28 rfl (by decide) ?_
        refine Rn.goto 33 dX0_wouldGo_29 (by decide) ?_
        exact Rn.ireturn dX0_wouldGo_33 rfl rfl ⟨_, rfl, rfl, rfl⟩
theorem eX0_leftAfterThinning {s gr mi : Int32} (F : FB μ a h nx fl gn g0 g1 g2 g3) (hh : h ≤ 60) (hs : nI 1 ≤ s) : EvA G 3 kX0_leftAfterThinning [.ref a, .int s, .int gr, .int mi] μ sz 0 0 (rI fun v μ' => v = nI (leftN (goB h nx s gr mi g0 g1 g2 g3) h) ∧ μ' = μ) := by
  have hO := F.1
  refine EvA.of (L := [some (.ref a), some (.int s), some (.int gr), some (.int mi), none, none]) (by decide +kernel) (Nat.le_of_ble_eq_true rfl) rfl ?_
  have loop : ∀ (m i : Nat), i + m = h → Rn G 3 kX0_leftAfterThinning 6 [some (.ref a), some (.int s), some (.int gr), some (.int mi), some (.int (nI (leftN (goB h nx s gr mi g0 g1 g2 g3) i))), some (.int (nI i))] [] μ sz 0 0 (rI fun v μ' => v = nI (leftN (goB h nx s gr mi g0 g1 g2 g3) h) ∧ μ' = μ) := by
    intro m
    induction m with
    | zero =>
      intro i hi
      obtain rfl : i = h := by omega
      refine Rn.iload (pc1 := 8)  dX0_leftAfterThinning_6 rfl rfl ?_
      refine Rn.aload_n (pc1 := 9)  dX0_leftAfterThinning_8 rfl rfl rfl ?_
      refine Rn.getfield (pc1 := 12)  dX0_leftAfterThinning_9 rfl fX0_24 (by first | assumption | exact mset_same | exact mget_ne (by omega) (by assumption)) rfl ?_
      refine Rn.icmp_ge (pc1 := 15) 36 dX0_leftAfterThinning_12 rfl (by decide) (fun c12 => ?_) (fun c12 => ?_)
      · refine Rn.iload (pc1 := 38)  dX0_leftAfterThinning_36 rfl rfl ?_
        exact Rn.ireturn dX0_leftAfterThinning_38 rfl rfl ⟨_, rfl, rfl, rfl⟩
      · exact absurd (nI_le (Nat.le_refl i) (by omega)) c12
    | succ m ih =>
      intro i hi
      refine Rn.iload (pc1 := 8)  dX0_leftAfterThinning_6 rfl rfl ?_
      refine Rn.aload_n (pc1 := 9)  dX0_leftAfterThinning_8 rfl rfl rfl ?_
      refine Rn.getfield (pc1 := 12)  dX0_leftAfterThinning_9 rfl fX0_24 (by first | assumption | exact mset_same | exact mget_ne (by omega) (by assumption)) rfl ?_
      refine Rn.icmp_ge (pc1 := 15) 36 dX0_leftAfterThinning_12 rfl (by decide) (fun c12 => ?_) (fun c12 => ?_)
      · exact absurd c12 (nI_ge (by omega) (by omega))
      · refine Rn.aload_n (pc1 := 16)  dX0_leftAfterThinning_15 rfl rfl rfl ?_
        refine Rn.iload (pc1 := 18)  dX0_leftAfterThinning_16 rfl rfl ?_
        refine Rn.iload_n (pc1 := 19)  dX0_leftAfterThinning_18 rfl rfl rfl ?_
        refine Rn.iload_n (pc1 := 20)  dX0_leftAfterThinning_19 rfl rfl rfl ?_
        refine Rn.iload_n (pc1 := 21)  dX0_leftAfterThinning_20 rfl rfl rfl ?_
        refine Rn.cV_i (pc1 := 24) (eX0_wouldGo F hh rfl (show i < h by omega) hs) dX0_leftAfterThinning_21 rfl qX0_73 oX0_wouldGo (by first | assumption | exact mset_same | exact mget_ne (by omega) (by assumption)) rfl rfl rfl rfl (Nat.le_of_ble_eq_true rfl) (by decide) (by decide) (fun v21 μ21 h21 => ?_)
        obtain ⟨rfl, rfl⟩ := h21
        refine Rn.if_ne (pc1 := 27) 30 dX0_leftAfterThinning_24 rfl (by decide) (fun c24 => ?_) (fun c24 => ?_)
        · have e : leftN (goB h nx s gr mi g0 g1 g2 g3) (i + 1) = leftN (goB h nx s gr mi g0 g1 g2 g3) i := by show _ + _ = _; rw [if_pos (bI_n c24), Nat.add_zero]
          refine Rn.iinc (pc1 := 33)  dX0_leftAfterThinning_30 rfl rfl (nI_1 i) (by decide) rfl rfl ?_
          refine Rn.goto 6 dX0_leftAfterThinning_33 (by decide) ?_
          have := ih (i + 1) (by omega); rw [e] at this; exact this
        · have e : leftN (goB h nx s gr mi g0 g1 g2 g3) (i + 1) = leftN (goB h nx s gr mi g0 g1 g2 g3) i + 1 := by show _ + _ = _; rw [if_neg (by rw [bI_0 c24]; decide)]
          refine Rn.iinc (pc1 := 30)  dX0_leftAfterThinning_27 rfl rfl (nI_1 _) (by decide) rfl rfl ?_
          refine Rn.iinc (pc1 := 33)  dX0_leftAfterThinning_30 rfl rfl (nI_1 i) (by decide) rfl rfl ?_
          refine Rn.goto 6 dX0_leftAfterThinning_33 (by decide) ?_
          have := ih (i + 1) (by omega); rw [e] at this; exact this
  refine Rn.iconst (pc1 := 1) (v := nI 0) dX0_leftAfterThinning_0 rfl (by decide) ?_
  refine Rn.istore (pc1 := 3)  dX0_leftAfterThinning_1 rfl (by decide) rfl rfl ?_
  refine Rn.iconst (pc1 := 4) (v := nI 0) dX0_leftAfterThinning_3 rfl (by decide) ?_
  refine Rn.istore (pc1 := 6)  dX0_leftAfterThinning_4 rfl (by decide) rfl rfl ?_
  exact loop h 0 (by omega)
theorem eX0_floorAfterThinning {s gr mi : Int32} (F : FB μ a h nx fl gn g0 g1 g2 g3) (hh : h ≤ 60) (hs : nI 1 ≤ s) : EvA G 3 kX0_floorAfterThinning [.ref a, .int s, .int gr, .int mi] μ sz 0 0 (rI fun v μ' => v = floorN (goB h nx s gr mi g0 g1 g2 g3) (fun i => lastB g1 i h) g0 fl h ∧ μ' = μ) := by
  have hO := F.1
  refine EvA.of (L := [some (.ref a), some (.int s), some (.int gr), some (.int mi), none, none]) (by decide +kernel) (Nat.le_of_ble_eq_true rfl) rfl ?_
  have loop : ∀ (m i : Nat), i + m = h → Rn G 3 kX0_floorAfterThinning 9 [some (.ref a), some (.int s), some (.int gr), some (.int mi), some (.int (floorN (goB h nx s gr mi g0 g1 g2 g3) (fun i => lastB g1 i h) g0 fl i)), some (.int (nI i))] [] μ sz 0 0 (rI fun v μ' => v = floorN (goB h nx s gr mi g0 g1 g2 g3) (fun i => lastB g1 i h) g0 fl h ∧ μ' = μ) := by
    intro m
    induction m with
    | zero =>
      intro i hi
      obtain rfl : i = h := by omega
      refine Rn.iload (pc1 := 11)  dX0_floorAfterThinning_9 rfl rfl ?_
      refine Rn.aload_n (pc1 := 12)  dX0_floorAfterThinning_11 rfl rfl rfl ?_
      refine Rn.getfield (pc1 := 15)  dX0_floorAfterThinning_12 rfl fX0_24 (by first | assumption | exact mset_same | exact mget_ne (by omega) (by assumption)) rfl ?_
      refine Rn.icmp_ge (pc1 := 18) 60 dX0_floorAfterThinning_15 rfl (by decide) (fun c15 => ?_) (fun c15 => ?_)
      · refine Rn.iload (pc1 := 62)  dX0_floorAfterThinning_60 rfl rfl ?_
        exact Rn.ireturn dX0_floorAfterThinning_62 rfl rfl ⟨_, rfl, rfl, rfl⟩
      · exact absurd (nI_le (Nat.le_refl i) (by omega)) c15
    | succ m ih =>
      intro i hi
      generalize e0 : floorN (goB h nx s gr mi g0 g1 g2 g3) (fun i => lastB g1 i h) g0 fl i = x
      refine Rn.iload (pc1 := 11)  dX0_floorAfterThinning_9 rfl rfl ?_
      refine Rn.aload_n (pc1 := 12)  dX0_floorAfterThinning_11 rfl rfl rfl ?_
      refine Rn.getfield (pc1 := 15)  dX0_floorAfterThinning_12 rfl fX0_24 (by first | assumption | exact mset_same | exact mget_ne (by omega) (by assumption)) rfl ?_
      refine Rn.icmp_ge (pc1 := 18) 60 dX0_floorAfterThinning_15 rfl (by decide) (fun c15 => ?_) (fun c15 => ?_)
      · exact absurd c15 (nI_ge (by omega) (by omega))
      · refine Rn.aload_n (pc1 := 19)  dX0_floorAfterThinning_18 rfl rfl rfl ?_
        refine Rn.iload (pc1 := 21)  dX0_floorAfterThinning_19 rfl rfl ?_
        refine Rn.cV_i (pc1 := 24) (eX0_isLastOfItsKey F hh rfl (show i < h by omega)) dX0_floorAfterThinning_21 rfl qX0_65 oX0_isLastOfItsKey (by first | assumption | exact mset_same | exact mget_ne (by omega) (by assumption)) rfl rfl rfl rfl (Nat.le_of_ble_eq_true rfl) (by decide) (by decide) (fun v21 μ21 h21 => ?_)
        obtain ⟨rfl, rfl⟩ := h21
        refine Rn.if_eq (pc1 := 27) 54 dX0_floorAfterThinning_24 rfl (by decide) (fun c24 => ?_) (fun c24 => ?_)
        · have e : floorN (goB h nx s gr mi g0 g1 g2 g3) (fun i => lastB g1 i h) g0 fl (i + 1) = x := by show (if _ then _ else _) = _; rw [if_neg (fun q => absurd q.1 (by show ¬ lastB g1 i h = true; rw [bI_0 c24]; decide)), e0]
          refine Rn.iinc (pc1 := 57)  dX0_floorAfterThinning_54 rfl rfl (nI_1 i) (by decide) rfl rfl ?_
          refine Rn.goto 9 dX0_floorAfterThinning_57 (by decide) ?_
          have := ih (i + 1) (by omega); rw [e] at this; exact this
        · refine Rn.aload_n (pc1 := 28)  dX0_floorAfterThinning_27 rfl rfl rfl ?_
          refine Rn.iload (pc1 := 30)  dX0_floorAfterThinning_28 rfl rfl ?_
          refine Rn.iload_n (pc1 := 31)  dX0_floorAfterThinning_30 rfl rfl rfl ?_
          refine Rn.iload_n (pc1 := 32)  dX0_floorAfterThinning_31 rfl rfl rfl ?_
          refine Rn.iload_n (pc1 := 33)  dX0_floorAfterThinning_32 rfl rfl rfl ?_
          refine Rn.cV_i (pc1 := 36) (eX0_wouldGo F hh rfl (show i < h by omega) hs) dX0_floorAfterThinning_33 rfl qX0_73 oX0_wouldGo (by first | assumption | exact mset_same | exact mget_ne (by omega) (by assumption)) rfl rfl rfl rfl (Nat.le_of_ble_eq_true rfl) (by decide) (by decide) (fun v33 μ33 h33 => ?_)
          obtain ⟨rfl, rfl⟩ := h33
          refine Rn.if_eq (pc1 := 39) 54 dX0_floorAfterThinning_36 rfl (by decide) (fun c36 => ?_) (fun c36 => ?_)
          · have e : floorN (goB h nx s gr mi g0 g1 g2 g3) (fun i => lastB g1 i h) g0 fl (i + 1) = x := by show (if _ then _ else _) = _; rw [if_neg (fun q => absurd q.2 (by rw [bI_0 c36]; decide)), e0]
            refine Rn.iinc (pc1 := 57)  dX0_floorAfterThinning_54 rfl rfl (nI_1 i) (by decide) rfl rfl ?_
            refine Rn.goto 9 dX0_floorAfterThinning_57 (by decide) ?_
            have := ih (i + 1) (by omega); rw [e] at this; exact this
          · have e : floorN (goB h nx s gr mi g0 g1 g2 g3) (fun i => lastB g1 i h) g0 fl (i + 1) = if x < g0 i + nI 1 then g0 i + nI 1 else x := by show (if _ then _ else _) = _; rw [if_pos ⟨bI_n c24, bI_n c36⟩, e0]
            refine Rn.iload (pc1 := 41)  dX0_floorAfterThinning_39 rfl rfl ?_
            refine Rn.aload_n (pc1 := 42)  dX0_floorAfterThinning_41 rfl rfl rfl ?_
            refine Rn.iload (pc1 := 44)  dX0_floorAfterThinning_42 rfl rfl ?_
            refine Rn.cV_i (pc1 := 47) (eX0_numberAt F rfl (show i < 60 by omega)) dX0_floorAfterThinning_44 rfl qX0_77 oX0_numberAt (by first | assumption | exact mset_same | exact mget_ne (by omega) (by assumption)) rfl rfl rfl rfl (Nat.le_of_ble_eq_true rfl) (by decide) (by decide) (fun v44 μ44 h44 => ?_)
            obtain ⟨rfl, rfl⟩ := h44
            refine Rn.iconst (pc1 := 48) (v := nI 1) dX0_floorAfterThinning_47 rfl (by decide) ?_
            refine Rn.iadd (pc1 := 49)  dX0_floorAfterThinning_48 rfl rfl ?_
            refine Rn.mmax (pc1 := 52)  dX0_floorAfterThinning_49 rfl qX0_80 (Nat.le_of_ble_eq_true rfl) (by decide) rfl ?_
            refine Rn.istore (pc1 := 54)  dX0_floorAfterThinning_52 rfl (by decide) rfl rfl ?_
            refine Rn.iinc (pc1 := 57)  dX0_floorAfterThinning_54 rfl rfl (nI_1 i) (by decide) rfl rfl ?_
            refine Rn.goto 9 dX0_floorAfterThinning_57 (by decide) ?_
            have := ih (i + 1) (by omega); rw [e] at this; exact this
  refine Rn.aload_n (pc1 := 1)  dX0_floorAfterThinning_0 rfl rfl rfl ?_
  refine Rn.getfield (pc1 := 4)  dX0_floorAfterThinning_1 rfl fX0_31 (by first | assumption | exact mset_same | exact mget_ne (by omega) (by assumption)) rfl ?_
  refine Rn.istore (pc1 := 6)  dX0_floorAfterThinning_4 rfl (by decide) rfl rfl ?_
  refine Rn.iconst (pc1 := 7) (v := nI 0) dX0_floorAfterThinning_6 rfl (by decide) ?_
  refine Rn.istore (pc1 := 9)  dX0_floorAfterThinning_7 rfl (by decide) rfl rfl ?_
  exact loop h 0 (by omega)
theorem eX0_thinOut {s gr mi : Int32} (F : FB μ a h nx fl gn g0 g1 g2 g3) (hh : h ≤ 60) (hs : nI 1 ≤ s) {p : Nat → Bool} (hp : goB h nx s gr mi g0 g1 g2 g3 = p) : EvA G 3 kX0_thinOut [.ref a, .int s, .int gr, .int mi] μ sz 0 0 (rI fun v μ' => v = nI (h - leftN p h) ∧ (∃ k0 k1 k2 k3, FB μ' a (leftN p h) nx fl (gn + nI (h - leftN p h)) k0 k1 k2 k3 ∧ ∀ j q, (kept p h)[j]? = some q → k0 j = g0 q ∧ k1 j = g1 q ∧ k2 j = g2 q ∧ k3 j = g3 q) ∧ Fr a (a + 5) μ μ') := by
  refine EvA.of (L := [some (.ref a), some (.int s), some (.int gr), some (.int mi), none, none]) (by decide +kernel) (Nat.le_of_ble_eq_true rfl) rfl ?_
  have loop : ∀ (m i : Nat), i + m = h → ∀ (μ1 : Mm) (k0 k1 k2 k3 : Nat → Int32), FB μ1 a h nx fl gn k0 k1 k2 k3 → Fr a (a + 5) μ μ1 → (∀ j q, (kept p i)[j]? = some q → k0 j = g0 q ∧ k1 j = g1 q ∧ k2 j = g2 q ∧ k3 j = g3 q) → (∀ j, i ≤ j → j < h → k0 j = g0 j ∧ k1 j = g1 j ∧ k2 j = g2 j ∧ k3 j = g3 j) → Rn G 3 kX0_thinOut 6 [some (.ref a), some (.int s), some (.int gr), some (.int mi), some (.int (nI (leftN p i))), some (.int (nI i))] [] μ1 sz 0 0 (rI fun v μ' => v = nI (h - leftN p h) ∧ (∃ k0 k1 k2 k3, FB μ' a (leftN p h) nx fl (gn + nI (h - leftN p h)) k0 k1 k2 k3 ∧ ∀ j q, (kept p h)[j]? = some q → k0 j = g0 q ∧ k1 j = g1 q ∧ k2 j = g2 q ∧ k3 j = g3 q) ∧ Fr a (a + 5) μ μ') := by
    intro m
    induction m with
    | zero =>
      intro i hi μ1 k0 k1 k2 k3 F1 q1 hk1 hk2
      obtain rfl : i = h := by omega
      have hO := F1.1
      have hle := leftN_le p i
      refine Rn.iload (pc1 := 8)  dX0_thinOut_6 rfl rfl ?_
      refine Rn.aload_n (pc1 := 9)  dX0_thinOut_8 rfl rfl rfl ?_
      refine Rn.getfield (pc1 := 12)  dX0_thinOut_9 rfl fX0_24 (by first | assumption | exact mset_same | exact mget_ne (by omega) (by assumption)) rfl ?_
      refine Rn.icmp_ge (pc1 := 15) 66 dX0_thinOut_12 rfl (by decide) (fun c12 => ?_) (fun c12 => ?_)
      · refine Rn.aload_n (pc1 := 67)  dX0_thinOut_66 rfl rfl rfl ?_
        refine Rn.getfield (pc1 := 70)  dX0_thinOut_67 rfl fX0_24 (by first | assumption | exact mset_same | exact mget_ne (by omega) (by assumption)) rfl ?_
        refine Rn.iload (pc1 := 72)  dX0_thinOut_70 rfl rfl ?_
        refine Rn.isub (pc1 := 73)  dX0_thinOut_72 rfl (nI_sub hle) ?_
        refine Rn.istore (pc1 := 75)  dX0_thinOut_73 rfl (by decide) rfl rfl ?_
        refine Rn.aload_n (pc1 := 76)  dX0_thinOut_75 rfl rfl rfl ?_
        refine Rn.iload (pc1 := 78)  dX0_thinOut_76 rfl rfl ?_
        refine Rn.putfield (pc1 := 81)  dX0_thinOut_78 rfl pX0_24 (fun h => Bool.noConfusion h) (by assumption) (Nat.le_of_ble_eq_true rfl) rfl rfl rfl ?_
        have F2 := F1.setO (leftN p i) nx fl gn
        have O2 := F2.1
        refine Rn.aload_n (pc1 := 82)  dX0_thinOut_81 rfl rfl rfl ?_
        refine Rn.dup (pc1 := 83)  dX0_thinOut_82 rfl rfl ?_
        refine Rn.getfield (pc1 := 86)  dX0_thinOut_83 rfl fX0_34 (by first | assumption | exact mset_same | exact mget_ne (by omega) (by assumption)) rfl ?_
        refine Rn.iload (pc1 := 88)  dX0_thinOut_86 rfl rfl ?_
        refine Rn.iadd (pc1 := 89)  dX0_thinOut_88 rfl rfl ?_
        refine Rn.putfield (pc1 := 92)  dX0_thinOut_89 rfl pX0_34 (fun h => Bool.noConfusion h) (by assumption) (Nat.le_of_ble_eq_true rfl) rfl rfl rfl ?_
        have F3 := F2.setO (leftN p i) nx fl (gn + nI (i - leftN p i))
        refine Rn.iload (pc1 := 94)  dX0_thinOut_92 rfl rfl ?_
        exact Rn.ireturn dX0_thinOut_94 rfl rfl ⟨_, rfl, rfl, ⟨k0, k1, k2, k3, F3, hk1⟩, (q1.set_ (by omega) (by omega)).set_ (by omega) (by omega)⟩
      · exact absurd (nI_le (Nat.le_refl i) (by omega)) c12
    | succ m ih =>
      intro i hi μ1 k0 k1 k2 k3 F1 q1 hk1 hk2
      have hO := F1.1
      have hle := leftN_le p i
      have hg : goB h nx s gr mi k0 k1 k2 k3 i = p i := by rw [goB_congr hk2 (by omega), hp]
      refine Rn.iload (pc1 := 8)  dX0_thinOut_6 rfl rfl ?_
      refine Rn.aload_n (pc1 := 9)  dX0_thinOut_8 rfl rfl rfl ?_
      refine Rn.getfield (pc1 := 12)  dX0_thinOut_9 rfl fX0_24 (by first | assumption | exact mset_same | exact mget_ne (by omega) (by assumption)) rfl ?_
      refine Rn.icmp_ge (pc1 := 15) 66 dX0_thinOut_12 rfl (by decide) (fun c12 => ?_) (fun c12 => ?_)
      · exact absurd c12 (nI_ge (by omega) (by omega))
      · refine Rn.aload_n (pc1 := 16)  dX0_thinOut_15 rfl rfl rfl ?_
        refine Rn.iload (pc1 := 18)  dX0_thinOut_16 rfl rfl ?_
        refine Rn.iload_n (pc1 := 19)  dX0_thinOut_18 rfl rfl rfl ?_
        refine Rn.iload_n (pc1 := 20)  dX0_thinOut_19 rfl rfl rfl ?_
        refine Rn.iload_n (pc1 := 21)  dX0_thinOut_20 rfl rfl rfl ?_
        refine Rn.cV_i (pc1 := 24) (eX0_wouldGo F1 hh rfl (show i < h by omega) hs) dX0_thinOut_21 rfl qX0_73 oX0_wouldGo (by first | assumption | exact mset_same | exact mget_ne (by omega) (by assumption)) rfl rfl rfl rfl (Nat.le_of_ble_eq_true rfl) (by decide) (by decide) (fun v21 μ21 h21 => ?_)
        obtain ⟨rfl, rfl⟩ := h21
        rw [hg]
        refine Rn.if_ne (pc1 := 27) 60 dX0_thinOut_24 rfl (by decide) (fun c24 => ?_) (fun c24 => ?_)
        · have e : leftN p (i + 1) = leftN p i := by show _ + _ = _; rw [if_pos (bI_n c24), Nat.add_zero]
          have e2 : kept p (i + 1) = kept p i := if_pos (bI_n c24)
          refine Rn.iinc (pc1 := 63)  dX0_thinOut_60 rfl rfl (nI_1 i) (by decide) rfl rfl ?_
          refine Rn.goto 6 dX0_thinOut_63 (by decide) ?_
          first
            | (have := ih (i + 1) (by omega) _ _ _ _ _ F2 (q1.trans q2) (by
                  intro j q hj
                  rw [e2] at hj
                  have hlen := kept_len p i
                  have hi2 := hk2 i (Nat.le_refl i) (by omega)
                  by_cases hjl : j < (kept p i).length
                  · rw [List.getElem?_append_left hjl] at hj
                    have := hk1 j q hj
                    unfold upd
                    rw [if_neg (by omega), if_neg (by omega), if_neg (by omega), if_neg (by omega)]
                    exact this
                  · rw [List.getElem?_append_right (by omega)] at hj
                    have hz : j - (kept p i).length < 1 := (List.getElem?_eq_some_iff.mp hj).1
                    rw [show j - (kept p i).length = 0 by omega] at hj
                    cases hj
                    obtain rfl : j = leftN p i := by omega
                    unfold upd
                    rw [if_pos rfl, if_pos rfl, if_pos rfl, if_pos rfl]
                    exact hi2) (by
                  intro j h1 h2
                  unfold upd
                  rw [if_neg (by omega), if_neg (by omega), if_neg (by omega), if_neg (by omega)]
                  exact hk2 j (by omega) h2); rw [e] at this; exact this)
            | (have := ih (i + 1) (by omega) _ _ _ _ _ F1 q1 (by rw [e2]; exact hk1) (fun j h1 h2 => hk2 j (by omega) h2); rw [e] at this; exact this)
        · have e : leftN p (i + 1) = leftN p i + 1 := by show _ + _ = _; rw [if_neg (by rw [bI_0 c24]; decide)]
          have e2 : kept p (i + 1) = kept p i ++ [i] := if_neg (by rw [bI_0 c24]; decide)
          refine Rn.aload_n (pc1 := 28)  dX0_thinOut_27 rfl rfl rfl ?_
          refine Rn.iload (pc1 := 30)  dX0_thinOut_28 rfl rfl ?_
          refine Rn.aload_n (pc1 := 31)  dX0_thinOut_30 rfl rfl rfl ?_
          refine Rn.iload (pc1 := 33)  dX0_thinOut_31 rfl rfl ?_
          refine Rn.cV_i (pc1 := 36) (eX0_numberAt F1 rfl (show i < 60 by omega)) dX0_thinOut_33 rfl qX0_77 oX0_numberAt (by first | assumption | exact mset_same | exact mget_ne (by omega) (by assumption)) rfl rfl rfl rfl (Nat.le_of_ble_eq_true rfl) (by decide) (by decide) (fun v33 μ33 h33 => ?_)
          obtain ⟨rfl, rfl⟩ := h33
          refine Rn.aload_n (pc1 := 37)  dX0_thinOut_36 rfl rfl rfl ?_
          refine Rn.iload (pc1 := 39)  dX0_thinOut_37 rfl rfl ?_
          refine Rn.cV_i (pc1 := 42) (eX0_keyAt F1 rfl (show i < 60 by omega)) dX0_thinOut_39 rfl qX0_85 oX0_keyAt (by first | assumption | exact mset_same | exact mget_ne (by omega) (by assumption)) rfl rfl rfl rfl (Nat.le_of_ble_eq_true rfl) (by decide) (by decide) (fun v39 μ39 h39 => ?_)
          obtain ⟨rfl, rfl⟩ := h39
          refine Rn.aload_n (pc1 := 43)  dX0_thinOut_42 rfl rfl rfl ?_
          refine Rn.iload (pc1 := 45)  dX0_thinOut_43 rfl rfl ?_
          refine Rn.cV_i (pc1 := 48) (eX0_valueAt F1 rfl (show i < 60 by omega)) dX0_thinOut_45 rfl qX0_88 oX0_valueAt (by first | assumption | exact mset_same | exact mget_ne (by omega) (by assumption)) rfl rfl rfl rfl (Nat.le_of_ble_eq_true rfl) (by decide) (by decide) (fun v45 μ45 h45 => ?_)
          obtain ⟨rfl, rfl⟩ := h45
          refine Rn.aload_n (pc1 := 49)  dX0_thinOut_48 rfl rfl rfl ?_
          refine Rn.iload (pc1 := 51)  dX0_thinOut_49 rfl rfl ?_
          refine Rn.cV_i (pc1 := 54) (eX0_minuteAt F1 rfl (show i < 60 by omega)) dX0_thinOut_51 rfl qX0_91 oX0_minuteAt (by first | assumption | exact mset_same | exact mget_ne (by omega) (by assumption)) rfl rfl rfl rfl (Nat.le_of_ble_eq_true rfl) (by decide) (by decide) (fun v51 μ51 h51 => ?_)
          obtain ⟨rfl, rfl⟩ := h51
          refine Rn.cV_v (pc1 := 57) (eX0_layEntry F1 rfl (show leftN p i < 60 by omega)) dX0_thinOut_54 rfl qX0_45 oX0_layEntry (by first | assumption | exact mset_same | exact mget_ne (by omega) (by assumption)) rfl rfl rfl rfl (Nat.le_of_ble_eq_true rfl) (by decide) (by decide) (fun μ54 h54 => ?_)
          obtain ⟨F2, q2⟩ := h54
          have O2 := F2.1
          refine Rn.iinc (pc1 := 60)  dX0_thinOut_57 rfl rfl (nI_1 _) (by decide) rfl rfl ?_
          refine Rn.iinc (pc1 := 63)  dX0_thinOut_60 rfl rfl (nI_1 i) (by decide) rfl rfl ?_
          refine Rn.goto 6 dX0_thinOut_63 (by decide) ?_
          first
            | (have := ih (i + 1) (by omega) _ _ _ _ _ F2 (q1.trans q2) (by
                  intro j q hj
                  rw [e2] at hj
                  have hlen := kept_len p i
                  have hi2 := hk2 i (Nat.le_refl i) (by omega)
                  by_cases hjl : j < (kept p i).length
                  · rw [List.getElem?_append_left hjl] at hj
                    have := hk1 j q hj
                    unfold upd
                    rw [if_neg (by omega), if_neg (by omega), if_neg (by omega), if_neg (by omega)]
                    exact this
                  · rw [List.getElem?_append_right (by omega)] at hj
                    have hz : j - (kept p i).length < 1 := (List.getElem?_eq_some_iff.mp hj).1
                    rw [show j - (kept p i).length = 0 by omega] at hj
                    cases hj
                    obtain rfl : j = leftN p i := by omega
                    unfold upd
                    rw [if_pos rfl, if_pos rfl, if_pos rfl, if_pos rfl]
                    exact hi2) (by
                  intro j h1 h2
                  unfold upd
                  rw [if_neg (by omega), if_neg (by omega), if_neg (by omega), if_neg (by omega)]
                  exact hk2 j (by omega) h2); rw [e] at this; exact this)
            | (have := ih (i + 1) (by omega) _ _ _ _ _ F1 q1 (by rw [e2]; exact hk1) (fun j h1 h2 => hk2 j (by omega) h2); rw [e] at this; exact this)
  refine Rn.iconst (pc1 := 1) (v := nI 0) dX0_thinOut_0 rfl (by decide) ?_
  refine Rn.istore (pc1 := 3)  dX0_thinOut_1 rfl (by decide) rfl rfl ?_
  refine Rn.iconst (pc1 := 4) (v := nI 0) dX0_thinOut_3 rfl (by decide) ?_
  refine Rn.istore (pc1 := 6)  dX0_thinOut_4 rfl (by decide) rfl rfl ?_
  exact loop h 0 (by omega) μ g0 g1 g2 g3 F Fr.rf (fun j q hj => by simp [kept] at hj) (fun j _ _ => ⟨rfl, rfl, rfl, rfl⟩)
theorem eX0_copyFrom {b h' : Nat} {nx' fl' gn' : Int32} {k0 k1 k2 k3 : Nat → Int32} (F : FB μ a h nx fl gn g0 g1 g2 g3) (K : FB μ b h' nx' fl' gn' k0 k1 k2 k3) (hd : a + 5 ≤ b ∨ b + 5 ≤ a) : EvA G 1 kX0_copyFrom [.ref a, .ref b] μ sz 0 0 (rV fun μ' => FB μ' a h' nx' fl' gn' (cpy 60 k0 g0) (cpy 60 k1 g1) (cpy 60 k2 g2) (cpy 60 k3 g3) ∧ Fr a (a + 5) μ μ') := by
  have hO := F.1
  have kO := K.1
  refine EvA.of (L := [some (.ref a), some (.ref b)]) (by decide +kernel) (Nat.le_of_ble_eq_true rfl) rfl ?_
  refine Rn.aload_n (pc1 := 1)  dX0_copyFrom_0 rfl rfl rfl ?_
  refine Rn.getfield (pc1 := 4)  dX0_copyFrom_1 rfl fX0_9 (by first | assumption | exact mset_same | exact mget_ne (by omega) (by assumption)) rfl ?_
  refine Rn.aload_n (pc1 := 5)  dX0_copyFrom_4 rfl rfl rfl ?_
  refine Rn.getfield (pc1 := 8)  dX0_copyFrom_5 rfl fX0_9 (by first | assumption | exact mset_same | exact mget_ne (by omega) (by assumption)) rfl ?_
  refine Rn.cN_v (pc1 := 11) (eX8_copyRow K.2.1 F.2.1 (by omega) (by decide)) dX0_copyFrom_8 rfl nX0_37 oX8_copyRow rfl rfl (Nat.le_of_ble_eq_true rfl) (by decide) (by decide) (fun μ8 h8 => ?_)
  subst h8
  have F1 := F.set0 (cpy 60 k0 g0)
  have K1 := K.fr (Fr.set (a := a) (b := a + 5) (q := a + 1) (c := ints 60 (cpy 60 k0 g0)) (by omega) (by omega)) (by omega)
  have O1 := F1.1
  have P1 := K1.1
  refine Rn.aload_n (pc1 := 12)  dX0_copyFrom_11 rfl rfl rfl ?_
  refine Rn.getfield (pc1 := 15)  dX0_copyFrom_12 rfl fX0_15 (by first | assumption | exact mset_same | exact mget_ne (by omega) (by assumption)) rfl ?_
  refine Rn.aload_n (pc1 := 16)  dX0_copyFrom_15 rfl rfl rfl ?_
  refine Rn.getfield (pc1 := 19)  dX0_copyFrom_16 rfl fX0_15 (by first | assumption | exact mset_same | exact mget_ne (by omega) (by assumption)) rfl ?_
  refine Rn.cN_v (pc1 := 22) (eX8_copyRow K1.2.2.1 F1.2.2.1 (by omega) (by decide)) dX0_copyFrom_19 rfl nX0_37 oX8_copyRow rfl rfl (Nat.le_of_ble_eq_true rfl) (by decide) (by decide) (fun μ19 h19 => ?_)
  subst h19
  have F2 := F1.set1 (cpy 60 k1 g1)
  have K2 := K1.fr (Fr.set (a := a) (b := a + 5) (q := a + 2) (c := ints 60 (cpy 60 k1 g1)) (by omega) (by omega)) (by omega)
  have O2 := F2.1
  have P2 := K2.1
  refine Rn.aload_n (pc1 := 23)  dX0_copyFrom_22 rfl rfl rfl ?_
  refine Rn.getfield (pc1 := 26)  dX0_copyFrom_23 rfl fX0_18 (by first | assumption | exact mset_same | exact mget_ne (by omega) (by assumption)) rfl ?_
  refine Rn.aload_n (pc1 := 27)  dX0_copyFrom_26 rfl rfl rfl ?_
  refine Rn.getfield (pc1 := 30)  dX0_copyFrom_27 rfl fX0_18 (by first | assumption | exact mset_same | exact mget_ne (by omega) (by assumption)) rfl ?_
  refine Rn.cN_v (pc1 := 33) (eX8_copyRow K2.2.2.2.1 F2.2.2.2.1 (by omega) (by decide)) dX0_copyFrom_30 rfl nX0_37 oX8_copyRow rfl rfl (Nat.le_of_ble_eq_true rfl) (by decide) (by decide) (fun μ30 h30 => ?_)
  subst h30
  have F3 := F2.set2 (cpy 60 k2 g2)
  have K3 := K2.fr (Fr.set (a := a) (b := a + 5) (q := a + 3) (c := ints 60 (cpy 60 k2 g2)) (by omega) (by omega)) (by omega)
  have O3 := F3.1
  have P3 := K3.1
  refine Rn.aload_n (pc1 := 34)  dX0_copyFrom_33 rfl rfl rfl ?_
  refine Rn.getfield (pc1 := 37)  dX0_copyFrom_34 rfl fX0_21 (by first | assumption | exact mset_same | exact mget_ne (by omega) (by assumption)) rfl ?_
  refine Rn.aload_n (pc1 := 38)  dX0_copyFrom_37 rfl rfl rfl ?_
  refine Rn.getfield (pc1 := 41)  dX0_copyFrom_38 rfl fX0_21 (by first | assumption | exact mset_same | exact mget_ne (by omega) (by assumption)) rfl ?_
  refine Rn.cN_v (pc1 := 44) (eX8_copyRow K3.2.2.2.2 F3.2.2.2.2 (by omega) (by decide)) dX0_copyFrom_41 rfl nX0_37 oX8_copyRow rfl rfl (Nat.le_of_ble_eq_true rfl) (by decide) (by decide) (fun μ41 h41 => ?_)
  subst h41
  have F4 := F3.set3 (cpy 60 k3 g3)
  have K4 := K3.fr (Fr.set (a := a) (b := a + 5) (q := a + 4) (c := ints 60 (cpy 60 k3 g3)) (by omega) (by omega)) (by omega)
  have O4 := F4.1
  have P4 := K4.1
  refine Rn.aload_n (pc1 := 45)  dX0_copyFrom_44 rfl rfl rfl ?_
  refine Rn.aload_n (pc1 := 46)  dX0_copyFrom_45 rfl rfl rfl ?_
  refine Rn.getfield (pc1 := 49)  dX0_copyFrom_46 rfl fX0_24 (by first | assumption | exact mset_same | exact mget_ne (by omega) (by assumption)) rfl ?_
  refine Rn.putfield (pc1 := 52)  dX0_copyFrom_49 rfl pX0_24 (fun h => Bool.noConfusion h) (by assumption) (Nat.le_of_ble_eq_true rfl) rfl rfl rfl ?_
  have F5 := F4.setO h' nx fl gn
  have O5 := F5.1
  have K5 := K4.fr (Fr.set (a := a) (b := a + 5) (q := a) (c := obj 0 [.ref (a + 1), .ref (a + 2), .ref (a + 3), .ref (a + 4), .int (nI h'), .int nx, .int fl, .int gn]) (by omega) (by omega)) (by omega)
  have P5 := K5.1
  refine Rn.aload_n (pc1 := 53)  dX0_copyFrom_52 rfl rfl rfl ?_
  refine Rn.aload_n (pc1 := 54)  dX0_copyFrom_53 rfl rfl rfl ?_
  refine Rn.getfield (pc1 := 57)  dX0_copyFrom_54 rfl fX0_28 (by first | assumption | exact mset_same | exact mget_ne (by omega) (by assumption)) rfl ?_
  refine Rn.putfield (pc1 := 60)  dX0_copyFrom_57 rfl pX0_28 (fun h => Bool.noConfusion h) (by assumption) (Nat.le_of_ble_eq_true rfl) rfl rfl rfl ?_
  have F6 := F5.setO h' nx' fl gn
  have O6 := F6.1
  have K6 := K5.fr (Fr.set (a := a) (b := a + 5) (q := a) (c := obj 0 [.ref (a + 1), .ref (a + 2), .ref (a + 3), .ref (a + 4), .int (nI h'), .int nx', .int fl, .int gn]) (by omega) (by omega)) (by omega)
  have P6 := K6.1
  refine Rn.aload_n (pc1 := 61)  dX0_copyFrom_60 rfl rfl rfl ?_
  refine Rn.aload_n (pc1 := 62)  dX0_copyFrom_61 rfl rfl rfl ?_
  refine Rn.getfield (pc1 := 65)  dX0_copyFrom_62 rfl fX0_31 (by first | assumption | exact mset_same | exact mget_ne (by omega) (by assumption)) rfl ?_
  refine Rn.putfield (pc1 := 68)  dX0_copyFrom_65 rfl pX0_31 (fun h => Bool.noConfusion h) (by assumption) (Nat.le_of_ble_eq_true rfl) rfl rfl rfl ?_
  have F7 := F6.setO h' nx' fl' gn
  have O7 := F7.1
  have K7 := K6.fr (Fr.set (a := a) (b := a + 5) (q := a) (c := obj 0 [.ref (a + 1), .ref (a + 2), .ref (a + 3), .ref (a + 4), .int (nI h'), .int nx', .int fl', .int gn]) (by omega) (by omega)) (by omega)
  have P7 := K7.1
  refine Rn.aload_n (pc1 := 69)  dX0_copyFrom_68 rfl rfl rfl ?_
  refine Rn.aload_n (pc1 := 70)  dX0_copyFrom_69 rfl rfl rfl ?_
  refine Rn.getfield (pc1 := 73)  dX0_copyFrom_70 rfl fX0_34 (by first | assumption | exact mset_same | exact mget_ne (by omega) (by assumption)) rfl ?_
  refine Rn.putfield (pc1 := 76)  dX0_copyFrom_73 rfl pX0_34 (fun h => Bool.noConfusion h) (by assumption) (Nat.le_of_ble_eq_true rfl) rfl rfl rfl ?_
  have F8 := F7.setO h' nx' fl' gn'
  exact Rn.vreturn dX0_copyFrom_76 rfl ⟨rfl, F8, (((((((Fr.set (by omega) (by omega)).set_ (by omega) (by omega)).set_ (by omega) (by omega)).set_ (by omega) (by omega)).set_ (by omega) (by omega)).set_ (by omega) (by omega)).set_ (by omega) (by omega)).set_ (by omega) (by omega)⟩
end FEED
