/-! ===== History: the states before, and one to prepare ===== -/
/-- what is no negative number -/
def NV (f : Nat → Int32) (rc sc : Nat) : Prop := nI 0 ≤ f 1 ∧ (∃ m, m ≤ 99999 ∧ f 2 = nI m) ∧ (∀ i, i < rc → nI 0 ≤ f (261 + 27 * i) ∧ nI 0 ≤ f (261 + 27 * i + 1)) ∧ ∀ n, n < sc → nI 0 ≤ f (423 + 13 * n)
/-- what holds of a row that a State can be at -/
def IV (f : Nat → Int32) (h rc sc B : Nat) : Prop := (f 6 = nI h ∧ f 7 = nI rc ∧ f 8 = nI sc) ∧ (h ≤ 60 ∧ rc ≤ 6 ∧ sc ≤ 4) ∧ (∃ s, 1 ≤ s ∧ s ≤ 20 ∧ f 0 = nI s) ∧ (∃ (N : Nat) (n : Nat → Nat), N ≤ B ∧ f 3 = nI N ∧ (∀ j, j < h → e0 f j = nI (n j) ∧ n j < N) ∧ ∀ i j, i < j → j < h → n i < n j) ∧ (∀ j, j < h → ∃ q, q < 12 ∧ e1 f j = nI q) ∧ NV f rc sc
theorem IV.srt {f : Nat → Int32} {h rc sc B : Nat} (I : IV f h rc sc B) (hB : B < 2 ^ 31) : SrtF f h := by
  obtain ⟨-, -, -, ⟨N, n, h1, h2, h3, h4⟩, -⟩ := I
  intro i j hij hj
  rw [(h3 i (by omega)).1, (h3 j hj).1]
  exact nI_lt (h4 i j hij hj) (by have := (h3 j hj).2; omega)
theorem IV.nn {f : Nat → Int32} {h rc sc B : Nat} (I : IV f h rc sc B) (hB : B < 2 ^ 31) : ∀ j, j < h → nI 0 ≤ e0 f j := by
  obtain ⟨-, -, -, ⟨N, n, h1, h2, h3, h4⟩, -⟩ := I
  intro j hj
  rw [(h3 j hj).1]
  exact nI_le (Nat.zero_le _) (by have := (h3 j hj).2; omega)
theorem IV.size {f : Nat → Int32} {h rc sc B : Nat} (I : IV f h rc sc B) : nI 1 ≤ f 0 := by
  obtain ⟨-, -, ⟨s, h1, h2, h3⟩, -⟩ := I
  rw [h3]; exact nI_le h1 (by omega)
theorem IV.mono {f : Nat → Int32} {h rc sc B B' : Nat} (I : IV f h rc sc B) (hB : B ≤ B') : IV f h rc sc B' := by
  obtain ⟨q1, q2, q3, ⟨N, n, h1, h2⟩, q5⟩ := I
  exact ⟨q1, q2, q3, ⟨N, n, by omega, h2⟩, q5⟩
/-- a State with its numbers -/
def ST (μ : Mm) (a : Nat) (f : Nat → Int32) (B : Nat) : Prop := ∃ h rc sc, SA μ a f h rc sc ∧ IV f h rc sc B
theorem ST.fr {μ μ' : Mm} {a x y B : Nat} {f : Nat → Int32} (F : ST μ a f B) (hF : Fr x y μ μ') (hd : a + 52 ≤ x ∨ y ≤ a) : ST μ' a f B := by
  obtain ⟨h, rc, sc, q1, q2⟩ := F
  exact ⟨h, rc, sc, q1.fr hF hd, q2⟩
theorem ST.mono {μ : Mm} {a B B' : Nat} {f : Nat → Int32} (F : ST μ a f B) (hB : B ≤ B') : ST μ a f B' := by
  obtain ⟨h, rc, sc, q1, q2⟩ := F
  exact ⟨h, rc, sc, q1, q2.mono hB⟩
/-- some State, whatever it holds -/
def SD (μ : Mm) (a : Nat) : Prop := ∃ f h rc sc lr ls, SAg μ a f h rc sc lr ls
theorem SD.fr {μ μ' : Mm} {a x y : Nat} (F : SD μ a) (hF : Fr x y μ μ') (hd : a + 52 ≤ x ∨ y ≤ a) : SD μ' a := by
  obtain ⟨f, h, rc, sc, lr, ls, q⟩ := F
  exact ⟨f, h, rc, sc, lr, ls, q.fr hF hd⟩
theorem ST.sd {μ : Mm} {a B : Nat} {f : Nat → Int32} (F : ST μ a f B) : SD μ a := by
  obtain ⟨h, rc, sc, q1, q2⟩ := F
  exact ⟨f, h, rc, sc, rc, sc, q1⟩
/-- the History at y: its States lie at s 0 .. s 6, which are y + 2 + 52 t in some order; held of them count -/
def HA (μ : Mm) (y : Nat) (s : Nat → Nat) (held : Nat) : Prop := μ y = some (obj 1 [.ref (y + 1), .int (nI held)]) ∧ held ≤ 6 ∧ (∃ r, μ (y + 1) = some (refs 2 7 r) ∧ ∀ i, i < 7 → r i = some (s i)) ∧ (∀ i, i < 7 → ∃ t, t < 7 ∧ s i = y + 2 + 52 * t) ∧ (∀ i j, i < 7 → j < 7 → s i = s j → i = j) ∧ ∀ i, i < 7 → SD μ (s i)
theorem HA.lo {μ : Mm} {y held i : Nat} {s : Nat → Nat} (H : HA μ y s held) (hi : i < 7) : y + 2 ≤ s i ∧ s i + 52 ≤ y + 366 := by
  obtain ⟨t, h1, h2⟩ := H.2.2.2.1 i hi
  omega
theorem HA.apart {μ : Mm} {y held i j : Nat} {s : Nat → Nat} (H : HA μ y s held) (hi : i < 7) (hj : j < 7) (hij : i ≠ j) : s i + 52 ≤ s j ∨ s j + 52 ≤ s i := by
  obtain ⟨t, h1, h2⟩ := H.2.2.2.1 i hi
  obtain ⟨u, h3, h4⟩ := H.2.2.2.1 j hj
  have : t ≠ u := fun e => hij (H.2.2.2.2.1 i j hi hj (by rw [h2, h4, e]))
  omega
theorem HA.fr {μ μ' : Mm} {y x z held : Nat} {s : Nat → Nat} (H : HA μ y s held) (hF : Fr x z μ μ') (hd : y + 366 ≤ x ∨ z ≤ y) : HA μ' y s held := by
  obtain ⟨q1, q2, ⟨r, q3, q4⟩, q5, q6, q7⟩ := id H
  exact ⟨(hF _ (by omega)).trans q1, q2, ⟨r, (hF _ (by omega)).trans q3, q4⟩, q5, q6, fun i hi => (q7 i hi).fr hF (by have := H.lo hi; omega)⟩
/-- what the States of the history are -/
def HP (μ : Mm) (s : Nat → Nat) (held : Nat) (P : Nat → Nat → Int32) (B : Nat) : Prop := ∀ i, i < held → ST μ (s i) (P i) B
def rotR (r : Nat → Option Nat) (n : Nat) : Nat → Option Nat := fun j => if j < n then r (j + 1) else r j
theorem rotR_up {r : Nat → Option Nat} {n v : Nat} (hv : r (n + 1) = some v) : va_up (rotR r n) n (some v) = rotR r (n + 1) := by
  funext j
  unfold va_up rotR
  by_cases h1 : j = n
  · subst h1; rw [if_pos rfl, if_pos (by omega), hv]
  · rw [if_neg h1]
    by_cases h2 : j < n
    · rw [if_pos h2, if_pos (by omega)]
    · rw [if_neg h2, if_neg (by omega)]
section HIST
variable {G : GG} {μ : Mm} {sz : Nat} {y held B : Nat} {s : Nat → Nat}
theorem eX1_stateAt_y {j : Nat} {i : Int32} (H : HA μ y s held) (hi : i = nI j) (hj : j < 7) : EvA G 0 kX1_stateAt [.ref y, .int i] μ sz 0 0 (rR fun o μ' => o = some (s j) ∧ μ' = μ) := by
  obtain ⟨q1, q2, ⟨r, q3, q4⟩, -⟩ := H
  refine EvA.of (L := [some (.ref y), some (.int i)]) (by decide +kernel) (Nat.le_of_ble_eq_true rfl) rfl ?_
  subst hi
  refine Rn.iload_n (pc1 := 1)  dX1_stateAt_0 rfl rfl rfl ?_
  refine Rn.if_lt (pc1 := 4) 13 dX1_stateAt_1 rfl (by decide) (fun c1 => ?_) (fun c1 => ?_)
  · exact absurd c1 (nI_nlt (Nat.zero_le _) (by omega))
  · refine Rn.iload_n (pc1 := 5)  dX1_stateAt_4 rfl rfl rfl ?_
    refine Rn.aload_n (pc1 := 6)  dX1_stateAt_5 rfl rfl rfl ?_
    refine Rn.getfield (pc1 := 9)  dX1_stateAt_6 rfl fX1_11 (by first | assumption | exact mset_same | exact mget_ne (by omega) (by assumption)) rfl ?_
    refine Rn.alen (pc1 := 10) (v := nI 7)  dX1_stateAt_9 rfl (by first | assumption | exact mset_same | exact mget_ne (by omega) (by assumption)) (fun _ => rfl) rfl ?_
    refine Rn.icmp_lt (pc1 := 13) 17 dX1_stateAt_10 rfl (by decide) (fun c10 => ?_) (fun c10 => ?_)
    · refine Rn.aload_n (pc1 := 18)  dX1_stateAt_17 rfl rfl rfl ?_
      refine Rn.getfield (pc1 := 21)  dX1_stateAt_18 rfl fX1_11 (by first | assumption | exact mset_same | exact mget_ne (by omega) (by assumption)) rfl ?_
      refine Rn.iload_n (pc1 := 22)  dX1_stateAt_21 rfl rfl rfl ?_
      refine Rn.aaload (pc1 := 23)  dX1_stateAt_22 rfl (by assumption) (fun _ => rfl) (vp_nI rfl hj (by decide)) rfl ?_
      exact Rn.areturn dX1_stateAt_23 rfl ⟨_, rfl, by rw [nI_clamp (by omega)]; exact q4 j hj, rfl⟩
    · exact absurd (nI_lt hj (by decide)) c10
theorem eX1_stateAt_n {i : Int32} (H : HA μ y s held) (hi : i < nI 0) : EvA G 0 kX1_stateAt [.ref y, .int i] μ sz 0 0 (rR fun o μ' => o = none ∧ μ' = μ) := by
  obtain ⟨q1, q2, ⟨r, q3, q4⟩, -⟩ := H
  refine EvA.of (L := [some (.ref y), some (.int i)]) (by decide +kernel) (Nat.le_of_ble_eq_true rfl) rfl ?_
  refine Rn.iload_n (pc1 := 1)  dX1_stateAt_0 rfl rfl rfl ?_
  refine Rn.if_lt (pc1 := 4) 13 dX1_stateAt_1 rfl (by decide) (fun c1 => ?_) (fun c1 => ?_)
  · refine Rn.null (pc1 := 14)  dX1_stateAt_13 rfl ?_
    refine Rn.goto 23 dX1_stateAt_14 (by decide) ?_
    show Rn G 0 kX1_stateAt 23 _ [va_rf none] _ _ _ _ _
    exact Rn.areturn dX1_stateAt_23 rfl ⟨_, rfl, rfl, rfl⟩
  · exact absurd hi c1
theorem eX1_prepare {a : Nat} {f : Nat → Int32} (H : HA μ y s held) (F : ST μ a f B) (hd : a + 52 ≤ y ∨ y + 366 ≤ a) : EvA G 5 kX1_prepare [.ref y, .ref a] μ sz 0 0 (rV fun μ' => HA μ' y s held ∧ ST μ' (s held) f B ∧ Fr (s held) (s held + 52) μ μ') := by
  obtain ⟨h, rc, sc, F1, I⟩ := F
  have hO := H.1
  have hh := H.2.1
  obtain ⟨f0, h0, rc0, sc0, lr0, ls0, D⟩ := H.2.2.2.2.2 held (by omega)
  have dO : μ (s held) = _ := D.2.1
  have aO : μ a = _ := F1.2.1
  have hl := H.lo (show held < 7 by omega)
  refine EvA.of (L := [some (.ref y), some (.ref a), none]) (by decide +kernel) (Nat.le_of_ble_eq_true rfl) rfl ?_
  refine Rn.aload_n (pc1 := 1)  dX1_prepare_0 rfl rfl rfl ?_
  refine Rn.aload_n (pc1 := 2)  dX1_prepare_1 rfl rfl rfl ?_
  refine Rn.getfield (pc1 := 5)  dX1_prepare_2 rfl fX1_17 (by first | assumption | exact mset_same | exact mget_ne (by omega) (by assumption)) rfl ?_
  refine Rn.cV_r (pc1 := 8) (eX1_stateAt_y H rfl (show held < 7 by omega)) dX1_prepare_5 rfl qX1_22 oX1_stateAt (by first | assumption | exact mset_same | exact mget_ne (by omega) (by assumption)) rfl rfl rfl rfl (Nat.le_of_ble_eq_true rfl) (by decide) (by decide) (fun v5 μ5 h5 => ?_)
  obtain ⟨rfl, rfl⟩ := h5
  refine Rn.astore_n (pc1 := 9) (x := s held)  dX1_prepare_8 rfl rfl (by decide) rfl rfl ?_
  refine Rn.aload_n (pc1 := 10)  dX1_prepare_9 rfl rfl rfl ?_
  refine Rn.ifnull (pc1 := 13) dX1_prepare_10 rfl ?_
  refine Rn.aload_n (pc1 := 14)  dX1_prepare_13 rfl rfl rfl ?_
  refine Rn.aload_n (pc1 := 15)  dX1_prepare_14 rfl rfl rfl ?_
  refine Rn.cV_v (pc1 := 18) (eX6_copyFrom D F1 (by omega)) dX1_prepare_15 rfl qX1_26 oX6_copyFrom (by first | assumption | exact mset_same | exact mget_ne (by omega) (by assumption)) rfl rfl rfl rfl (Nat.le_of_ble_eq_true rfl) (by decide) (by decide) (fun μ15 h15 => ?_)
  obtain ⟨W1, z1⟩ := h15
  refine Rn.vreturn dX1_prepare_18 rfl ⟨rfl, ?_, ⟨h, rc, sc, W1, I⟩, z1⟩
  obtain ⟨q1, q2, ⟨r, q3, q4⟩, q5, q6, q7⟩ := id H
  refine ⟨(z1 _ (by omega)).trans q1, q2, ⟨r, (z1 _ (by omega)).trans q3, q4⟩, q5, q6, fun i hi => ?_⟩
  by_cases e : i = held
  · subst e; exact ⟨_, _, _, _, _, _, W1⟩
  · exact (q7 i hi).fr z1 (by have := H.apart hi (show held < 7 by omega) e; omega)
theorem lX1_dropOldest {r : Nat → Option Nat} (hO : μ y = some (obj 1 [.ref (y + 1), .int (nI held)])) (hr : ∀ i, i < 7 → r i = some (s i)) (hs : ∀ i, i < 7 → y + 2 ≤ s i ∧ SD μ (s i)) : ∀ (m n : Nat), n + m = 6 → Rn G 1 kX1_dropOldest 8 [some (.ref y), some (.ref (s 0)), some (.int (nI (n + 1)))] [] (mset μ (y + 1) (refs 2 7 (rotR r n))) sz 0 0 (rV fun μ' => μ' = mset μ (y + 1) (refs 2 7 (va_up (rotR r 6) 6 (some (s 0))))) := by
  intro m
  induction m with
  | zero =>
    intro n hn
    obtain rfl : n = 6 := by omega
    have hO' : mset μ (y + 1) (refs 2 7 (rotR r 6)) y = _ := mget_ne (by omega) hO
    obtain ⟨h1, f0, h0, rc0, sc0, lr0, ls0, D⟩ := hs 0 (by omega)
    have dO : mset μ (y + 1) (refs 2 7 (rotR r 6)) (s 0) = _ := mget_ne (by omega) D.2.1
    refine Rn.iload_n (pc1 := 9)  dX1_dropOldest_8 rfl rfl rfl ?_
    refine Rn.aload_n (pc1 := 10)  dX1_dropOldest_9 rfl rfl rfl ?_
    refine Rn.getfield (pc1 := 13)  dX1_dropOldest_10 rfl fX1_11 (by first | assumption | exact mset_same | exact mget_ne (by omega) (by assumption)) rfl ?_
    refine Rn.alen (pc1 := 14) (v := nI 7)  dX1_dropOldest_13 rfl (by first | assumption | exact mset_same | exact mget_ne (by omega) (by assumption)) (fun _ => rfl) rfl ?_
    refine Rn.icmp_ge (pc1 := 17) 37 dX1_dropOldest_14 rfl (by decide) (fun c14 => ?_) (fun c14 => ?_)
    · refine Rn.aload_n (pc1 := 38)  dX1_dropOldest_37 rfl rfl rfl ?_
      refine Rn.getfield (pc1 := 41)  dX1_dropOldest_38 rfl fX1_11 (by first | assumption | exact mset_same | exact mget_ne (by omega) (by assumption)) rfl ?_
      refine Rn.alen (pc1 := 42) (v := nI 7)  dX1_dropOldest_41 rfl (by first | assumption | exact mset_same | exact mget_ne (by omega) (by assumption)) (fun _ => rfl) rfl ?_
      refine Rn.if_le (pc1 := 45) 58 dX1_dropOldest_42 rfl (by decide) (fun c42 => ?_) (fun c42 => ?_)
      · exact absurd c42 (by decide)
      · refine Rn.aload_n (pc1 := 46)  dX1_dropOldest_45 rfl rfl rfl ?_
        refine Rn.getfield (pc1 := 49)  dX1_dropOldest_46 rfl fX1_11 (by first | assumption | exact mset_same | exact mget_ne (by omega) (by assumption)) rfl ?_
        refine Rn.aload_n (pc1 := 50)  dX1_dropOldest_49 rfl rfl rfl ?_
        refine Rn.getfield (pc1 := 53)  dX1_dropOldest_50 rfl fX1_11 (by first | assumption | exact mset_same | exact mget_ne (by omega) (by assumption)) rfl ?_
        refine Rn.alen (pc1 := 54) (v := nI 7)  dX1_dropOldest_53 rfl (by first | assumption | exact mset_same | exact mget_ne (by omega) (by assumption)) (fun _ => rfl) rfl ?_
        refine Rn.iconst (pc1 := 55) (v := nI 1) dX1_dropOldest_54 rfl (by decide) ?_
        refine Rn.isub (pc1 := 56)  dX1_dropOldest_55 rfl (nI_sub (show 1 ≤ 7 by omega)) ?_
        refine Rn.aload_n (pc1 := 57)  dX1_dropOldest_56 rfl rfl rfl ?_
        refine Rn.aastore (pc1 := 58) (ci := 6) (f' := va_up (rotR r 6) 6 (some (s 0)))  dX1_dropOldest_57 rfl mset_same (fun _ => rfl) dO rfl (vp_nI rfl (by decide) (by decide)) (by rw [nI_clamp (by decide)]) ?_
        exact Rn.vreturn dX1_dropOldest_58 rfl ⟨rfl, mset_mset⟩
    · exact absurd (nI_le (Nat.le_refl 7) (by decide)) c14
  | succ m ih =>
    intro n hn
    have hO' : mset μ (y + 1) (refs 2 7 (rotR r n)) y = _ := mget_ne (by omega) hO
    obtain ⟨h1, f0, h0, rc0, sc0, lr0, ls0, D⟩ := hs (n + 1) (by omega)
    have dO : mset μ (y + 1) (refs 2 7 (rotR r n)) (s (n + 1)) = _ := mget_ne (by omega) D.2.1
    have hv : rotR r n (n + 1) = some (s (n + 1)) := by unfold rotR; rw [if_neg (by omega)]; exact hr (n + 1) (by omega)
    refine Rn.iload_n (pc1 := 9)  dX1_dropOldest_8 rfl rfl rfl ?_
    refine Rn.aload_n (pc1 := 10)  dX1_dropOldest_9 rfl rfl rfl ?_
    refine Rn.getfield (pc1 := 13)  dX1_dropOldest_10 rfl fX1_11 (by first | assumption | exact mset_same | exact mget_ne (by omega) (by assumption)) rfl ?_
    refine Rn.alen (pc1 := 14) (v := nI 7)  dX1_dropOldest_13 rfl (by first | assumption | exact mset_same | exact mget_ne (by omega) (by assumption)) (fun _ => rfl) rfl ?_
    refine Rn.icmp_ge (pc1 := 17) 37 dX1_dropOldest_14 rfl (by decide) (fun c14 => ?_) (fun c14 => ?_)
    · exact absurd c14 (nI_ge (by omega) (by decide))
    · refine Rn.aload_n (pc1 := 18)  dX1_dropOldest_17 rfl rfl rfl ?_
      refine Rn.getfield (pc1 := 21)  dX1_dropOldest_18 rfl fX1_11 (by first | assumption | exact mset_same | exact mget_ne (by omega) (by assumption)) rfl ?_
      refine Rn.iload_n (pc1 := 22)  dX1_dropOldest_21 rfl rfl rfl ?_
      refine Rn.iconst (pc1 := 23) (v := nI 1) dX1_dropOldest_22 rfl (by decide) ?_
      refine Rn.isub (pc1 := 24)  dX1_dropOldest_23 rfl (nI_sub (show 1 ≤ n + 1 by omega)) ?_
      refine Rn.aload_n (pc1 := 25)  dX1_dropOldest_24 rfl rfl rfl ?_
      refine Rn.getfield (pc1 := 28)  dX1_dropOldest_25 rfl fX1_11 (by first | assumption | exact mset_same | exact mget_ne (by omega) (by assumption)) rfl ?_
      refine Rn.iload_n (pc1 := 29)  dX1_dropOldest_28 rfl rfl rfl ?_
      refine Rn.aaload (pc1 := 30) (v := some (s (n + 1)))  dX1_dropOldest_29 rfl mset_same (fun _ => rfl) (vp_nI rfl (show n + 1 < 7 by omega) (by decide)) (by rw [nI_clamp (by omega)]; exact hv) ?_
      refine Rn.aastore (pc1 := 31) (ci := 6) (v := s (n + 1)) (f' := rotR r (n + 1))  dX1_dropOldest_30 rfl mset_same (fun _ => rfl) dO rfl (vp_nI rfl (show n + 1 - 1 < 7 by omega) (by decide)) (by rw [nI_clamp (by omega), Nat.add_sub_cancel]; exact rotR_up (hr (n + 1) (by omega))) ?_
      rw [mset_mset]
      refine Rn.iinc (pc1 := 34)  dX1_dropOldest_31 rfl rfl (nI_1 (n + 1)) (by decide) rfl rfl ?_
      refine Rn.goto 8 dX1_dropOldest_34 (by decide) ?_
      exact ih (n + 1) (by omega)
theorem eX1_dropOldest (H : HA μ y s held) : EvA G 1 kX1_dropOldest [.ref y] μ sz 0 0 (rV fun μ' => HA μ' y (fun i => if i < 6 then s (i + 1) else s 0) held ∧ Fr (y + 1) (y + 2) μ μ') := by
  have hO := H.1
  obtain ⟨q1, q2, ⟨r, q3, q4⟩, q5, q6, q7⟩ := id H
  obtain ⟨f0, h0, rc0, sc0, lr0, ls0, D⟩ := q7 0 (by omega)
  have dO := D.2.1
  refine EvA.of (L := [some (.ref y), none, none]) (by decide +kernel) (Nat.le_of_ble_eq_true rfl) rfl ?_
  refine Rn.aload_n (pc1 := 1)  dX1_dropOldest_0 rfl rfl rfl ?_
  refine Rn.iconst (pc1 := 2) (v := nI 0) dX1_dropOldest_1 rfl (by decide) ?_
  refine Rn.cV_r (pc1 := 5) (eX1_stateAt_y H rfl (show 0 < 7 by omega)) dX1_dropOldest_2 rfl qX1_22 oX1_stateAt (by first | assumption | exact mset_same | exact mget_ne (by omega) (by assumption)) rfl rfl rfl rfl (Nat.le_of_ble_eq_true rfl) (by decide) (by decide) (fun v2 μ2 h2 => ?_)
  obtain ⟨rfl, rfl⟩ := h2
  refine Rn.astore_n (pc1 := 6) (x := s 0)  dX1_dropOldest_5 rfl rfl (by decide) rfl rfl ?_
  refine Rn.iconst (pc1 := 7) (v := nI 1) dX1_dropOldest_6 rfl (by decide) ?_
  refine Rn.istore_n (pc1 := 8)  dX1_dropOldest_7 rfl rfl (by decide) rfl rfl ?_
  have J := lX1_dropOldest (G := G) (sz := sz) hO q4 (fun i hi => ⟨(H.lo hi).1, q7 i hi⟩) 6 0 (by omega)
  rw [show rotR r 0 = r from funext fun j => if_neg (by omega), mset_id q3] at J
  refine J.imp ?_
  rintro v μ' ⟨rfl, rfl⟩
  have z : Fr (y + 1) (y + 2) μ2 (mset μ2 (y + 1) (refs 2 7 (va_up (rotR r 6) 6 (some (s 0))))) := Fr.set (by omega) (by omega)
  refine ⟨rfl, ⟨(z _ (by omega)).trans q1, q2, ⟨_, mset_same, fun i hi => ?_⟩, fun i hi => ?_, fun i j hi hj e => ?_, fun i hi => ?_⟩, z⟩
  · unfold va_up rotR
    by_cases e : i = 6
    · subst e; rfl
    · rw [if_neg e, if_pos (by omega)]; simp only [if_pos (show i < 6 by omega)]; exact q4 (i + 1) (by omega)
  · by_cases e : i < 6
    · simp only [if_pos e]; exact q5 (i + 1) (by omega)
    · simp only [if_neg e]; exact q5 0 (by omega)
  · by_cases e1 : i < 6 <;> by_cases e2 : j < 6
    · simp only [if_pos e1, if_pos e2] at e; have := q6 _ _ (by omega) (by omega) e; omega
    · simp only [if_pos e1, if_neg e2] at e; have := q6 _ _ (by omega) (by omega) e; omega
    · simp only [if_neg e1, if_pos e2] at e; have := q6 _ _ (by omega) (by omega) e; omega
    · omega
  · by_cases e : i < 6
    · simp only [if_pos e]; exact (q7 (i + 1) (by omega)).fr z (by have := H.lo (show i + 1 < 7 by omega); omega)
    · simp only [if_neg e]; exact (q7 0 (by omega)).fr z (by have := H.lo (show 0 < 7 by omega); omega)
/-- the history behind a change: the prepared state counts, the oldest goes if there are six -/
def pushP (P : Nat → Nat → Int32) (held : Nat) (f : Nat → Int32) : Nat → Nat → Int32 := fun i => if held < 6 then (if i = held then f else P i) else if i = 5 then f else P (i + 1)
theorem eX1_settle_e {v : Int32} (hv : v < nI 0) : EvA G 2 kX1_settle [.ref y, .int v] μ sz 0 0 (rI fun r μ' => r = v ∧ μ' = μ) := by
  refine EvA.of (L := [some (.ref y), some (.int v)]) (by decide +kernel) (Nat.le_of_ble_eq_true rfl) rfl ?_
  refine Rn.iload_n (pc1 := 1)  dX1_settle_0 rfl rfl rfl ?_
  refine Rn.if_ge (pc1 := 4) 6 dX1_settle_1 rfl (by decide) (fun c1 => ?_) (fun c1 => ?_)
  · exact absurd hv (i32_nlt.mpr c1)
  · refine Rn.iload_n (pc1 := 5)  dX1_settle_4 rfl rfl rfl ?_
    exact Rn.ireturn dX1_settle_5 rfl rfl ⟨_, rfl, rfl, rfl⟩
theorem eX1_settle {v : Int32} {P : Nat → Nat → Int32} {f : Nat → Int32} (hv : nI 0 ≤ v) (H : HA μ y s held) (Hp : HP μ s held P B) (F : ST μ (s held) f B) : EvA G 2 kX1_settle [.ref y, .int v] μ sz 0 0 (rI fun r μ' => r = v ∧ ∃ s' held', held' = (if held < 6 then held + 1 else 6) ∧ HA μ' y s' held' ∧ HP μ' s' held' (pushP P held f) B ∧ Fr y (y + 2) μ μ') := by
  have hO := H.1
  have hh := H.2.1
  refine EvA.of (L := [some (.ref y), some (.int v)]) (by decide +kernel) (Nat.le_of_ble_eq_true rfl) rfl ?_
  refine Rn.iload_n (pc1 := 1)  dX1_settle_0 rfl rfl rfl ?_
  refine Rn.if_ge (pc1 := 4) 6 dX1_settle_1 rfl (by decide) (fun c1 => ?_) (fun c1 => ?_)
  · refine Rn.aload_n (pc1 := 7)  dX1_settle_6 rfl rfl rfl ?_
    refine Rn.getfield (pc1 := 10)  dX1_settle_7 rfl fX1_17 (by first | assumption | exact mset_same | exact mget_ne (by omega) (by assumption)) rfl ?_
    refine Rn.bipush (pc1 := 12) (v := nI 6) dX1_settle_10 rfl (by decide) ?_
    refine Rn.icmp_ge (pc1 := 15) 28 dX1_settle_12 rfl (by decide) (fun c12 => ?_) (fun c12 => ?_)
    · have e : held = 6 := by rw [nI_leI (by decide) (by omega)] at c12; omega
      refine Rn.aload_n (pc1 := 29)  dX1_settle_28 rfl rfl rfl ?_
      refine Rn.cV_v (pc1 := 32) (eX1_dropOldest H) dX1_settle_29 rfl qX1_30 oX1_dropOldest (by first | assumption | exact mset_same | exact mget_ne (by omega) (by assumption)) rfl rfl rfl rfl (Nat.le_of_ble_eq_true rfl) (by decide) (by decide) (fun μ29 h29 => ?_)
      obtain ⟨H2, z2⟩ := h29
      refine Rn.iload_n (pc1 := 33) dX1_settle_32 rfl rfl rfl ?_
      subst e
      refine Rn.ireturn dX1_settle_33 rfl rfl ⟨_, rfl, rfl, _, 6, rfl, H2, fun i hi => ?_, z2.wide (by omega) (by omega)⟩
      simp only [if_pos hi]
      have hz := H.lo (show i + 1 < 7 by omega)
      unfold pushP
      rw [if_neg (by omega)]
      by_cases e5 : i = 5
      · subst e5; rw [if_pos rfl]; have e6 : s (5 + 1) = s 6 := rfl; exact F.fr z2 (by omega)
      · rw [if_neg e5]; exact (Hp (i + 1) (by omega)).fr z2 (by omega)
    · have e : held < 6 := by rw [nI_leI (by decide) (by omega)] at c12; omega
      refine Rn.aload_n (pc1 := 16)  dX1_settle_15 rfl rfl rfl ?_
      refine Rn.dup (pc1 := 17)  dX1_settle_16 rfl rfl ?_
      refine Rn.getfield (pc1 := 20)  dX1_settle_17 rfl fX1_17 (by first | assumption | exact mset_same | exact mget_ne (by omega) (by assumption)) rfl ?_
      refine Rn.iconst (pc1 := 21) (v := nI 1) dX1_settle_20 rfl (by decide) ?_
      refine Rn.iadd (pc1 := 22)  dX1_settle_21 rfl (nI_add held 1) ?_
      refine Rn.putfield (pc1 := 25)  dX1_settle_22 rfl pX1_17 (fun h => Bool.noConfusion h) (by first | assumption | exact mset_same | exact mget_ne (by omega) (by assumption)) (Nat.le_of_ble_eq_true rfl) rfl rfl rfl ?_
      refine Rn.goto 32 dX1_settle_25 (by decide) ?_
      refine Rn.iload_n (pc1 := 33)  dX1_settle_32 rfl rfl rfl ?_
      have z : Fr y (y + 1) μ (mset μ y (obj 1 [.ref (y + 1), .int (nI (held + 1))])) := Fr.set (by omega) (by omega)
      obtain ⟨q1, q2, ⟨r, q3, q4⟩, q5, q6, q7⟩ := id H
      refine Rn.ireturn dX1_settle_33 rfl rfl ⟨_, rfl, rfl, s, held + 1, (if_pos e).symm, ⟨mset_same, by omega, ⟨r, mget_ne (by omega) q3, q4⟩, q5, q6, fun i hi => (q7 i hi).fr z (by have := H.lo hi; omega)⟩, fun i hi => ?_, z.wide (by omega) (by omega)⟩
      have hz := H.lo (show i < 7 by omega)
      unfold pushP
      rw [if_pos e]
      by_cases e5 : i = held
      · subst e5; rw [if_pos rfl]; exact F.fr z (by omega)
      · rw [if_neg e5]; exact (Hp i (by omega)).fr z (by omega)
  · exact absurd hv c1
end HIST
