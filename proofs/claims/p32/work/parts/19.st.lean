/-! ===== the changes of a State, on the flat row alone ===== -/
abbrev hF (f : Nat → Int32) : Nat := (f 6).toNatClampNeg
abbrev rF (f : Nat → Int32) : Nat := (f 7).toNatClampNeg
abbrev sF (f : Nat → Int32) : Nat := (f 8).toNatClampNeg
theorem IV.h {f : Nat → Int32} {h rc sc B : Nat} (I : IV f h rc sc B) : hF f = h ∧ rF f = rc ∧ sF f = sc := by
  obtain ⟨⟨e1, e2, e3⟩, ⟨b1, b2, b3⟩, -⟩ := I
  unfold hF rF sF
  rw [e1, e2, e3, nI_clamp (by omega), nI_clamp (by omega), nI_clamp (by omega)]
  exact ⟨rfl, rfl, rfl⟩
theorem IV.same {f f' : Nat → Int32} {h rc sc B : Nat} (I : IV f h rc sc B) (nv : NV f' rc sc) (e0 : ∃ s, 1 ≤ s ∧ s ≤ 20 ∧ f' 0 = nI s) (e3 : f 3 = f' 3) (e6 : f 6 = f' 6) (e7 : f 7 = f' 7) (e8 : f 8 = f' 8) (q : ∀ j, 21 ≤ j → j < 21 + 4 * h → f j = f' j) : IV f' h rc sc B := by
  obtain ⟨⟨k1, k2, k3⟩, b, s, ⟨N, n, n1, n2, n3, n4⟩, k, -⟩ := I
  refine ⟨⟨e6 ▸ k1, e7 ▸ k2, e8 ▸ k3⟩, b, e0, ⟨N, n, n1, e3 ▸ n2, fun j hj => ?_, n4⟩, fun j hj => ?_, nv⟩
  · show f' _ = _ ∧ _
    rw [← q _ (by omega) (by omega)]; exact n3 j hj
  · show ∃ c, c < 12 ∧ f' _ = _
    rw [← q _ (by omega) (by omega)]; exact k j hj
theorem IV.hi {f f' : Nat → Int32} {h rc sc B : Nat} (I : IV f h rc sc B) (nv : NV f' rc sc) (q : ∀ j, j < 261 → f j = f' j) : IV f' h rc sc B :=
  I.same nv (by rw [← q 0 (by omega)]; exact I.2.2.1) (q _ (by omega)) (q _ (by omega)) (q _ (by omega)) (q _ (by omega)) (fun j h1 h2 => q _ (by have := I.2.1.1; omega))
theorem kept_mono {p : Nat → Bool} : ∀ {n i j a b : Nat}, (kept p n)[i]? = some a → (kept p n)[j]? = some b → i < j → a < b
  | 0, i, j, a, b, h, _, _ => by simp [kept] at h
  | n + 1, i, j, a, b, h1, h2, hij => by
    unfold kept at h1 h2
    by_cases hp : p n = true
    · rw [if_pos hp] at h1 h2; exact kept_mono h1 h2 hij
    · rw [if_neg hp] at h1 h2
      have l2 := (List.getElem?_eq_some_iff.mp h2).1
      rw [List.length_append] at l2
      have l3 : [n].length = 1 := rfl
      rw [List.getElem?_append_left (by omega)] at h1
      by_cases hj : j < (kept p n).length
      · rw [List.getElem?_append_left hj] at h2; exact kept_mono h1 h2 hij
      · rw [List.getElem?_append_right (by omega), show j - (kept p n).length = 0 by omega] at h2
        cases h2
        exact kept_lt h1
/-- entries read by a reading of at most M: those ahead -/
abbrev rdK (f : Nat → Int32) (h i : Nat) : Nat := h - cntA f (f (261 + 27 * i)) h
abbrev rdC (f : Nat → Int32) (h i M : Nat) : Nat := min M (cntA f (f (261 + 27 * i)) h)
theorem cntA_le (f : Nat → Int32) (pl : Int32) : ∀ n, cntA f pl n ≤ n
  | 0 => Nat.le_refl 0
  | n + 1 => by have := cntA_le f pl n; show _ + _ ≤ _; split <;> omega
theorem thinF_e {f : Nat → Int32} {h : Nat} {s mi : Int32} {j w : Nat} (hj : j < leftF f h s mi) (hw : w < 4) : ∃ q, (kept (pF f h s mi) h)[j]? = some q ∧ q < h ∧ thinF f h s mi (21 + 4 * j + w) = f (21 + 4 * q + w) := by
  have hl := kept_len (pF f h s mi) h
  have hj2 : j < (kept (pF f h s mi) h).length := by rw [hl]; exact hj
  have hjq := List.getElem?_eq_getElem hj2
  refine ⟨_, hjq, kept_lt hjq, ?_⟩
  unfold thinF
  rw [if_neg (by omega), if_neg (by omega), if_neg (by omega), if_pos (by omega), show (21 + 4 * j + w - 21) / 4 = j by omega, show (21 + 4 * j + w - 21) % 4 = w by omega, List.getD_eq_getElem?_getD, hjq]
  rfl
section NVS
variable {f : Nat → Int32} {h rc sc B : Nat}
theorem IV.nv (I : IV f h rc sc B) : NV f rc sc := I.2.2.2.2.2
theorem NV.same {f' : Nat → Int32} (V : NV f rc sc) (q : ∀ j, j = 1 ∨ j = 2 ∨ 261 ≤ j → f j = f' j) : NV f' rc sc := by
  obtain ⟨v1, ⟨m, m1, m2⟩, v3, v4⟩ := V
  exact ⟨by rw [← q 1 (by omega)]; exact v1, ⟨m, m1, by rw [← q 2 (by omega)]; exact m2⟩, fun i hi => by rw [← q _ (by omega), ← q _ (by omega)]; exact v3 i hi, fun n hn => by rw [← q _ (by omega)]; exact v4 n hn⟩
theorem le_of_in0 {v : Int32} {n : Nat} (h : inB v (nI 0) (nI n) = true) : nI 0 ≤ v := by
  unfold inB at h
  rw [Bool.and_eq_true, decide_eq_true_eq] at h
  exact h.1
theorem NV.turn {k : Nat} {v : Int32} (V : NV f rc sc) (hm : mayTurnF (nI k) v = nI 0) (hk : k < 2) : NV (upd f k v) rc sc := by
  obtain ⟨v1, ⟨m, m1, m2⟩, v3, v4⟩ := V
  refine ⟨?_, ⟨m, m1, by rw [upd_ne (by omega)]; exact m2⟩, fun i hi => by rw [upd_ne (by omega), upd_ne (by omega)]; exact v3 i hi, fun n hn => by rw [upd_ne (by omega)]; exact v4 n hn⟩
  by_cases e : k = 1
  · subst e
    rw [upd_at rfl]
    unfold mayTurnF at hm
    rw [if_neg (by decide)] at hm
    by_cases q : nI 1 = nI 1 ∧ inB v (nI 0) (nI 999) = true
    · exact le_of_in0 q.2
    · rw [if_neg q] at hm; exact absurd hm (by decide)
  · rw [upd_ne (by omega)]; exact v1
theorem passF_ok {m : Int32} (V : NV f rc sc) (hm : mayPassF f m = nI 0) : ∃ q, q ≤ 99999 ∧ f 2 + m = nI q := by
  obtain ⟨v1, ⟨m0, m1, m2⟩, v3, v4⟩ := V
  unfold mayPassF at hm
  by_cases q : inB m (nI 1) (nI 999) = true
  · rw [if_pos q] at hm
    by_cases q2 : f 2 + m ≤ 99999
    · unfold inB at q
      rw [Bool.and_eq_true, decide_eq_true_eq, decide_eq_true_eq] at q
      obtain ⟨c, hc, rfl⟩ := nI_of (x := m) (by
        intro z
        have h1 := q.1
        rw [Int32.le_iff_toInt_le, nI_toInt (by decide)] at h1
        rw [Int32.lt_iff_toInt_lt, Int32.toInt_zero] at z
        omega)
      have hc2 := (nI_leI hc (by decide)).mp q.2
      rw [m2, nI_add] at q2 ⊢
      exact ⟨m0 + c, (nI_leI (by omega) (by decide)).mp q2, rfl⟩
    · rw [if_neg q2] at hm; exact absurd hm (by decide)
  · rw [if_neg q] at hm; exact absurd hm (by decide)
theorem NV.pass {m : Int32} (V : NV f rc sc) (hm : mayPassF f m = nI 0) : NV (upd f 2 (f 2 + m)) rc sc := by
  obtain ⟨q, q1, q2⟩ := passF_ok V hm
  obtain ⟨v1, -, v3, v4⟩ := V
  exact ⟨by rw [upd_ne (by omega)]; exact v1, ⟨q, q1, by rw [upd_at rfl]; exact q2⟩, fun i hi => by rw [upd_ne (by omega), upd_ne (by omega)]; exact v3 i hi, fun n hn => by rw [upd_ne (by omega)]; exact v4 n hn⟩
theorem NV.sets {k : Nat} {v : Int32} (V : NV f rc sc) (hk : k < 12) (hh : h < 60) : NV (setsF f h k v) rc sc := V.same (fun j hj => by
  unfold setsF
  rw [upd_ne (by omega), upd_ne (by omega), upd_ne (by omega), upd_ne (by omega), upd_ne (by omega), upd_ne (by omega), upd_ne (by omega)])
theorem NV.thin {s mi : Int32} (V : NV f rc sc) (hh : h ≤ 60) : NV (thinF f h s mi) rc sc := V.same (fun j hj => by
  have hle : leftF f h s mi ≤ h := leftN_le _ _
  unfold thinF
  rw [if_neg (by omega), if_neg (by omega), if_neg (by omega), if_neg (by omega)])
/-- a change of reader i alone -/
theorem NV.rd {i : Nat} {f' : Nat → Int32} (V : NV f rc sc) (hi : i < rc) (hrc : rc ≤ 6) (q : ∀ j, j < 261 + 27 * i ∨ 261 + 27 * i + 27 ≤ j → f' j = f j) (h1 : nI 0 ≤ f' (261 + 27 * i)) (h2 : nI 0 ≤ f' (261 + 27 * i + 1)) : NV f' rc sc := by
  obtain ⟨v1, ⟨m, m1, m2⟩, v3, v4⟩ := V
  refine ⟨by rw [q 1 (by omega)]; exact v1, ⟨m, m1, by rw [q 2 (by omega)]; exact m2⟩, fun k hk => ?_, fun n hn => by rw [q _ (by omega)]; exact v4 n hn⟩
  by_cases e : k = i
  · subst e; exact ⟨h1, h2⟩
  · rw [q _ (by omega), q _ (by omega)]; exact v3 k hk
theorem NV.begin {i : Nat} {pl : Int32} {vw : Nat → Int32} (V : NV f rc sc) (hi : i < rc) (hrc : rc ≤ 6) (hp : nI 0 ≤ pl) : NV (beginF f i pl vw) rc sc := V.rd hi hrc (fun j hj => by unfold beginF; rw [blk_out (by omega), blk_out (by omega), upd_ne (by omega), upd_ne (by omega)]) (by unfold beginF; rw [blk_out (by omega), blk_out (by omega), upd_ne (by omega), upd_at rfl]; exact hp) (by unfold beginF; rw [blk_out (by omega), blk_out (by omega), upd_at rfl]; exact hp)
theorem NV.conf {i : Nat} (V : NV f rc sc) (hi : i < rc) (hrc : rc ≤ 6) : NV (confF f i) rc sc := V.rd hi hrc (fun j hj => by unfold confF; rw [upd_ne (by omega), blk_out (by omega)]) (by unfold confF; rw [upd_ne (by omega), blk_out (by omega)]; exact (V.2.2.1 i hi).1) (by unfold confF; rw [upd_at rfl]; exact (V.2.2.1 i hi).1)
theorem NV.back {i : Nat} (V : NV f rc sc) (hi : i < rc) (hrc : rc ≤ 6) : NV (backF f i) rc sc := V.rd hi hrc (fun j hj => by unfold backF; rw [upd_ne (by omega), blk_out (by omega)]) (by unfold backF; rw [upd_at rfl]; exact (V.2.2.1 i hi).2) (by unfold backF; rw [upd_ne (by omega), blk_out (by omega)]; exact (V.2.2.1 i hi).2)
theorem IV.nvread {i k c : Nat} (I : IV f h rc sc B) (hB : B < 2 ^ 30) (hi : i < rc) (hkc : k + c ≤ h) : NV (readF f i k c) rc sc := by
  have V := I.nv
  refine V.rd hi I.2.1.2.1 (fun j hj => by unfold readF; rw [upd_ne (by omega), upd_ne (by omega), blk_out (by omega)]) ?_ (by unfold readF; rw [upd_ne (by omega), upd_ne (by omega), blk_out (by omega)]; exact (V.2.2.1 i hi).2)
  unfold readF
  rw [upd_ne (by omega), upd_at rfl]
  cases c with
  | zero => exact (V.2.2.1 i hi).1
  | succ c =>
    obtain ⟨-, -, -, ⟨N, n, n1, n2, n3, n4⟩, -⟩ := I
    show nI 0 ≤ e0 f (k + c) + nI 1
    obtain ⟨m1, m2⟩ := n3 (k + c) (by omega)
    rw [m1, nI_add]
    exact nI_le (Nat.zero_le _) (by omega)
theorem NV.come (V : NV f rc sc) (hr : rc < 6) : NV (comeF f rc) (rc + 1) sc := by
  obtain ⟨v1, ⟨m, m1, m2⟩, v3, v4⟩ := V
  have hq : ∀ j, j ≠ 7 → (j < 261 + 27 * rc ∨ 261 + 27 * rc + 27 ≤ j) → comeF f rc j = f j := fun j h1 h2 => by
    unfold comeF beginF
    rw [upd_ne (by omega), blk_out (by omega), blk_out (by omega), upd_ne (by omega), upd_ne (by omega), upd_ne (by omega)]
  refine ⟨by rw [hq _ (by omega) (by omega)]; exact v1, ⟨m, m1, by rw [hq _ (by omega) (by omega)]; exact m2⟩, fun k hk => ?_, fun n hn => by rw [hq _ (by omega) (by omega)]; exact v4 n hn⟩
  by_cases e : k = rc
  · subst e
    unfold comeF beginF
    rw [upd_ne (by omega), blk_out (by omega), blk_out (by omega), upd_ne (by omega), upd_at rfl, upd_ne (by omega), blk_out (by omega), blk_out (by omega), upd_at rfl]
    exact ⟨by decide, by decide⟩
  · rw [hq _ (by omega) (by omega), hq _ (by omega) (by omega)]; exact v3 k (by omega)
theorem IV.next (I : IV f h rc sc B) (hB : B < 2 ^ 30) : nI 0 ≤ f 3 := by
  obtain ⟨-, -, -, ⟨N, n, n1, n2, n3, n4⟩, -⟩ := I
  rw [n2]; exact nI_le (Nat.zero_le _) (by omega)
theorem IV.nvshot (I : IV f h rc sc B) (hB : B < 2 ^ 30) : NV (shotF f sc) rc (if sc < 4 then sc + 1 else sc) := by
  have hn := I.next hB
  have hrc := I.2.1.2.1
  have hsc := I.2.1.2.2
  obtain ⟨v1, ⟨m, m1, m2⟩, v3, v4⟩ := I.nv
  have hq : ∀ j, j ≠ 8 → j < 423 → shotF f sc j = f j := fun j h1 h2 => by
    unfold shotF
    rw [upd_ne (by omega), blk_out (by omega), upd_ne (by omega), blk_out (by omega)]
  refine ⟨by rw [hq _ (by omega) (by omega)]; exact v1, ⟨m, m1, by rw [hq _ (by omega) (by omega)]; exact m2⟩, fun i hi => by rw [hq _ (by omega) (by omega), hq _ (by omega) (by omega)]; exact v3 i hi, fun n hn2 => ?_⟩
  have h4 : n < 4 ∧ n ≤ sc := by split at hn2 <;> omega
  cases n with
  | zero => unfold shotF; rw [upd_ne (by omega), blk_out (by omega), upd_at rfl]; exact hn
  | succ n =>
    unfold shotF
    rw [upd_ne (by omega), blk_out (by omega), upd_ne (by omega), blk_in (q := 13 * n) (by omega) (by omega)]
    exact v4 n (by omega)
end NVS
section IVS
variable {f : Nat → Int32} {h rc sc B : Nat}
theorem IV.turn {k : Nat} {v : Int32} (I : IV f h rc sc B) (hm : mayTurnF (nI k) v = nI 0) (hk : k < 2) : IV (upd f k v) h rc sc B := by
  refine I.same (I.nv.turn hm hk) ?_ (upd_ne (by omega)).symm (upd_ne (by omega)).symm (upd_ne (by omega)).symm (upd_ne (by omega)).symm (fun j h1 h2 => (upd_ne (by omega)).symm)
  by_cases e : k = 0
  · subst e
    unfold mayTurnF at hm
    rw [if_pos rfl] at hm
    by_cases q : inB v (nI 1) (nI 20) = true
    · unfold inB at q
      rw [Bool.and_eq_true, decide_eq_true_eq, decide_eq_true_eq] at q
      obtain ⟨s, hs, rfl⟩ := nI_of (x := v) (by
        intro z
        have h1 := q.1
        rw [Int32.le_iff_toInt_le, nI_toInt (by decide)] at h1
        rw [Int32.lt_iff_toInt_lt, Int32.toInt_zero] at z
        omega)
      exact ⟨s, (nI_leI (by decide) hs).mp q.1, (nI_leI hs (by decide)).mp q.2, upd_at rfl⟩
    · rw [if_neg q] at hm; exact absurd hm (by decide)
  · obtain ⟨s, h1, h2, h3⟩ := I.2.2.1
    exact ⟨s, h1, h2, by rw [upd_ne (by omega)]; exact h3⟩
theorem IV.pass {v : Int32} (I : IV f h rc sc B) (hm : mayPassF f v = nI 0) : IV (upd f 2 (f 2 + v)) h rc sc B := by
  obtain ⟨s, h1, h2, h3⟩ := I.2.2.1
  exact I.same (I.nv.pass hm) ⟨s, h1, h2, by rw [upd_ne (by omega)]; exact h3⟩ (upd_ne (by omega)).symm (upd_ne (by omega)).symm (upd_ne (by omega)).symm (upd_ne (by omega)).symm (fun j h1 h2 => (upd_ne (by omega)).symm)
theorem IV.sets {k : Nat} {v : Int32} (I : IV f h rc sc B) (hk : k < 12) (hh : h < 60) : IV (setsF f h k v) (h + 1) rc sc (B + 1) := by
  have hq : ∀ j, j ≠ 3 → j ≠ 6 → j ≠ 9 + k → (j < 21 + 4 * h ∨ 21 + 4 * h + 4 ≤ j) → setsF f h k v j = f j := fun j h1 h2 h3 h4 => by
    unfold setsF
    rw [upd_ne (by omega), upd_ne (by omega), upd_ne (by omega), upd_ne (by omega), upd_ne (by omega), upd_ne (by omega), upd_ne (by omega)]
  obtain ⟨⟨k1, k2, k3⟩, b, ⟨s, s1, s2, s3⟩, ⟨N, n, n1, n2, n3, n4⟩, kk, nv0⟩ := I
  refine ⟨⟨by unfold setsF; rw [upd_ne (by omega), upd_ne (by omega), upd_at rfl], by rw [hq _ (by omega) (by omega) (by omega) (by omega)]; exact k2, by rw [hq _ (by omega) (by omega) (by omega) (by omega)]; exact k3⟩, ⟨by omega, b.2⟩, ⟨s, s1, s2, by rw [hq _ (by omega) (by omega) (by omega) (by omega)]; exact s3⟩, ⟨N + 1, fun j => if j = h then N else n j, by omega, by unfold setsF; rw [upd_at rfl, n2, nI_add], fun j hj => ?_, fun i j hij hj => ?_⟩, fun j hj => ?_, nv0.sets hk hh⟩
  · by_cases e : j = h
    · subst e
      simp only [↓reduceIte]
      refine ⟨?_, by omega⟩
      show setsF f j k v (21 + 4 * j) = _
      unfold setsF
      rw [upd_ne (by omega), upd_ne (by omega), upd_ne (by omega), upd_ne (by omega), upd_ne (by omega), upd_ne (by omega), upd_at rfl, n2]
    · simp only [if_neg e]
      obtain ⟨m1, m2⟩ := n3 j (by omega)
      refine ⟨?_, by omega⟩
      show setsF f h k v (21 + 4 * j) = _
      rw [hq _ (by omega) (by omega) (by omega) (by omega)]; exact m1
  · by_cases e : j = h
    · subst e
      simp only [if_neg (show ¬ i = j by omega), ↓reduceIte]
      exact (n3 i (by omega)).2
    · simp only [if_neg e, if_neg (show ¬ i = h by omega)]
      exact n4 i j hij (by omega)
  · by_cases e : j = h
    · subst e
      refine ⟨k, hk, ?_⟩
      show setsF f j k v (21 + 4 * j + 1) = _
      unfold setsF
      rw [upd_ne (by omega), upd_ne (by omega), upd_ne (by omega), upd_ne (by omega), upd_ne (by omega), upd_at rfl]
    · obtain ⟨c, c1, c2⟩ := kk j (by omega)
      refine ⟨c, c1, ?_⟩
      show setsF f h k v (21 + 4 * j + 1) = _
      rw [hq _ (by omega) (by omega) (by omega) (by omega)]; exact c2
theorem IV.thin {s mi : Int32} (I : IV f h rc sc B) : IV (thinF f h s mi) (leftF f h s mi) rc sc B := by
  have hle : leftF f h s mi ≤ h := leftN_le _ _
  have hq : ∀ j, j ≠ 4 → j ≠ 5 → j ≠ 6 → j < 21 → thinF f h s mi j = f j := fun j h1 h2 h3 h4 => by
    unfold thinF
    rw [if_neg h1, if_neg h2, if_neg h3, if_neg (by omega)]
  obtain ⟨⟨k1, k2, k3⟩, b, ⟨z, s1, s2, s3⟩, ⟨N, n, n1, n2, n3, n4⟩, kk, nv0⟩ := I
  refine ⟨⟨rfl, by rw [hq _ (by omega) (by omega) (by omega) (by omega)]; exact k2, by rw [hq _ (by omega) (by omega) (by omega) (by omega)]; exact k3⟩, ⟨by omega, b.2⟩, ⟨z, s1, s2, by rw [hq _ (by omega) (by omega) (by omega) (by omega)]; exact s3⟩, ⟨N, fun j => n ((kept (pF f h s mi) h).getD j 0), n1, by rw [hq _ (by omega) (by omega) (by omega) (by omega)]; exact n2, fun j hj => ?_, fun i j hij hj => ?_⟩, fun j hj => ?_, nv0.thin b.1⟩
  · obtain ⟨q, q1, q2, q3⟩ := thinF_e (w := 0) hj (by omega)
    rw [Nat.add_zero, Nat.add_zero] at q3
    show thinF f h s mi (21 + 4 * j) = _ ∧ _
    simp only [List.getD_eq_getElem?_getD, q1, Option.getD_some]
    rw [q3]
    exact n3 q q2
  · obtain ⟨q, q1, q2, q3⟩ := thinF_e (f := f) (h := h) (s := s) (mi := mi) (j := i) (w := 0) (by omega) (by omega)
    obtain ⟨u, u1, u2, u3⟩ := thinF_e (f := f) (h := h) (s := s) (mi := mi) (j := j) (w := 0) hj (by omega)
    simp only [List.getD_eq_getElem?_getD, q1, u1, Option.getD_some]
    exact n4 q u (kept_mono q1 u1 hij) u2
  · obtain ⟨q, q1, q2, q3⟩ := thinF_e (w := 1) hj (by omega)
    show ∃ c, c < 12 ∧ thinF f h s mi (21 + 4 * j + 1) = _
    rw [q3]
    exact kk q q2
theorem IV.begin {i : Nat} {pl : Int32} {vw : Nat → Int32} (I : IV f h rc sc B) (hi : i < rc) (hp : nI 0 ≤ pl) : IV (beginF f i pl vw) h rc sc B := I.hi (I.nv.begin hi I.2.1.2.1 hp) (fun j hj => by unfold beginF; rw [blk_out (by omega), blk_out (by omega), upd_ne (by omega), upd_ne (by omega)])
theorem IV.conf {i : Nat} (I : IV f h rc sc B) (hi : i < rc) : IV (confF f i) h rc sc B := I.hi (I.nv.conf hi I.2.1.2.1) (fun j hj => by unfold confF; rw [upd_ne (by omega), blk_out (by omega)])
theorem IV.back {i : Nat} (I : IV f h rc sc B) (hi : i < rc) : IV (backF f i) h rc sc B := I.hi (I.nv.back hi I.2.1.2.1) (fun j hj => by unfold backF; rw [upd_ne (by omega), blk_out (by omega)])
theorem IV.read {i k c : Nat} (I : IV f h rc sc B) (hB : B < 2 ^ 30) (hi : i < rc) (hkc : k + c ≤ h) : IV (readF f i k c) h rc sc B := I.hi (I.nvread hB hi hkc) (fun j hj => by unfold readF; rw [upd_ne (by omega), upd_ne (by omega), blk_out (by omega)])
theorem IV.come (I : IV f h rc sc B) (hr : rc < 6) : IV (comeF f rc) h (rc + 1) sc B := by
  have hq : ∀ j, j ≠ 7 → j < 261 → comeF f rc j = f j := fun j h1 h2 => by
    unfold comeF beginF
    rw [upd_ne (by omega), blk_out (by omega), blk_out (by omega), upd_ne (by omega), upd_ne (by omega), upd_ne (by omega)]
  have hb := I.2.1.1
  obtain ⟨⟨k1, k2, k3⟩, b, ⟨z, s1, s2, s3⟩, ⟨N, n, n1, n2, n3, n4⟩, kk, nv0⟩ := I
  refine ⟨⟨by rw [hq _ (by omega) (by omega)]; exact k1, by unfold comeF; rw [upd_at rfl], by rw [hq _ (by omega) (by omega)]; exact k3⟩, ⟨b.1, by omega, b.2.2⟩, ⟨z, s1, s2, by rw [hq _ (by omega) (by omega)]; exact s3⟩, ⟨N, n, n1, by rw [hq _ (by omega) (by omega)]; exact n2, fun j hj => ?_, n4⟩, fun j hj => ?_, nv0.come hr⟩
  · show comeF f rc _ = _ ∧ _
    rw [hq _ (by omega) (by omega)]; exact n3 j hj
  · show ∃ c, c < 12 ∧ comeF f rc _ = _
    rw [hq _ (by omega) (by omega)]; exact kk j hj
theorem IV.shot (I : IV f h rc sc B) (hB : B < 2 ^ 30) : IV (shotF f sc) h rc (if sc < 4 then sc + 1 else sc) B := by
  have hq : ∀ j, j ≠ 8 → j < 423 → shotF f sc j = f j := fun j h1 h2 => by
    unfold shotF
    rw [upd_ne (by omega), blk_out (by omega), upd_ne (by omega), blk_out (by omega)]
  have nvs := I.nvshot hB
  have hb := I.2.1.1
  obtain ⟨⟨k1, k2, k3⟩, b, ⟨z, s1, s2, s3⟩, ⟨N, n, n1, n2, n3, n4⟩, kk, nv0⟩ := I
  refine ⟨⟨by rw [hq _ (by omega) (by omega)]; exact k1, by rw [hq _ (by omega) (by omega)]; exact k2, by unfold shotF; rw [upd_at rfl]⟩, ⟨b.1, b.2.1, by have := b.2.2; split <;> omega⟩, ⟨z, s1, s2, by rw [hq _ (by omega) (by omega)]; exact s3⟩, ⟨N, n, n1, by rw [hq _ (by omega) (by omega)]; exact n2, fun j hj => ?_, n4⟩, fun j hj => ?_, nvs⟩
  · show shotF f sc _ = _ ∧ _
    rw [hq _ (by omega) (by omega)]; exact n3 j hj
  · show ∃ c, c < 12 ∧ shotF f sc _ = _
    rw [hq _ (by omega) (by omega)]; exact kk j hj
end IVS
/-- what a change answers: an error (nothing has changed), or a number with the new row -/
abbrev QC (a B : Nat) (μ : Mm) (may val : Int32) (f' : Nat → Int32) : Option Value → Mm → Prop := rI fun v μ' => (may < nI 0 ∧ v = may ∧ μ' = μ) ∨ (may = nI 0 ∧ nI 0 ≤ val ∧ v = val ∧ ST μ' a f' (B + 1) ∧ Fr a (a + 52) μ μ')
section STOPS
variable {G : GG} {μ : Mm} {sz : Nat} {a B : Nat} {f : Nat → Int32}
theorem m1_lt : (-1 : Int32) < nI 0 := by decide
theorem m2_lt : (-2 : Int32) < nI 0 := by decide
theorem m4_lt : (-4 : Int32) < nI 0 := by decide
theorem m5_lt : (-5 : Int32) < nI 0 := by decide
theorem mayTurn_lt {s v : Int32} (h : mayTurnF s v ≠ nI 0) : mayTurnF s v < nI 0 := by
  unfold mayTurnF at h ⊢
  split <;> split <;> simp_all <;> decide
theorem maySet_lt {x : Nat} {s v : Int32} (h : maySetF x s v ≠ nI 0) : maySetF x s v < nI 0 := by
  unfold maySetF at h ⊢
  split
  · split
    · split
      · decide
      · simp_all
    · decide
  · decide
theorem mayRemove_lt {x : Nat} {s : Int32} (h : mayRemoveF f x s ≠ nI 0) : mayRemoveF f x s < nI 0 := by
  unfold mayRemoveF at h ⊢
  split
  · split
    · decide
    · split
      · decide
      · simp_all
  · decide
theorem mayPass_lt {s : Int32} (h : mayPassF f s ≠ nI 0) : mayPassF f s < nI 0 := by
  unfold mayPassF at h ⊢
  split
  · split
    · simp_all
    · decide
  · decide
theorem mayRead_lt {x : Nat} {s m : Int32} (h : mayReadF f x s m ≠ nI 0) : mayReadF f x s m < nI 0 := by
  unfold mayReadF at h ⊢
  split
  · split
    · split
      · decide
      · simp_all
    · decide
  · decide
theorem mayLoad_lt {x y : Nat} {s m : Int32} (h : mayLoadF f x y s m ≠ nI 0) : mayLoadF f x y s m < nI 0 := by
  unfold mayLoadF at h ⊢
  split
  · split
    · decide
    · simp_all
  · decide
theorem sX6_turnSetting {s v : Int32} (F : ST μ a f B) : EvA G 1 kX6_turnSetting [.ref a, .int s, .int v] μ sz 0 0 (QC a B μ (mayTurnF s v) (f s.toNatClampNeg) (upd f s.toNatClampNeg v)) := by
  obtain ⟨h, rc, sc, S, I⟩ := F
  refine (eX6_turnSetting S).imp ?_
  rintro r μ' ⟨w, rfl, ⟨h1, rfl, rfl⟩ | ⟨h1, k, hk, rfl, rfl, S', z⟩⟩
  · exact ⟨_, rfl, Or.inl ⟨mayTurn_lt h1, rfl, rfl⟩⟩
  · rw [nI_clamp (by omega)]
    refine ⟨_, rfl, Or.inr ⟨h1, ?_, rfl, ⟨h, rc, sc, S', (I.turn h1 hk).mono (by omega)⟩, z⟩⟩
    match k, hk with
    | 0, _ =>
      obtain ⟨x, x1, x2, x3⟩ := I.2.2.1
      rw [x3]; exact nI_le (Nat.zero_le _) (by omega)
    | 1, _ => exact I.nv.1
theorem sX6_setKey {key v : Int32} (hB : B < 2 ^ 30) (F : ST μ a f B) : EvA G 3 kX6_setKey [.ref a, .int key, .int v] μ sz 0 0 (QC a B μ (maySetF (hF f) key v) (f 3) (setsF f (hF f) key.toNatClampNeg v)) := by
  obtain ⟨h, rc, sc, S, I⟩ := F
  rw [I.h.1]
  refine (eX6_setKey S).imp ?_
  rintro r μ' ⟨w, rfl, ⟨h1, rfl, rfl⟩ | ⟨h1, k, hk, rfl, rfl, S', z⟩⟩
  · exact ⟨_, rfl, Or.inl ⟨maySet_lt h1, rfl, rfl⟩⟩
  · rw [nI_clamp (by omega)]
    refine ⟨_, rfl, Or.inr ⟨h1, I.next hB, rfl, ⟨h + 1, rc, sc, S', I.sets hk (by have := S'.1.1; omega)⟩, z⟩⟩
theorem sX6_removeKey {key : Int32} (hB : B < 2 ^ 30) (F : ST μ a f B) : EvA G 3 kX6_removeKey [.ref a, .int key] μ sz 0 0 (QC a B μ (mayRemoveF f (hF f) key) (f 3) (setsF f (hF f) key.toNatClampNeg (-6))) := by
  obtain ⟨h, rc, sc, S, I⟩ := F
  rw [I.h.1]
  refine (eX6_removeKey S).imp ?_
  rintro r μ' ⟨w, rfl, ⟨h1, rfl, rfl⟩ | ⟨h1, k, hk, rfl, rfl, S', z⟩⟩
  · exact ⟨_, rfl, Or.inl ⟨mayRemove_lt h1, rfl, rfl⟩⟩
  · rw [nI_clamp (by omega)]
    refine ⟨_, rfl, Or.inr ⟨h1, I.next hB, rfl, ⟨h + 1, rc, sc, S', I.sets hk (by have := S'.1.1; omega)⟩, z⟩⟩
theorem sX6_letPass {m : Int32} (F : ST μ a f B) : EvA G 1 kX6_letPass [.ref a, .int m] μ sz 0 0 (QC a B μ (mayPassF f m) (f 2 + m) (upd f 2 (f 2 + m))) := by
  obtain ⟨h, rc, sc, S, I⟩ := F
  refine (eX6_letPass S).imp ?_
  rintro r μ' ⟨w, rfl, ⟨h1, rfl, rfl⟩ | ⟨h1, rfl, S', z⟩⟩
  · exact ⟨_, rfl, Or.inl ⟨mayPass_lt h1, rfl, rfl⟩⟩
  · obtain ⟨q, q1, q2⟩ := passF_ok I.nv h1
    exact ⟨_, rfl, Or.inr ⟨h1, by rw [q2]; exact nI_le (Nat.zero_le _) (by omega), rfl, ⟨h, rc, sc, S', (I.pass h1).mono (by omega)⟩, z⟩⟩
theorem sX6_thinFeed (F : ST μ a f B) : EvA G 4 kX6_thinFeed [.ref a] μ sz 0 0 (QC a B μ (nI 0) (nI (hF f - leftF f (hF f) (f 0) (f 2))) (thinF f (hF f) (f 0) (f 2))) := by
  obtain ⟨h, rc, sc, S, I⟩ := F
  rw [I.h.1]
  refine (eX6_thinFeed S I.size).imp ?_
  rintro r μ' ⟨w, rfl, rfl, S', z⟩
  exact ⟨_, rfl, Or.inr ⟨rfl, nI_le (Nat.zero_le _) (by have := S.1.1; omega), rfl, ⟨_, rc, sc, S', I.thin.mono (by omega)⟩, z⟩⟩
theorem sX6_makeSnapshot (hB : B < 2 ^ 30) (F : ST μ a f B) : EvA G 4 kX6_makeSnapshot [.ref a] μ sz 0 0 (QC a B μ (nI 0) (f 3) (shotF f (sF f))) := by
  obtain ⟨h, rc, sc, S, I⟩ := F
  rw [I.h.2.2]
  refine (eX6_makeSnapshot S).imp ?_
  rintro r μ' ⟨w, rfl, rfl, S', z⟩
  exact ⟨_, rfl, Or.inr ⟨rfl, I.next hB, rfl, ⟨h, rc, _, S', (I.shot hB).mono (by omega)⟩, z⟩⟩
def mayComeF (rc : Nat) : Int32 := if rc = 6 then -4 else nI 0
theorem sX6_addReader (F : ST μ a f B) : EvA G 4 kX6_addReader [.ref a] μ sz 0 0 (QC a B μ (mayComeF (rF f)) (nI (rF f)) (comeF f (rF f))) := by
  obtain ⟨h, rc, sc, S, I⟩ := F
  rw [I.h.2.1]
  refine (eX6_addReader S).imp ?_
  rintro r μ' ⟨w, rfl, ⟨h1, rfl, rfl⟩ | ⟨h1, rfl, S', z⟩⟩
  · have e : mayComeF rc = -4 := if_pos h1
    exact ⟨_, rfl, Or.inl ⟨by rw [e]; decide, e.symm, rfl⟩⟩
  · exact ⟨_, rfl, Or.inr ⟨if_neg (by omega), nI_le (Nat.zero_le _) (by omega), rfl, ⟨h, rc + 1, sc, S', (I.come h1).mono (by omega)⟩, z⟩⟩
def mayIsF (rc : Nat) (r : Int32) : Int32 := if isRdB rc r = true then nI 0 else -1
theorem sX6_letConfirm {r : Int32} (F : ST μ a f B) : EvA G 3 kX6_letConfirm [.ref a, .int r] μ sz 0 0 (QC a B μ (mayIsF (rF f) r) (f (261 + 27 * r.toNatClampNeg)) (confF f r.toNatClampNeg)) := by
  obtain ⟨h, rc, sc, S, I⟩ := F
  rw [I.h.2.1]
  have hrc := S.1.2.1
  refine (eX6_letConfirm S).imp ?_
  rintro v μ' ⟨w, rfl, ⟨h1, rfl, rfl⟩ | ⟨h1, i, hi, rfl, rfl, S', z⟩⟩
  · have e : mayIsF rc r = -1 := if_neg (by rw [h1]; decide)
    exact ⟨_, rfl, Or.inl ⟨by rw [e]; decide, e.symm, rfl⟩⟩
  · rw [nI_clamp (by omega)]
    exact ⟨_, rfl, Or.inr ⟨if_pos h1, (I.nv.2.2.1 i hi).1, rfl, ⟨h, rc, sc, S', (I.conf hi).mono (by omega)⟩, z⟩⟩
theorem sX6_letGoBack {r : Int32} (F : ST μ a f B) : EvA G 3 kX6_letGoBack [.ref a, .int r] μ sz 0 0 (QC a B μ (mayIsF (rF f) r) (f (261 + 27 * r.toNatClampNeg + 1)) (backF f r.toNatClampNeg)) := by
  obtain ⟨h, rc, sc, S, I⟩ := F
  rw [I.h.2.1]
  have hrc := S.1.2.1
  refine (eX6_letGoBack S).imp ?_
  rintro v μ' ⟨w, rfl, ⟨h1, rfl, rfl⟩ | ⟨h1, i, hi, rfl, rfl, S', z⟩⟩
  · have e : mayIsF rc r = -1 := if_neg (by rw [h1]; decide)
    exact ⟨_, rfl, Or.inl ⟨by rw [e]; decide, e.symm, rfl⟩⟩
  · rw [nI_clamp (by omega)]
    exact ⟨_, rfl, Or.inr ⟨if_pos h1, (I.nv.2.2.1 i hi).2, rfl, ⟨h, rc, sc, S', (I.back hi).mono (by omega)⟩, z⟩⟩
theorem sX6_letBeginAnew {r : Int32} (hB : B < 2 ^ 30) (F : ST μ a f B) : EvA G 4 kX6_letBeginAnew [.ref a, .int r] μ sz 0 0 (QC a B μ (mayIsF (rF f) r) (nI (hF f)) (beginF f r.toNatClampNeg (nI 0) (fun _ => -6))) := by
  obtain ⟨h, rc, sc, S, I⟩ := F
  rw [I.h.2.1, I.h.1]
  have hrc := S.1.2.1
  refine (eX6_letBeginAnew S (I.nn (by omega))).imp ?_
  rintro v μ' ⟨w, rfl, ⟨h1, rfl, rfl⟩ | ⟨h1, i, hi, rfl, rfl, S', z⟩⟩
  · have e : mayIsF rc r = -1 := if_neg (by rw [h1]; decide)
    exact ⟨_, rfl, Or.inl ⟨by rw [e]; decide, e.symm, rfl⟩⟩
  · rw [nI_clamp (by omega)]
    exact ⟨_, rfl, Or.inr ⟨if_pos h1, nI_le (Nat.zero_le _) (by have := S.1.1; omega), rfl, ⟨h, rc, sc, S', (I.begin hi (by decide)).mono (by omega)⟩, z⟩⟩
theorem sX6_letLoad {r s : Int32} (F : ST μ a f B) : EvA G 4 kX6_letLoad [.ref a, .int r, .int s] μ sz 0 0 (QC a B μ (mayLoadF f (rF f) (sF f) r s) (f (423 + 13 * s.toNatClampNeg)) (beginF f r.toNatClampNeg (f (423 + 13 * s.toNatClampNeg)) (fun k => f (423 + 13 * s.toNatClampNeg + 1 + k)))) := by
  obtain ⟨h, rc, sc, S, I⟩ := F
  rw [I.h.2.1, I.h.2.2]
  have hrc := S.1.2.1
  have hsc := S.1.2.2
  refine (eX6_letLoad S).imp ?_
  rintro v μ' ⟨w, rfl, ⟨h1, rfl, rfl⟩ | ⟨h1, i, n, hi, hn, rfl, rfl, rfl, S', z⟩⟩
  · exact ⟨_, rfl, Or.inl ⟨mayLoad_lt h1, rfl, rfl⟩⟩
  · rw [nI_clamp (by omega), nI_clamp (by omega)]
    exact ⟨_, rfl, Or.inr ⟨h1, I.nv.2.2.2 n hn, rfl, ⟨h, rc, sc, S', (I.begin hi (I.nv.2.2.2 n hn)).mono (by omega)⟩, z⟩⟩
theorem sX6_letRead {r m : Int32} (hB : B < 2 ^ 30) (F : ST μ a f B) : EvA G 4 kX6_letRead [.ref a, .int r, .int m] μ sz 0 0 (QC a B μ (mayReadF f (rF f) r m) (nI (rdC f (hF f) r.toNatClampNeg m.toNatClampNeg)) (readF f r.toNatClampNeg (rdK f (hF f) r.toNatClampNeg) (rdC f (hF f) r.toNatClampNeg m.toNatClampNeg))) := by
  obtain ⟨h, rc, sc, S, I⟩ := F
  rw [I.h.2.1, I.h.1]
  have hrc := S.1.2.1
  refine (eX6_letRead S I.2.2.2.2.1).imp ?_
  rintro v μ' ⟨w, rfl, ⟨h1, rfl, rfl⟩ | ⟨h1, i, M, k, c, hi, rfl, rfl, M1, M2, hkc, hc, rfl, k2, k3, S', z⟩⟩
  · exact ⟨_, rfl, Or.inl ⟨mayRead_lt h1, rfl, rfl⟩⟩
  · rw [nI_clamp (by omega), nI_clamp (by omega)]
    have e : cntA f (f (261 + 27 * i)) h = h - k := cntA_eq (I.srt (by omega)) k2 k3 (Nat.le_refl h)
    have hh := S.1.1
    have ek : rdK f h i = k := by show h - cntA f _ h = k; rw [e]; omega
    have ec : rdC f h i M = c := by show min M (cntA f _ h) = c; rw [e, hc]
    rw [ek, ec]
    exact ⟨_, rfl, Or.inr ⟨h1, nI_le (Nat.zero_le _) (by omega), rfl, ⟨h, rc, sc, S', (I.read hB hi hkc).mono (by omega)⟩, z⟩⟩
end STOPS
