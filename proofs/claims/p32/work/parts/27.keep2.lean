/-! ===== thinning and reading keep it ===== -/
section KEEP2
variable {f : Nat → Int32} {h rc sc B N g fl m : Nat} {n t : Nat → Nat}
theorem closB_mono {a b s : Nat} (hab : a ≤ b) (hbN : b < N) (hN : N < 2 ^ 31) (hs : 0 < s) (hs2 : s < 2 ^ 31) (h : closB (nI b) (nI N) (nI s) = true) : closB (nI a) (nI N) (nI s) = true := by
  unfold closB at h ⊢
  rw [pk_div (by omega) hs hs2, pk_div hN hs hs2] at h
  rw [pk_div (by omega) hs hs2, pk_div hN hs hs2]
  have d1 : a / s ≤ b / s := Nat.div_le_div_right hab
  have d2 : b / s ≤ N / s := Nat.div_le_div_right (by omega)
  have d3 : N / s ≤ N := Nat.div_le_self _ _
  rw [Bool.not_eq_true', decide_eq_false_iff_not, nI_eq (by omega) (by omega)] at h
  rw [Bool.not_eq_true', decide_eq_false_iff_not, nI_eq (by omega) (by omega)]
  omega
theorem floorN_spec {p q : Nat → Bool} {g0 : Nat → Int32} (hg : ∀ i, i < h → g0 i = nI (n i) ∧ n i < N) (hfl : fl ≤ N) (hN : N < 2 ^ 30) : ∀ x, x ≤ h → ∃ F, floorN p q g0 (nI fl) x = nI F ∧ fl ≤ F ∧ F ≤ N ∧ ∀ i, i < x → q i = true → p i = true → n i + 1 ≤ F
  | 0, _ => ⟨fl, rfl, Nat.le_refl _, hfl, fun i hi => absurd hi (Nat.not_lt_zero _)⟩
  | x + 1, hx => by
    obtain ⟨F, f1, f2, f3, f4⟩ := floorN_spec (p := p) (q := q) (g0 := g0) hg hfl hN x (by omega)
    obtain ⟨k1, k2⟩ := hg x (by omega)
    unfold floorN
    rw [f1, k1, nI_add]
    by_cases c : q x = true ∧ p x = true
    · rw [if_pos c]
      by_cases c2 : nI F < nI (n x + 1)
      · rw [if_pos c2]
        have := (nI_ltI (by omega) (by omega)).mp c2
        refine ⟨n x + 1, rfl, by omega, by omega, fun i hi h1 h2 => ?_⟩
        by_cases e : i = x
        · subst e; omega
        · have := f4 i (by omega) h1 h2; omega
      · rw [if_neg c2]
        refine ⟨F, rfl, f2, f3, fun i hi h1 h2 => ?_⟩
        by_cases e : i = x
        · subst e
          by_cases z : n i + 1 ≤ F
          · exact z
          · exact absurd (nI_lt (show F < n i + 1 by omega) (by omega)) c2
        · exact f4 i (by omega) h1 h2
    · rw [if_neg c]
      refine ⟨F, rfl, f2, f3, fun i hi h1 h2 => ?_⟩
      by_cases e : i = x
      · subst e; exact absurd ⟨h1, h2⟩ c
      · exact f4 i (by omega) h1 h2
theorem thinF_out {s mi : Int32} {j : Nat} (h4 : j ≠ 4) (h5 : j ≠ 5) (h6 : j ≠ 6) (hj : j < 21 ∨ 21 + 4 * leftF f h s mi ≤ j) : thinF f h s mi j = f j := by
  unfold thinF
  rw [if_neg h4, if_neg h5, if_neg h6, if_neg (by omega)]
theorem JV.thin {s : Nat} (J : JV f h rc sc B) (hh : h ≤ 60) (hB : B < 2 ^ 30) (hs : 1 ≤ s) (hs2 : s ≤ 20) (hf : f 0 = nI s) : JV (thinF f h (f 0) (f 2)) (leftF f h (f 0) (f 2)) rc sc B := by
  obtain ⟨N, n, t, g, fl, m, ⟨⟨a1, a2, a3, a4, a5, a6, a7⟩, e, c⟩, r, s', d⟩ := J
  have hle : leftF f h (f 0) (f 2) ≤ h := leftN_le _ _
  have hlen : (kept (pF f h (f 0) (f 2)) h).length = leftF f h (f 0) (f 2) := kept_len _ _
  have hn : ∀ i, i < h → e0 f i = nI (n i) ∧ n i < N := fun i hi => ⟨(e i hi).1, (c.1 i hi).1⟩
  obtain ⟨F, k1, k2, k3, k4⟩ := floorN_spec (p := pF f h (f 0) (f 2)) (q := fun i => lastB (e1 f) i h) (g0 := e0 f) hn c.2.2.2.2.2.2 (by omega) h (Nat.le_refl _)
  have un : ∀ i, i < h → pF f h (f 0) (f 2) i = true → closB (nI (n i)) (nI N) (nI s) = true ∧ (lastB (e1 f) i h = false ∨ e2 f i = -6) := by
    intro i hi hp
    unfold pF goB at hp
    rw [Bool.and_eq_true, Bool.or_eq_true, (e i hi).1, a2, hf] at hp
    refine ⟨hp.1, ?_⟩
    rcases hp.2 with h1 | h1
    · left; simpa using h1
    · right
      unfold oldB at h1
      rw [Bool.and_eq_true, decide_eq_true_eq] at h1
      exact h1.1
  have g1 : ∀ i j j', i < j → j < h → pF f h (f 0) (f 2) j = true → i < j' → j' < h → e1 f j' = e1 f i → pF f h (f 0) (f 2) i = true := by
    intro i j j' hij hj hp h1 h2 h3
    have hcl := closB_mono (Nat.le_of_lt (c.2.1 i j hij hj).1) (c.1 j hj).1 (by omega) (by omega) (by omega) (un j hj hp).1
    have hla : lastB (e1 f) i h = false := by
      cases z : lastB (e1 f) i h
      · rfl
      · exact absurd h3 (lastB_iff.mp z j' h1 h2)
    show goB h (f 3) (f 0) (f 1) (f 2) (e0 f) (e1 f) (e2 f) (e3 f) i = true
    unfold goB
    rw [(e i (by omega)).1, a2, hf, hcl, hla]
    rfl
  have g2 : ∀ i, i < h → pF f h (f 0) (f 2) i = true → (∀ j, i < j → j < h → ¬ e1 f j = e1 f i) → e2 f i = -6 ∧ n i + 1 ≤ F := by
    intro i hi hp hl
    have hla : lastB (e1 f) i h = true := lastB_iff.mpr hl
    refine ⟨?_, k4 i hi hla hp⟩
    rcases (un i hi hp).2 with z | z
    · rw [hla] at z; cases z
    · exact z
  have sx : ∀ j, j < leftF f h (f 0) (f 2) → (kept (pF f h (f 0) (f 2)) h)[j]? = some ((kept (pF f h (f 0) (f 2)) h).getD j 0) := fun j hj => by
    rw [List.getD_eq_getElem?_getD, List.getElem?_eq_getElem (by omega)]
    rfl
  have s1 : ∀ j, j < leftF f h (f 0) (f 2) → (kept (pF f h (f 0) (f 2)) h).getD j 0 < h ∧ pF f h (f 0) (f 2) ((kept (pF f h (f 0) (f 2)) h).getD j 0) = false := fun j hj => kept_mem.mp (List.mem_of_getElem? (sx j hj))
  have s2 : ∀ i j, i < j → j < leftF f h (f 0) (f 2) → (kept (pF f h (f 0) (f 2)) h).getD i 0 < (kept (pF f h (f 0) (f 2)) h).getD j 0 := fun i j hij hj => kept_mono (sx i (by omega)) (sx j hj) hij
  have s3 : ∀ i, i < h → pF f h (f 0) (f 2) i = false → ∃ j, j < leftF f h (f 0) (f 2) ∧ (kept (pF f h (f 0) (f 2)) h).getD j 0 = i := by
    intro i hi hp
    obtain ⟨j, hj⟩ := List.getElem?_of_mem (kept_mem.mpr ⟨hi, hp⟩)
    have hj2 := (List.getElem?_eq_some_iff.mp hj).1
    refine ⟨j, by omega, ?_⟩
    rw [List.getD_eq_getElem?_getD, hj]
    rfl
  have ev : ∀ j w, j < leftF f h (f 0) (f 2) → w < 4 → thinF f h (f 0) (f 2) (21 + 4 * j + w) = f (21 + 4 * ((kept (pF f h (f 0) (f 2)) h).getD j 0) + w) := by
    intro j w hj hw
    obtain ⟨q, q1, q2, q3⟩ := thinF_e (f := f) (h := h) (s := f 0) (mi := f 2) hj hw
    rw [q3]
    have := (sx j hj).symm.trans q1
    rw [Option.some.inj this]
  have qh : ∀ j, 261 ≤ j → thinF f h (f 0) (f 2) j = f j := fun j hj => thinF_out (by omega) (by omega) (by omega) (by omega)
  have eT : ∀ k, k < 12 → thinF f h (f 0) (f 2) (9 + k) = f (9 + k) := fun k hk => thinF_out (by omega) (by omega) (by omega) (by omega)
  have up : ∀ {pa va : Nat}, 261 ≤ pa → 261 ≤ va → PG f n h N fl pa va → PG (thinF f h (f 0) (f 2)) (fun j => n ((kept (pF f h (f 0) (f 2)) h).getD j 0)) (leftF f h (f 0) (f 2)) N F pa va := by
    rintro pa va h1 h2 ⟨p, p1, p2⟩
    refine ⟨p, (qh _ h1).trans p1, ?_⟩
    have p3 := p2.thin (T' := fun q => thinF f h (f 0) (f 2) (9 + q)) (ky' := e1 (thinF f h (f 0) (f 2))) (n' := fun j => n ((kept (pF f h (f 0) (f 2)) h).getD j 0)) c g2 k2 s3 eT (fun j hj => ⟨ev j 1 hj (by omega), rfl⟩)
    exact p3.congr (fun _ _ => rfl) (fun _ _ => ⟨rfl, rfl⟩) (fun q hq => qh _ (by omega))
  have x4 : thinF f h (f 0) (f 2) 4 = nI F := by
    unfold thinF
    rw [if_pos rfl]
    show floorN _ _ _ (f 4) h = _
    rw [a5]; exact k1
  have x5 : thinF f h (f 0) (f 2) 5 = nI (g + (h - leftF f h (f 0) (f 2))) := by
    unfold thinF
    rw [if_neg (by omega), if_pos rfl, a3, nI_add]
  refine ⟨N, fun j => n ((kept (pF f h (f 0) (f 2)) h).getD j 0), fun j => t ((kept (pF f h (f 0) (f 2)) h).getD j 0), g + (h - leftF f h (f 0) (f 2)), F, m, ⟨⟨a1, (thinF_out (by omega) (by omega) (by omega) (by omega)).trans a2, x5, by omega, x4, (thinF_out (by omega) (by omega) (by omega) (by omega)).trans a6, a7⟩, fun j hj => ?_, ?_⟩, fun x hx => ⟨up (by omega) (by omega) (r x hx).1, up (by omega) (by omega) (r x hx).2⟩, fun x hx => up (by omega) (by omega) (s' x hx), fun x hx => by rw [qh _ (by omega), qh _ (by omega)]; exact d x hx⟩
  · exact ⟨(ev j 0 hj (by omega)).trans (e _ (s1 j hj).1).1, (ev j 3 hj (by omega)).trans (e _ (s1 j hj).1).2⟩
  · exact c.thin g1 g2 k3 s1 s2 s3 eT (fun j hj => ⟨ev j 1 hj (by omega), ev j 2 hj (by omega), rfl, rfl⟩)
theorem cntA_at {p : Nat} (hn : ∀ j, j < h → e0 f j = nI (n j) ∧ n j < N) (hm : ∀ i j, i < j → j < h → n i < n j) (hp : p ≤ N) (hN : N < 2 ^ 31) : ∀ x, x ≤ h → ∃ K, K ≤ x ∧ (∀ j, j < K → n j < p) ∧ (∀ j, K ≤ j → j < x → p ≤ n j) ∧ cntA f (nI p) x = x - K
  | 0, _ => ⟨0, Nat.le_refl _, fun j hj => absurd hj (Nat.not_lt_zero _), fun j _ hj => absurd hj (Nat.not_lt_zero _), rfl⟩
  | x + 1, hx => by
    obtain ⟨K, k1, k2, k3, k4⟩ := cntA_at hn hm hp hN x (by omega)
    obtain ⟨b1, b2⟩ := hn x (by omega)
    have ee : cntA f (nI p) (x + 1) = cntA f (nI p) x + if nI p ≤ nI (n x) then 1 else 0 := by
      rw [← b1]; rfl
    by_cases z : p ≤ n x
    · refine ⟨K, by omega, k2, fun j h1 h2 => ?_, by rw [ee, if_pos (nI_le z (by omega)), k4]; omega⟩
      by_cases e : j = x
      · subst e; exact z
      · exact k3 j h1 (by omega)
    · have hK : K = x := by
        by_cases e : K = x
        · exact e
        · have h1 := k3 K (Nat.le_refl _) (by omega)
          have h2 := hm K x (by omega) (by omega)
          omega
      refine ⟨x + 1, Nat.le_refl _, fun j hj => ?_, fun j h1 h2 => by omega, by rw [ee, if_neg (nI_ge (by omega) (by omega)), k4]; omega⟩
      by_cases e : j = x
      · subst e; omega
      · exact k2 j (by omega)
theorem readF_out {i k c j : Nat} (h1 : j < 261 + 27 * i ∨ 261 + 27 * i + 27 ≤ j) : readF f i k c j = f j := by unfold readF; rw [upd_ne (by omega), upd_ne (by omega), blk_out (by omega)]
theorem lateB_f {p fl : Nat} (hp : p < 2 ^ 31) (hfl : fl < 2 ^ 31) (h : lateB (nI p) (nI fl) = false) : p = 0 ∨ fl ≤ p := by
  unfold lateB at h
  by_cases z : p = 0
  · exact Or.inl z
  · right
    rw [decide_eq_true (nI_lt (by omega) hp), Bool.true_and, decide_eq_false_iff_not, nI_ltI hp hfl] at h
    omega
theorem lateB_t {p fl : Nat} (hp : p < 2 ^ 31) (hfl : fl < 2 ^ 31) (h : lateB (nI p) (nI fl) = true) : 0 < p ∧ p < fl := by
  unfold lateB at h
  rw [Bool.and_eq_true, decide_eq_true_eq, decide_eq_true_eq, nI_ltI (by omega) hp, nI_ltI hp hfl] at h
  exact h
theorem JV.read {i M : Nat} (J : JV f h rc sc B) (hh : h ≤ 60) (hrc : rc ≤ 6) (hB : B < 2 ^ 30) (hi : i < rc) (hl : lateB (f (261 + 27 * i)) (f 4) = false) : JV (readF f i (rdK f h i) (rdC f h i M)) h rc sc B := by
  refine J.rd hh hrc hi (fun j hj => readF_out hj) (fun N n t g fl m j r s => ?_)
  obtain ⟨⟨a1, a2, a3, a4, a5, a6, a7⟩, e, c⟩ := j
  obtain ⟨p, p1, p2⟩ := (r i hi).1
  obtain ⟨K, k1, k2, k3, k4⟩ := cntA_at (fun j hj => ⟨(e j hj).1, (c.1 j hj).1⟩) (fun i j h1 h2 => (c.2.1 i j h1 h2).1) p2.1 (by omega) h (Nat.le_refl _)
  have hK : rdK f h i = K := by show h - cntA f (f (261 + 27 * i)) h = K; rw [p1, k4]; omega
  have hC : K + rdC f h i M ≤ h := by
    have : rdC f h i M ≤ cntA f (f (261 + 27 * i)) h := Nat.min_le_right _ _
    rw [p1, k4] at this
    omega
  have hfl := c.2.2.2.2.2.2
  have hp0 := p2.1
  rw [p1, a5] at hl
  have hp := lateB_f (by omega) (by omega) hl
  rw [hK]
  generalize rdC f h i M = C at hC
  have q9 : ∀ j, 9 ≤ j → j < 261 → readF f i K C j = f j := fun j h1 h2 => readF_out (by omega)
  have v1 : readF f i K C (261 + 27 * i) = plN (e0 f) (f (261 + 27 * i)) K C := by unfold readF; rw [upd_ne (by omega), upd_at rfl]
  have v2 : ∀ k, k < 12 → readF f i K C (261 + 27 * i + 3 + k) = vwN (e1 f) (e2 f) (fun q => f (261 + 27 * i + 3 + q)) K C k := fun k hk => by unfold readF; rw [upd_ne (by omega), upd_ne (by omega), blk_in rfl hk]
  refine ⟨?_, (r i hi).2.to hh q9 (by unfold readF; rw [upd_ne (by omega), upd_ne (by omega), blk_out (by omega)]) (fun k hk => by unfold readF; rw [upd_ne (by omega), upd_ne (by omega), blk_out (by omega)])⟩
  cases C with
  | zero => exact (r i hi).1.to hh q9 v1 v2
  | succ C =>
    have G0 := p2.read (v' := fun k => readF f i K (C + 1) (261 + 27 * i + 3 + k)) c hC k2 hp v2
    refine ⟨n (K + C) + 1, ?_, G0.congr (fun k hk => q9 _ (by omega) (by omega)) (fun j hj => ⟨q9 _ (by omega) (by omega), rfl⟩) (fun _ _ => rfl)⟩
    rw [v1]
    show e0 f (K + C) + nI 1 = _
    rw [(e (K + C) (by omega)).1, nI_add]
/-- a new object's row -/
theorem f9_jv : JV f9 0 0 0 0 := by
  have x : ∀ j, j ≠ 0 → j ≠ 1 → (j < 9 ∨ 21 ≤ j) → f9 j = nI 0 := fun j h0 h1 h2 => f9_at h0 h1 h2
  have v : ∀ k, k < 12 → f9 (9 + k) = -6 := fun k hk => by
    unfold f9
    rw [blk_in rfl hk]
  refine ⟨0, fun _ => 0, fun _ => 0, 0, 0, 0, ⟨⟨Nat.le_refl _, x 3 (by omega) (by omega) (by omega), x 5 (by omega) (by omega) (by omega), rfl, x 4 (by omega) (by omega) (by omega), x 2 (by omega) (by omega) (by omega), by omega⟩, fun j hj => absurd hj (Nat.not_lt_zero _), ?_⟩, fun i hi => absurd hi (Nat.not_lt_zero _), fun i hi => absurd hi (Nat.not_lt_zero _), fun i hi => absurd hi (Nat.not_lt_zero _)⟩
  exact ⟨fun j hj => absurd hj (Nat.not_lt_zero _), fun i j _ hj => absurd hj (Nat.not_lt_zero _), fun j hj => absurd hj (Nat.not_lt_zero _), fun k hk => Or.inl (v k hk), fun j k hj => absurd hj (Nat.not_lt_zero _), fun k hk _ => v k hk, Nat.le_refl _⟩
end KEEP2
