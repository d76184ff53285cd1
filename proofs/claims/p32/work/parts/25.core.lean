/-! ===== what holds of a feed: entries, table, floor; a place with its view ===== -/
theorem nI12 {a b : Nat} (ha : a < 12) (hb : b < 12) (h : nI a = nI b) : a = b := (nI_eq (by omega) (by omega)).mp h
theorem lastOf {P : Nat → Prop} : ∀ {h : Nat}, (∃ j, j < h ∧ P j) → ∃ L, L < h ∧ P L ∧ ∀ j, L < j → j < h → ¬ P j
  | 0, ⟨j, hj, _⟩ => absurd hj (Nat.not_lt_zero j)
  | h + 1, ⟨j, hj, pj⟩ => by
    by_cases q : P h
    · exact ⟨h, by omega, q, fun j h1 h2 => by omega⟩
    · have hjh : j < h := by
        by_cases e : j = h
        · subst e; exact absurd pj q
        · omega
      obtain ⟨L, l1, l2, l3⟩ := lastOf (h := h) ⟨j, hjh, pj⟩
      refine ⟨L, by omega, l2, fun i h1 h2 => ?_⟩
      by_cases e : i = h
      · subst e; exact q
      · exact l3 i h1 (by omega)
/-- table, keys and values of entries, their numbers and minutes; how many, the next number, the floor, the minute -/
def Co (T ky vl : Nat → Int32) (n t : Nat → Nat) (h N fl m : Nat) : Prop :=
  (∀ j, j < h → n j < N ∧ t j ≤ m) ∧ (∀ i j, i < j → j < h → n i < n j ∧ t i ≤ t j) ∧ (∀ j, j < h → ∃ k, k < 12 ∧ ky j = nI k) ∧ (∀ k, k < 12 → T k = -6 ∨ nI 0 ≤ T k) ∧ (∀ j k, j < h → k < 12 → ky j = nI k → (∀ j', j < j' → j' < h → ¬ ky j' = ky j) → T k = vl j) ∧ (∀ k, k < 12 → (∀ j, j < h → ¬ ky j = nI k) → T k = -6) ∧ fl ≤ N
/-- a place and a view -/
def GP (T ky : Nat → Int32) (n : Nat → Nat) (h N fl p : Nat) (v : Nat → Int32) : Prop :=
  p ≤ N ∧ (p = 0 → ∀ k, k < 12 → v k = -6) ∧ (p = 0 ∨ fl ≤ p → ∀ k, k < 12 → (∀ j, j < h → ky j = nI k → n j < p) → v k = T k)
section CO
variable {T T' ky ky' vl vl' v v' : Nat → Int32} {n n' t t' : Nat → Nat} {h h' N fl fl' m m' p : Nat}
theorem Co.congr (C : Co T ky vl n t h N fl m) (hm : m ≤ m') (eT : ∀ k, k < 12 → T' k = T k) (ej : ∀ j, j < h → ky' j = ky j ∧ vl' j = vl j ∧ n' j = n j ∧ t' j = t j) : Co T' ky' vl' n' t' h N fl m' := by
  obtain ⟨c1, c2, c3, c4, c5, c6, c7⟩ := C
  refine ⟨fun j hj => ?_, fun i j hij hj => ?_, fun j hj => ?_, fun q hq => ?_, fun j q hj hq hkq hl => ?_, fun q hq hno => ?_, c7⟩
  · rw [(ej j hj).2.2.1, (ej j hj).2.2.2]
    have := c1 j hj
    exact ⟨this.1, by omega⟩
  · rw [(ej j hj).2.2.1, (ej j hj).2.2.2, (ej i (by omega)).2.2.1, (ej i (by omega)).2.2.2]
    exact c2 i j hij hj
  · rw [(ej j hj).1]; exact c3 j hj
  · rw [eT q hq]; exact c4 q hq
  · rw [eT q hq, (ej j hj).2.1]
    refine c5 j q hj hq (by rw [← (ej j hj).1]; exact hkq) (fun j' h1 h2 => ?_)
    rw [← (ej j' h2).1, ← (ej j hj).1]; exact hl j' h1 h2
  · rw [eT q hq]
    exact c6 q hq (fun j hj => by rw [← (ej j hj).1]; exact hno j hj)
theorem GP.congr (H : GP T ky n h N fl p v) (eT : ∀ k, k < 12 → T' k = T k) (ek : ∀ j, j < h → ky' j = ky j ∧ n' j = n j) (ev : ∀ k, k < 12 → v' k = v k) : GP T' ky' n' h N fl p v' := by
  obtain ⟨h1, h2, h3⟩ := H
  refine ⟨h1, fun hp k hk => by rw [ev k hk]; exact h2 hp k hk, fun hp k hk hj => ?_⟩
  rw [ev k hk, eT k hk]
  exact h3 hp k hk (fun j hj2 hkj => by rw [← (ek j hj2).2]; exact hj j hj2 (by rw [(ek j hj2).1]; exact hkj))
theorem Co.set {k : Nat} (C : Co T ky vl n t h N fl m) (hk : k < 12) (eT : T' k = vl' h) (eT2 : ∀ q, q < 12 → q ≠ k → T' q = T q) (ev : T' k = -6 ∨ nI 0 ≤ T' k) (ek : ky' h = nI k) (en : n' h = N) (et : t' h = m) (ej : ∀ j, j < h → ky' j = ky j ∧ vl' j = vl j ∧ n' j = n j ∧ t' j = t j) : Co T' ky' vl' n' t' (h + 1) (N + 1) fl m := by
  obtain ⟨c1, c2, c3, c4, c5, c6, c7⟩ := C
  refine ⟨fun j hj => ?_, fun i j hij hj => ?_, fun j hj => ?_, fun q hq => ?_, fun j q hj hq hkq hl => ?_, fun q hq hno => ?_, by omega⟩
  · by_cases e : j = h
    · subst e; rw [en, et]; exact ⟨by omega, Nat.le_refl _⟩
    · rw [(ej j (by omega)).2.2.1, (ej j (by omega)).2.2.2]
      have := c1 j (by omega)
      exact ⟨by omega, this.2⟩
  · by_cases e : j = h
    · subst e; rw [en, et, (ej i hij).2.2.1, (ej i hij).2.2.2]; exact c1 i hij
    · rw [(ej j (by omega)).2.2.1, (ej j (by omega)).2.2.2, (ej i (by omega)).2.2.1, (ej i (by omega)).2.2.2]
      exact c2 i j hij (by omega)
  · by_cases e : j = h
    · subst e; exact ⟨k, hk, ek⟩
    · rw [(ej j (by omega)).1]; exact c3 j (by omega)
  · by_cases e : q = k
    · subst e; exact ev
    · rw [eT2 q hq e]; exact c4 q hq
  · by_cases e : j = h
    · subst e
      have := nI12 hk hq (ek.symm.trans hkq)
      subst this
      exact eT
    · have hne : q ≠ k := by
        rintro rfl
        exact hl h (by omega) (by omega) (ek.trans hkq.symm)
      rw [eT2 q hq hne, (ej j (by omega)).2.1]
      refine c5 j q (by omega) hq (by rw [← (ej j (by omega)).1]; exact hkq) (fun j' h1 h2 => ?_)
      rw [← (ej j' h2).1, ← (ej j (by omega)).1]
      exact hl j' h1 (by omega)
  · have hne : q ≠ k := by
      rintro rfl
      exact hno h (by omega) ek
    rw [eT2 q hq hne]
    exact c6 q hq (fun j hj => by rw [← (ej j hj).1]; exact hno j (by omega))
theorem GP.set {k : Nat} (H : GP T ky n h N fl p v) (eT2 : ∀ q, q < 12 → q ≠ k → T' q = T q) (ek : ky' h = nI k) (en : n' h = N) (ej : ∀ j, j < h → ky' j = ky j ∧ n' j = n j) : GP T' ky' n' (h + 1) (N + 1) fl p v := by
  obtain ⟨h1, h2, h3⟩ := H
  refine ⟨by omega, h2, fun hp q hq hj => ?_⟩
  have hne : q ≠ k := by
    rintro rfl
    have := hj h (by omega) ek
    omega
  rw [eT2 q hq hne]
  exact h3 hp q hq (fun j hj2 hkj => by rw [← (ej j hj2).2]; exact hj j (by omega) (by rw [(ej j hj2).1]; exact hkj))
theorem GP.zero (C : Co T ky vl n t h N fl m) (hv : ∀ k, k < 12 → v k = -6) : GP T ky n h N fl 0 v := by
  obtain ⟨c1, c2, c3, c4, c5, c6, c7⟩ := C
  refine ⟨Nat.zero_le _, fun _ => hv, fun _ k hk hj => ?_⟩
  rw [hv k hk, c6 k hk (fun j hj2 e => absurd (hj j hj2 e) (Nat.not_lt_zero _))]
theorem GP.now (C : Co T ky vl n t h N fl m) (hv : ∀ k, k < 12 → v k = T k) : GP T ky n h N fl N v := by
  obtain ⟨c1, c2, c3, c4, c5, c6, c7⟩ := C
  refine ⟨Nat.le_refl _, fun e k hk => ?_, fun _ k hk _ => hv k hk⟩
  rw [hv k hk]
  exact c6 k hk (fun j hj _ => by have := (c1 j hj).1; omega)
/-- what goes, and what stays of it: the entries j of the new feed were at s j -/
theorem thin_key {go : Nat → Bool} {k : Nat} (C : Co T ky vl n t h N fl m) (hk : k < 12) (g2 : ∀ i, i < h → go i = true → (∀ j, i < j → j < h → ¬ ky j = ky i) → vl i = -6 ∧ n i + 1 ≤ fl') (ex : ∃ j, j < h ∧ ky j = nI k) : ∃ L, L < h ∧ ky L = nI k ∧ (∀ j, L < j → j < h → ¬ ky j = nI k) ∧ (go L = false ∨ (go L = true ∧ T k = -6 ∧ n L + 1 ≤ fl')) := by
  obtain ⟨L, l1, l2, l3⟩ := lastOf ex
  refine ⟨L, l1, l2, l3, ?_⟩
  have hl : ∀ j, L < j → j < h → ¬ ky j = ky L := fun j h1 h2 => by rw [l2]; exact l3 j h1 h2
  cases hg : go L
  · exact Or.inl rfl
  · obtain ⟨e1, e2⟩ := g2 L l1 hg hl
    exact Or.inr ⟨rfl, (C.2.2.2.2.1 L k l1 hk l2 hl).trans e1, e2⟩
theorem Co.thin {go : Nat → Bool} {s : Nat → Nat} (C : Co T ky vl n t h N fl m) (g1 : ∀ i j j', i < j → j < h → go j = true → i < j' → j' < h → ky j' = ky i → go i = true) (g2 : ∀ i, i < h → go i = true → (∀ j, i < j → j < h → ¬ ky j = ky i) → vl i = -6 ∧ n i + 1 ≤ fl') (f2 : fl' ≤ N) (s1 : ∀ j, j < h' → s j < h ∧ go (s j) = false) (s2 : ∀ i j, i < j → j < h' → s i < s j) (s3 : ∀ i, i < h → go i = false → ∃ j, j < h' ∧ s j = i) (eT : ∀ k, k < 12 → T' k = T k) (ej : ∀ j, j < h' → ky' j = ky (s j) ∧ vl' j = vl (s j) ∧ n' j = n (s j) ∧ t' j = t (s j)) : Co T' ky' vl' n' t' h' N fl' m := by
  have C0 := C
  obtain ⟨c1, c2, c3, c4, c5, c6, c7⟩ := C
  refine ⟨fun j hj => ?_, fun i j hij hj => ?_, fun j hj => ?_, fun q hq => ?_, fun j q hj hq hkq hl => ?_, fun q hq hno => ?_, f2⟩
  · rw [(ej j hj).2.2.1, (ej j hj).2.2.2]; exact c1 _ (s1 j hj).1
  · rw [(ej j hj).2.2.1, (ej j hj).2.2.2, (ej i (by omega)).2.2.1, (ej i (by omega)).2.2.2]
    exact c2 _ _ (s2 i j hij hj) (s1 j hj).1
  · rw [(ej j hj).1]; exact c3 _ (s1 j hj).1
  · rw [eT q hq]; exact c4 q hq
  · obtain ⟨a1, a2⟩ := s1 j hj
    have hky : ky (s j) = nI q := by rw [← (ej j hj).1]; exact hkq
    rw [eT q hq, (ej j hj).2.1]
    refine c5 (s j) q a1 hq hky (fun j' h1 h2 e => ?_)
    obtain ⟨L, l1, l2, l3, l4⟩ := thin_key C0 hq g2 ⟨s j, a1, hky⟩
    have hL : s j < L := by
      by_cases z : L < j'
      · exact absurd (e.trans hky) (l3 j' z h2)
      · omega
    rcases l4 with l4 | ⟨l4, -, -⟩
    · obtain ⟨j2, b1, b2⟩ := s3 L l1 l4
      have hjj : j < j2 := by
        by_cases z : j2 < j
        · have := s2 j2 j z hj; omega
        · by_cases z2 : j2 = j
          · subst z2; omega
          · omega
      refine hl j2 hjj b1 ?_
      rw [(ej j2 b1).1, (ej j hj).1, b2, l2, hky]
    · rw [g1 (s j) L L hL l1 l4 hL l1 (l2.trans hky.symm)] at a2
      cases a2
  · rw [eT q hq]
    by_cases ex : ∃ j, j < h ∧ ky j = nI q
    · obtain ⟨L, l1, l2, l3, l4⟩ := thin_key C0 hq g2 ex
      rcases l4 with l4 | ⟨l4, l5, -⟩
      · obtain ⟨j2, b1, b2⟩ := s3 L l1 l4
        exact absurd ((ej j2 b1).1.trans (by rw [b2]; exact l2)) (hno j2 b1)
      · exact l5
    · exact c6 q hq (fun j hj e => ex ⟨j, hj, e⟩)
theorem GP.thin {go : Nat → Bool} {s : Nat → Nat} (H : GP T ky n h N fl p v) (C : Co T ky vl n t h N fl m) (g2 : ∀ i, i < h → go i = true → (∀ j, i < j → j < h → ¬ ky j = ky i) → vl i = -6 ∧ n i + 1 ≤ fl') (f1 : fl ≤ fl') (s3 : ∀ i, i < h → go i = false → ∃ j, j < h' ∧ s j = i) (eT : ∀ k, k < 12 → T' k = T k) (ej : ∀ j, j < h' → ky' j = ky (s j) ∧ n' j = n (s j)) : GP T' ky' n' h' N fl' p v := by
  obtain ⟨h1, h2, h3⟩ := H
  refine ⟨h1, h2, fun hp k hk hj => ?_⟩
  rw [eT k hk]
  by_cases ex : ∃ j, j < h ∧ ky j = nI k ∧ p ≤ n j
  · obtain ⟨j0, a1, a2, a3⟩ := ex
    obtain ⟨L, l1, l2, l3, l4⟩ := thin_key C hk g2 ⟨j0, a1, a2⟩
    have hn : n j0 ≤ n L := by
      by_cases z : j0 < L
      · have := (C.2.1 j0 L z l1).1; omega
      · by_cases z2 : j0 = L
        · subst z2; exact Nat.le_refl _
        · exact absurd a2 (l3 j0 (by omega) a1)
    rcases l4 with l4 | ⟨l4, l5, l6⟩
    · obtain ⟨j2, b1, b2⟩ := s3 L l1 l4
      have := hj j2 b1 (by rw [(ej j2 b1).1, b2]; exact l2)
      rw [(ej j2 b1).2, b2] at this
      omega
    · have p0 : p = 0 := by omega
      rw [h2 p0 k hk, l5]
  · refine h3 (by omega) k hk (fun j hj2 e => ?_)
    by_cases z : n j < p
    · exact z
    · exact absurd ⟨j, hj2, e, by omega⟩ ex
theorem vwN_spec {k : Nat} {w : Nat → Int32} (c3 : ∀ j, j < h → ∃ q, q < 12 ∧ ky j = nI q) {q : Nat} (hq : q < 12) : ∀ c, k + c ≤ h → (∃ i, k ≤ i ∧ i < k + c ∧ ky i = nI q ∧ (∀ j, i < j → j < k + c → ¬ ky j = nI q) ∧ vwN ky vl w k c q = vl i) ∨ ((∀ j, k ≤ j → j < k + c → ¬ ky j = nI q) ∧ vwN ky vl w k c q = w q)
  | 0, _ => Or.inr ⟨fun j h1 h2 => by omega, rfl⟩
  | c + 1, hc => by
    obtain ⟨q', hq', e'⟩ := c3 (k + c) (by omega)
    have ee : vwN ky vl w k (c + 1) q = if q = q' then vl (k + c) else vwN ky vl w k c q := by
      show upd _ _ _ q = _
      rw [e', nI_clamp (by omega)]; rfl
    by_cases hqq : q = q'
    · subst hqq
      exact Or.inl ⟨k + c, by omega, by omega, e', fun j h1 h2 => by omega, by rw [ee, if_pos rfl]⟩
    · rw [ee, if_neg hqq]
      have hne : ¬ ky (k + c) = nI q := fun z => hqq (nI12 hq hq' (z.symm.trans e'))
      rcases vwN_spec (k := k) (w := w) c3 hq c (by omega) with ⟨i, i1, i2, i3, i4, i5⟩ | ⟨i1, i2⟩
      · refine Or.inl ⟨i, i1, by omega, i3, fun j h1 h2 => ?_, i5⟩
        by_cases z : j = k + c
        · rw [z]; exact hne
        · exact i4 j h1 (by omega)
      · refine Or.inr ⟨fun j h1 h2 => ?_, i2⟩
        by_cases z : j = k + c
        · rw [z]; exact hne
        · exact i1 j h1 (by omega)
theorem GP.read {k c : Nat} (H : GP T ky n h N fl p v) (C : Co T ky vl n t h N fl m) (hkc : k + (c + 1) ≤ h) (k2 : ∀ j, j < k → n j < p) (hp0 : p = 0 ∨ fl ≤ p) (hv : ∀ q, q < 12 → v' q = vwN ky vl v k (c + 1) q) : GP T ky n h N fl (n (k + c) + 1) v' := by
  obtain ⟨h1, h2, h3⟩ := H
  obtain ⟨c1, c2, c3, c4, c5, c6, c7⟩ := C
  have hN := (c1 (k + c) (by omega)).1
  refine ⟨by omega, fun e => by omega, fun _ q hq hj => ?_⟩
  have far : ∀ j, k + (c + 1) ≤ j → j < h → ¬ ky j = nI q := fun j a1 a2 e => by
    have b1 := hj j a2 e
    have b2 := (c2 (k + c) j (by omega) a2).1
    omega
  rw [hv q hq]
  rcases vwN_spec (vl := vl) (w := v) c3 hq (c + 1) hkc with ⟨i, i1, i2, i3, i4, i5⟩ | ⟨i1, i2⟩
  · rw [i5]
    refine (c5 i q (by omega) hq i3 (fun j a1 a2 e => ?_)).symm
    by_cases z : j < k + (c + 1)
    · exact i4 j a1 z (e.trans i3)
    · exact far j (by omega) a2 (e.trans i3)
  · rw [i2]
    refine h3 hp0 q hq (fun j a1 e => ?_)
    by_cases z : j < k
    · exact k2 j z
    · by_cases z2 : j < k + (c + 1)
      · exact absurd e (i1 j (by omega) z2)
      · exact absurd e (far j (by omega) a1)
end CO
theorem kept_mem {p : Nat → Bool} : ∀ {n i : Nat}, i ∈ kept p n ↔ i < n ∧ p i = false
  | 0, i => ⟨fun q => absurd q List.not_mem_nil, fun q => absurd q.1 (Nat.not_lt_zero i)⟩
  | n + 1, i => by
    unfold kept
    by_cases hp : p n = true
    · rw [if_pos hp, kept_mem (n := n)]
      constructor
      · rintro ⟨h1, h2⟩; exact ⟨by omega, h2⟩
      · rintro ⟨h1, h2⟩
        refine ⟨?_, h2⟩
        by_cases e : i = n
        · subst e; rw [hp] at h2; cases h2
        · omega
    · rw [if_neg hp, List.mem_append, kept_mem (n := n), List.mem_singleton]
      constructor
      · rintro (⟨h1, h2⟩ | rfl)
        · exact ⟨by omega, h2⟩
        · exact ⟨by omega, by simpa using hp⟩
      · rintro ⟨h1, h2⟩
        by_cases e : i = n
        · exact Or.inr e
        · exact Or.inl ⟨by omega, h2⟩
