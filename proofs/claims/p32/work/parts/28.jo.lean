/-! ===== the changes as the law calls them keep the invariant ===== -/
def JVf (f : Nat → Int32) (B : Nat) : Prop := JV f (hF f) (rF f) (sF f) B
section JO
variable {f f' : Nat → Int32} {h rc sc B a : Nat} {μ : Mm}
theorem JV.fin (J : JV f h rc sc B) (I : IV f h rc sc B) : JVf f B := by
  obtain ⟨e1, e2, e3⟩ := I.h
  unfold JVf
  rw [e1, e2, e3]
  exact J
theorem JVf.get (J : JVf f B) (I : IV f h rc sc B) : JV f h rc sc B := by
  obtain ⟨e1, e2, e3⟩ := I.h
  unfold JVf at J
  rw [e1, e2, e3] at J
  exact J
theorem JVf.mono {B' : Nat} (J : JVf f B) (h : B ≤ B') : JVf f B' := JV.mono J h
theorem jO_set {s v : Int32} (F : ST μ a f B) (J : JVf f B) (hm : maySetF (hF f) s v = nI 0) : JVf (setsF f (hF f) s.toNatClampNeg v) (B + 1) := by
  obtain ⟨h, rc, sc, -, I⟩ := F
  rw [I.h.1] at hm ⊢
  have J := J.get I
  unfold maySetF at hm
  split at hm
  · rename_i h1
    split at hm
    · rename_i h2
      split at hm
      · exact absurd hm (by decide)
      · rename_i h3
        obtain ⟨k, hk, rfl⟩ := inB_nI (by decide) h1
        rw [nI_clamp (by omega)]
        have hh : h < 60 := by have := I.2.1.1; omega
        exact (J.sets (by omega) hh (Or.inr (le_of_in0 h2))).fin (I.sets (by omega) hh)
    · exact absurd hm (by decide)
  · exact absurd hm (by decide)
theorem jO_remove {s : Int32} (F : ST μ a f B) (J : JVf f B) (hm : mayRemoveF f (hF f) s = nI 0) : JVf (setsF f (hF f) s.toNatClampNeg (-6)) (B + 1) := by
  obtain ⟨h, rc, sc, -, I⟩ := F
  rw [I.h.1] at hm ⊢
  have J := J.get I
  unfold mayRemoveF at hm
  split at hm
  · rename_i h1
    split at hm
    · exact absurd hm (by decide)
    · rename_i h3
      obtain ⟨k, hk, rfl⟩ := inB_nI (by decide) h1
      rw [nI_clamp (by omega)]
      have hh : h < 60 := by have := I.2.1.1; omega
      exact (J.sets (by omega) hh (Or.inl rfl)).fin (I.sets (by omega) hh)
  · exact absurd hm (by decide)
theorem jO_pass {s : Int32} (F : ST μ a f B) (J : JVf f B) (hm : mayPassF f s = nI 0) : JVf (upd f 2 (f 2 + s)) (B + 1) := by
  obtain ⟨h, rc, sc, -, I⟩ := F
  have J := J.get I
  exact ((J.pass I.2.1.1 I.nv hm).fin (I.pass hm)).mono (by omega)
theorem jO_turn {s v : Int32} (F : ST μ a f B) (J : JVf f B) (hm : mayTurnF s v = nI 0) : JVf (upd f s.toNatClampNeg v) (B + 1) := by
  obtain ⟨h, rc, sc, -, I⟩ := F
  have J := J.get I
  have hs : s = nI 0 ∨ s = nI 1 := by
    unfold mayTurnF at hm
    split at hm
    · left; assumption
    · split at hm
      · rename_i h2; exact Or.inr h2.1
      · exact absurd hm (by decide)
  rcases hs with rfl | rfl
  · rw [nI_clamp (by omega)]
    exact ((J.turn I.2.1.1 (by omega)).fin (I.turn hm (by omega))).mono (by omega)
  · rw [nI_clamp (by omega)]
    exact ((J.turn I.2.1.1 (by omega)).fin (I.turn hm (by omega))).mono (by omega)
theorem jO_thin (hB : B < 2 ^ 30) (F : ST μ a f B) (J : JVf f B) : JVf (thinF f (hF f) (f 0) (f 2)) (B + 1) := by
  obtain ⟨h, rc, sc, -, I⟩ := F
  rw [I.h.1]
  have J := J.get I
  obtain ⟨s, s1, s2, s3⟩ := I.2.2.1
  exact ((J.thin I.2.1.1 hB s1 s2 s3).fin I.thin).mono (by omega)
theorem jO_shot (hB : B < 2 ^ 30) (F : ST μ a f B) (J : JVf f B) : JVf (shotF f (sF f)) (B + 1) := by
  obtain ⟨h, rc, sc, -, I⟩ := F
  rw [I.h.2.2]
  have J := J.get I
  exact ((J.shot I.2.1.1 I.2.1.2.1 I.2.1.2.2 hB).fin (I.shot hB)).mono (by omega)
theorem jO_come (F : ST μ a f B) (J : JVf f B) (hm : mayComeF (rF f) = nI 0) : JVf (comeF f (rF f)) (B + 1) := by
  obtain ⟨h, rc, sc, -, I⟩ := F
  rw [I.h.2.1] at hm ⊢
  have J := J.get I
  unfold mayComeF at hm
  split at hm
  · exact absurd hm (by decide)
  · have hr : rc < 6 := by have := I.2.1.2.1; omega
    exact ((J.come I.2.1.1 hr).fin (I.come hr)).mono (by omega)
theorem isRd_of {r : Int32} (hrc : rc ≤ 6) (hm : mayIsF rc r = nI 0) : ∃ i, i < rc ∧ r = nI i := by
  unfold mayIsF at hm
  split at hm
  · rename_i h1; exact isRdB_t (by omega) h1
  · exact absurd hm (by decide)
theorem jO_conf {r : Int32} (F : ST μ a f B) (J : JVf f B) (hm : mayIsF (rF f) r = nI 0) : JVf (confF f r.toNatClampNeg) (B + 1) := by
  obtain ⟨h, rc, sc, -, I⟩ := F
  rw [I.h.2.1] at hm
  have J := J.get I
  obtain ⟨i, hi, rfl⟩ := isRd_of I.2.1.2.1 hm
  rw [nI_clamp (by have := I.2.1.2.1; omega)]
  exact ((J.conf I.2.1.1 I.2.1.2.1 hi).fin (I.conf hi)).mono (by omega)
theorem jO_back {r : Int32} (F : ST μ a f B) (J : JVf f B) (hm : mayIsF (rF f) r = nI 0) : JVf (backF f r.toNatClampNeg) (B + 1) := by
  obtain ⟨h, rc, sc, -, I⟩ := F
  rw [I.h.2.1] at hm
  have J := J.get I
  obtain ⟨i, hi, rfl⟩ := isRd_of I.2.1.2.1 hm
  rw [nI_clamp (by have := I.2.1.2.1; omega)]
  exact ((J.back I.2.1.1 I.2.1.2.1 hi).fin (I.back hi)).mono (by omega)
theorem jO_anew {r : Int32} (F : ST μ a f B) (J : JVf f B) (hm : mayIsF (rF f) r = nI 0) : JVf (beginF f r.toNatClampNeg (nI 0) (fun _ => -6)) (B + 1) := by
  obtain ⟨h, rc, sc, -, I⟩ := F
  rw [I.h.2.1] at hm
  have J := J.get I
  obtain ⟨i, hi, rfl⟩ := isRd_of I.2.1.2.1 hm
  rw [nI_clamp (by have := I.2.1.2.1; omega)]
  exact ((J.anew I.2.1.1 I.2.1.2.1 hi).fin (I.begin hi (nI_le (Nat.le_refl 0) (by omega)))).mono (by omega)
theorem jO_load {r s : Int32} (F : ST μ a f B) (J : JVf f B) (hm : mayLoadF f (rF f) (sF f) r s = nI 0) : JVf (beginF f r.toNatClampNeg (f (423 + 13 * s.toNatClampNeg)) (fun k => f (423 + 13 * s.toNatClampNeg + 1 + k))) (B + 1) := by
  obtain ⟨h, rc, sc, -, I⟩ := F
  rw [I.h.2.1, I.h.2.2] at hm
  have J := J.get I
  unfold mayLoadF at hm
  split at hm
  · rename_i h1
    obtain ⟨i, hi, rfl⟩ := isRdB_t (by have := I.2.1.2.1; omega) h1.1
    obtain ⟨x, hx, rfl⟩ := isRdB_t (by have := I.2.1.2.2; omega) h1.2
    rw [nI_clamp (by have := I.2.1.2.1; omega), nI_clamp (by have := I.2.1.2.2; omega)]
    exact ((J.load I.2.1.1 I.2.1.2.1 hi hx).fin (I.begin hi (I.nv.2.2.2 x hx))).mono (by omega)
  · exact absurd hm (by decide)
theorem jO_read {r m : Int32} (hB : B < 2 ^ 30) (F : ST μ a f B) (J : JVf f B) (hm : mayReadF f (rF f) r m = nI 0) : JVf (readF f r.toNatClampNeg (rdK f (hF f) r.toNatClampNeg) (rdC f (hF f) r.toNatClampNeg m.toNatClampNeg)) (B + 1) := by
  obtain ⟨h, rc, sc, -, I⟩ := F
  rw [I.h.2.1] at hm
  rw [I.h.1]
  have J := J.get I
  unfold mayReadF at hm
  split at hm
  · rename_i h1
    obtain ⟨i, hi, rfl⟩ := isRdB_t (by have := I.2.1.2.1; omega) h1
    rw [nI_clamp (by have := I.2.1.2.1; omega)] at hm
    rw [nI_clamp (by have := I.2.1.2.1; omega)]
    split at hm
    · split at hm
      · exact absurd hm (by decide)
      · rename_i h3
        have hl : lateB (f (261 + 27 * i)) (f 4) = false := by simpa using h3
        refine ((J.read I.2.1.1 I.2.1.2.1 hB hi hl).fin (I.read hB hi ?_)).mono (by omega)
        have c1 := cntA_le f (f (261 + 27 * i)) h
        have c2 : rdC f h i m.toNatClampNeg ≤ cntA f (f (261 + 27 * i)) h := Nat.min_le_right _ _
        show h - cntA f (f (261 + 27 * i)) h + _ ≤ h
        omega
    · exact absurd hm (by decide)
  · exact absurd hm (by decide)
end JO
/-- what is known of a feed at a row -/
def FA (f : Nat → Int32) (h rc sc B N : Nat) (n t : Nat → Nat) (g fl m : Nat) : Prop := (h ≤ 60 ∧ rc ≤ 6 ∧ sc ≤ 4 ∧ B < 2 ^ 30) ∧ (hF f = h ∧ rF f = rc ∧ sF f = sc) ∧ (f 6 = nI h ∧ f 7 = nI rc ∧ f 8 = nI sc) ∧ JL f h B N n t g fl m ∧ (∀ i, i < rc → PG f n h N fl (261 + 27 * i) (261 + 27 * i + 3) ∧ PG f n h N fl (261 + 27 * i + 1) (261 + 27 * i + 15)) ∧ (∀ i, i < sc → PG f n h N fl (423 + 13 * i) (423 + 13 * i + 1)) ∧ (∀ i, i + 1 < sc → f (423 + 13 * (i + 1)) ≤ f (423 + 13 * i))
theorem FA.of {μ : Mm} {a B : Nat} {f : Nat → Int32} (hB : B < 2 ^ 30) (F : ST μ a f B) (J : JVf f B) : ∃ h rc sc N n t g fl m, FA f h rc sc B N n t g fl m := by
  obtain ⟨h, rc, sc, -, I⟩ := F
  obtain ⟨N, n, t, g, fl, m, j, r, s, d⟩ := J.get I
  exact ⟨h, rc, sc, N, n, t, g, fl, m, ⟨I.2.1.1, I.2.1.2.1, I.2.1.2.2, hB⟩, I.h, I.1, j, r, s, d⟩
section KQ
variable {G : GG} {μ : Mm} {sz x held len B : Nat} {f : Nat → Int32} {P : Nat → Nat → Int32} {Pp : Nat → Int32} {u : Nat → Bool} {S : Nat → Nat → Int32} {y : Int32}
theorem k_cnt {w : Nat} (C : CW μ x f held P Pp len u S B) (hw : w ≤ 12) (hy : countW f len held w = y) : EvA G 6 kX8_count [.ref x, .int (nI w)] μ sz 0 0 (rI fun v μ' => v = y ∧ μ' = μ) := by
  refine (eX8_count C).imp ?_
  rintro r μ' ⟨v, rfl, rfl, rfl⟩
  refine ⟨_, rfl, ?_, rfl⟩
  unfold countQ
  rw [if_pos (inB_of hw (by omega)), nI_clamp (by omega)]
  exact hy
theorem k_ent {e w : Nat} (C : CW μ x f held P Pp len u S B) (hh : hF f ≤ 60) (he : e < hF f) (hw : w ≤ 5) (hy : entryW f (hF f) e w = y) : EvA G 6 kX8_entry [.ref x, .int (nI e), .int (nI w)] μ sz 0 0 (rI fun v μ' => v = y ∧ μ' = μ) := by
  refine (eX8_entry C).imp ?_
  rintro r μ' ⟨v, rfl, rfl, rfl⟩
  refine ⟨_, rfl, ?_, rfl⟩
  unfold entryQ
  rw [if_pos (isRdB_of (by omega) he), if_pos (inB_of hw (by omega)), nI_clamp (by omega), nI_clamp (by omega)]
  exact hy
theorem k_tab {k : Nat} (C : CW μ x f held P Pp len u S B) (hk : k < 12) (hy : f (9 + k) = y) : EvA G 6 kX8_table [.ref x, .int (nI k)] μ sz 0 0 (rI fun v μ' => v = y ∧ μ' = μ) := by
  refine (eX8_table C).imp ?_
  rintro r μ' ⟨v, rfl, rfl, rfl⟩
  refine ⟨_, rfl, ?_, rfl⟩
  unfold tableQ
  rw [if_pos (inB_of (show k ≤ 11 by omega) (by omega)), nI_clamp (by omega)]
  exact hy
theorem k_view {r k : Nat} (C : CW μ x f held P Pp len u S B) (hrc : rF f ≤ 6) (hr : r < rF f) (hk : k < 12) (hy : f (261 + 27 * r + 3 + k) = y) : EvA G 6 kX8_view [.ref x, .int (nI r), .int (nI k)] μ sz 0 0 (rI fun v μ' => v = y ∧ μ' = μ) := by
  refine (eX8_view C).imp ?_
  rintro r μ' ⟨v, rfl, rfl, rfl⟩
  refine ⟨_, rfl, ?_, rfl⟩
  unfold viewQ
  rw [if_pos ⟨isRdB_of (by omega) hr, inB_of (show k ≤ 11 by omega) (by omega)⟩, nI_clamp (by omega), nI_clamp (by omega)]
  exact hy
theorem k_ofr {r w : Nat} (hB : B < 2 ^ 30) (C : CW μ x f held P Pp len u S B) (hrc : rF f ≤ 6) (hr : r < rF f) (hw : w ≤ 6) (hy : ofRdW f (hF f) r w = y) : EvA G 6 kX8_ofReader [.ref x, .int (nI r), .int (nI w)] μ sz 0 0 (rI fun v μ' => v = y ∧ μ' = μ) := by
  refine (eX8_ofReader hB C).imp ?_
  rintro r μ' ⟨v, rfl, rfl, rfl⟩
  refine ⟨_, rfl, ?_, rfl⟩
  unfold ofReaderQ
  rw [if_pos (isRdB_of (by omega) hr), if_pos (inB_of hw (by omega)), nI_clamp (by omega), nI_clamp (by omega)]
  exact hy
theorem k_ofs {s w : Nat} (hB : B < 2 ^ 30) (C : CW μ x f held P Pp len u S B) (hsc : sF f ≤ 4) (hs : s < sF f) (hw : w ≤ 2) (hy : ofSnW f (hF f) s w = y) : EvA G 6 kX8_ofSnapshot [.ref x, .int (nI s), .int (nI w)] μ sz 0 0 (rI fun v μ' => v = y ∧ μ' = μ) := by
  refine (eX8_ofSnapshot hB C).imp ?_
  rintro r μ' ⟨v, rfl, rfl, rfl⟩
  refine ⟨_, rfl, ?_, rfl⟩
  unfold ofSnapshotQ
  rw [if_pos (isRdB_of (by omega) hs), if_pos (inB_of hw (by omega)), nI_clamp (by omega), nI_clamp (by omega)]
  exact hy
theorem k_short {r : Nat} (hB : B < 2 ^ 30) (C : CW μ x f held P Pp len u S B) (hrc : rF f ≤ 6) (hr : r < rF f) (hy : (shN f (hF f) (sF f) r 5).2 = y) : EvA G 6 kX8_shortest [.ref x, .int (nI r), .int (nI 1)] μ sz 0 0 (rI fun v μ' => v = y ∧ μ' = μ) := by
  refine (eX8_shortest hB C).imp ?_
  rintro r μ' ⟨v, rfl, rfl, rfl⟩
  refine ⟨_, rfl, ?_, rfl⟩
  unfold shortestQ
  rw [if_pos (isRdB_of (by omega) hr), if_pos (by decide), if_neg (by decide), nI_clamp (by omega)]
  exact hy
theorem k_left (C : CW μ x f held P Pp len u S B) (hy : nI (leftF f (hF f) (f 0) (f 2 + nI 0)) = y) : EvA G 6 kX8_leftIn [.ref x, .int (nI 0)] μ sz 0 0 (rI fun v μ' => v = y ∧ μ' = μ) := by
  refine (eX8_leftIn C).imp ?_
  rintro r μ' ⟨v, rfl, rfl, rfl⟩
  refine ⟨_, rfl, ?_, rfl⟩
  unfold leftInQ
  rw [if_pos (by decide)]
  exact hy
end KQ
