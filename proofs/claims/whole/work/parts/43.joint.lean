/-! ===== the class and the reference side by side ===== -/
theorem ST.ext {μ : Mm} {a B : Nat} {f g : Nat → Int32} (F : ST μ a f B) (e : ∀ j, j < 475 → g j = f j) : ST μ a g B := by
  obtain ⟨h, rc, sc, A, I⟩ := F
  have hh := I.2.1.1
  have q : LQ f g h := fun j hj => e j (by omega)
  exact ⟨h, rc, sc, q.sa A, q.iv I⟩
theorem CW.ext {μ : Mm} {x held len B : Nat} {f f' Pp : Nat → Int32} {P P' S S' : Nat → Nat → Int32} {u : Nat → Bool} (C : CW μ x f held P Pp len u S B) (e1 : LQ f f' (hF f) ∨ ∀ j, j < 475 → f' j = f j) (e2 : ∀ i, i < held → ∀ j, j < 475 → P' i j = P i j) (e3 : ∀ i, i < 2 → u i = true → ∀ j, j < 475 → S' i j = S i j) : CW μ x f' held P' Pp len u S' B := by
  obtain ⟨c1, c2, ⟨s, c3, c4⟩, c5, c6, c7⟩ := C
  exact ⟨c1, e1.elim (fun q => q.st c2) (fun q => c2.ext q), ⟨s, c3, fun i hi => (c4 i hi).ext (e2 i hi)⟩, c5, c6, fun i hi => ⟨(c7 i hi).1, (c7 i hi).2.1, fun q => ((c7 i hi).2.2 q).ext (e3 i hi q)⟩⟩
theorem push_eq {p f : Nat → Int32} {held : Nat} (hh : held ≤ 6) : ∀ i, i < keep1 held → ∀ j, j < 475 → pushM p held f (475 * i + j) = pushP (fun i j => p (475 * i + j)) held f i j := by
  intro i hi j hj
  unfold pushM pushP
  by_cases c : held < 6
  · rw [if_neg (by omega), if_pos c]
    rw [show keep1 held = held + 1 from if_pos c] at hi
    by_cases e : i = held
    · subst e; rw [if_pos rfl, blk_in (q := j) rfl hj]
    · rw [if_neg e, blk_out (by omega)]
  · rw [if_pos (by omega), if_neg c]
    rw [show keep1 held = 6 from if_neg c] at hi
    by_cases e : i = 5
    · subst e; rw [if_pos rfl, blk_in (q := j) (by omega) hj]
    · rw [if_neg e, blk_out (by omega), if_pos (by omega)]
      show p _ = p _
      congr 1
      omega
def JI (μ : Mm) (x m B : Nat) : Prop := ∃ (f : Nat → Int32) (held : Nat) (p Pp : Nat → Int32) (len : Nat) (u : Nat → Bool) (sl f2 : Nat → Int32) (at_ : Nat) (od : Nat → Int32) (ordered : Nat), CW μ x f held (fun i j => p (475 * i + j)) Pp len u (fun i j => sl (475 * i + j)) B ∧ MR μ m f f2 p held sl u Pp len at_ od ordered
theorem JI.mono {μ : Mm} {x m B B' : Nat} (J : JI μ x m B) (h : B ≤ B') : JI μ x m B' := by
  obtain ⟨f, held, p, Pp, len, u, sl, f2, at_, od, ordered, C, F⟩ := J
  exact ⟨f, held, p, Pp, len, u, sl, f2, at_, od, ordered, C.mono h, F⟩
theorem CW.held {μ : Mm} {x held len B : Nat} {f Pp : Nat → Int32} {P S : Nat → Nat → Int32} {u : Nat → Bool} (C : CW μ x f held P Pp len u S B) : held ≤ 6 := by
  obtain ⟨s, c3, _⟩ := C.2.2.1
  exact c3.2.1
section JOIN
variable {μ μ1 μ2 : Mm} {x m held len B at_ ordered : Nat} {f f' p Pp sl f2 od : Nat → Int32} {u : Nat → Bool} {may val v w : Int32}
theorem join (hd : x + 528 ≤ m) (hk : held ≤ 6) (c : ((may < nI 0 ∧ v = may ∧ CW μ1 x f held (fun i j => p (475 * i + j)) Pp len u (fun i j => sl (475 * i + j)) (B + 1)) ∨ (may = nI 0 ∧ v = val ∧ CW μ1 x f' (if held < 6 then held + 1 else 6) (pushP (fun i j => p (475 * i + j)) held f) Pp len u (fun i j => sl (475 * i + j)) (B + 1))) ∧ Fr x (x + 528) μ μ1) {g : Nat → Int32} (e : LQ f' g (hF f') ∨ ∀ j, j < 475 → g j = f' j) (r : ((¬ may = nI 0 ∧ w = may ∧ MR μ2 m f f2 p held sl u Pp len at_ od ordered) ∨ (may = nI 0 ∧ w = val ∧ MR μ2 m g f2 (pushM p held f) (keep1 held) sl u Pp len at_ od ordered)) ∧ Fr m (m + 8) μ1 μ2) : v = w ∧ JI μ2 x m (B + 100) := by
  obtain ⟨c, z1⟩ := c
  obtain ⟨r, z2⟩ := r
  rcases c with ⟨c1, c2, c3⟩ | ⟨c1, c2, c3⟩
  · rcases r with ⟨r1, r2, r3⟩ | ⟨r1, r2, r3⟩
    · exact ⟨c2.trans r2.symm, f, held, p, Pp, len, u, sl, f2, at_, od, ordered, (c3.fr z2 (by omega)).mono (by omega), r3⟩
    · rw [r1] at c1; exact absurd c1 (by decide)
  · rcases r with ⟨r1, r2, r3⟩ | ⟨r1, r2, r3⟩
    · exact absurd c1 r1
    · exact ⟨c2.trans r2.symm, g, keep1 held, pushM p held f, Pp, len, u, sl, f2, at_, od, ordered, ((c3.fr z2 (by omega)).ext e (push_eq hk) (fun _ _ _ _ _ => rfl)).mono (by omega), r3⟩
theorem same (hd : x + 528 ≤ m) (C : CW μ1 x f held (fun i j => p (475 * i + j)) Pp len u (fun i j => sl (475 * i + j)) B) (z2 : Fr m (m + 8) μ1 μ2) (r3 : MR μ2 m f f2 p held sl u Pp len at_ od ordered) : JI μ2 x m (B + 100) := ⟨f, held, p, Pp, len, u, sl, f2, at_, od, ordered, (C.fr z2 (by omega)).mono (by omega), r3⟩
end JOIN
section TURNS
variable {G : GG} {μ : Mm} {sz m kept padded at_ ordered : Nat} {f f2 p sl pd od : Nat → Int32} {u : Nat → Bool}
theorem eX9_turnS {s v : Int32} (F : MR μ m f f2 p kept sl u pd padded at_ od ordered) (hk : kept ≤ 6) : EvA G 3 kX9_turn [.ref m, .int s, .int v] μ sz 0 0 (QX m f f2 p kept sl u pd padded at_ od ordered (mayTurnF s v) (f s.toNatClampNeg) (upd f s.toNatClampNeg v) μ) := by
  by_cases s0 : s = nI 0
  · subst s0; exact eX9_turn (k := 0) F hk (by omega)
  · by_cases s1 : s = nI 1
    · subst s1; exact eX9_turn (k := 1) F hk (by omega)
    · have hO := F.1
      have hm : mayTurnF s v = -2 := by unfold mayTurnF; rw [if_neg s0, if_neg (fun q => s1 q.1)]
      refine EvA.of (L := [some (.ref m), some (.int s), some (.int v), none]) (by decide +kernel) (Nat.le_of_ble_eq_true rfl) rfl ?_
      refine Rn.iload_n (pc1 := 1)  dX9_turn_0 rfl rfl rfl ?_
      refine Rn.if_ne (pc1 := 4) 17 dX9_turn_1 rfl (by decide) (fun c1 => ?_) (fun c1 => ?_)
      · refine Rn.iload_n (pc1 := 18)  dX9_turn_17 rfl rfl rfl ?_
        refine Rn.iconst (pc1 := 19) (v := nI 1) dX9_turn_18 rfl (by decide) ?_
        refine Rn.icmp_ne (pc1 := 22) 33 dX9_turn_19 rfl (by decide) (fun c19 => ?_) (fun c19 => ?_)
        · refine Rn.bipush (pc1 := 35) (v := (-2)) dX9_turn_33 rfl (by decide) ?_
          exact Rn.ireturn dX9_turn_35 rfl rfl ⟨_, rfl, Or.inl ⟨by rw [hm]; decide, hm.symm, F⟩, Fr.rf⟩
        · exact absurd c19 s1
      · exact absurd c1 s0
end TURNS
