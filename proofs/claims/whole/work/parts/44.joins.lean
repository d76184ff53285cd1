/-! ===== side by side: the text's calls, undo, slots ===== -/
section JOINS
variable {μ μ1 μ2 : Mm} {x m held len B at_ ordered : Nat} {f p Pp sl f2 od : Nat → Int32} {u : Nat → Bool} {v w j : Int32} {c : Int64}
theorem join_put (hd : x + 528 ≤ m) (_ : held ≤ 6) (C : CW μ x f held (fun i j => p (475 * i + j)) Pp len u (fun i j => sl (475 * i + j)) B) (hc : (mayPutF (sgnE c) len ≠ nI 0 ∧ v = mayPutF (sgnE c) len ∧ μ1 = μ) ∨ (mayPutF (sgnE c) len = nI 0 ∧ ∃ m e, appN (sgnE c) 8 = some (m, e) ∧ v = nI (len + m) ∧ CW μ1 x f held (fun i j => p (475 * i + j)) (putN Pp len (sgnE c) m m) (len + m) u (fun i j => sl (475 * i + j)) B)) (hr : (¬ mayPutF (sgnE c) len = nI 0 ∧ w = mayPutF (sgnE c) len ∧ MR μ2 m f f2 p held sl u Pp len at_ od ordered) ∨ (mayPutF (sgnE c) len = nI 0 ∧ ∃ n e, appN (sgnE c) 8 = some (n, e) ∧ 1 ≤ n ∧ len + n ≤ 80 ∧ w = nI (len + n) ∧ MR μ2 m f f2 p held sl u (putN Pp len (sgnE c) n n) (len + n) at_ od ordered)) (z2 : Fr m (m + 8) μ1 μ2) : v = w ∧ JI μ2 x m (B + 100) := by
  rcases hc with ⟨c1, c2, rfl⟩ | ⟨c1, q, e, c2, c3, c4⟩
  · rcases hr with ⟨r1, r2, r3⟩ | ⟨r1, _⟩
    · exact ⟨c2.trans r2.symm, same hd C z2 r3⟩
    · exact absurd r1 c1
  · rcases hr with ⟨r1, _⟩ | ⟨r1, q', e', r2, _, _, r3, r4⟩
    · exact absurd c1 r1
    · rw [c2] at r2
      cases r2
      exact ⟨c3.trans r3.symm, same hd c4 z2 r4⟩
theorem join_carryOut (hd : x + 528 ≤ m) (hk : held ≤ 6) (_ : CW μ x f held (fun i j => p (475 * i + j)) Pp len u (fun i j => sl (475 * i + j)) B) (hc : (faultN Pp len 80 0 ≠ none ∧ v = -3 ∧ CW μ1 x f held (fun i j => p (475 * i + j)) Pp len u (fun i j => sl (475 * i + j)) (B + 81)) ∨ (faultN Pp len 80 0 = none ∧ v = nI (runN Pp len 80 0 f).1 ∧ CW μ1 x (runN Pp len 80 0 f).2 (if held < 6 then held + 1 else 6) (pushP (fun i j => p (475 * i + j)) held f) Pp 0 u (fun i j => sl (475 * i + j)) (B + 81))) (hr : (faultN Pp len 80 0 ≠ none ∧ w = -3 ∧ ∃ at' od' n, MR μ2 m f f2 p held sl u Pp len at' od' n) ∨ (faultN Pp len 80 0 = none ∧ w = nI (runN Pp len 80 0 f).1 ∧ ∃ g at' od' n, MR μ2 m g f2 (pushM p held f) (keep1 held) sl u Pp 0 at' od' n ∧ LQ (runN Pp len 80 0 f).2 g (hF (runN Pp len 80 0 f).2))) (z2 : Fr m (m + 8) μ1 μ2) : v = w ∧ JI μ2 x m (B + 100) := by
  rcases hc with ⟨c1, c2, c3⟩ | ⟨c1, c2, c3⟩
  · rcases hr with ⟨r1, r2, at', od', n, r3⟩ | ⟨r1, _⟩
    · exact ⟨c2.trans r2.symm, f, held, p, Pp, len, u, sl, f2, at', od', n, (c3.fr z2 (by omega)).mono (by omega), r3⟩
    · exact absurd r1 c1
  · rcases hr with ⟨r1, _⟩ | ⟨r1, r2, g, at', od', n, r3, r4⟩
    · exact absurd c1 r1
    · exact ⟨c2.trans r2.symm, g, keep1 held, pushM p held f, Pp, 0, u, sl, f2, at', od', n, ((c3.fr z2 (by omega)).ext (Or.inl r4) (push_eq hk) (fun _ _ _ _ _ => rfl)).mono (by omega), r3⟩
theorem join_undo (hd : x + 528 ≤ m) (_ : held ≤ 6) (_ : CW μ x f held (fun i j => p (475 * i + j)) Pp len u (fun i j => sl (475 * i + j)) B) (hc : (held = 0 ∧ v = -5 ∧ CW μ1 x f held (fun i j => p (475 * i + j)) Pp len u (fun i j => sl (475 * i + j)) B) ∨ (0 < held ∧ v = nI (held - 1) ∧ CW μ1 x ((fun i j => p (475 * i + j)) (held - 1)) (held - 1) (fun i j => p (475 * i + j)) Pp len u (fun i j => sl (475 * i + j)) B)) (hr : (held = 0 ∧ w = -5 ∧ MR μ2 m f f2 p held sl u Pp len at_ od ordered) ∨ (0 < held ∧ w = nI (held - 1) ∧ MR μ2 m (blk f 0 475 (fun k => p (475 * (held - 1) + k))) f2 p (held - 1) sl u Pp len at_ od ordered)) (z2 : Fr m (m + 8) μ1 μ2) : v = w ∧ JI μ2 x m (B + 100) := by
  rcases hc with ⟨c1, c2, c3⟩ | ⟨c1, c2, c3⟩
  · rcases hr with ⟨r1, r2, r3⟩ | ⟨r1, _⟩
    · exact ⟨c2.trans r2.symm, same hd c3 z2 r3⟩
    · omega
  · rcases hr with ⟨r1, _⟩ | ⟨r1, r2, r3⟩
    · omega
    · exact ⟨c2.trans r2.symm, _, held - 1, p, Pp, len, u, sl, f2, at_, od, ordered, ((c3.fr z2 (by omega)).ext (Or.inr (fun j hj => blk_in (q := j) (by omega) hj)) (fun _ _ _ _ => rfl) (fun _ _ _ _ _ => rfl)).mono (by omega), r3⟩
theorem join_save (hd : x + 528 ≤ m) (_ : held ≤ 6) (_ : CW μ x f held (fun i j => p (475 * i + j)) Pp len u (fun i j => sl (475 * i + j)) B) (hc : (inB j (nI 0) (nI 1) = false ∧ v = -2 ∧ CW μ1 x f held (fun i j => p (475 * i + j)) Pp len u (fun i j => sl (475 * i + j)) B) ∨ (inB j (nI 0) (nI 1) = true ∧ v = f 6 ∧ CW μ1 x f held (fun i j => p (475 * i + j)) Pp len (setU u j.toNatClampNeg) (setS (fun i j => sl (475 * i + j)) j.toNatClampNeg f) B)) (hr : (inB j (nI 0) (nI 1) = false ∧ w = -2 ∧ MR μ2 m f f2 p held sl u Pp len at_ od ordered) ∨ (inB j (nI 0) (nI 1) = true ∧ w = f 6 ∧ MR μ2 m f f2 p held (blk sl (475 * j.toNatClampNeg) 475 f) (setU u j.toNatClampNeg) Pp len at_ od ordered)) (z2 : Fr m (m + 8) μ1 μ2) : v = w ∧ JI μ2 x m (B + 100) := by
  rcases hc with ⟨c1, c2, c3⟩ | ⟨c1, c2, c3⟩
  · rcases hr with ⟨r1, r2, r3⟩ | ⟨r1, _⟩
    · exact ⟨c2.trans r2.symm, same hd c3 z2 r3⟩
    · rw [c1] at r1; cases r1
  · rcases hr with ⟨r1, _⟩ | ⟨r1, r2, r3⟩
    · rw [c1] at r1; cases r1
    · refine ⟨c2.trans r2.symm, f, held, p, Pp, len, _, _, f2, at_, od, ordered, ((c3.fr z2 (by omega)).ext (Or.inl LQ.rf) (fun _ _ _ _ => rfl) (fun i hi _ q hq => ?_)).mono (by omega), r3⟩
      show blk sl (475 * j.toNatClampNeg) 475 f (475 * i + q) = (if i = j.toNatClampNeg then f else fun q => sl (475 * i + q)) q
      by_cases e : i = j.toNatClampNeg
      · rw [if_pos e, ← e, blk_in (q := q) rfl hq]
      · rw [if_neg e, blk_out (by omega)]
end JOINS
