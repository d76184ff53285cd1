/-! ===== the law's invariant of a flat row, and that each change keeps it ===== -/
def PG (f : Nat → Int32) (n : Nat → Nat) (h N fl pa va : Nat) : Prop := ∃ p, f pa = nI p ∧ GP (fun k => f (9 + k)) (e1 f) n h N fl p (fun k => f (va + k))
def JL (f : Nat → Int32) (h B N : Nat) (n t : Nat → Nat) (g fl m : Nat) : Prop := (N ≤ B ∧ f 3 = nI N ∧ f 5 = nI g ∧ h + g = N ∧ f 4 = nI fl ∧ f 2 = nI m ∧ m ≤ 99999) ∧ (∀ j, j < h → e0 f j = nI (n j) ∧ e3 f j = nI (t j)) ∧ Co (fun k => f (9 + k)) (e1 f) (e2 f) n t h N fl m
def JV (f : Nat → Int32) (h rc sc B : Nat) : Prop := ∃ (N : Nat) (n t : Nat → Nat) (g fl m : Nat), JL f h B N n t g fl m ∧ (∀ i, i < rc → PG f n h N fl (261 + 27 * i) (261 + 27 * i + 3) ∧ PG f n h N fl (261 + 27 * i + 1) (261 + 27 * i + 15)) ∧ (∀ i, i < sc → PG f n h N fl (423 + 13 * i) (423 + 13 * i + 1)) ∧ (∀ i, i + 1 < sc → f (423 + 13 * (i + 1)) ≤ f (423 + 13 * i))
section KEEP
variable {f f' : Nat → Int32} {h rc sc B N g fl m : Nat} {n t : Nat → Nat}
theorem JL.to (J : JL f h B N n t g fl m) (hh : h ≤ 60) (q : ∀ j, 2 ≤ j → j < 261 → j ≠ 6 → j ≠ 7 → j ≠ 8 → f' j = f j) : JL f' h B N n t g fl m := by
  obtain ⟨⟨a1, a2, a3, a4, a5, a6, a7⟩, e, c⟩ := J
  refine ⟨⟨a1, (q 3 (by omega) (by omega) (by omega) (by omega) (by omega)).trans a2, (q 5 (by omega) (by omega) (by omega) (by omega) (by omega)).trans a3, a4, (q 4 (by omega) (by omega) (by omega) (by omega) (by omega)).trans a5, (q 2 (by omega) (by omega) (by omega) (by omega) (by omega)).trans a6, a7⟩, fun j hj => ⟨(q (21 + 4 * j) (by omega) (by omega) (by omega) (by omega) (by omega)).trans (e j hj).1, (q (21 + 4 * j + 3) (by omega) (by omega) (by omega) (by omega) (by omega)).trans (e j hj).2⟩, c.congr (Nat.le_refl _) (fun k hk => q (9 + k) (by omega) (by omega) (by omega) (by omega) (by omega)) (fun j hj => ⟨q (21 + 4 * j + 1) (by omega) (by omega) (by omega) (by omega) (by omega), q (21 + 4 * j + 2) (by omega) (by omega) (by omega) (by omega) (by omega), rfl, rfl⟩)⟩
theorem PG.to {pa va pa' va' : Nat} (H : PG f n h N fl pa va) (hh : h ≤ 60) (q : ∀ j, 9 ≤ j → j < 261 → f' j = f j) (e1 : f' pa' = f pa) (e2 : ∀ k, k < 12 → f' (va' + k) = f (va + k)) : PG f' n h N fl pa' va' := by
  obtain ⟨p, p1, p2⟩ := H
  exact ⟨p, e1.trans p1, p2.congr (fun k hk => q (9 + k) (by omega) (by omega)) (fun j hj => ⟨q (21 + 4 * j + 1) (by omega) (by omega), rfl⟩) e2⟩
/-- a reader's pairs are others, all else stays -/
theorem JV.rd {i : Nat} (J : JV f h rc sc B) (hh : h ≤ 60) (hrc : rc ≤ 6) (hi : i < rc) (q : ∀ j, j < 261 + 27 * i ∨ 261 + 27 * i + 27 ≤ j → f' j = f j) (k : ∀ (N : Nat) (n t : Nat → Nat) (g fl m : Nat), JL f h B N n t g fl m → (∀ i, i < rc → PG f n h N fl (261 + 27 * i) (261 + 27 * i + 3) ∧ PG f n h N fl (261 + 27 * i + 1) (261 + 27 * i + 15)) → (∀ i, i < sc → PG f n h N fl (423 + 13 * i) (423 + 13 * i + 1)) → PG f' n h N fl (261 + 27 * i) (261 + 27 * i + 3) ∧ PG f' n h N fl (261 + 27 * i + 1) (261 + 27 * i + 15)) : JV f' h rc sc B := by
  obtain ⟨N, n, t, g, fl, m, j, r, s, d⟩ := J
  refine ⟨N, n, t, g, fl, m, j.to hh (fun j _ h2 _ _ _ => q j (by omega)), fun x hx => ?_, fun x hx => (s x hx).to hh (fun j _ h2 => q j (by omega)) (q _ (by omega)) (fun k hk => q _ (by omega)), fun x hx => by rw [q _ (by omega), q _ (by omega)]; exact d x hx⟩
  by_cases e : x = i
  · subst e; exact k N n t g fl m j r s
  · exact ⟨(r x hx).1.to hh (fun j _ h2 => q j (by omega)) (q _ (by omega)) (fun k hk => q _ (by omega)), (r x hx).2.to hh (fun j _ h2 => q j (by omega)) (q _ (by omega)) (fun k hk => q _ (by omega))⟩
theorem JV.mono {B' : Nat} (J : JV f h rc sc B) (hB : B ≤ B') : JV f h rc sc B' := by
  obtain ⟨N, n, t, g, fl, m, ⟨⟨a1, a2⟩, e⟩, r⟩ := J
  exact ⟨N, n, t, g, fl, m, ⟨⟨by omega, a2⟩, e⟩, r⟩
theorem JV.turn {k : Nat} {v : Int32} (J : JV f h rc sc B) (hh : h ≤ 60) (hk : k < 2) : JV (upd f k v) h rc sc B := by
  obtain ⟨N, n, t, g, fl, m, j, r, s, d⟩ := J
  have q : ∀ j, 2 ≤ j → upd f k v j = f j := fun j h1 => upd_ne (by omega)
  exact ⟨N, n, t, g, fl, m, j.to hh (fun j h1 h2 _ _ _ => q j h1), fun x hx => ⟨(r x hx).1.to hh (fun j h1 h2 => q j (by omega)) (q _ (by omega)) (fun k hk => q _ (by omega)), (r x hx).2.to hh (fun j h1 h2 => q j (by omega)) (q _ (by omega)) (fun k hk => q _ (by omega))⟩, fun x hx => (s x hx).to hh (fun j h1 h2 => q j (by omega)) (q _ (by omega)) (fun k hk => q _ (by omega)), fun x hx => by rw [q _ (by omega), q _ (by omega)]; exact d x hx⟩
theorem JV.pass {v : Int32} (J : JV f h rc sc B) (hh : h ≤ 60) (V : NV f rc sc) (hm : mayPassF f v = nI 0) : JV (upd f 2 (f 2 + v)) h rc sc B := by
  obtain ⟨N, n, t, g, fl, m, ⟨⟨a1, a2, a3, a4, a5, a6, a7⟩, e, c⟩, r, s, d⟩ := J
  obtain ⟨m', b1, b2⟩ := passF_ok V hm
  have hle : m ≤ m' := by
    have hin : inB v (nI 1) (nI 999) = true := by
      unfold mayPassF at hm
      split at hm
      · assumption
      · exact absurd hm (by decide)
    unfold inB at hin
    rw [Bool.and_eq_true, decide_eq_true_eq, decide_eq_true_eq] at hin
    obtain ⟨w, hw, rfl⟩ := nI_of (x := v) (fun z => by
      have h0 : (nI 1 : Int32) < 0 := Int32.lt_of_le_of_lt hin.1 z
      exact absurd h0 (by decide))
    have hw2 := (nI_leI hw (by omega)).mp hin.2
    rw [a6, nI_add] at b2
    have := (nI_eq (by omega) (by omega)).mp b2
    omega
  have q : ∀ j, j ≠ 2 → upd f 2 (f 2 + v) j = f j := fun j h1 => upd_ne h1
  refine ⟨N, n, t, g, fl, m', ⟨⟨a1, (q 3 (by omega)).trans a2, (q 5 (by omega)).trans a3, a4, (q 4 (by omega)).trans a5, (upd_at rfl).trans b2, b1⟩, fun j hj => ⟨(q _ (by omega)).trans (e j hj).1, (q _ (by omega)).trans (e j hj).2⟩, c.congr hle (fun k hk => q _ (by omega)) (fun j hj => ⟨q _ (by omega), q _ (by omega), rfl, rfl⟩)⟩, fun x hx => ⟨(r x hx).1.to hh (fun j h1 h2 => q j (by omega)) (q _ (by omega)) (fun k hk => q _ (by omega)), (r x hx).2.to hh (fun j h1 h2 => q j (by omega)) (q _ (by omega)) (fun k hk => q _ (by omega))⟩, fun x hx => (s x hx).to hh (fun j h1 h2 => q j (by omega)) (q _ (by omega)) (fun k hk => q _ (by omega)), fun x hx => by rw [q _ (by omega), q _ (by omega)]; exact d x hx⟩
-- an entry comes
theorem setsF_out {k j : Nat} {v : Int32} (h1 : j ≠ 3) (h2 : j ≠ 6) (h3 : j ≠ 9 + k) (h4 : j < 21 + 4 * h ∨ 21 + 4 * h + 4 ≤ j) : setsF f h k v j = f j := by
  unfold setsF
  rw [upd_ne (by omega), upd_ne (by omega), upd_ne (by omega), upd_ne (by omega), upd_ne (by omega), upd_ne (by omega), upd_ne (by omega)]
theorem JV.sets {k : Nat} {v : Int32} (J : JV f h rc sc B) (hk : k < 12) (hh : h < 60) (hv : v = -6 ∨ nI 0 ≤ v) : JV (setsF f h k v) (h + 1) rc sc (B + 1) := by
  obtain ⟨N, n, t, g, fl, m, ⟨⟨a1, a2, a3, a4, a5, a6, a7⟩, e, c⟩, r, s, d⟩ := J
  have x0 : setsF f h k v (21 + 4 * h) = f 3 := by
    unfold setsF
    rw [upd_ne (by omega), upd_ne (by omega), upd_ne (by omega), upd_ne (by omega), upd_ne (by omega), upd_ne (by omega), upd_at rfl]
  have x1 : setsF f h k v (21 + 4 * h + 1) = nI k := by
    unfold setsF
    rw [upd_ne (by omega), upd_ne (by omega), upd_ne (by omega), upd_ne (by omega), upd_ne (by omega), upd_at rfl]
  have x2 : setsF f h k v (21 + 4 * h + 2) = v := by
    unfold setsF
    rw [upd_ne (by omega), upd_ne (by omega), upd_ne (by omega), upd_ne (by omega), upd_at rfl]
  have x3 : setsF f h k v (21 + 4 * h + 3) = f 2 := by
    unfold setsF
    rw [upd_ne (by omega), upd_ne (by omega), upd_ne (by omega), upd_at rfl]
  have xk : setsF f h k v (9 + k) = v := by
    unfold setsF
    rw [upd_ne (by omega), upd_at rfl]
  have xn : setsF f h k v 3 = f 3 + nI 1 := by
    unfold setsF
    rw [upd_at rfl]
  have eT : ∀ q, q < 12 → q ≠ k → setsF f h k v (9 + q) = f (9 + q) := fun q hq hne => setsF_out (by omega) (by omega) (by omega) (by omega)
  have ej : ∀ j w, j < h → w < 4 → setsF f h k v (21 + 4 * j + w) = f (21 + 4 * j + w) := fun j w hj hw => setsF_out (by omega) (by omega) (by omega) (by omega)
  have up : ∀ {pa va : Nat}, 261 ≤ pa → 261 ≤ va → PG f n h N fl pa va → PG (setsF f h k v) (fun j => if j = h then N else n j) (h + 1) (N + 1) fl pa va := by
    rintro pa va h1 h2 ⟨p, p1, p2⟩
    refine ⟨p, (setsF_out (by omega) (by omega) (by omega) (by omega)).trans p1, ?_⟩
    have p3 := p2.set (T' := fun q => setsF f h k v (9 + q)) (ky' := e1 (setsF f h k v)) (n' := fun j => if j = h then N else n j) (k := k) eT x1 (if_pos rfl) (fun j hj => ⟨ej j 1 hj (by omega), if_neg (by omega)⟩)
    exact p3.congr (fun _ _ => rfl) (fun _ _ => ⟨rfl, rfl⟩) (fun q hq => setsF_out (by omega) (by omega) (by omega) (by omega))
  refine ⟨N + 1, fun j => if j = h then N else n j, fun j => if j = h then m else t j, g, fl, m, ⟨⟨by omega, by rw [xn, a2, nI_add], (setsF_out (by omega) (by omega) (by omega) (by omega)).trans a3, by omega, (setsF_out (by omega) (by omega) (by omega) (by omega)).trans a5, (setsF_out (by omega) (by omega) (by omega) (by omega)).trans a6, a7⟩, fun j hj => ?_, ?_⟩, fun x hx => ⟨up (by omega) (by omega) (r x hx).1, up (by omega) (by omega) (r x hx).2⟩, fun x hx => up (by omega) (by omega) (s x hx), fun x hx => by rw [setsF_out (by omega) (by omega) (by omega) (by omega), setsF_out (by omega) (by omega) (by omega) (by omega)]; exact d x hx⟩
  · by_cases z : j = h
    · subst z
      refine ⟨?_, ?_⟩
      · show setsF f j k v (21 + 4 * j) = nI (if j = j then N else n j)
        rw [x0, a2, if_pos rfl]
      · show setsF f j k v (21 + 4 * j + 3) = nI (if j = j then m else t j)
        rw [x3, a6, if_pos rfl]
    · refine ⟨?_, ?_⟩
      · show setsF f h k v (21 + 4 * j) = nI (if j = h then N else n j)
        rw [if_neg z]; exact (ej j 0 (by omega) (by omega)).trans (e j (by omega)).1
      · show setsF f h k v (21 + 4 * j + 3) = nI (if j = h then m else t j)
        rw [if_neg z]; exact (ej j 3 (by omega) (by omega)).trans (e j (by omega)).2
  · exact c.set (k := k) hk (xk.trans x2.symm) eT (by show setsF f h k v (9 + k) = -6 ∨ nI 0 ≤ setsF f h k v (9 + k); rw [xk]; exact hv) x1 (if_pos rfl) (if_pos rfl) (fun j hj => ⟨ej j 1 hj (by omega), ej j 2 hj (by omega), if_neg (by omega), if_neg (by omega)⟩)
-- readers
theorem confF_out {i j : Nat} (h1 : j < 261 + 27 * i ∨ 261 + 27 * i + 27 ≤ j) : confF f i j = f j := by unfold confF; rw [upd_ne (by omega), blk_out (by omega)]
theorem JV.conf {i : Nat} (J : JV f h rc sc B) (hh : h ≤ 60) (hrc : rc ≤ 6) (hi : i < rc) : JV (confF f i) h rc sc B := by
  refine J.rd hh hrc hi (fun j hj => confF_out hj) (fun N n t g fl m j r s => ?_)
  have q : ∀ j, 9 ≤ j → j < 261 → confF f i j = f j := fun j _ h2 => confF_out (by omega)
  refine ⟨(r i hi).1.to hh q ?_ (fun k hk => ?_), (r i hi).1.to hh q ?_ (fun k hk => ?_)⟩
  · unfold confF; rw [upd_ne (by omega), blk_out (by omega)]
  · unfold confF; rw [upd_ne (by omega), blk_out (by omega)]
  · unfold confF; rw [upd_at rfl]
  · unfold confF; rw [upd_ne (by omega), blk_in rfl hk]
theorem backF_out {i j : Nat} (h1 : j < 261 + 27 * i ∨ 261 + 27 * i + 27 ≤ j) : backF f i j = f j := by unfold backF; rw [upd_ne (by omega), blk_out (by omega)]
theorem JV.back {i : Nat} (J : JV f h rc sc B) (hh : h ≤ 60) (hrc : rc ≤ 6) (hi : i < rc) : JV (backF f i) h rc sc B := by
  refine J.rd hh hrc hi (fun j hj => backF_out hj) (fun N n t g fl m j r s => ?_)
  have q : ∀ j, 9 ≤ j → j < 261 → backF f i j = f j := fun j _ h2 => backF_out (by omega)
  refine ⟨(r i hi).2.to hh q ?_ (fun k hk => ?_), (r i hi).2.to hh q ?_ (fun k hk => ?_)⟩
  · unfold backF; rw [upd_at rfl]
  · unfold backF; rw [upd_ne (by omega), blk_in rfl hk]
  · unfold backF; rw [upd_ne (by omega), blk_out (by omega)]
  · unfold backF; rw [upd_ne (by omega), blk_out (by omega)]
theorem beginF_out {i j : Nat} {pl : Int32} {vw : Nat → Int32} (h1 : j < 261 + 27 * i ∨ 261 + 27 * i + 27 ≤ j) : beginF f i pl vw j = f j := by unfold beginF; rw [blk_out (by omega), blk_out (by omega), upd_ne (by omega), upd_ne (by omega)]
theorem beginF_at {i : Nat} {pl : Int32} {vw : Nat → Int32} : (beginF f i pl vw (261 + 27 * i) = pl ∧ beginF f i pl vw (261 + 27 * i + 1) = pl) ∧ ∀ k, k < 12 → beginF f i pl vw (261 + 27 * i + 3 + k) = vw k ∧ beginF f i pl vw (261 + 27 * i + 15 + k) = vw k := by
  refine ⟨⟨?_, ?_⟩, fun k hk => ⟨?_, ?_⟩⟩
  · unfold beginF; rw [blk_out (by omega), blk_out (by omega), upd_ne (by omega), upd_at rfl]
  · unfold beginF; rw [blk_out (by omega), blk_out (by omega), upd_at rfl]
  · unfold beginF; rw [blk_out (by omega), blk_in rfl hk]
  · unfold beginF; rw [blk_in rfl hk]
/-- a pair put to a reader, in a row that is alike below -/
theorem PG.begin {i p : Nat} {pl : Int32} {vw : Nat → Int32} (hh : h ≤ 60) (H : GP (fun k => f (9 + k)) (e1 f) n h N fl p vw) (hp : pl = nI p) : PG (beginF f i pl vw) n h N fl (261 + 27 * i) (261 + 27 * i + 3) ∧ PG (beginF f i pl vw) n h N fl (261 + 27 * i + 1) (261 + 27 * i + 15) := by
  obtain ⟨⟨b1, b2⟩, b3⟩ := beginF_at (f := f) (i := i) (pl := pl) (vw := vw)
  exact ⟨⟨p, b1.trans hp, H.congr (fun k hk => beginF_out (by omega)) (fun j hj => ⟨beginF_out (by omega), rfl⟩) (fun k hk => (b3 k hk).1)⟩, ⟨p, b2.trans hp, H.congr (fun k hk => beginF_out (by omega)) (fun j hj => ⟨beginF_out (by omega), rfl⟩) (fun k hk => (b3 k hk).2)⟩⟩
theorem JV.anew {i : Nat} (J : JV f h rc sc B) (hh : h ≤ 60) (hrc : rc ≤ 6) (hi : i < rc) : JV (beginF f i (nI 0) (fun _ => -6)) h rc sc B :=
  J.rd hh hrc hi (fun j hj => beginF_out hj) (fun N n t g fl m j r s => PG.begin hh (GP.zero j.2.2 (fun _ _ => rfl)) rfl)
theorem JV.load {i x : Nat} (J : JV f h rc sc B) (hh : h ≤ 60) (hrc : rc ≤ 6) (hi : i < rc) (hx : x < sc) : JV (beginF f i (f (423 + 13 * x)) (fun k => f (423 + 13 * x + 1 + k))) h rc sc B :=
  J.rd hh hrc hi (fun j hj => beginF_out hj) (fun N n t g fl m j r s => by
    obtain ⟨p, p1, p2⟩ := s x hx
    exact PG.begin hh p2 p1)
theorem JV.come (J : JV f h rc sc B) (hh : h ≤ 60) (hr : rc < 6) : JV (comeF f rc) h (rc + 1) sc B := by
  obtain ⟨N, n, t, g, fl, m, j, r, s, d⟩ := J
  have q : ∀ j, j ≠ 7 → (j < 261 + 27 * rc ∨ 261 + 27 * rc + 27 ≤ j) → comeF f rc j = f j := fun j h1 h2 => by
    unfold comeF
    rw [upd_ne h1, beginF_out h2, upd_ne (by omega)]
  have q9 : ∀ j, 9 ≤ j → j < 261 → comeF f rc j = f j := fun j h1 h2 => q j (by omega) (by omega)
  refine ⟨N, n, t, g, fl, m, j.to hh (fun j _ h2 _ h4 _ => q j h4 (by omega)), fun x hx => ?_, fun x hx => (s x hx).to hh q9 (q _ (by omega) (by omega)) (fun k hk => q _ (by omega) (by omega)), fun x hx => by rw [q _ (by omega) (by omega), q _ (by omega) (by omega)]; exact d x hx⟩
  by_cases e : x = rc
  · subst e
    have G0 := GP.zero (v := fun _ => -6) j.2.2 (fun _ _ => rfl)
    have G1 : GP (fun k => upd f (261 + 27 * x + 2) (nI 0) (9 + k)) (e1 (upd f (261 + 27 * x + 2) (nI 0))) n h N fl 0 (fun _ => -6) := G0.congr (fun k hk => upd_ne (by omega)) (fun j hj => ⟨upd_ne (by omega), rfl⟩) (fun _ _ => rfl)
    have G2 := PG.begin (i := x) hh G1 rfl
    have z : ∀ j, j ≠ 7 → comeF f x j = beginF (upd f (261 + 27 * x + 2) (nI 0)) x (nI 0) (fun _ => -6) j := fun j hj => upd_ne hj
    exact ⟨G2.1.to hh (fun j h1 h2 => z j (by omega)) (z _ (by omega)) (fun k hk => z _ (by omega)), G2.2.to hh (fun j h1 h2 => z j (by omega)) (z _ (by omega)) (fun k hk => z _ (by omega))⟩
  · exact ⟨(r x (by omega)).1.to hh q9 (q _ (by omega) (by omega)) (fun k hk => q _ (by omega) (by omega)), (r x (by omega)).2.to hh q9 (q _ (by omega) (by omega)) (fun k hk => q _ (by omega) (by omega))⟩
theorem JV.shot (J : JV f h rc sc B) (hh : h ≤ 60) (hrc : rc ≤ 6) (hsc : sc ≤ 4) (hB : B < 2 ^ 30) : JV (shotF f sc) h rc (if sc < 4 then sc + 1 else sc) B := by
  obtain ⟨N, n, t, g, fl, m, j, r, s, d⟩ := J
  have q : ∀ j, j ≠ 8 → j < 423 → shotF f sc j = f j := fun j h1 h2 => by
    unfold shotF
    rw [upd_ne h1, blk_out (by omega), upd_ne (by omega), blk_out (by omega)]
  have q9 : ∀ j, 9 ≤ j → j < 261 → shotF f sc j = f j := fun j h1 h2 => q j (by omega) (by omega)
  have x0 : shotF f sc 423 = f 3 := by
    unfold shotF
    rw [upd_ne (by omega), blk_out (by omega), upd_at rfl]
  have x1 : ∀ k, k < 12 → shotF f sc (424 + k) = f (9 + k) := fun k hk => by
    unfold shotF
    rw [upd_ne (by omega), blk_in rfl hk]
  have x2 : ∀ y, y < 39 → shotF f sc (436 + y) = f (423 + y) := fun y hy => by
    unfold shotF
    rw [upd_ne (by omega), blk_out (by omega), upd_ne (by omega), blk_in rfl hy]
  have hsm : ∀ x, x + 1 < (if sc < 4 then sc + 1 else sc) → x < sc ∧ x < 3 := fun x hx => by split at hx <;> omega
  have z0 : ∀ y, y < 3 → shotF f sc (423 + 13 * (y + 1)) = f (423 + 13 * y) := fun y hy => by
    rw [show 423 + 13 * (y + 1) = 436 + 13 * y by omega, x2 _ (by omega)]
  have z1 : ∀ y k, y < 3 → k < 12 → shotF f sc (423 + 13 * (y + 1) + 1 + k) = f (423 + 13 * y + 1 + k) := fun y k hy hk => by
    have := x2 (13 * y + 1 + k) (by omega)
    rw [show 436 + (13 * y + 1 + k) = 423 + 13 * (y + 1) + 1 + k by omega, show 423 + (13 * y + 1 + k) = 423 + 13 * y + 1 + k by omega] at this
    exact this
  refine ⟨N, n, t, g, fl, m, j.to hh (fun j _ h2 _ _ h5 => q j h5 (by omega)), fun x hx => ⟨(r x hx).1.to hh q9 (q _ (by omega) (by omega)) (fun k hk => q _ (by omega) (by omega)), (r x hx).2.to hh q9 (q _ (by omega) (by omega)) (fun k hk => q _ (by omega) (by omega))⟩, fun x hx => ?_, fun x hx => ?_⟩
  · cases x with
    | zero =>
      have G0 := GP.now (v := fun k => f (9 + k)) j.2.2 (fun _ _ => rfl)
      exact ⟨N, x0.trans j.1.2.1, G0.congr (fun k hk => q9 _ (by omega) (by omega)) (fun j hj => ⟨q9 _ (by omega) (by omega), rfl⟩) (fun k hk => x1 k hk)⟩
    | succ y =>
      obtain ⟨h1, h2⟩ := hsm y hx
      exact (s y h1).to hh q9 (z0 y h2) (fun k hk => z1 y k h2 hk)
  · obtain ⟨h1, h2⟩ := hsm x hx
    rw [z0 x h2]
    cases x with
    | zero =>
      obtain ⟨p, p1, p2⟩ := s 0 h1
      show f (423 + 13 * 0) ≤ shotF f sc 423
      rw [p1, x0, j.1.2.1]
      exact nI_le p2.1 (by have := j.1.1; omega)
    | succ y =>
      rw [z0 y (by omega)]
      exact d y (by omega)
end KEEP
