/-! ===== the law from its entry ===== -/
theorem arr_of {s : State} {args : Array Value} {t : FieldType} (h : (Cond.arrayClass t).before args s = true) (ht : ∀ C, t ≠ .object C) : ∃ cA : ClassId, ArrOfT s cA t ∧ va_RA s cA t := by
  obtain ⟨c, k, comp, h1, h2, h3⟩ := Cond.arrayClass_spec h
  refine ⟨c, fun n z => ⟨fun k h => (by cases h), k, h2, comp, h3⟩, ?_⟩
  unfold va_RA
  split
  · exact absurd rfl (ht _)
  · exact h1
theorem arr_ofO {s : State} {args : Array Value} {C : String} (h : (Cond.arrayOver (.object C)).before args s = true) : ∃ cA : ClassId, ArrOfT s cA (.object C) ∧ va_RA s cA (.object C) := by
  obtain ⟨comp, c, k, h1, h2, h3, h4, h5⟩ := Cond.arrayOver_spec h
  exact ⟨c, fun n z => ⟨fun k h => (by cases h), k, h3, comp, h4⟩, k, comp, h3, h4, h1, h5⟩
set_option maxHeartbeats 4000000 in
/-- YOUR PART: from the entry, for every script of at most 260 ints, the law comes to its end with true -/
theorem whole_start {p : Program} {e : Env} {s : State} {m : MethodId} {below : List Frame} {meth : Method} {c : Code} (l : Launch) (hflags : l.flags = flags0) {b L : Nat} {xs : Nat → Int32} (hL : L ≤ 260) (C0 : lw_At p s m meth c b L xs) : W p l e room_1 s m #[Value.ref b] below meth c s.heap [] 0 0 (lw_Z below #[Value.ref b] s) (entryFrame m ([Value.ref b] : List Value).toArray 9) := by
  obtain ⟨hx, hb, hr, hml, hown, hts, ⟨scr, x1, x2, x3, x4, x5⟩, hbl, hlocks, hgv⟩ := id C0
  have htg : ∀ w ∈ lwT, w.before #[Value.ref b] s = true := fun w hw => hts w (lwT_in w hw)
  obtain ⟨c0, iS0, k0⟩ := u_known (C := RX0) (T := TX0) (N := 8) htg inX0 (htg _ qins_X0)
  obtain ⟨c1, iS1, k1⟩ := u_known (C := RX1) (T := TX1) (N := 2) htg inX1 (htg _ qins_X1)
  obtain ⟨c2, iS2, k2⟩ := u_known (C := RX2) (T := TX2) (N := 6) htg inX2 (htg _ qins_X2)
  obtain ⟨c3, iS3, k3⟩ := u_known (C := RX3) (T := TX3) (N := 5) htg inX3 (htg _ qins_X3)
  obtain ⟨c4, iS4, k4⟩ := u_known (C := RX4) (T := TX4) (N := 2) htg inX4 (htg _ qins_X4)
  obtain ⟨c5, iS5, k5⟩ := u_known (C := RX5) (T := TX5) (N := 2) htg inX5 (htg _ qins_X5)
  obtain ⟨c6, iS6, k6⟩ := u_known (C := RX6) (T := TX6) (N := 9) htg inX6 (htg _ qins_X6)
  obtain ⟨c7, iS7, k7⟩ := u_known (C := RX7) (T := TX7) (N := 1) htg inX7 (htg _ qins_X7)
  obtain ⟨c8, iS8, k8⟩ := u_known (C := RX8) (T := TX8) (N := 4) htg inX8 (htg _ qins_X8)
  obtain ⟨dC, dI, hKc⟩ : ∃ (dC : Nat → ClassId) (dI : Nat → Nat → Nat), ∀ (k : Nat) (q : vw_C), classes[k]? = some q → u_Kn s q.1 q.2.1 q.2.2 (dC k) (dI k) := by
    refine ⟨fun k => ([c0, c1, c2, c3, c4, c5, c6, c7, c8])[k]?.getD c0, fun k => ([iS0, iS1, iS2, iS3, iS4, iS5, iS6, iS7, iS8])[k]?.getD iS0, ?_⟩
    intro k q hq
    match k, hq with
    | 0, hq => cases hq; exact k0
    | 1, hq => cases hq; exact k1
    | 2, hq => cases hq; exact k2
    | 3, hq => cases hq; exact k3
    | 4, hq => cases hq; exact k4
    | 5, hq => cases hq; exact k5
    | 6, hq => cases hq; exact k6
    | 7, hq => cases hq; exact k7
    | 8, hq => cases hq; exact k8
    | k + 9, hq => simp [classes] at hq
  have ao : ∀ C, Cond.arrayOver (.object C) ∈ lw_tbl → va_AO C s := fun C h => va_AO.of (hts _ h)
  have a6 : va_AO RX6 s := ao _ (by decide +kernel)
  have a3 : va_AO RX3 s := ao _ (by decide +kernel)
  have a5 : va_AO RX5 s := ao _ (by decide +kernel)
  have a4 : va_AO RX4 s := ao _ (by decide +kernel)
  obtain ⟨d0, e0⟩ := arr_of (htg _ qac_int) (fun C h => by cases h)
  obtain ⟨d1, e1⟩ := arr_of (htg _ qac_int) (fun C h => by cases h)
  obtain ⟨d2, e2⟩ := arr_ofO (va_AO.use (A := #[]) a6)
  obtain ⟨d3, e3⟩ := arr_ofO (va_AO.use (A := #[]) a3)
  obtain ⟨d4, e4⟩ := arr_ofO (va_AO.use (A := #[]) a5)
  obtain ⟨d5, e5⟩ := arr_ofO (va_AO.use (A := #[]) a4)
  obtain ⟨dA, hA⟩ : ∃ dA : Nat → ClassId, ∀ (k : Nat) (q : ClassId × FieldType), (vtys dA)[k]? = some q → ArrOfT s q.1 q.2 ∧ va_RA s q.1 q.2 := by
    refine ⟨fun k => ([d0, d1, d2, d3, d4, d5])[k]?.getD d0, ?_⟩
    intro k q hq
    match k, hq with
    | 0, hq => cases hq; exact e0
    | 1, hq => cases hq; exact e1
    | 2, hq => cases hq; exact e2
    | 3, hq => cases hq; exact e3
    | 4, hq => cases hq; exact e4
    | 5, hq => cases hq; exact e5
    | k + 6, hq => simp [vtys] at hq
  have hKn : KnA (l, (dC, dI), dA, s.heap.size, b, scr) s := ⟨⟨hKc, hA⟩, fun q hq => va_Nw.of rfl (hts _ (nest_in q hq)), ⟨a6, a3, a5, a4⟩, x2, x3⟩
  have hl := lvh.entry [Value.ref b] (n := 9) (Nat.le_of_ble_eq_true rfl)
  rw [show ent [Value.ref b] 9 = [some (.ref b), none, none, none, none, none, none, none, none] from rfl] at hl
  rw [lg_entry_eq]
  refine law_rn (G := (l, (dC, dI), dA, s.heap.size, b, scr)) (n := L) (sv := xs) (sz := s.heap.size) (μ := fun _ => none) x4 hL x5 p e room_1 s m _ below meth c s.heap [] 0 0 _ _ ⟨⟨hx, hb, hml, hown, htg⟩, ⟨hr, hlocks, fun h => absurd h (by decide)⟩, hKn, Nat.le_refl _, by decide, by decide⟩ hl ⟨⟨x1, hbl⟩, fun a c h => by cases h⟩ rfl va_S.rf (by decide) (by decide) ?_
  intro r μ' H' locs' pc' ls' hQ hM' hz' hS' hR
  obtain ⟨v, rfl, rfl⟩ := hQ
  obtain ⟨ty, _, _, hdg⟩ := hR
  refine va_forget (fun q hq => hS'.2.2 q hq) ?_
  exact lw_ret hx hb hr hlocks hdg
