/-! ===== State: what it holds, as one flat row of numbers (the reference's own) ===== -/
theorem upd_ne {f : Nat → Int32} {k j : Nat} {x : Int32} (h : j ≠ k) : upd f k x j = f j := if_neg h
theorem upd_at {f : Nat → Int32} {k j : Nat} {x : Int32} (h : j = k) : upd f k x j = x := if_pos h
/-- a stretch of a row, of n numbers from lo on, is g's -/
def blk (f : Nat → Int32) (lo n : Nat) (g : Nat → Int32) : Nat → Int32 := fun j => if lo ≤ j ∧ j < lo + n then g (j - lo) else f j
theorem blk_out {f g : Nat → Int32} {lo n j : Nat} (h : j < lo ∨ lo + n ≤ j) : blk f lo n g j = f j := if_neg (by omega)
theorem blk_in {f g : Nat → Int32} {lo n j q : Nat} (h : j = lo + q) (hq : q < n) : blk f lo n g j = g q := by
  subst h
  unfold blk
  rw [if_pos ⟨by omega, by omega⟩, Nat.add_sub_cancel_left]
theorem blk_0 {f g : Nat → Int32} {lo : Nat} : blk f lo 0 g = f := funext fun j => if_neg (by omega)
theorem blk_upd {f g : Nat → Int32} {lo n : Nat} : upd (blk f lo n g) (lo + n) (g n) = blk f lo (n + 1) g := by
  funext j
  unfold upd blk
  by_cases h1 : j = lo + n
  · subst h1; rw [if_pos rfl, if_pos (by omega), Nat.add_sub_cancel_left]
  · rw [if_neg h1]
    by_cases h2 : lo ≤ j ∧ j < lo + n
    · rw [if_pos h2, if_pos (by omega)]
    · rw [if_neg h2, if_neg (by omega)]
def FdA (μ : Mm) (a : Nat) (f : Nat → Int32) (h : Nat) : Prop := ∃ g0 g1 g2 g3, FB μ a h (f 3) (f 4) (f 5) g0 g1 g2 g3 ∧ ∀ j, j < h → g0 j = f (21 + 4 * j) ∧ g1 j = f (21 + 4 * j + 1) ∧ g2 j = f (21 + 4 * j + 2) ∧ g3 j = f (21 + 4 * j + 3)
def RdA (μ : Mm) (a : Nat) (f : Nat → Int32) (i : Nat) (live : Prop) : Prop := ∃ pl cp rs vw cv, RA μ a pl cp rs vw cv ∧ (live → pl = f (261 + 27 * i) ∧ cp = f (261 + 27 * i + 1) ∧ rs = f (261 + 27 * i + 2) ∧ (∀ k, k < 12 → vw k = f (261 + 27 * i + 3 + k)) ∧ ∀ k, k < 12 → cv k = f (261 + 27 * i + 15 + k))
def SnA (μ : Mm) (a : Nat) (f : Nat → Int32) (n : Nat) (live : Prop) : Prop := ∃ nu tb, SN μ a nu tb ∧ (live → nu = f (423 + 13 * n) ∧ ∀ k, k < 12 → tb k = f (423 + 13 * n + 1 + k))
def SO (μ : Mm) (a : Nat) (f : Nat → Int32) (rc sc : Nat) : Prop := μ a = some (obj 6 [.int (f 0), .int (f 1), .int (f 2), .int (nI rc), .int (nI sc), .ref (a + 1), .ref (a + 3), .ref (a + 8), .ref (a + 9)])
/-- the rows of references -/
def SX (μ : Mm) (a : Nat) : Prop := (∃ r, μ (a + 8) = some (refs 3 6 r) ∧ ∀ i, i < 6 → r i = some (a + 10 + 5 * i)) ∧ ∃ r, μ (a + 9) = some (refs 4 4 r) ∧ ∀ i, i < 4 → r i = some (a + 40 + 3 * i)
/-- a State at a holds f's: h entries, rc readers, sc snapshots, of which the first lr, ls are as f says -/
def SAg (μ : Mm) (a : Nat) (f : Nat → Int32) (h rc sc lr ls : Nat) : Prop := (h ≤ 60 ∧ rc ≤ 6 ∧ sc ≤ 4) ∧ SO μ a f rc sc ∧ SX μ a ∧ VA μ (a + 1) (fun k => f (9 + k)) ∧ FdA μ (a + 3) f h ∧ (∀ i, i < 6 → RdA μ (a + 10 + 5 * i) f i (i < lr)) ∧ ∀ n, n < 4 → SnA μ (a + 40 + 3 * n) f n (n < ls)
abbrev SA (μ : Mm) (a : Nat) (f : Nat → Int32) (h rc sc : Nat) : Prop := SAg μ a f h rc sc rc sc
section STM
variable {μ μ' : Mm} {a x y : Nat} {f f' : Nat → Int32} {h rc sc lr ls i n : Nat} {live live' : Prop}
theorem FdA.fr (F : FdA μ a f h) (hF : Fr x y μ μ') (hd : a + 5 ≤ x ∨ y ≤ a) : FdA μ' a f h := by
  obtain ⟨g0, g1, g2, g3, q1, q2⟩ := F
  exact ⟨g0, g1, g2, g3, q1.fr hF hd, q2⟩
theorem RdA.fr (F : RdA μ a f i live) (hF : Fr x y μ μ') (hd : a + 5 ≤ x ∨ y ≤ a) : RdA μ' a f i live := by
  obtain ⟨pl, cp, rs, vw, cv, q1, q2⟩ := F
  exact ⟨pl, cp, rs, vw, cv, q1.fr hF hd, q2⟩
theorem SnA.fr (F : SnA μ a f n live) (hF : Fr x y μ μ') (hd : a + 3 ≤ x ∨ y ≤ a) : SnA μ' a f n live := by
  obtain ⟨nu, tb, q1, q2⟩ := F
  exact ⟨nu, tb, q1.fr hF hd, q2⟩
theorem SX.fr (F : SX μ a) (hF : Fr x y μ μ') (hd : a + 10 ≤ x ∨ y ≤ a + 8) : SX μ' a := by
  obtain ⟨⟨r, q1, q2⟩, t, q3, q4⟩ := F
  exact ⟨⟨r, (hF _ (by omega)).trans q1, q2⟩, t, (hF _ (by omega)).trans q3, q4⟩
theorem SO.fr (F : SO μ a f rc sc) (hF : Fr x y μ μ') (hd : a + 1 ≤ x ∨ y ≤ a) : SO μ' a f rc sc := (hF a (by omega)).trans F
theorem FdA.to (F : FdA μ a f h) (e : f 3 = f' 3 ∧ f 4 = f' 4 ∧ f 5 = f' 5) (q : ∀ j, 21 ≤ j → j < 21 + 4 * h → f j = f' j) : FdA μ a f' h := by
  obtain ⟨g0, g1, g2, g3, q1, q2⟩ := F
  rw [e.1, e.2.1, e.2.2] at q1
  exact ⟨g0, g1, g2, g3, q1, fun j hj => by
    rw [← q _ (by omega) (by omega), ← q _ (by omega) (by omega), ← q _ (by omega) (by omega), ← q _ (by omega) (by omega)]
    exact q2 j hj⟩
theorem RdA.to (F : RdA μ a f i live) (hl : live' → live) (q : live' → ∀ j, 261 + 27 * i ≤ j → j < 261 + 27 * i + 27 → f j = f' j) : RdA μ a f' i live' := by
  obtain ⟨pl, cp, rs, vw, cv, q1, q2⟩ := F
  refine ⟨pl, cp, rs, vw, cv, q1, fun hl2 => ?_⟩
  have q := q hl2
  obtain ⟨e1, e2, e3, e4, e5⟩ := q2 (hl hl2)
  exact ⟨e1.trans (q _ (by omega) (by omega)), e2.trans (q _ (by omega) (by omega)), e3.trans (q _ (by omega) (by omega)), fun k hk => (e4 k hk).trans (q _ (by omega) (by omega)), fun k hk => (e5 k hk).trans (q _ (by omega) (by omega))⟩
theorem SnA.to (F : SnA μ a f n live) (hl : live' → live) (q : live' → ∀ j, 423 + 13 * n ≤ j → j < 423 + 13 * n + 13 → f j = f' j) : SnA μ a f' n live' := by
  obtain ⟨nu, tb, q1, q2⟩ := F
  refine ⟨nu, tb, q1, fun hl2 => ?_⟩
  have q := q hl2
  obtain ⟨e1, e2⟩ := q2 (hl hl2)
  exact ⟨e1.trans (q _ (by omega) (by omega)), fun k hk => (e2 k hk).trans (q _ (by omega) (by omega))⟩
theorem SO.to (F : SO μ a f rc sc) (e : f 0 = f' 0 ∧ f 1 = f' 1 ∧ f 2 = f' 2) : SO μ a f' rc sc := by
  unfold SO at F ⊢
  rw [← e.1, ← e.2.1, ← e.2.2]
  exact F
theorem SAg.fr (F : SAg μ a f h rc sc lr ls) (hF : Fr x y μ μ') (hd : a + 52 ≤ x ∨ y ≤ a) : SAg μ' a f h rc sc lr ls := by
  obtain ⟨q0, q1, q2, q3, q4, q5, q6⟩ := F
  exact ⟨q0, q1.fr hF (by omega), q2.fr hF (by omega), q3.fr hF (by omega), q4.fr hF (by omega), fun i hi => (q5 i hi).fr hF (by omega), fun n hn => (q6 n hn).fr hF (by omega)⟩
/-- where two rows are alike for a State of so many entries, readers, snapshots -/
def LE (f f' : Nat → Int32) (h rc sc : Nat) : Prop := ∀ j, j ≠ 6 → j ≠ 7 → j ≠ 8 → (j < 21 + 4 * h ∨ 261 ≤ j ∧ j < 261 + 27 * rc ∨ 423 ≤ j ∧ j < 423 + 13 * sc) → f j = f' j
theorem SA.to (F : SA μ a f h rc sc) (q : LE f f' h rc sc) : SA μ a f' h rc sc := by
  obtain ⟨q0, q1, q2, q3, q4, q5, q6⟩ := F
  exact ⟨q0, q1.to ⟨q _ (by omega) (by omega) (by omega) (by omega), q _ (by omega) (by omega) (by omega) (by omega), q _ (by omega) (by omega) (by omega) (by omega)⟩, q2, q3.to (fun j hj => q _ (by omega) (by omega) (by omega) (by omega)), q4.to ⟨q _ (by omega) (by omega) (by omega) (by omega), q _ (by omega) (by omega) (by omega) (by omega), q _ (by omega) (by omega) (by omega) (by omega)⟩ (fun j h1 h2 => q _ (by omega) (by omega) (by omega) (by omega)), fun i hi => (q5 i hi).to (fun z => z) (fun hl j h1 h2 => q _ (by omega) (by omega) (by omega) (by omega)), fun n hn => (q6 n hn).to (fun z => z) (fun hl j h1 h2 => q _ (by omega) (by omega) (by omega) (by omega))⟩
end STM
section STATE
variable {G : GG} {μ : Mm} {sz : Nat} {a h rc sc lr ls : Nat} {f : Nat → Int32}
theorem eX6_readerAt_y {j : Nat} {i : Int32} (F : SAg μ a f h rc sc lr ls) (hi : i = nI j) (hj : j < rc) : EvA G 0 kX6_readerAt [.ref a, .int i] μ sz 0 0 (rR fun o μ' => o = some (a + 10 + 5 * j) ∧ μ' = μ) := by
  obtain ⟨q0, q1, ⟨⟨r, r1, r2⟩, -⟩, -⟩ := F
  have hO : μ a = _ := q1
  have hj6 : j < 6 := by omega
  refine EvA.of (L := [some (.ref a), some (.int i)]) (by decide +kernel) (Nat.le_of_ble_eq_true rfl) rfl ?_
  subst hi
  refine Rn.iload_n (pc1 := 1)  dX6_readerAt_0 rfl rfl rfl ?_
  refine Rn.if_lt (pc1 := 4) 21 dX6_readerAt_1 rfl (by decide) (fun c1 => ?_) (fun c1 => ?_)
  · exact absurd c1 (nI_nlt (Nat.zero_le _) (by omega))
  · refine Rn.iload_n (pc1 := 5)  dX6_readerAt_4 rfl rfl rfl ?_
    refine Rn.aload_n (pc1 := 6)  dX6_readerAt_5 rfl rfl rfl ?_
    refine Rn.getfield (pc1 := 9)  dX6_readerAt_6 rfl fX6_21 (by first | assumption | exact mset_same | exact mget_ne (by omega) (by assumption)) rfl ?_
    refine Rn.icmp_ge (pc1 := 12) 21 dX6_readerAt_9 rfl (by decide) (fun c9 => ?_) (fun c9 => ?_)
    · exact absurd c9 (nI_ge hj (by omega))
    · refine Rn.iload_n (pc1 := 13)  dX6_readerAt_12 rfl rfl rfl ?_
      refine Rn.aload_n (pc1 := 14)  dX6_readerAt_13 rfl rfl rfl ?_
      refine Rn.getfield (pc1 := 17)  dX6_readerAt_14 rfl fX6_43 (by first | assumption | exact mset_same | exact mget_ne (by omega) (by assumption)) rfl ?_
      refine Rn.alen (pc1 := 18) (v := nI 6)  dX6_readerAt_17 rfl (by first | assumption | exact mset_same | exact mget_ne (by omega) (by assumption)) (fun _ => rfl) rfl ?_
      refine Rn.icmp_lt (pc1 := 21) 25 dX6_readerAt_18 rfl (by decide) (fun c18 => ?_) (fun c18 => ?_)
      · refine Rn.aload_n (pc1 := 26)  dX6_readerAt_25 rfl rfl rfl ?_
        refine Rn.getfield (pc1 := 29)  dX6_readerAt_26 rfl fX6_43 (by first | assumption | exact mset_same | exact mget_ne (by omega) (by assumption)) rfl ?_
        refine Rn.iload_n (pc1 := 30)  dX6_readerAt_29 rfl rfl rfl ?_
        refine Rn.aaload (pc1 := 31)  dX6_readerAt_30 rfl (by assumption) (fun _ => rfl) (vp_nI rfl hj6 (by decide)) rfl ?_
        exact Rn.areturn dX6_readerAt_31 rfl ⟨_, rfl, by rw [nI_clamp (by omega)]; exact r2 j hj6, rfl⟩
      · exact absurd (nI_lt hj6 (by decide)) c18
theorem eX6_readerAt_n {i : Int32} (F : SAg μ a f h rc sc lr ls) (hi : ∀ j, j < rc → i ≠ nI j) : EvA G 0 kX6_readerAt [.ref a, .int i] μ sz 0 0 (rR fun o μ' => o = none ∧ μ' = μ) := by
  obtain ⟨q0, q1, ⟨⟨r, r1, r2⟩, -⟩, -⟩ := F
  have hO : μ a = _ := q1
  refine EvA.of (L := [some (.ref a), some (.int i)]) (by decide +kernel) (Nat.le_of_ble_eq_true rfl) rfl ?_
  refine Rn.iload_n (pc1 := 1)  dX6_readerAt_0 rfl rfl rfl ?_
  refine Rn.if_lt (pc1 := 4) 21 dX6_readerAt_1 rfl (by decide) (fun c1 => ?_) (fun c1 => ?_)
  · refine Rn.null (pc1 := 22)  dX6_readerAt_21 rfl ?_
    refine Rn.goto 31 dX6_readerAt_22 (by decide) ?_
    show Rn G 0 kX6_readerAt 31 _ [va_rf none] _ _ _ _ _
    exact Rn.areturn dX6_readerAt_31 rfl ⟨_, rfl, rfl, rfl⟩
  · refine Rn.iload_n (pc1 := 5)  dX6_readerAt_4 rfl rfl rfl ?_
    refine Rn.aload_n (pc1 := 6)  dX6_readerAt_5 rfl rfl rfl ?_
    refine Rn.getfield (pc1 := 9)  dX6_readerAt_6 rfl fX6_21 (by first | assumption | exact mset_same | exact mget_ne (by omega) (by assumption)) rfl ?_
    refine Rn.icmp_ge (pc1 := 12) 21 dX6_readerAt_9 rfl (by decide) (fun c9 => ?_) (fun c9 => ?_)
    · refine Rn.null (pc1 := 22)  dX6_readerAt_21 rfl ?_
      refine Rn.goto 31 dX6_readerAt_22 (by decide) ?_
      show Rn G 0 kX6_readerAt 31 _ [va_rf none] _ _ _ _ _
      exact Rn.areturn dX6_readerAt_31 rfl ⟨_, rfl, rfl, rfl⟩
    · obtain ⟨j, hj, rfl⟩ := nI_of (x := i) c1
      rw [i32_nle, nI_ltI hj (by omega)] at c9
      exact absurd rfl (hi j c9)
theorem eX6_snapshotAt_y {j : Nat} {i : Int32} (F : SAg μ a f h rc sc lr ls) (hi : i = nI j) (hj : j < sc) : EvA G 0 kX6_snapshotAt [.ref a, .int i] μ sz 0 0 (rR fun o μ' => o = some (a + 40 + 3 * j) ∧ μ' = μ) := by
  obtain ⟨q0, q1, ⟨-, ⟨r, r1, r2⟩⟩, -⟩ := F
  have hO : μ a = _ := q1
  have hj6 : j < 4 := by omega
  refine EvA.of (L := [some (.ref a), some (.int i)]) (by decide +kernel) (Nat.le_of_ble_eq_true rfl) rfl ?_
  subst hi
  refine Rn.iload_n (pc1 := 1)  dX6_snapshotAt_0 rfl rfl rfl ?_
  refine Rn.if_lt (pc1 := 4) 21 dX6_snapshotAt_1 rfl (by decide) (fun c1 => ?_) (fun c1 => ?_)
  · exact absurd c1 (nI_nlt (Nat.zero_le _) (by omega))
  · refine Rn.iload_n (pc1 := 5)  dX6_snapshotAt_4 rfl rfl rfl ?_
    refine Rn.aload_n (pc1 := 6)  dX6_snapshotAt_5 rfl rfl rfl ?_
    refine Rn.getfield (pc1 := 9)  dX6_snapshotAt_6 rfl fX6_24 (by first | assumption | exact mset_same | exact mget_ne (by omega) (by assumption)) rfl ?_
    refine Rn.icmp_ge (pc1 := 12) 21 dX6_snapshotAt_9 rfl (by decide) (fun c9 => ?_) (fun c9 => ?_)
    · exact absurd c9 (nI_ge hj (by omega))
    · refine Rn.iload_n (pc1 := 13)  dX6_snapshotAt_12 rfl rfl rfl ?_
      refine Rn.aload_n (pc1 := 14)  dX6_snapshotAt_13 rfl rfl rfl ?_
      refine Rn.getfield (pc1 := 17)  dX6_snapshotAt_14 rfl fX6_49 (by first | assumption | exact mset_same | exact mget_ne (by omega) (by assumption)) rfl ?_
      refine Rn.alen (pc1 := 18) (v := nI 4)  dX6_snapshotAt_17 rfl (by first | assumption | exact mset_same | exact mget_ne (by omega) (by assumption)) (fun _ => rfl) rfl ?_
      refine Rn.icmp_lt (pc1 := 21) 25 dX6_snapshotAt_18 rfl (by decide) (fun c18 => ?_) (fun c18 => ?_)
      · refine Rn.aload_n (pc1 := 26)  dX6_snapshotAt_25 rfl rfl rfl ?_
        refine Rn.getfield (pc1 := 29)  dX6_snapshotAt_26 rfl fX6_49 (by first | assumption | exact mset_same | exact mget_ne (by omega) (by assumption)) rfl ?_
        refine Rn.iload_n (pc1 := 30)  dX6_snapshotAt_29 rfl rfl rfl ?_
        refine Rn.aaload (pc1 := 31)  dX6_snapshotAt_30 rfl (by assumption) (fun _ => rfl) (vp_nI rfl hj6 (by decide)) rfl ?_
        exact Rn.areturn dX6_snapshotAt_31 rfl ⟨_, rfl, by rw [nI_clamp (by omega)]; exact r2 j hj6, rfl⟩
      · exact absurd (nI_lt hj6 (by decide)) c18
theorem eX6_snapshotAt_n {i : Int32} (F : SAg μ a f h rc sc lr ls) (hi : ∀ j, j < sc → i ≠ nI j) : EvA G 0 kX6_snapshotAt [.ref a, .int i] μ sz 0 0 (rR fun o μ' => o = none ∧ μ' = μ) := by
  obtain ⟨q0, q1, ⟨-, ⟨r, r1, r2⟩⟩, -⟩ := F
  have hO : μ a = _ := q1
  refine EvA.of (L := [some (.ref a), some (.int i)]) (by decide +kernel) (Nat.le_of_ble_eq_true rfl) rfl ?_
  refine Rn.iload_n (pc1 := 1)  dX6_snapshotAt_0 rfl rfl rfl ?_
  refine Rn.if_lt (pc1 := 4) 21 dX6_snapshotAt_1 rfl (by decide) (fun c1 => ?_) (fun c1 => ?_)
  · refine Rn.null (pc1 := 22)  dX6_snapshotAt_21 rfl ?_
    refine Rn.goto 31 dX6_snapshotAt_22 (by decide) ?_
    show Rn G 0 kX6_snapshotAt 31 _ [va_rf none] _ _ _ _ _
    exact Rn.areturn dX6_snapshotAt_31 rfl ⟨_, rfl, rfl, rfl⟩
  · refine Rn.iload_n (pc1 := 5)  dX6_snapshotAt_4 rfl rfl rfl ?_
    refine Rn.aload_n (pc1 := 6)  dX6_snapshotAt_5 rfl rfl rfl ?_
    refine Rn.getfield (pc1 := 9)  dX6_snapshotAt_6 rfl fX6_24 (by first | assumption | exact mset_same | exact mget_ne (by omega) (by assumption)) rfl ?_
    refine Rn.icmp_ge (pc1 := 12) 21 dX6_snapshotAt_9 rfl (by decide) (fun c9 => ?_) (fun c9 => ?_)
    · refine Rn.null (pc1 := 22)  dX6_snapshotAt_21 rfl ?_
      refine Rn.goto 31 dX6_snapshotAt_22 (by decide) ?_
      show Rn G 0 kX6_snapshotAt 31 _ [va_rf none] _ _ _ _ _
      exact Rn.areturn dX6_snapshotAt_31 rfl ⟨_, rfl, rfl, rfl⟩
    · obtain ⟨j, hj, rfl⟩ := nI_of (x := i) c1
      rw [i32_nle, nI_ltI hj (by omega)] at c9
      exact absurd rfl (hi j c9)
theorem eX6_copySnapshot {x y : Nat} {n n' : Int32} {tb tb' : Nat → Int32} (K : SN μ x n' tb') (F : SN μ y n tb) (hd : y + 3 ≤ x ∨ x + 3 ≤ y) : EvA G 3 kX6_copySnapshot [.ref x, .ref y] μ sz 0 0 (rV fun μ' => SN μ' y n' tb' ∧ Fr y (y + 3) μ μ') := by
  have hO := F.1
  have kO := K.1
  refine EvA.of (L := [some (.ref x), some (.ref y)]) (by decide +kernel) (Nat.le_of_ble_eq_true rfl) rfl ?_
  refine Rn.aload_n (pc1 := 1)  dX6_copySnapshot_0 rfl rfl rfl ?_
  refine Rn.ifnull (pc1 := 4) dX6_copySnapshot_1 rfl ?_
  refine Rn.aload_n (pc1 := 5)  dX6_copySnapshot_4 rfl rfl rfl ?_
  refine Rn.ifnull (pc1 := 8) dX6_copySnapshot_5 rfl ?_
  refine Rn.aload_n (pc1 := 9)  dX6_copySnapshot_8 rfl rfl rfl ?_
  refine Rn.aload_n (pc1 := 10)  dX6_copySnapshot_9 rfl rfl rfl ?_
  refine Rn.cV_v (pc1 := 13) (eX5_copyFrom F K hd) dX6_copySnapshot_10 rfl qX6_77 oX5_copyFrom (by first | assumption | exact mset_same | exact mget_ne (by omega) (by assumption)) rfl rfl rfl rfl (Nat.le_of_ble_eq_true rfl) (by decide) (by decide) (fun μ10 h10 => ?_)
  obtain ⟨W1, w1⟩ := h10
  exact Rn.vreturn dX6_copySnapshot_13 rfl ⟨rfl, W1, w1⟩
/-- the loop over the snapshots of copyFrom -/
theorem lX6_copyFrom2 {b h' rc' sc' : Nat} {f' : Nat → Int32} {μ0 : Mm} (K : SA μ0 b f' h' rc' sc') (hd : a + 52 ≤ b ∨ b + 52 ≤ a) {o3 o4 : Option Value} : ∀ (m i : Nat), i + m = sc' → ∀ (μ1 : Mm), SAg μ1 a f' h' rc' sc' rc' i → Fr a (a + 52) μ0 μ1 → Rn G 4 kX6_copyFrom 108 [some (.ref a), some (.ref b), some (.int (nI i)), o3, o4] [] μ1 sz 0 0 (rV fun μ' => SA μ' a f' h' rc' sc' ∧ Fr a (a + 52) μ0 μ') := by
  intro m
  induction m with
  | zero =>
    intro i hi μ1 F1 q1
    obtain rfl : i = sc' := by omega
    obtain ⟨w0, w1, -⟩ := id F1
    have hO : μ1 a = _ := w1
    refine Rn.iload_n (pc1 := 109)  dX6_copyFrom_108 rfl rfl rfl ?_
    refine Rn.aload_n (pc1 := 110)  dX6_copyFrom_109 rfl rfl rfl ?_
    refine Rn.getfield (pc1 := 113)  dX6_copyFrom_110 rfl fX6_24 (by first | assumption | exact mset_same | exact mget_ne (by omega) (by assumption)) rfl ?_
    refine Rn.icmp_ge (pc1 := 116) 135 dX6_copyFrom_113 rfl (by decide) (fun c113 => ?_) (fun c113 => ?_)
    · exact Rn.vreturn dX6_copyFrom_135 rfl ⟨rfl, F1, q1⟩
    · exact absurd (nI_le (Nat.le_refl _) (by omega)) c113
  | succ m ih =>
    intro i hi μ1 F1 q1
    have K1 := K.fr q1 (by omega)
    obtain ⟨w0, w1, w2, w3, w4, w5, w6⟩ := id F1
    obtain ⟨v0, v1, v2, v3, v4, v5, v6⟩ := id K1
    have hO : μ1 a = _ := w1
    have kO : μ1 b = _ := v1
    obtain ⟨nu, tb, s1, s2⟩ := w6 i (by omega)
    obtain ⟨nu', tb', s1', s2'⟩ := v6 i (by omega)
    refine Rn.iload_n (pc1 := 109)  dX6_copyFrom_108 rfl rfl rfl ?_
    refine Rn.aload_n (pc1 := 110)  dX6_copyFrom_109 rfl rfl rfl ?_
    refine Rn.getfield (pc1 := 113)  dX6_copyFrom_110 rfl fX6_24 (by first | assumption | exact mset_same | exact mget_ne (by omega) (by assumption)) rfl ?_
    refine Rn.icmp_ge (pc1 := 116) 135 dX6_copyFrom_113 rfl (by decide) (fun c113 => ?_) (fun c113 => ?_)
    · exact absurd c113 (nI_ge (by omega) (by omega))
    · refine Rn.aload_n (pc1 := 117)  dX6_copyFrom_116 rfl rfl rfl ?_
      refine Rn.iload_n (pc1 := 118)  dX6_copyFrom_117 rfl rfl rfl ?_
      refine Rn.cV_r (pc1 := 121) (eX6_snapshotAt_y K1 rfl (show i < sc' by omega)) dX6_copyFrom_118 rfl qX6_69 oX6_snapshotAt (by first | assumption | exact mset_same | exact mget_ne (by omega) (by assumption)) rfl rfl rfl rfl (Nat.le_of_ble_eq_true rfl) (by decide) (by decide) (fun v118 μ118 h118 => ?_)
      obtain ⟨rfl, rfl⟩ := h118
      refine Rn.aload_n (pc1 := 122)  dX6_copyFrom_121 rfl rfl rfl ?_
      refine Rn.iload_n (pc1 := 123)  dX6_copyFrom_122 rfl rfl rfl ?_
      refine Rn.cV_r (pc1 := 126) (eX6_snapshotAt_y F1 rfl (show i < sc' by omega)) dX6_copyFrom_123 rfl qX6_69 oX6_snapshotAt (by first | assumption | exact mset_same | exact mget_ne (by omega) (by assumption)) rfl rfl rfl rfl (Nat.le_of_ble_eq_true rfl) (by decide) (by decide) (fun v123 μ123 h123 => ?_)
      obtain ⟨rfl, rfl⟩ := h123
      refine Rn.cS_v (pc1 := 129) (eX6_copySnapshot s1' s1 (by omega)) dX6_copyFrom_126 rfl qX6_73 oX6_copySnapshot rfl rfl (Nat.le_of_ble_eq_true rfl) (by decide) (by decide) (fun μ126 h126 => ?_)
      obtain ⟨W1, z1⟩ := h126
      refine Rn.iinc (pc1 := 132)  dX6_copyFrom_129 rfl rfl (nI_1 i) (by decide) rfl rfl ?_
      refine Rn.goto 108 dX6_copyFrom_132 (by decide) ?_
      refine ih (i + 1) (by omega) _ ⟨w0, w1.fr z1 (by omega), w2.fr z1 (by omega), w3.fr z1 (by omega), w4.fr z1 (by omega), fun k hk => (w5 k hk).fr z1 (by omega), fun k hk => ?_⟩ (q1.trans (z1.wide (by omega) (by omega)))
      by_cases e : k = i
      · subst e
        exact ⟨nu', tb', W1, fun _ => s2' (by omega)⟩
      · exact ((w6 k hk).fr z1 (by omega)).to (fun z => by omega) (fun _ _ _ _ => rfl)
/-- the loop over the readers -/
theorem lX6_copyFrom1 {b h' rc' sc' : Nat} {f' : Nat → Int32} {μ0 : Mm} (K : SA μ0 b f' h' rc' sc') (hd : a + 52 ≤ b ∨ b + 52 ≤ a) : ∀ (m i : Nat), i + m = rc' → ∀ (o3 o4 : Option Value) (μ1 : Mm), SAg μ1 a f' h' rc' sc' i 0 → Fr a (a + 52) μ0 μ1 → Rn G 4 kX6_copyFrom 64 [some (.ref a), some (.ref b), some (.int (nI i)), o3, o4] [] μ1 sz 0 0 (rV fun μ' => SA μ' a f' h' rc' sc' ∧ Fr a (a + 52) μ0 μ') := by
  intro m
  induction m with
  | zero =>
    intro i hi o3 o4 μ1 F1 q1
    obtain rfl : i = rc' := by omega
    obtain ⟨w0, w1, -⟩ := id F1
    have hO : μ1 a = _ := w1
    refine Rn.iload_n (pc1 := 65)  dX6_copyFrom_64 rfl rfl rfl ?_
    refine Rn.aload_n (pc1 := 66)  dX6_copyFrom_65 rfl rfl rfl ?_
    refine Rn.getfield (pc1 := 69)  dX6_copyFrom_66 rfl fX6_21 (by first | assumption | exact mset_same | exact mget_ne (by omega) (by assumption)) rfl ?_
    refine Rn.icmp_ge (pc1 := 72) 106 dX6_copyFrom_69 rfl (by decide) (fun c69 => ?_) (fun c69 => ?_)
    · refine Rn.iconst (pc1 := 107) (v := nI 0) dX6_copyFrom_106 rfl (by decide) ?_
      refine Rn.istore_n (pc1 := 108)  dX6_copyFrom_107 rfl rfl (by decide) rfl rfl ?_
      exact lX6_copyFrom2 K hd sc' 0 (by omega) _ F1 q1
    · exact absurd (nI_le (Nat.le_refl _) (by omega)) c69
  | succ m ih =>
    intro i hi o3 o4 μ1 F1 q1
    have K1 := K.fr q1 (by omega)
    obtain ⟨w0, w1, w2, w3, w4, w5, w6⟩ := id F1
    obtain ⟨v0, v1, v2, v3, v4, v5, v6⟩ := id K1
    have hO : μ1 a = _ := w1
    have kO : μ1 b = _ := v1
    obtain ⟨pl, cp, rs, vw, cv, s1, s2⟩ := w5 i (by omega)
    obtain ⟨pl', cp', rs', vw', cv', s1', s2'⟩ := v5 i (by omega)
    have sO := s1.1
    refine Rn.iload_n (pc1 := 65)  dX6_copyFrom_64 rfl rfl rfl ?_
    refine Rn.aload_n (pc1 := 66)  dX6_copyFrom_65 rfl rfl rfl ?_
    refine Rn.getfield (pc1 := 69)  dX6_copyFrom_66 rfl fX6_21 (by first | assumption | exact mset_same | exact mget_ne (by omega) (by assumption)) rfl ?_
    refine Rn.icmp_ge (pc1 := 72) 106 dX6_copyFrom_69 rfl (by decide) (fun c69 => ?_) (fun c69 => ?_)
    · exact absurd c69 (nI_ge (by omega) (by omega))
    · refine Rn.aload_n (pc1 := 73)  dX6_copyFrom_72 rfl rfl rfl ?_
      refine Rn.iload_n (pc1 := 74)  dX6_copyFrom_73 rfl rfl rfl ?_
      refine Rn.cV_r (pc1 := 77) (eX6_readerAt_y F1 rfl (show i < rc' by omega)) dX6_copyFrom_74 rfl qX6_62 oX6_readerAt (by first | assumption | exact mset_same | exact mget_ne (by omega) (by assumption)) rfl rfl rfl rfl (Nat.le_of_ble_eq_true rfl) (by decide) (by decide) (fun v74 μ74 h74 => ?_)
      obtain ⟨rfl, rfl⟩ := h74
      refine Rn.astore_n (pc1 := 78) (x := a + 10 + 5 * i)  dX6_copyFrom_77 rfl rfl (by decide) rfl rfl ?_
      refine Rn.aload_n (pc1 := 79)  dX6_copyFrom_78 rfl rfl rfl ?_
      refine Rn.iload_n (pc1 := 80)  dX6_copyFrom_79 rfl rfl rfl ?_
      refine Rn.cV_r (pc1 := 83) (eX6_readerAt_y K1 rfl (show i < rc' by omega)) dX6_copyFrom_80 rfl qX6_62 oX6_readerAt (by first | assumption | exact mset_same | exact mget_ne (by omega) (by assumption)) rfl rfl rfl rfl (Nat.le_of_ble_eq_true rfl) (by decide) (by decide) (fun v80 μ80 h80 => ?_)
      obtain ⟨rfl, rfl⟩ := h80
      refine Rn.astore (pc1 := 85) (x := b + 10 + 5 * i)  dX6_copyFrom_83 rfl (by decide) rfl rfl ?_
      refine Rn.aload_n (pc1 := 86)  dX6_copyFrom_85 rfl rfl rfl ?_
      refine Rn.ifnull (pc1 := 89) dX6_copyFrom_86 rfl ?_
      refine Rn.aload (pc1 := 91)  dX6_copyFrom_89 rfl rfl ?_
      refine Rn.ifnull (pc1 := 94) dX6_copyFrom_91 rfl ?_
      refine Rn.aload_n (pc1 := 95)  dX6_copyFrom_94 rfl rfl rfl ?_
      refine Rn.aload (pc1 := 97)  dX6_copyFrom_95 rfl rfl ?_
      refine Rn.cV_v (pc1 := 100) (eX3_copyFrom s1 s1' (by omega)) dX6_copyFrom_97 rfl qX6_66 oX3_copyFrom (by first | assumption | exact mset_same | exact mget_ne (by omega) (by assumption)) rfl rfl rfl rfl (Nat.le_of_ble_eq_true rfl) (by decide) (by decide) (fun μ97 h97 => ?_)
      obtain ⟨W1, z1⟩ := h97
      refine Rn.iinc (pc1 := 103)  dX6_copyFrom_100 rfl rfl (nI_1 i) (by decide) rfl rfl ?_
      refine Rn.goto 64 dX6_copyFrom_103 (by decide) ?_
      refine ih (i + 1) (by omega) _ _ _ ⟨w0, w1.fr z1 (by omega), w2.fr z1 (by omega), w3.fr z1 (by omega), w4.fr z1 (by omega), fun k hk => ?_, fun k hk => (w6 k hk).fr z1 (by omega)⟩ (q1.trans (z1.wide (by omega) (by omega)))
      by_cases e : k = i
      · subst e
        exact ⟨pl', cp', rs', vw', cv', W1, fun _ => s2' (by omega)⟩
      · exact ((w5 k hk).fr z1 (by omega)).to (fun z => by omega) (fun _ _ _ _ => rfl)
theorem eX6_copyFrom {b h' rc' sc' : Nat} {f' : Nat → Int32} (F : SAg μ a f h rc sc lr ls) (K : SA μ b f' h' rc' sc') (hd : a + 52 ≤ b ∨ b + 52 ≤ a) : EvA G 4 kX6_copyFrom [.ref a, .ref b] μ sz 0 0 (rV fun μ' => SA μ' a f' h' rc' sc' ∧ Fr a (a + 52) μ μ') := by
  obtain ⟨w0, w1, w2, w3, w4, w5, w6⟩ := id F
  obtain ⟨v0, v1, v2, v3, v4, v5, v6⟩ := id K
  have hO : μ a = _ := w1
  have kO : μ b = _ := v1
  have vO := w3.1
  obtain ⟨g0, g1, g2, g3, fd1, fd2⟩ := w4
  obtain ⟨k0, k1, k2, k3, kd1, kd2⟩ := v4
  have fO := fd1.1
  refine EvA.of (L := [some (.ref a), some (.ref b), none, none, none]) (by decide +kernel) (Nat.le_of_ble_eq_true rfl) rfl ?_
  refine Rn.aload_n (pc1 := 1)  dX6_copyFrom_0 rfl rfl rfl ?_
  refine Rn.aload_n (pc1 := 2)  dX6_copyFrom_1 rfl rfl rfl ?_
  refine Rn.getfield (pc1 := 5)  dX6_copyFrom_2 rfl fX6_9 (by first | assumption | exact mset_same | exact mget_ne (by omega) (by assumption)) rfl ?_
  refine Rn.putfield (pc1 := 8)  dX6_copyFrom_5 rfl pX6_9 (fun h => Bool.noConfusion h) (by first | assumption | exact mset_same | exact mget_ne (by omega) (by assumption)) (Nat.le_of_ble_eq_true rfl) rfl rfl rfl ?_
  refine Rn.aload_n (pc1 := 9)  dX6_copyFrom_8 rfl rfl rfl ?_
  refine Rn.aload_n (pc1 := 10)  dX6_copyFrom_9 rfl rfl rfl ?_
  refine Rn.getfield (pc1 := 13)  dX6_copyFrom_10 rfl fX6_15 (by first | assumption | exact mset_same | exact mget_ne (by omega) (by assumption)) rfl ?_
  refine Rn.putfield (pc1 := 16)  dX6_copyFrom_13 rfl pX6_15 (fun h => Bool.noConfusion h) (by first | assumption | exact mset_same | exact mget_ne (by omega) (by assumption)) (Nat.le_of_ble_eq_true rfl) rfl rfl rfl ?_
  rw [mset_mset]
  refine Rn.aload_n (pc1 := 17)  dX6_copyFrom_16 rfl rfl rfl ?_
  refine Rn.aload_n (pc1 := 18)  dX6_copyFrom_17 rfl rfl rfl ?_
  refine Rn.getfield (pc1 := 21)  dX6_copyFrom_18 rfl fX6_18 (by first | assumption | exact mset_same | exact mget_ne (by omega) (by assumption)) rfl ?_
  refine Rn.putfield (pc1 := 24)  dX6_copyFrom_21 rfl pX6_18 (fun h => Bool.noConfusion h) (by first | assumption | exact mset_same | exact mget_ne (by omega) (by assumption)) (Nat.le_of_ble_eq_true rfl) rfl rfl rfl ?_
  rw [mset_mset]
  refine Rn.aload_n (pc1 := 25)  dX6_copyFrom_24 rfl rfl rfl ?_
  refine Rn.aload_n (pc1 := 26)  dX6_copyFrom_25 rfl rfl rfl ?_
  refine Rn.getfield (pc1 := 29)  dX6_copyFrom_26 rfl fX6_21 (by first | assumption | exact mset_same | exact mget_ne (by omega) (by assumption)) rfl ?_
  refine Rn.putfield (pc1 := 32)  dX6_copyFrom_29 rfl pX6_21 (fun h => Bool.noConfusion h) (by first | assumption | exact mset_same | exact mget_ne (by omega) (by assumption)) (Nat.le_of_ble_eq_true rfl) rfl rfl rfl ?_
  rw [mset_mset]
  refine Rn.aload_n (pc1 := 33)  dX6_copyFrom_32 rfl rfl rfl ?_
  refine Rn.aload_n (pc1 := 34)  dX6_copyFrom_33 rfl rfl rfl ?_
  refine Rn.getfield (pc1 := 37)  dX6_copyFrom_34 rfl fX6_24 (by first | assumption | exact mset_same | exact mget_ne (by omega) (by assumption)) rfl ?_
  refine Rn.putfield (pc1 := 40)  dX6_copyFrom_37 rfl pX6_24 (fun h => Bool.noConfusion h) (by first | assumption | exact mset_same | exact mget_ne (by omega) (by assumption)) (Nat.le_of_ble_eq_true rfl) rfl rfl rfl ?_
  rw [mset_mset]
  refine Rn.aload_n (pc1 := 41)  dX6_copyFrom_40 rfl rfl rfl ?_
  have s1 : SO (mset μ a (obj 6 [.int (f' 0), .int (f' 1), .int (f' 2), .int (nI rc'), .int (nI sc'), .ref (a + 1), .ref (a + 3), .ref (a + 8), .ref (a + 9)])) a f' rc' sc' := mset_same
  have z1 : Fr a (a + 1) μ (mset μ a (obj 6 [.int (f' 0), .int (f' 1), .int (f' 2), .int (nI rc'), .int (nI sc'), .ref (a + 1), .ref (a + 3), .ref (a + 8), .ref (a + 9)])) := Fr.set (by omega) (by omega)
  show Rn G 4 kX6_copyFrom 41 _ _ (mset μ a (obj 6 [.int (f' 0), .int (f' 1), .int (f' 2), .int (nI rc'), .int (nI sc'), .ref (a + 1), .ref (a + 3), .ref (a + 8), .ref (a + 9)])) _ _ _ _
  generalize (mset μ a (obj 6 [.int (f' 0), .int (f' 1), .int (f' 2), .int (nI rc'), .int (nI sc'), .ref (a + 1), .ref (a + 3), .ref (a + 8), .ref (a + 9)])) = μ1 at s1 z1 ⊢
  have hO1 : μ1 a = _ := s1
  have kO1 : μ1 b = _ := v1.fr z1 (by omega)
  have V1 := w3.fr z1 (by omega)
  have V2 := v3.fr z1 (by omega)
  have vO1 := V1.1
  refine Rn.getfield (pc1 := 44)  dX6_copyFrom_41 rfl fX6_30 (by first | assumption | exact mset_same | exact mget_ne (by omega) (by assumption)) rfl ?_
  refine Rn.aload_n (pc1 := 45)  dX6_copyFrom_44 rfl rfl rfl ?_
  refine Rn.getfield (pc1 := 48)  dX6_copyFrom_45 rfl fX6_30 (by first | assumption | exact mset_same | exact mget_ne (by omega) (by assumption)) rfl ?_
  refine Rn.cV_v (pc1 := 51) (eX7_copyFrom V1 V2 (by omega)) dX6_copyFrom_48 rfl qX6_55 oX7_copyFrom (by first | assumption | exact mset_same | exact mget_ne (by omega) (by assumption)) rfl rfl rfl rfl (Nat.le_of_ble_eq_true rfl) (by decide) (by decide) (fun μ48 h48 => ?_)
  obtain ⟨W1, z2⟩ := h48
  have hO2 := (z2 a (by omega)).trans hO1
  have kO2 := (z2 b (by omega)).trans kO1
  have z12 := (z1.wide (a' := a) (b' := a + 3) (by omega) (by omega)).trans (z2.wide (by omega) (by omega))
  have D1 := fd1.fr z12 (by omega)
  have D2 := kd1.fr z12 (by omega)
  have fO1 := D1.1
  refine Rn.aload_n (pc1 := 52)  dX6_copyFrom_51 rfl rfl rfl ?_
  refine Rn.getfield (pc1 := 55)  dX6_copyFrom_52 rfl fX6_37 (by first | assumption | exact mset_same | exact mget_ne (by omega) (by assumption)) rfl ?_
  refine Rn.aload_n (pc1 := 56)  dX6_copyFrom_55 rfl rfl rfl ?_
  refine Rn.getfield (pc1 := 59)  dX6_copyFrom_56 rfl fX6_37 (by first | assumption | exact mset_same | exact mget_ne (by omega) (by assumption)) rfl ?_
  refine Rn.cV_v (pc1 := 62) (eX0_copyFrom D1 D2 (by omega)) dX6_copyFrom_59 rfl qX6_59 oX0_copyFrom (by first | assumption | exact mset_same | exact mget_ne (by omega) (by assumption)) rfl rfl rfl rfl (Nat.le_of_ble_eq_true rfl) (by decide) (by decide) (fun μ59 h59 => ?_)
  obtain ⟨W2, z3⟩ := h59
  have z13 := (z12.wide (a' := a) (b' := a + 10) (by omega) (by omega)).trans (z3.wide (by omega) (by omega))
  refine Rn.iconst (pc1 := 63) (v := nI 0) dX6_copyFrom_62 rfl (by decide) ?_
  refine Rn.istore_n (pc1 := 64)  dX6_copyFrom_63 rfl rfl (by decide) rfl rfl ?_
  refine lX6_copyFrom1 K hd rc' 0 (by omega) _ _ _ ⟨v0, (s1.fr z2 (by omega)).fr z3 (by omega), (w2.fr z12 (by omega)).fr z3 (by omega), W1.fr z3 (by omega), ⟨_, _, _, _, W2, fun j hj => ?_⟩, fun i hi => ?_, fun n hn => ?_⟩ (z13.wide (by omega) (by omega))
  · rw [cpy_lt (by omega), cpy_lt (by omega), cpy_lt (by omega), cpy_lt (by omega)]
    exact kd2 j hj
  · exact ((w5 i hi).fr z13 (by omega)).to (fun z => by omega) (fun z => by omega)
  · exact ((w6 n hn).fr z13 (by omega)).to (fun z => by omega) (fun z => by omega)
end STATE
