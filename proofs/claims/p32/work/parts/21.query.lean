/-! ===== ChangeFeed's questions ===== -/
theorem inB_f {v : Int32} {n : Nat} (hn : n < 2 ^ 31) (h : inB v (nI 0) (nI n) = false) : v.toInt < 0 ∨ (n : Int) < v.toInt := by
  by_cases q : v.toInt < 0
  · exact Or.inl q
  · right
    by_cases q2 : (n : Int) < v.toInt
    · exact q2
    · exfalso
      rw [inB_t (by rw [Int32.lt_iff_toInt_lt, nI_toInt (by decide)]; omega) (by rw [Int32.lt_iff_toInt_lt, nI_toInt hn]; omega)] at h
      cases h
def tableQ (f : Nat → Int32) (k : Int32) : Int32 := if inB k (nI 0) (nI 11) = true then f (9 + k.toNatClampNeg) else -1
def viewQ (f : Nat → Int32) (rc : Nat) (r k : Int32) : Int32 := if isRdB rc r = true ∧ inB k (nI 0) (nI 11) = true then f (261 + 27 * r.toNatClampNeg + 3 + k.toNatClampNeg) else -1
def entryW (f : Nat → Int32) (h e w : Nat) : Int32 := if w < 4 then f (21 + 4 * e + w) else if w = 4 then bI (lastB (e1 f) e h) else bI (closB (e0 f e) (f 3) (f 0))
def entryQ (f : Nat → Int32) (h : Nat) (e w : Int32) : Int32 := if isRdB h e = true then (if inB w (nI 0) (nI 5) = true then entryW f h e.toNatClampNeg w.toNatClampNeg else -2) else -1
def ofRdW (f : Nat → Int32) (h i w : Nat) : Int32 := match w with
  | 0 => f (261 + 27 * i)
  | 1 => f (261 + 27 * i + 1)
  | 2 => nI (cntA f (f (261 + 27 * i)) h)
  | 3 => bI (lateB (f (261 + 27 * i)) (f 4))
  | 4 => f (261 + 27 * i + 2)
  | 5 => difN (fun k => f (261 + 27 * i + 3 + k)) (fun k => f (9 + k)) 12
  | _ => difN (fun k => f (261 + 27 * i + 15 + k)) (fun k => f (9 + k)) 12
def ofReaderQ (f : Nat → Int32) (h rc : Nat) (r w : Int32) : Int32 := if isRdB rc r = true then (if inB w (nI 0) (nI 6) = true then ofRdW f h r.toNatClampNeg w.toNatClampNeg else -2) else -1
def ofSnW (f : Nat → Int32) (h n w : Nat) : Int32 := match w with
  | 0 => f (423 + 13 * n)
  | 1 => nI (cntN (fun k => f (423 + 13 * n + 1 + k)) 12)
  | _ => nI (cntA f (f (423 + 13 * n)) h)
def ofSnapshotQ (f : Nat → Int32) (h sc : Nat) (s w : Int32) : Int32 := if isRdB sc s = true then (if inB w (nI 0) (nI 2) = true then ofSnW f h s.toNatClampNeg w.toNatClampNeg else -2) else -1
def countW (f : Nat → Int32) (len held w : Nat) : Int32 := match w with
  | 0 => f 6
  | 1 => f 3
  | 2 => nI (cntN (fun k => f (9 + k)) 12)
  | 3 => f 2
  | 4 => f 4
  | 5 => f 5
  | 6 => f 7
  | 7 => lateN f (f 4) (rF f)
  | 8 => f 8
  | 9 => f 0
  | 10 => f 1
  | 11 => nI len
  | _ => nI held
def countQ (f : Nat → Int32) (len held : Nat) (w : Int32) : Int32 := if inB w (nI 0) (nI 12) = true then countW f len held w.toNatClampNeg else -2
def leftInQ (f : Nat → Int32) (m : Int32) : Int32 := if inB m (nI 0) (nI 999) = true then nI (leftF f (hF f) (f 0) (f 2 + m)) else -2
def lateInQ (f : Nat → Int32) (m : Int32) : Int32 := if inB m (nI 0) (nI 999) = true then lateN f (floorF f (hF f) (f 0) (f 2 + m)) (rF f) else -2
def shortestQ (f : Nat → Int32) (h rc sc : Nat) (r w : Int32) : Int32 := if isRdB rc r = true then (if inB w (nI 0) (nI 1) = true then (if w = nI 0 then nI (shN f h sc r.toNatClampNeg 5).1 else (shN f h sc r.toNatClampNeg 5).2) else -2) else -1
section SQ
variable {G : GG} {μ : Mm} {sz : Nat} {a h rc sc : Nat} {f : Nat → Int32}
theorem eS_left {s mi : Int32} (F : SA μ a f h rc sc) (hs : nI 1 ≤ s) : EvA G 3 kX0_leftAfterThinning [.ref (a + 3), .int s, .int (f 1), .int mi] μ sz 0 0 (rI fun v μ' => v = nI (leftF f h s mi) ∧ μ' = μ) := by
  obtain ⟨g0, g1, g2, g3, fd1, fd2⟩ := F.2.2.2.2.1
  refine (eX0_leftAfterThinning fd1 F.1.1 hs).imp ?_
  rintro r μ' ⟨v, rfl, rfl, rfl⟩
  exact ⟨_, rfl, by rw [leftN_congr (FdA.pF (B := 0) (f := f) (s := s) (mi := mi) fd2)]; rfl, rfl⟩
theorem eS_floor {s mi : Int32} (F : SA μ a f h rc sc) (hs : nI 1 ≤ s) : EvA G 3 kX0_floorAfterThinning [.ref (a + 3), .int s, .int (f 1), .int mi] μ sz 0 0 (rI fun v μ' => v = floorF f h s mi ∧ μ' = μ) := by
  obtain ⟨g0, g1, g2, g3, fd1, fd2⟩ := F.2.2.2.2.1
  refine (eX0_floorAfterThinning fd1 F.1.1 hs).imp ?_
  rintro r μ' ⟨v, rfl, rfl, rfl⟩
  exact ⟨_, rfl, floorN_congr (fun i hi => ⟨FdA.pF (B := 0) (f := f) (s := s) (mi := mi) fd2 i hi, lastB_congr (fun j _ h2 => (fd2 j h2).2.1) hi, (fd2 i hi).1⟩), rfl⟩
theorem SA.fO (F : SA μ a f h rc sc) : ∃ r1 r2 r3 r4, μ (a + 3) = some (obj 0 [.ref r1, .ref r2, .ref r3, .ref r4, .int (nI h), .int (f 3), .int (f 4), .int (f 5)]) := by
  obtain ⟨g0, g1, g2, g3, fd1, fd2⟩ := F.2.2.2.2.1
  exact ⟨_, _, _, _, fd1.1⟩
end SQ
section CQ
variable {G : GG} {μ : Mm} {sz x held len B : Nat} {f : Nat → Int32} {P : Nat → Nat → Int32} {Pp : Nat → Int32} {u : Nat → Bool} {S : Nat → Nat → Int32}
theorem eX8_table {k : Int32} (C : CW μ x f held P Pp len u S B) : EvA G 6 kX8_table [.ref x, .int k] μ sz 0 0 (rI fun v μ' => v = tableQ f k ∧ μ' = μ) := by
  have hO := C.1
  obtain ⟨h, rc, sc, A, I⟩ := C.2.1
  have nO : _ = _ := A.2.1
  have vO := A.2.2.2.1.1
  refine EvA.of (L := [some (.ref x), some (.int k)]) (by decide +kernel) (Nat.le_of_ble_eq_true rfl) rfl ?_
  refine Rn.iload_n (pc1 := 1)  dX8_table_0 rfl rfl rfl ?_
  refine Rn.cS_i (pc1 := 4) (eX8_isKey) dX8_table_1 rfl qX8_83 oX8_isKey rfl rfl (Nat.le_of_ble_eq_true rfl) (by decide) (by decide) (fun v1 μ1 h1 => ?_)
  obtain ⟨rfl, rfl⟩ := h1
  refine Rn.if_eq (pc1 := 7) 21 dX8_table_4 rfl (by decide) (fun c4 => ?_) (fun c4 => ?_)
  · have e : tableQ f k = -1 := if_neg (by rw [bI_0 c4]; decide)
    rw [e]
    refine Rn.iconst (pc1 := 22) (v := (-1)) dX8_table_21 rfl (by decide) ?_
    exact Rn.ireturn dX8_table_22 rfl rfl ⟨_, rfl, rfl, rfl⟩
  · obtain ⟨j, hj, rfl⟩ := inB_nI (by decide) (bI_n c4)
    have e : tableQ f (nI j) = f (9 + j) := by unfold tableQ; rw [if_pos (bI_n c4), nI_clamp (by omega)]
    rw [e]
    refine Rn.aload_n (pc1 := 8)  dX8_table_7 rfl rfl rfl ?_
    refine Rn.getfield (pc1 := 11)  dX8_table_8 rfl fX8_10 (by first | assumption | exact mset_same | exact mget_ne (by omega) (by assumption)) rfl ?_
    refine Rn.getfield (pc1 := 14)  dX8_table_11 rfl fX8_87 (by first | assumption | exact mset_same | exact mget_ne (by omega) (by assumption)) rfl ?_
    refine Rn.iload_n (pc1 := 15)  dX8_table_14 rfl rfl rfl ?_
    refine Rn.cV_i (pc1 := 18) (eX7_of A.2.2.2.1 rfl (show j < 12 by omega)) dX8_table_15 rfl qX8_91 oX7_of (by first | assumption | exact mset_same | exact mget_ne (by omega) (by assumption)) rfl rfl rfl rfl (Nat.le_of_ble_eq_true rfl) (by decide) (by decide) (fun v15 μ15 h15 => ?_)
    obtain ⟨rfl, rfl⟩ := h15
    refine Rn.goto 22 dX8_table_18 (by decide) ?_
    exact Rn.ireturn dX8_table_22 rfl rfl ⟨_, rfl, rfl, rfl⟩
theorem eX8_view {r k : Int32} (C : CW μ x f held P Pp len u S B) : EvA G 6 kX8_view [.ref x, .int r, .int k] μ sz 0 0 (rI fun v μ' => v = viewQ f (rF f) r k ∧ μ' = μ) := by
  have hO := C.1
  obtain ⟨h, rc, sc, A, I⟩ := C.2.1
  have nO : _ = _ := A.2.1
  have hrc := A.1.2.1
  rw [I.h.2.1]
  refine EvA.of (L := [some (.ref x), some (.int r), some (.int k), none]) (by decide +kernel) (Nat.le_of_ble_eq_true rfl) rfl ?_
  cases hr : isRdB rc r
  · have e : viewQ f rc r k = -1 := if_neg (fun q => by rw [hr] at q; cases q.1)
    rw [e]
    refine Rn.aload_n (pc1 := 1)  dX8_view_0 rfl rfl rfl ?_
    refine Rn.getfield (pc1 := 4)  dX8_view_1 rfl fX8_10 (by first | assumption | exact mset_same | exact mget_ne (by omega) (by assumption)) rfl ?_
    refine Rn.iload_n (pc1 := 5)  dX8_view_4 rfl rfl rfl ?_
    refine Rn.cV_r (pc1 := 8) (eX6_readerAt_n A (isRdB_f (by omega) hr)) dX8_view_5 rfl qX8_96 oX6_readerAt (by first | assumption | exact mset_same | exact mget_ne (by omega) (by assumption)) rfl rfl rfl rfl (Nat.le_of_ble_eq_true rfl) (by decide) (by decide) (fun v5 μ5 h5 => ?_)
    obtain ⟨rfl, rfl⟩ := h5
    show Rn G 6 kX8_view 8 _ [.null] _ _ _ _ _
    refine Rn.astore_nN (pc1 := 9)  dX8_view_8 rfl rfl (by decide) rfl rfl ?_
    refine Rn.aload_nN (pc1 := 10)  dX8_view_9 rfl rfl rfl ?_
    refine Rn.ifnullN 20 dX8_view_10 (by decide) ?_
    refine Rn.iconst (pc1 := 21) (v := (-1)) dX8_view_20 rfl (by decide) ?_
    exact Rn.ireturn dX8_view_21 rfl rfl ⟨_, rfl, rfl, rfl⟩
  · obtain ⟨i, hi, rfl⟩ := isRdB_t (by omega) hr
    obtain ⟨vw, cv, R, rv, rw⟩ := A.rd hi
    have rO := R.1
    have vO := R.2.1.1
    refine Rn.aload_n (pc1 := 1)  dX8_view_0 rfl rfl rfl ?_
    refine Rn.getfield (pc1 := 4)  dX8_view_1 rfl fX8_10 (by first | assumption | exact mset_same | exact mget_ne (by omega) (by assumption)) rfl ?_
    refine Rn.iload_n (pc1 := 5)  dX8_view_4 rfl rfl rfl ?_
    refine Rn.cV_r (pc1 := 8) (eX6_readerAt_y A rfl hi) dX8_view_5 rfl qX8_96 oX6_readerAt (by first | assumption | exact mset_same | exact mget_ne (by omega) (by assumption)) rfl rfl rfl rfl (Nat.le_of_ble_eq_true rfl) (by decide) (by decide) (fun v5 μ5 h5 => ?_)
    obtain ⟨rfl, rfl⟩ := h5
    refine Rn.astore_n (pc1 := 9) (x := x + 1 + 10 + 5 * i)  dX8_view_8 rfl rfl (by decide) rfl rfl ?_
    refine Rn.aload_n (pc1 := 10)  dX8_view_9 rfl rfl rfl ?_
    refine Rn.ifnull (pc1 := 13) dX8_view_10 rfl ?_
    refine Rn.iload_n (pc1 := 14)  dX8_view_13 rfl rfl rfl ?_
    refine Rn.cS_i (pc1 := 17) (eX8_isKey) dX8_view_14 rfl qX8_83 oX8_isKey rfl rfl (Nat.le_of_ble_eq_true rfl) (by decide) (by decide) (fun v14 μ14 h14 => ?_)
    obtain ⟨rfl, rfl⟩ := h14
    refine Rn.if_ne (pc1 := 20) 22 dX8_view_17 rfl (by decide) (fun c17 => ?_) (fun c17 => ?_)
    · obtain ⟨j, hj, rfl⟩ := inB_nI (by decide) (bI_n c17)
      have e : viewQ f rc (nI i) (nI j) = f (261 + 27 * i + 3 + j) := by unfold viewQ; rw [if_pos ⟨hr, bI_n c17⟩, nI_clamp (by omega), nI_clamp (by omega)]
      rw [e]
      refine Rn.aload_n (pc1 := 23)  dX8_view_22 rfl rfl rfl ?_
      refine Rn.getfield (pc1 := 26)  dX8_view_23 rfl fX8_100 (by first | assumption | exact mset_same | exact mget_ne (by omega) (by assumption)) rfl ?_
      refine Rn.iload_n (pc1 := 27)  dX8_view_26 rfl rfl rfl ?_
      refine Rn.cV_i (pc1 := 30) (eX7_of R.2.1 rfl (show j < 12 by omega)) dX8_view_27 rfl qX8_91 oX7_of (by first | assumption | exact mset_same | exact mget_ne (by omega) (by assumption)) rfl rfl rfl rfl (Nat.le_of_ble_eq_true rfl) (by decide) (by decide) (fun v27 μ27 h27 => ?_)
      obtain ⟨rfl, rfl⟩ := h27
      rw [rv j (by omega)]
      exact Rn.ireturn dX8_view_30 rfl rfl ⟨_, rfl, rfl, rfl⟩
    · have e : viewQ f rc (nI i) k = -1 := if_neg (fun q => by rw [bI_0 c17] at q; cases q.2)
      rw [e]
      refine Rn.iconst (pc1 := 21) (v := (-1)) dX8_view_20 rfl (by decide) ?_
      exact Rn.ireturn dX8_view_21 rfl rfl ⟨_, rfl, rfl, rfl⟩
theorem eX8_entry {e w : Int32} (C : CW μ x f held P Pp len u S B) : EvA G 6 kX8_entry [.ref x, .int e, .int w] μ sz 0 0 (rI fun v μ' => v = entryQ f (hF f) e w ∧ μ' = μ) := by
  have hO := C.1
  obtain ⟨h, rc, sc, A, I⟩ := C.2.1
  have nO : _ = _ := A.2.1
  have hh := A.1.1
  obtain ⟨g0, g1, g2, g3, fd1, fd2⟩ := id A.2.2.2.2.1
  have fO := fd1.1
  rw [I.h.1]
  refine EvA.of (L := [some (.ref x), some (.int e), some (.int w), none]) (by decide +kernel) (Nat.le_of_ble_eq_true rfl) rfl ?_
  cases hr : isRdB h e
  · have e0 : entryQ f h e w = -1 := if_neg (by rw [hr]; decide)
    rw [e0]
    refine Rn.aload_n (pc1 := 1)  dX8_entry_0 rfl rfl rfl ?_
    refine Rn.getfield (pc1 := 4)  dX8_entry_1 rfl fX8_10 (by first | assumption | exact mset_same | exact mget_ne (by omega) (by assumption)) rfl ?_
    refine Rn.getfield (pc1 := 7)  dX8_entry_4 rfl fX8_105 (by first | assumption | exact mset_same | exact mget_ne (by omega) (by assumption)) rfl ?_
    refine Rn.astore_n (pc1 := 8)  dX8_entry_7 rfl rfl (by decide) rfl rfl ?_
    refine Rn.iload_n (pc1 := 9)  dX8_entry_8 rfl rfl rfl ?_
    refine Rn.if_lt (pc1 := 12) 20 dX8_entry_9 rfl (by decide) (fun c9 => ?_) (fun c9 => ?_)
    · refine Rn.iconst (pc1 := 21) (v := (-1)) dX8_entry_20 rfl (by decide) ?_
      exact Rn.ireturn dX8_entry_21 rfl rfl ⟨_, rfl, rfl, rfl⟩
    · refine Rn.iload_n (pc1 := 13)  dX8_entry_12 rfl rfl rfl ?_
      refine Rn.aload_n (pc1 := 14)  dX8_entry_13 rfl rfl rfl ?_
      refine Rn.getfield (pc1 := 17)  dX8_entry_14 rfl fX8_109 (by first | assumption | exact mset_same | exact mget_ne (by omega) (by assumption)) rfl ?_
      refine Rn.icmp_lt (pc1 := 20) 22 dX8_entry_17 rfl (by decide) (fun c17 => ?_) (fun c17 => ?_)
      · exfalso
        obtain ⟨j, hj, rfl⟩ := nI_of (x := e) c9
        rw [nI_ltI hj (by omega)] at c17
        exact isRdB_f (by omega) hr j c17 rfl
      · refine Rn.iconst (pc1 := 21) (v := (-1)) dX8_entry_20 rfl (by decide) ?_
        exact Rn.ireturn dX8_entry_21 rfl rfl ⟨_, rfl, rfl, rfl⟩
  · obtain ⟨i, hi, rfl⟩ := isRdB_t (by omega) hr
    obtain ⟨m0, m1, m2, m3⟩ := fd2 i hi
    have e0 : entryQ f h (nI i) w = if inB w (nI 0) (nI 5) = true then entryW f h i w.toNatClampNeg else -2 := by unfold entryQ; rw [if_pos hr, nI_clamp (by omega)]
    rw [e0]
    refine Rn.aload_n (pc1 := 1)  dX8_entry_0 rfl rfl rfl ?_
    refine Rn.getfield (pc1 := 4)  dX8_entry_1 rfl fX8_10 (by first | assumption | exact mset_same | exact mget_ne (by omega) (by assumption)) rfl ?_
    refine Rn.getfield (pc1 := 7)  dX8_entry_4 rfl fX8_105 (by first | assumption | exact mset_same | exact mget_ne (by omega) (by assumption)) rfl ?_
    refine Rn.astore_n (pc1 := 8)  dX8_entry_7 rfl rfl (by decide) rfl rfl ?_
    refine Rn.iload_n (pc1 := 9)  dX8_entry_8 rfl rfl rfl ?_
    refine Rn.if_lt (pc1 := 12) 20 dX8_entry_9 rfl (by decide) (fun c9 => ?_) (fun c9 => ?_)
    · exact absurd c9 (nI_nlt (Nat.zero_le _) (by omega))
    · refine Rn.iload_n (pc1 := 13)  dX8_entry_12 rfl rfl rfl ?_
      refine Rn.aload_n (pc1 := 14)  dX8_entry_13 rfl rfl rfl ?_
      refine Rn.getfield (pc1 := 17)  dX8_entry_14 rfl fX8_109 (by first | assumption | exact mset_same | exact mget_ne (by omega) (by assumption)) rfl ?_
      refine Rn.icmp_lt (pc1 := 20) 22 dX8_entry_17 rfl (by decide) (fun c17 => ?_) (fun c17 => ?_)
      · refine Rn.iload_n (pc1 := 23)  dX8_entry_22 rfl rfl rfl ?_
        cases hw : inB w (nI 0) (nI 5)
        · rw [if_neg (by decide)]
          refine Rn.tableOut 109 dX8_entry_23 (by have := inB_f (by decide) hw; exact this) (by decide) ?_
          refine Rn.bipush (pc1 := 111) (v := (-2)) dX8_entry_109 rfl (by decide) ?_
          exact Rn.ireturn dX8_entry_111 rfl rfl ⟨_, rfl, rfl, rfl⟩
        · rw [if_pos rfl]
          obtain ⟨k, hk, rfl⟩ := inB_nI (by decide) hw
          rw [nI_clamp (by omega)]
          match k, hk with
          | 0, _ =>
            refine Rn.tableIn (off := 37) 60 dX8_entry_23 (by decide) (by decide) (by decide) (by decide) ?_
            refine Rn.aload_n (pc1 := 61)  dX8_entry_60 rfl rfl rfl ?_
            refine Rn.iload_n (pc1 := 62)  dX8_entry_61 rfl rfl rfl ?_
            refine Rn.cV_i (pc1 := 65) (eX0_numberAt fd1 rfl (show i < 60 by omega)) dX8_entry_62 rfl qX8_115 oX0_numberAt (by first | assumption | exact mset_same | exact mget_ne (by omega) (by assumption)) rfl rfl rfl rfl (Nat.le_of_ble_eq_true rfl) (by decide) (by decide) (fun v62 μ62 h62 => ?_)
            obtain ⟨rfl, rfl⟩ := h62
            exact Rn.ireturn dX8_entry_65 rfl rfl ⟨_, rfl, m0, rfl⟩
          | 1, _ =>
            refine Rn.tableIn (off := 43) 66 dX8_entry_23 (by decide) (by decide) (by decide) (by decide) ?_
            refine Rn.aload_n (pc1 := 67)  dX8_entry_66 rfl rfl rfl ?_
            refine Rn.iload_n (pc1 := 68)  dX8_entry_67 rfl rfl rfl ?_
            refine Rn.cV_i (pc1 := 71) (eX0_keyAt fd1 rfl (show i < 60 by omega)) dX8_entry_68 rfl qX8_118 oX0_keyAt (by first | assumption | exact mset_same | exact mget_ne (by omega) (by assumption)) rfl rfl rfl rfl (Nat.le_of_ble_eq_true rfl) (by decide) (by decide) (fun v68 μ68 h68 => ?_)
            obtain ⟨rfl, rfl⟩ := h68
            exact Rn.ireturn dX8_entry_71 rfl rfl ⟨_, rfl, m1, rfl⟩
          | 2, _ =>
            refine Rn.tableIn (off := 49) 72 dX8_entry_23 (by decide) (by decide) (by decide) (by decide) ?_
            refine Rn.aload_n (pc1 := 73)  dX8_entry_72 rfl rfl rfl ?_
            refine Rn.iload_n (pc1 := 74)  dX8_entry_73 rfl rfl rfl ?_
            refine Rn.cV_i (pc1 := 77) (eX0_valueAt fd1 rfl (show i < 60 by omega)) dX8_entry_74 rfl qX8_121 oX0_valueAt (by first | assumption | exact mset_same | exact mget_ne (by omega) (by assumption)) rfl rfl rfl rfl (Nat.le_of_ble_eq_true rfl) (by decide) (by decide) (fun v74 μ74 h74 => ?_)
            obtain ⟨rfl, rfl⟩ := h74
            exact Rn.ireturn dX8_entry_77 rfl rfl ⟨_, rfl, m2, rfl⟩
          | 3, _ =>
            refine Rn.tableIn (off := 55) 78 dX8_entry_23 (by decide) (by decide) (by decide) (by decide) ?_
            refine Rn.aload_n (pc1 := 79)  dX8_entry_78 rfl rfl rfl ?_
            refine Rn.iload_n (pc1 := 80)  dX8_entry_79 rfl rfl rfl ?_
            refine Rn.cV_i (pc1 := 83) (eX0_minuteAt fd1 rfl (show i < 60 by omega)) dX8_entry_80 rfl qX8_124 oX0_minuteAt (by first | assumption | exact mset_same | exact mget_ne (by omega) (by assumption)) rfl rfl rfl rfl (Nat.le_of_ble_eq_true rfl) (by decide) (by decide) (fun v80 μ80 h80 => ?_)
            obtain ⟨rfl, rfl⟩ := h80
            exact Rn.ireturn dX8_entry_83 rfl rfl ⟨_, rfl, m3, rfl⟩
          | 4, _ =>
            refine Rn.tableIn (off := 61) 84 dX8_entry_23 (by decide) (by decide) (by decide) (by decide) ?_
            refine Rn.aload_n (pc1 := 85)  dX8_entry_84 rfl rfl rfl ?_
            refine Rn.iload_n (pc1 := 86)  dX8_entry_85 rfl rfl rfl ?_
            refine Rn.cV_i (pc1 := 89) (eX0_isLastOfItsKey fd1 hh rfl hi) dX8_entry_86 rfl qX8_127 oX0_isLastOfItsKey (by first | assumption | exact mset_same | exact mget_ne (by omega) (by assumption)) rfl rfl rfl rfl (Nat.le_of_ble_eq_true rfl) (by decide) (by decide) (fun v86 μ86 h86 => ?_)
            obtain ⟨rfl, rfl⟩ := h86
            refine Rn.cS_i (pc1 := 92) (eX8_oneIf) dX8_entry_89 rfl qX8_130 oX8_oneIf rfl rfl (Nat.le_of_ble_eq_true rfl) (by decide) (by decide) (fun v89 μ89 h89 => ?_)
            obtain ⟨rfl, rfl⟩ := h89
            exact Rn.ireturn dX8_entry_92 rfl rfl ⟨_, rfl, by rw [lastB_congr (g' := e1 f) (fun j _ h2 => (fd2 j h2).2.1) hi]; rfl, rfl⟩
          | 5, _ =>
            refine Rn.tableIn (off := 70) 93 dX8_entry_23 (by decide) (by decide) (by decide) (by decide) ?_
            refine Rn.aload_n (pc1 := 94)  dX8_entry_93 rfl rfl rfl ?_
            refine Rn.iload_n (pc1 := 95)  dX8_entry_94 rfl rfl rfl ?_
            refine Rn.aload_n (pc1 := 96)  dX8_entry_95 rfl rfl rfl ?_
            refine Rn.getfield (pc1 := 99)  dX8_entry_96 rfl fX8_10 (by first | assumption | exact mset_same | exact mget_ne (by omega) (by assumption)) rfl ?_
            refine Rn.getfield (pc1 := 102)  dX8_entry_99 rfl fX8_134 (by first | assumption | exact mset_same | exact mget_ne (by omega) (by assumption)) rfl ?_
            refine Rn.cV_i (pc1 := 105) (eX0_isClosed fd1 rfl (show i < 60 by omega) I.size) dX8_entry_102 rfl qX8_137 oX0_isClosed (by first | assumption | exact mset_same | exact mget_ne (by omega) (by assumption)) rfl rfl rfl rfl (Nat.le_of_ble_eq_true rfl) (by decide) (by decide) (fun v102 μ102 h102 => ?_)
            obtain ⟨rfl, rfl⟩ := h102
            refine Rn.cS_i (pc1 := 108) (eX8_oneIf) dX8_entry_105 rfl qX8_130 oX8_oneIf rfl rfl (Nat.le_of_ble_eq_true rfl) (by decide) (by decide) (fun v105 μ105 h105 => ?_)
            obtain ⟨rfl, rfl⟩ := h105
            exact Rn.ireturn dX8_entry_108 rfl rfl ⟨_, rfl, by rw [m0]; rfl, rfl⟩
      · exact absurd (nI_lt hi (by omega)) c17
theorem eX8_leftIn {m : Int32} (C : CW μ x f held P Pp len u S B) : EvA G 6 kX8_leftIn [.ref x, .int m] μ sz 0 0 (rI fun v μ' => v = leftInQ f m ∧ μ' = μ) := by
  have hO := C.1
  obtain ⟨h, rc, sc, A, I⟩ := C.2.1
  have nO : _ = _ := A.2.1
  obtain ⟨r1, r2, r3, r4, fO⟩ := A.fO
  refine EvA.of (L := [some (.ref x), some (.int m)]) (by decide +kernel) (Nat.le_of_ble_eq_true rfl) rfl ?_
  refine Rn.iload_n (pc1 := 1)  dX8_leftIn_0 rfl rfl rfl ?_
  refine Rn.cS_i (pc1 := 4) (eX8_isNumber) dX8_leftIn_1 rfl qX8_204 oX8_isNumber rfl rfl (Nat.le_of_ble_eq_true rfl) (by decide) (by decide) (fun v1 μ1 h1 => ?_)
  obtain ⟨rfl, rfl⟩ := h1
  refine Rn.if_ne (pc1 := 7) 10 dX8_leftIn_4 rfl (by decide) (fun c4 => ?_) (fun c4 => ?_)
  · have e : leftInQ f m = nI (leftF f h (f 0) (f 2 + m)) := by unfold leftInQ; rw [if_pos (bI_n c4), I.h.1]
    rw [e]
    refine Rn.aload_n (pc1 := 11)  dX8_leftIn_10 rfl rfl rfl ?_
    refine Rn.getfield (pc1 := 14)  dX8_leftIn_11 rfl fX8_10 (by first | assumption | exact mset_same | exact mget_ne (by omega) (by assumption)) rfl ?_
    refine Rn.getfield (pc1 := 17)  dX8_leftIn_14 rfl fX8_105 (by first | assumption | exact mset_same | exact mget_ne (by omega) (by assumption)) rfl ?_
    refine Rn.aload_n (pc1 := 18)  dX8_leftIn_17 rfl rfl rfl ?_
    refine Rn.getfield (pc1 := 21)  dX8_leftIn_18 rfl fX8_10 (by first | assumption | exact mset_same | exact mget_ne (by omega) (by assumption)) rfl ?_
    refine Rn.getfield (pc1 := 24)  dX8_leftIn_21 rfl fX8_134 (by first | assumption | exact mset_same | exact mget_ne (by omega) (by assumption)) rfl ?_
    refine Rn.aload_n (pc1 := 25)  dX8_leftIn_24 rfl rfl rfl ?_
    refine Rn.getfield (pc1 := 28)  dX8_leftIn_25 rfl fX8_10 (by first | assumption | exact mset_same | exact mget_ne (by omega) (by assumption)) rfl ?_
    refine Rn.getfield (pc1 := 31)  dX8_leftIn_28 rfl fX8_197 (by first | assumption | exact mset_same | exact mget_ne (by omega) (by assumption)) rfl ?_
    refine Rn.aload_n (pc1 := 32)  dX8_leftIn_31 rfl rfl rfl ?_
    refine Rn.getfield (pc1 := 35)  dX8_leftIn_32 rfl fX8_10 (by first | assumption | exact mset_same | exact mget_ne (by omega) (by assumption)) rfl ?_
    refine Rn.getfield (pc1 := 38)  dX8_leftIn_35 rfl fX8_182 (by first | assumption | exact mset_same | exact mget_ne (by omega) (by assumption)) rfl ?_
    refine Rn.iload_n (pc1 := 39)  dX8_leftIn_38 rfl rfl rfl ?_
    refine Rn.iadd (pc1 := 40)  dX8_leftIn_39 rfl rfl ?_
    refine Rn.cV_i (pc1 := 43) (eS_left A I.size) dX8_leftIn_40 rfl qX8_207 oX0_leftAfterThinning (by first | assumption | exact mset_same | exact mget_ne (by omega) (by assumption)) rfl rfl rfl rfl (Nat.le_of_ble_eq_true rfl) (by decide) (by decide) (fun v40 μ40 h40 => ?_)
    obtain ⟨rfl, rfl⟩ := h40
    exact Rn.ireturn dX8_leftIn_43 rfl rfl ⟨_, rfl, rfl, rfl⟩
  · have e : leftInQ f m = -2 := if_neg (by rw [bI_0 c4]; decide)
    rw [e]
    refine Rn.bipush (pc1 := 9) (v := (-2)) dX8_leftIn_7 rfl (by decide) ?_
    exact Rn.ireturn dX8_leftIn_9 rfl rfl ⟨_, rfl, rfl, rfl⟩
theorem eX8_ofReader {r w : Int32} (hB : B < 2 ^ 30) (C : CW μ x f held P Pp len u S B) : EvA G 6 kX8_ofReader [.ref x, .int r, .int w] μ sz 0 0 (rI fun v μ' => v = ofReaderQ f (hF f) (rF f) r w ∧ μ' = μ) := by
  have hO := C.1
  obtain ⟨h, rc, sc, A, I⟩ := C.2.1
  have nO : _ = _ := A.2.1
  have hrc := A.1.2.1
  obtain ⟨r1, r2, r3, r4, fO⟩ := A.fO
  rw [I.h.1, I.h.2.1]
  refine EvA.of (L := [some (.ref x), some (.int r), some (.int w), none]) (by decide +kernel) (Nat.le_of_ble_eq_true rfl) rfl ?_
  cases hr : isRdB rc r
  · have e : ofReaderQ f h rc r w = -1 := if_neg (by rw [hr]; decide)
    rw [e]
    refine Rn.aload_n (pc1 := 1)  dX8_ofReader_0 rfl rfl rfl ?_
    refine Rn.getfield (pc1 := 4)  dX8_ofReader_1 rfl fX8_10 (by first | assumption | exact mset_same | exact mget_ne (by omega) (by assumption)) rfl ?_
    refine Rn.iload_n (pc1 := 5)  dX8_ofReader_4 rfl rfl rfl ?_
    refine Rn.cV_r (pc1 := 8) (eX6_readerAt_n A (isRdB_f (by omega) hr)) dX8_ofReader_5 rfl qX8_96 oX6_readerAt (by first | assumption | exact mset_same | exact mget_ne (by omega) (by assumption)) rfl rfl rfl rfl (Nat.le_of_ble_eq_true rfl) (by decide) (by decide) (fun v5 μ5 h5 => ?_)
    obtain ⟨rfl, rfl⟩ := h5
    show Rn G 6 kX8_ofReader 8 _ [.null] _ _ _ _ _
    refine Rn.astore_nN (pc1 := 9)  dX8_ofReader_8 rfl rfl (by decide) rfl rfl ?_
    refine Rn.aload_nN (pc1 := 10)  dX8_ofReader_9 rfl rfl rfl ?_
    refine Rn.ifnonnullN (pc1 := 13) dX8_ofReader_10 rfl ?_
    refine Rn.iconst (pc1 := 14) (v := (-1)) dX8_ofReader_13 rfl (by decide) ?_
    exact Rn.ireturn dX8_ofReader_14 rfl rfl ⟨_, rfl, rfl, rfl⟩
  · obtain ⟨i, hi, rfl⟩ := isRdB_t (by omega) hr
    obtain ⟨vw, cv, R, rv, rw⟩ := A.rd hi
    have rO := R.1
    have vO := R.2.1.1
    have wO := R.2.2.1
    have e0 : ofReaderQ f h rc (nI i) w = if inB w (nI 0) (nI 6) = true then ofRdW f h i w.toNatClampNeg else -2 := by unfold ofReaderQ; rw [if_pos hr, nI_clamp (by omega)]
    rw [e0]
    refine Rn.aload_n (pc1 := 1)  dX8_ofReader_0 rfl rfl rfl ?_
    refine Rn.getfield (pc1 := 4)  dX8_ofReader_1 rfl fX8_10 (by first | assumption | exact mset_same | exact mget_ne (by omega) (by assumption)) rfl ?_
    refine Rn.iload_n (pc1 := 5)  dX8_ofReader_4 rfl rfl rfl ?_
    refine Rn.cV_r (pc1 := 8) (eX6_readerAt_y A rfl hi) dX8_ofReader_5 rfl qX8_96 oX6_readerAt (by first | assumption | exact mset_same | exact mget_ne (by omega) (by assumption)) rfl rfl rfl rfl (Nat.le_of_ble_eq_true rfl) (by decide) (by decide) (fun v5 μ5 h5 => ?_)
    obtain ⟨rfl, rfl⟩ := h5
    refine Rn.astore_n (pc1 := 9) (x := x + 1 + 10 + 5 * i)  dX8_ofReader_8 rfl rfl (by decide) rfl rfl ?_
    refine Rn.aload_n (pc1 := 10)  dX8_ofReader_9 rfl rfl rfl ?_
    refine Rn.ifnonnull 15 dX8_ofReader_10 (by decide) ?_
    refine Rn.iload_n (pc1 := 16)  dX8_ofReader_15 rfl rfl rfl ?_
    cases hw : inB w (nI 0) (nI 6)
    · rw [if_neg (by decide)]
      refine Rn.tableOut 141 dX8_ofReader_16 (by have := inB_f (by decide) hw; exact this) (by decide) ?_
      refine Rn.bipush (pc1 := 143) (v := (-2)) dX8_ofReader_141 rfl (by decide) ?_
      exact Rn.ireturn dX8_ofReader_143 rfl rfl ⟨_, rfl, rfl, rfl⟩
    · rw [if_pos rfl]
      obtain ⟨k, hk, rfl⟩ := inB_nI (by decide) hw
      rw [nI_clamp (by omega)]
      match k, hk with
      | 0, _ =>
        refine Rn.tableIn (off := 44) 60 dX8_ofReader_16 (by decide) (by decide) (by decide) (by decide) ?_
        refine Rn.aload_n (pc1 := 61)  dX8_ofReader_60 rfl rfl rfl ?_
        refine Rn.getfield (pc1 := 64)  dX8_ofReader_61 rfl fX8_141 (by first | assumption | exact mset_same | exact mget_ne (by omega) (by assumption)) rfl ?_
        exact Rn.ireturn dX8_ofReader_64 rfl rfl ⟨_, rfl, rfl, rfl⟩
      | 1, _ =>
        refine Rn.tableIn (off := 49) 65 dX8_ofReader_16 (by decide) (by decide) (by decide) (by decide) ?_
        refine Rn.aload_n (pc1 := 66)  dX8_ofReader_65 rfl rfl rfl ?_
        refine Rn.getfield (pc1 := 69)  dX8_ofReader_66 rfl fX8_144 (by first | assumption | exact mset_same | exact mget_ne (by omega) (by assumption)) rfl ?_
        exact Rn.ireturn dX8_ofReader_69 rfl rfl ⟨_, rfl, rfl, rfl⟩
      | 2, _ =>
        refine Rn.tableIn (off := 54) 70 dX8_ofReader_16 (by decide) (by decide) (by decide) (by decide) ?_
        refine Rn.aload_n (pc1 := 71)  dX8_ofReader_70 rfl rfl rfl ?_
        refine Rn.getfield (pc1 := 74)  dX8_ofReader_71 rfl fX8_10 (by first | assumption | exact mset_same | exact mget_ne (by omega) (by assumption)) rfl ?_
        refine Rn.getfield (pc1 := 77)  dX8_ofReader_74 rfl fX8_105 (by first | assumption | exact mset_same | exact mget_ne (by omega) (by assumption)) rfl ?_
        refine Rn.aload_n (pc1 := 78)  dX8_ofReader_77 rfl rfl rfl ?_
        refine Rn.getfield (pc1 := 81)  dX8_ofReader_78 rfl fX8_141 (by first | assumption | exact mset_same | exact mget_ne (by omega) (by assumption)) rfl ?_
        refine Rn.cV_i (pc1 := 84) (eS_ahead A (I.srt (by omega))) dX8_ofReader_81 rfl qX8_147 oX0_aheadOf (by first | assumption | exact mset_same | exact mget_ne (by omega) (by assumption)) rfl rfl rfl rfl (Nat.le_of_ble_eq_true rfl) (by decide) (by decide) (fun v81 μ81 h81 => ?_)
        obtain ⟨rfl, rfl⟩ := h81
        exact Rn.ireturn dX8_ofReader_84 rfl rfl ⟨_, rfl, rfl, rfl⟩
      | 3, _ =>
        refine Rn.tableIn (off := 69) 85 dX8_ofReader_16 (by decide) (by decide) (by decide) (by decide) ?_
        refine Rn.aload_n (pc1 := 86)  dX8_ofReader_85 rfl rfl rfl ?_
        refine Rn.getfield (pc1 := 89)  dX8_ofReader_86 rfl fX8_141 (by first | assumption | exact mset_same | exact mget_ne (by omega) (by assumption)) rfl ?_
        refine Rn.aload_n (pc1 := 90)  dX8_ofReader_89 rfl rfl rfl ?_
        refine Rn.getfield (pc1 := 93)  dX8_ofReader_90 rfl fX8_10 (by first | assumption | exact mset_same | exact mget_ne (by omega) (by assumption)) rfl ?_
        refine Rn.getfield (pc1 := 96)  dX8_ofReader_93 rfl fX8_105 (by first | assumption | exact mset_same | exact mget_ne (by omega) (by assumption)) rfl ?_
        refine Rn.getfield (pc1 := 99)  dX8_ofReader_96 rfl fX8_150 (by first | assumption | exact mset_same | exact mget_ne (by omega) (by assumption)) rfl ?_
        refine Rn.cS_i (pc1 := 102) (eX8_isLate) dX8_ofReader_99 rfl qX8_153 oX8_isLate rfl rfl (Nat.le_of_ble_eq_true rfl) (by decide) (by decide) (fun v99 μ99 h99 => ?_)
        obtain ⟨rfl, rfl⟩ := h99
        refine Rn.cS_i (pc1 := 105) (eX8_oneIf) dX8_ofReader_102 rfl qX8_130 oX8_oneIf rfl rfl (Nat.le_of_ble_eq_true rfl) (by decide) (by decide) (fun v102 μ102 h102 => ?_)
        obtain ⟨rfl, rfl⟩ := h102
        exact Rn.ireturn dX8_ofReader_105 rfl rfl ⟨_, rfl, rfl, rfl⟩
      | 4, _ =>
        refine Rn.tableIn (off := 90) 106 dX8_ofReader_16 (by decide) (by decide) (by decide) (by decide) ?_
        refine Rn.aload_n (pc1 := 107)  dX8_ofReader_106 rfl rfl rfl ?_
        refine Rn.getfield (pc1 := 110)  dX8_ofReader_107 rfl fX8_156 (by first | assumption | exact mset_same | exact mget_ne (by omega) (by assumption)) rfl ?_
        exact Rn.ireturn dX8_ofReader_110 rfl rfl ⟨_, rfl, rfl, rfl⟩
      | 5, _ =>
        refine Rn.tableIn (off := 95) 111 dX8_ofReader_16 (by decide) (by decide) (by decide) (by decide) ?_
        refine Rn.aload_n (pc1 := 112)  dX8_ofReader_111 rfl rfl rfl ?_
        refine Rn.getfield (pc1 := 115)  dX8_ofReader_112 rfl fX8_100 (by first | assumption | exact mset_same | exact mget_ne (by omega) (by assumption)) rfl ?_
        refine Rn.aload_n (pc1 := 116)  dX8_ofReader_115 rfl rfl rfl ?_
        refine Rn.getfield (pc1 := 119)  dX8_ofReader_116 rfl fX8_10 (by first | assumption | exact mset_same | exact mget_ne (by omega) (by assumption)) rfl ?_
        refine Rn.getfield (pc1 := 122)  dX8_ofReader_119 rfl fX8_87 (by first | assumption | exact mset_same | exact mget_ne (by omega) (by assumption)) rfl ?_
        refine Rn.cV_i (pc1 := 125) (eX7_differingFrom R.2.1 A.2.2.2.1) dX8_ofReader_122 rfl qX8_159 oX7_differingFrom (by first | assumption | exact mset_same | exact mget_ne (by omega) (by assumption)) rfl rfl rfl rfl (Nat.le_of_ble_eq_true rfl) (by decide) (by decide) (fun v122 μ122 h122 => ?_)
        obtain ⟨rfl, rfl⟩ := h122
        exact Rn.ireturn dX8_ofReader_125 rfl rfl ⟨_, rfl, difN_congr 12 rv (fun _ _ => rfl), rfl⟩
      | 6, _ =>
        refine Rn.tableIn (off := 110) 126 dX8_ofReader_16 (by decide) (by decide) (by decide) (by decide) ?_
        refine Rn.aload_n (pc1 := 127)  dX8_ofReader_126 rfl rfl rfl ?_
        refine Rn.getfield (pc1 := 130)  dX8_ofReader_127 rfl fX8_163 (by first | assumption | exact mset_same | exact mget_ne (by omega) (by assumption)) rfl ?_
        refine Rn.aload_n (pc1 := 131)  dX8_ofReader_130 rfl rfl rfl ?_
        refine Rn.getfield (pc1 := 134)  dX8_ofReader_131 rfl fX8_10 (by first | assumption | exact mset_same | exact mget_ne (by omega) (by assumption)) rfl ?_
        refine Rn.getfield (pc1 := 137)  dX8_ofReader_134 rfl fX8_87 (by first | assumption | exact mset_same | exact mget_ne (by omega) (by assumption)) rfl ?_
        refine Rn.cV_i (pc1 := 140) (eX7_differingFrom R.2.2 A.2.2.2.1) dX8_ofReader_137 rfl qX8_159 oX7_differingFrom (by first | assumption | exact mset_same | exact mget_ne (by omega) (by assumption)) rfl rfl rfl rfl (Nat.le_of_ble_eq_true rfl) (by decide) (by decide) (fun v137 μ137 h137 => ?_)
        obtain ⟨rfl, rfl⟩ := h137
        exact Rn.ireturn dX8_ofReader_140 rfl rfl ⟨_, rfl, difN_congr 12 rw (fun _ _ => rfl), rfl⟩
theorem eX8_ofSnapshot {s w : Int32} (hB : B < 2 ^ 30) (C : CW μ x f held P Pp len u S B) : EvA G 6 kX8_ofSnapshot [.ref x, .int s, .int w] μ sz 0 0 (rI fun v μ' => v = ofSnapshotQ f (hF f) (sF f) s w ∧ μ' = μ) := by
  have hO := C.1
  obtain ⟨h, rc, sc, A, I⟩ := C.2.1
  have nO : _ = _ := A.2.1
  have hsc := A.1.2.2
  obtain ⟨r1, r2, r3, r4, fO⟩ := A.fO
  rw [I.h.1, I.h.2.2]
  refine EvA.of (L := [some (.ref x), some (.int s), some (.int w), none]) (by decide +kernel) (Nat.le_of_ble_eq_true rfl) rfl ?_
  cases hr : isRdB sc s
  · have e : ofSnapshotQ f h sc s w = -1 := if_neg (by rw [hr]; decide)
    rw [e]
    refine Rn.aload_n (pc1 := 1)  dX8_ofSnapshot_0 rfl rfl rfl ?_
    refine Rn.getfield (pc1 := 4)  dX8_ofSnapshot_1 rfl fX8_10 (by first | assumption | exact mset_same | exact mget_ne (by omega) (by assumption)) rfl ?_
    refine Rn.iload_n (pc1 := 5)  dX8_ofSnapshot_4 rfl rfl rfl ?_
    refine Rn.cV_r (pc1 := 8) (eX6_snapshotAt_n A (isRdB_f (by omega) hr)) dX8_ofSnapshot_5 rfl qX8_166 oX6_snapshotAt (by first | assumption | exact mset_same | exact mget_ne (by omega) (by assumption)) rfl rfl rfl rfl (Nat.le_of_ble_eq_true rfl) (by decide) (by decide) (fun v5 μ5 h5 => ?_)
    obtain ⟨rfl, rfl⟩ := h5
    show Rn G 6 kX8_ofSnapshot 8 _ [.null] _ _ _ _ _
    refine Rn.astore_nN (pc1 := 9)  dX8_ofSnapshot_8 rfl rfl (by decide) rfl rfl ?_
    refine Rn.aload_nN (pc1 := 10)  dX8_ofSnapshot_9 rfl rfl rfl ?_
    refine Rn.ifnonnullN (pc1 := 13) dX8_ofSnapshot_10 rfl ?_
    refine Rn.iconst (pc1 := 14) (v := (-1)) dX8_ofSnapshot_13 rfl (by decide) ?_
    exact Rn.ireturn dX8_ofSnapshot_14 rfl rfl ⟨_, rfl, rfl, rfl⟩
  · obtain ⟨i, hi, rfl⟩ := isRdB_t (by omega) hr
    obtain ⟨tb, R, st⟩ := A.sn hi
    have rO := R.1
    have vO := R.2.1
    have e0 : ofSnapshotQ f h sc (nI i) w = if inB w (nI 0) (nI 2) = true then ofSnW f h i w.toNatClampNeg else -2 := by unfold ofSnapshotQ; rw [if_pos hr, nI_clamp (by omega)]
    rw [e0]
    refine Rn.aload_n (pc1 := 1)  dX8_ofSnapshot_0 rfl rfl rfl ?_
    refine Rn.getfield (pc1 := 4)  dX8_ofSnapshot_1 rfl fX8_10 (by first | assumption | exact mset_same | exact mget_ne (by omega) (by assumption)) rfl ?_
    refine Rn.iload_n (pc1 := 5)  dX8_ofSnapshot_4 rfl rfl rfl ?_
    refine Rn.cV_r (pc1 := 8) (eX6_snapshotAt_y A rfl hi) dX8_ofSnapshot_5 rfl qX8_166 oX6_snapshotAt (by first | assumption | exact mset_same | exact mget_ne (by omega) (by assumption)) rfl rfl rfl rfl (Nat.le_of_ble_eq_true rfl) (by decide) (by decide) (fun v5 μ5 h5 => ?_)
    obtain ⟨rfl, rfl⟩ := h5
    refine Rn.astore_n (pc1 := 9) (x := x + 1 + 40 + 3 * i)  dX8_ofSnapshot_8 rfl rfl (by decide) rfl rfl ?_
    refine Rn.aload_n (pc1 := 10)  dX8_ofSnapshot_9 rfl rfl rfl ?_
    refine Rn.ifnonnull 15 dX8_ofSnapshot_10 (by decide) ?_
    refine Rn.iload_n (pc1 := 16)  dX8_ofSnapshot_15 rfl rfl rfl ?_
    cases hw : inB w (nI 0) (nI 2)
    · rw [if_neg (by decide)]
      refine Rn.tableOut 72 dX8_ofSnapshot_16 (by have := inB_f (by decide) hw; exact this) (by decide) ?_
      refine Rn.bipush (pc1 := 74) (v := (-2)) dX8_ofSnapshot_72 rfl (by decide) ?_
      exact Rn.ireturn dX8_ofSnapshot_74 rfl rfl ⟨_, rfl, rfl, rfl⟩
    · rw [if_pos rfl]
      obtain ⟨k, hk, rfl⟩ := inB_nI (by decide) hw
      rw [nI_clamp (by omega)]
      match k, hk with
      | 0, _ =>
        refine Rn.tableIn (off := 28) 44 dX8_ofSnapshot_16 (by decide) (by decide) (by decide) (by decide) ?_
        refine Rn.aload_n (pc1 := 45)  dX8_ofSnapshot_44 rfl rfl rfl ?_
        refine Rn.getfield (pc1 := 48)  dX8_ofSnapshot_45 rfl fX8_170 (by first | assumption | exact mset_same | exact mget_ne (by omega) (by assumption)) rfl ?_
        exact Rn.ireturn dX8_ofSnapshot_48 rfl rfl ⟨_, rfl, rfl, rfl⟩
      | 1, _ =>
        refine Rn.tableIn (off := 33) 49 dX8_ofSnapshot_16 (by decide) (by decide) (by decide) (by decide) ?_
        refine Rn.aload_n (pc1 := 50)  dX8_ofSnapshot_49 rfl rfl rfl ?_
        refine Rn.getfield (pc1 := 53)  dX8_ofSnapshot_50 rfl fX8_175 (by first | assumption | exact mset_same | exact mget_ne (by omega) (by assumption)) rfl ?_
        refine Rn.cV_i (pc1 := 56) (eX7_howMany R.2) dX8_ofSnapshot_53 rfl qX8_176 oX7_howMany (by first | assumption | exact mset_same | exact mget_ne (by omega) (by assumption)) rfl rfl rfl rfl (Nat.le_of_ble_eq_true rfl) (by decide) (by decide) (fun v53 μ53 h53 => ?_)
        obtain ⟨rfl, rfl⟩ := h53
        exact Rn.ireturn dX8_ofSnapshot_56 rfl rfl ⟨_, rfl, by rw [cntN_congr 12 st]; rfl, rfl⟩
      | 2, _ =>
        refine Rn.tableIn (off := 41) 57 dX8_ofSnapshot_16 (by decide) (by decide) (by decide) (by decide) ?_
        refine Rn.aload_n (pc1 := 58)  dX8_ofSnapshot_57 rfl rfl rfl ?_
        refine Rn.getfield (pc1 := 61)  dX8_ofSnapshot_58 rfl fX8_10 (by first | assumption | exact mset_same | exact mget_ne (by omega) (by assumption)) rfl ?_
        refine Rn.getfield (pc1 := 64)  dX8_ofSnapshot_61 rfl fX8_105 (by first | assumption | exact mset_same | exact mget_ne (by omega) (by assumption)) rfl ?_
        refine Rn.aload_n (pc1 := 65)  dX8_ofSnapshot_64 rfl rfl rfl ?_
        refine Rn.getfield (pc1 := 68)  dX8_ofSnapshot_65 rfl fX8_170 (by first | assumption | exact mset_same | exact mget_ne (by omega) (by assumption)) rfl ?_
        refine Rn.cV_i (pc1 := 71) (eS_ahead A (I.srt (by omega))) dX8_ofSnapshot_68 rfl qX8_147 oX0_aheadOf (by first | assumption | exact mset_same | exact mget_ne (by omega) (by assumption)) rfl rfl rfl rfl (Nat.le_of_ble_eq_true rfl) (by decide) (by decide) (fun v68 μ68 h68 => ?_)
        obtain ⟨rfl, rfl⟩ := h68
        exact Rn.ireturn dX8_ofSnapshot_71 rfl rfl ⟨_, rfl, rfl, rfl⟩
theorem eX8_count {w : Int32} (C : CW μ x f held P Pp len u S B) : EvA G 6 kX8_count [.ref x, .int w] μ sz 0 0 (rI fun v μ' => v = countQ f len held w ∧ μ' = μ) := by
  have hO := C.1
  obtain ⟨h, rc, sc, A, I⟩ := C.2.1
  have nO : _ = _ := A.2.1
  obtain ⟨r1, r2, r3, r4, fO⟩ := A.fO
  have tO := A.2.2.2.1.1
  obtain ⟨s0, c3, c4⟩ := C.2.2.1
  have yO := c3.1
  obtain ⟨po, pl, lt, fi, se, p⟩ := C.2.2.2.1
  have pO := p.1
  refine EvA.of (L := [some (.ref x), some (.int w)]) (by decide +kernel) (Nat.le_of_ble_eq_true rfl) rfl ?_
  refine Rn.iload_n (pc1 := 1)  dX8_count_0 rfl rfl rfl ?_
  cases hw : inB w (nI 0) (nI 12)
  · have e : countQ f len held w = -2 := if_neg (by rw [hw]; decide)
    rw [e]
    refine Rn.tableOut 197 dX8_count_1 (by have := inB_f (by decide) hw; exact this) (by decide) ?_
    refine Rn.bipush (pc1 := 199) (v := (-2)) dX8_count_197 rfl (by decide) ?_
    exact Rn.ireturn dX8_count_199 rfl rfl ⟨_, rfl, rfl, rfl⟩
  · have e : countQ f len held w = countW f len held w.toNatClampNeg := if_pos hw
    rw [e]
    obtain ⟨k, hk, rfl⟩ := inB_nI (by decide) hw
    rw [nI_clamp (by omega)]
    match k, hk with
    | 0, _ =>
      refine Rn.tableIn (off := 67) 68 dX8_count_1 (by decide) (by decide) (by decide) (by decide) ?_
      refine Rn.aload_n (pc1 := 69)  dX8_count_68 rfl rfl rfl ?_
      refine Rn.getfield (pc1 := 72)  dX8_count_69 rfl fX8_10 (by first | assumption | exact mset_same | exact mget_ne (by omega) (by assumption)) rfl ?_
      refine Rn.getfield (pc1 := 75)  dX8_count_72 rfl fX8_105 (by first | assumption | exact mset_same | exact mget_ne (by omega) (by assumption)) rfl ?_
      refine Rn.getfield (pc1 := 78)  dX8_count_75 rfl fX8_109 (by first | assumption | exact mset_same | exact mget_ne (by omega) (by assumption)) rfl ?_
      exact Rn.ireturn dX8_count_78 rfl rfl ⟨_, rfl, I.1.1.symm, rfl⟩
    | 1, _ =>
      refine Rn.tableIn (off := 78) 79 dX8_count_1 (by decide) (by decide) (by decide) (by decide) ?_
      refine Rn.aload_n (pc1 := 80)  dX8_count_79 rfl rfl rfl ?_
      refine Rn.getfield (pc1 := 83)  dX8_count_80 rfl fX8_10 (by first | assumption | exact mset_same | exact mget_ne (by omega) (by assumption)) rfl ?_
      refine Rn.getfield (pc1 := 86)  dX8_count_83 rfl fX8_105 (by first | assumption | exact mset_same | exact mget_ne (by omega) (by assumption)) rfl ?_
      refine Rn.getfield (pc1 := 89)  dX8_count_86 rfl fX8_179 (by first | assumption | exact mset_same | exact mget_ne (by omega) (by assumption)) rfl ?_
      exact Rn.ireturn dX8_count_89 rfl rfl ⟨_, rfl, rfl, rfl⟩
    | 2, _ =>
      refine Rn.tableIn (off := 89) 90 dX8_count_1 (by decide) (by decide) (by decide) (by decide) ?_
      refine Rn.aload_n (pc1 := 91)  dX8_count_90 rfl rfl rfl ?_
      refine Rn.getfield (pc1 := 94)  dX8_count_91 rfl fX8_10 (by first | assumption | exact mset_same | exact mget_ne (by omega) (by assumption)) rfl ?_
      refine Rn.getfield (pc1 := 97)  dX8_count_94 rfl fX8_87 (by first | assumption | exact mset_same | exact mget_ne (by omega) (by assumption)) rfl ?_
      refine Rn.cV_i (pc1 := 100) (eX7_howMany A.2.2.2.1) dX8_count_97 rfl qX8_176 oX7_howMany (by first | assumption | exact mset_same | exact mget_ne (by omega) (by assumption)) rfl rfl rfl rfl (Nat.le_of_ble_eq_true rfl) (by decide) (by decide) (fun v97 μ97 h97 => ?_)
      obtain ⟨rfl, rfl⟩ := h97
      exact Rn.ireturn dX8_count_100 rfl rfl ⟨_, rfl, rfl, rfl⟩
    | 3, _ =>
      refine Rn.tableIn (off := 100) 101 dX8_count_1 (by decide) (by decide) (by decide) (by decide) ?_
      refine Rn.aload_n (pc1 := 102)  dX8_count_101 rfl rfl rfl ?_
      refine Rn.getfield (pc1 := 105)  dX8_count_102 rfl fX8_10 (by first | assumption | exact mset_same | exact mget_ne (by omega) (by assumption)) rfl ?_
      refine Rn.getfield (pc1 := 108)  dX8_count_105 rfl fX8_182 (by first | assumption | exact mset_same | exact mget_ne (by omega) (by assumption)) rfl ?_
      exact Rn.ireturn dX8_count_108 rfl rfl ⟨_, rfl, rfl, rfl⟩
    | 4, _ =>
      refine Rn.tableIn (off := 108) 109 dX8_count_1 (by decide) (by decide) (by decide) (by decide) ?_
      refine Rn.aload_n (pc1 := 110)  dX8_count_109 rfl rfl rfl ?_
      refine Rn.getfield (pc1 := 113)  dX8_count_110 rfl fX8_10 (by first | assumption | exact mset_same | exact mget_ne (by omega) (by assumption)) rfl ?_
      refine Rn.getfield (pc1 := 116)  dX8_count_113 rfl fX8_105 (by first | assumption | exact mset_same | exact mget_ne (by omega) (by assumption)) rfl ?_
      refine Rn.getfield (pc1 := 119)  dX8_count_116 rfl fX8_150 (by first | assumption | exact mset_same | exact mget_ne (by omega) (by assumption)) rfl ?_
      exact Rn.ireturn dX8_count_119 rfl rfl ⟨_, rfl, rfl, rfl⟩
    | 5, _ =>
      refine Rn.tableIn (off := 119) 120 dX8_count_1 (by decide) (by decide) (by decide) (by decide) ?_
      refine Rn.aload_n (pc1 := 121)  dX8_count_120 rfl rfl rfl ?_
      refine Rn.getfield (pc1 := 124)  dX8_count_121 rfl fX8_10 (by first | assumption | exact mset_same | exact mget_ne (by omega) (by assumption)) rfl ?_
      refine Rn.getfield (pc1 := 127)  dX8_count_124 rfl fX8_105 (by first | assumption | exact mset_same | exact mget_ne (by omega) (by assumption)) rfl ?_
      refine Rn.getfield (pc1 := 130)  dX8_count_127 rfl fX8_185 (by first | assumption | exact mset_same | exact mget_ne (by omega) (by assumption)) rfl ?_
      exact Rn.ireturn dX8_count_130 rfl rfl ⟨_, rfl, rfl, rfl⟩
    | 6, _ =>
      refine Rn.tableIn (off := 130) 131 dX8_count_1 (by decide) (by decide) (by decide) (by decide) ?_
      refine Rn.aload_n (pc1 := 132)  dX8_count_131 rfl rfl rfl ?_
      refine Rn.getfield (pc1 := 135)  dX8_count_132 rfl fX8_10 (by first | assumption | exact mset_same | exact mget_ne (by omega) (by assumption)) rfl ?_
      refine Rn.getfield (pc1 := 138)  dX8_count_135 rfl fX8_188 (by first | assumption | exact mset_same | exact mget_ne (by omega) (by assumption)) rfl ?_
      exact Rn.ireturn dX8_count_138 rfl rfl ⟨_, rfl, I.1.2.1.symm, rfl⟩
    | 7, _ =>
      refine Rn.tableIn (off := 138) 139 dX8_count_1 (by decide) (by decide) (by decide) (by decide) ?_
      refine Rn.aload_n (pc1 := 140)  dX8_count_139 rfl rfl rfl ?_
      refine Rn.getfield (pc1 := 143)  dX8_count_140 rfl fX8_10 (by first | assumption | exact mset_same | exact mget_ne (by omega) (by assumption)) rfl ?_
      refine Rn.aload_n (pc1 := 144)  dX8_count_143 rfl rfl rfl ?_
      refine Rn.getfield (pc1 := 147)  dX8_count_144 rfl fX8_10 (by first | assumption | exact mset_same | exact mget_ne (by omega) (by assumption)) rfl ?_
      refine Rn.getfield (pc1 := 150)  dX8_count_147 rfl fX8_105 (by first | assumption | exact mset_same | exact mget_ne (by omega) (by assumption)) rfl ?_
      refine Rn.getfield (pc1 := 153)  dX8_count_150 rfl fX8_150 (by first | assumption | exact mset_same | exact mget_ne (by omega) (by assumption)) rfl ?_
      refine Rn.cV_i (pc1 := 156) (eX6_lateBelow A) dX8_count_153 rfl qX8_191 oX6_lateBelow (by first | assumption | exact mset_same | exact mget_ne (by omega) (by assumption)) rfl rfl rfl rfl (Nat.le_of_ble_eq_true rfl) (by decide) (by decide) (fun v153 μ153 h153 => ?_)
      obtain ⟨rfl, rfl⟩ := h153
      exact Rn.ireturn dX8_count_156 rfl rfl ⟨_, rfl, by show _ = lateN f (f 4) (rF f); rw [I.h.2.1], rfl⟩
    | 8, _ =>
      refine Rn.tableIn (off := 156) 157 dX8_count_1 (by decide) (by decide) (by decide) (by decide) ?_
      refine Rn.aload_n (pc1 := 158)  dX8_count_157 rfl rfl rfl ?_
      refine Rn.getfield (pc1 := 161)  dX8_count_158 rfl fX8_10 (by first | assumption | exact mset_same | exact mget_ne (by omega) (by assumption)) rfl ?_
      refine Rn.getfield (pc1 := 164)  dX8_count_161 rfl fX8_194 (by first | assumption | exact mset_same | exact mget_ne (by omega) (by assumption)) rfl ?_
      exact Rn.ireturn dX8_count_164 rfl rfl ⟨_, rfl, I.1.2.2.symm, rfl⟩
    | 9, _ =>
      refine Rn.tableIn (off := 164) 165 dX8_count_1 (by decide) (by decide) (by decide) (by decide) ?_
      refine Rn.aload_n (pc1 := 166)  dX8_count_165 rfl rfl rfl ?_
      refine Rn.getfield (pc1 := 169)  dX8_count_166 rfl fX8_10 (by first | assumption | exact mset_same | exact mget_ne (by omega) (by assumption)) rfl ?_
      refine Rn.getfield (pc1 := 172)  dX8_count_169 rfl fX8_134 (by first | assumption | exact mset_same | exact mget_ne (by omega) (by assumption)) rfl ?_
      exact Rn.ireturn dX8_count_172 rfl rfl ⟨_, rfl, rfl, rfl⟩
    | 10, _ =>
      refine Rn.tableIn (off := 172) 173 dX8_count_1 (by decide) (by decide) (by decide) (by decide) ?_
      refine Rn.aload_n (pc1 := 174)  dX8_count_173 rfl rfl rfl ?_
      refine Rn.getfield (pc1 := 177)  dX8_count_174 rfl fX8_10 (by first | assumption | exact mset_same | exact mget_ne (by omega) (by assumption)) rfl ?_
      refine Rn.getfield (pc1 := 180)  dX8_count_177 rfl fX8_197 (by first | assumption | exact mset_same | exact mget_ne (by omega) (by assumption)) rfl ?_
      exact Rn.ireturn dX8_count_180 rfl rfl ⟨_, rfl, rfl, rfl⟩
    | 11, _ =>
      refine Rn.tableIn (off := 180) 181 dX8_count_1 (by decide) (by decide) (by decide) (by decide) ?_
      refine Rn.aload_n (pc1 := 182)  dX8_count_181 rfl rfl rfl ?_
      refine Rn.getfield (pc1 := 185)  dX8_count_182 rfl fX8_26 (by first | assumption | exact mset_same | exact mget_ne (by omega) (by assumption)) rfl ?_
      refine Rn.getfield (pc1 := 188)  dX8_count_185 rfl fX8_200 (by first | assumption | exact mset_same | exact mget_ne (by omega) (by assumption)) rfl ?_
      exact Rn.ireturn dX8_count_188 rfl rfl ⟨_, rfl, rfl, rfl⟩
    | 12, _ =>
      refine Rn.tableIn (off := 188) 189 dX8_count_1 (by decide) (by decide) (by decide) (by decide) ?_
      refine Rn.aload_n (pc1 := 190)  dX8_count_189 rfl rfl rfl ?_
      refine Rn.getfield (pc1 := 193)  dX8_count_190 rfl fX8_19 (by first | assumption | exact mset_same | exact mget_ne (by omega) (by assumption)) rfl ?_
      refine Rn.getfield (pc1 := 196)  dX8_count_193 rfl fX8_203 (by first | assumption | exact mset_same | exact mget_ne (by omega) (by assumption)) rfl ?_
      exact Rn.ireturn dX8_count_196 rfl rfl ⟨_, rfl, rfl, rfl⟩
theorem eX8_shortest {r w : Int32} (hB : B < 2 ^ 30) (C : CW μ x f held P Pp len u S B) : EvA G 6 kX8_shortest [.ref x, .int r, .int w] μ sz 0 0 (rI fun v μ' => v = shortestQ f (hF f) (rF f) (sF f) r w ∧ μ' = μ) := by
  have hO := C.1
  obtain ⟨h, rc, sc, A, I⟩ := C.2.1
  have nO : _ = _ := A.2.1
  have hrc := A.1.2.1
  have hs := I.srt (by omega)
  rw [I.h.1, I.h.2.1, I.h.2.2]
  refine EvA.of (L := [some (.ref x), some (.int r), some (.int w), none, none]) (by decide +kernel) (Nat.le_of_ble_eq_true rfl) rfl ?_
  cases hr : isRdB rc r
  · have e : shortestQ f h rc sc r w = -1 := if_neg (by rw [hr]; decide)
    rw [e]
    refine Rn.aload_n (pc1 := 1)  dX8_shortest_0 rfl rfl rfl ?_
    refine Rn.getfield (pc1 := 4)  dX8_shortest_1 rfl fX8_10 (by first | assumption | exact mset_same | exact mget_ne (by omega) (by assumption)) rfl ?_
    refine Rn.iload_n (pc1 := 5)  dX8_shortest_4 rfl rfl rfl ?_
    refine Rn.cV_r (pc1 := 8) (eX6_readerAt_n A (isRdB_f (by omega) hr)) dX8_shortest_5 rfl qX8_96 oX6_readerAt (by first | assumption | exact mset_same | exact mget_ne (by omega) (by assumption)) rfl rfl rfl rfl (Nat.le_of_ble_eq_true rfl) (by decide) (by decide) (fun v5 μ5 h5 => ?_)
    obtain ⟨rfl, rfl⟩ := h5
    show Rn G 6 kX8_shortest 8 _ [.null] _ _ _ _ _
    refine Rn.astore_nN (pc1 := 9)  dX8_shortest_8 rfl rfl (by decide) rfl rfl ?_
    refine Rn.aload_nN (pc1 := 10)  dX8_shortest_9 rfl rfl rfl ?_
    refine Rn.ifnonnullN (pc1 := 13) dX8_shortest_10 rfl ?_
    refine Rn.iconst (pc1 := 14) (v := (-1)) dX8_shortest_13 rfl (by decide) ?_
    exact Rn.ireturn dX8_shortest_14 rfl rfl ⟨_, rfl, rfl, rfl⟩
  · obtain ⟨i, hi, rfl⟩ := isRdB_t (by omega) hr
    have e0 : shortestQ f h rc sc (nI i) w = if inB w (nI 0) (nI 1) = true then (if w = nI 0 then nI (shN f h sc i 5).1 else (shN f h sc i 5).2) else -2 := by unfold shortestQ; rw [if_pos hr, nI_clamp (by omega)]
    rw [e0]
    obtain ⟨k1, k2⟩ := shN_ok f h sc i 5
    refine Rn.aload_n (pc1 := 1)  dX8_shortest_0 rfl rfl rfl ?_
    refine Rn.getfield (pc1 := 4)  dX8_shortest_1 rfl fX8_10 (by first | assumption | exact mset_same | exact mget_ne (by omega) (by assumption)) rfl ?_
    refine Rn.iload_n (pc1 := 5)  dX8_shortest_4 rfl rfl rfl ?_
    refine Rn.cV_r (pc1 := 8) (eX6_readerAt_y A rfl hi) dX8_shortest_5 rfl qX8_96 oX6_readerAt (by first | assumption | exact mset_same | exact mget_ne (by omega) (by assumption)) rfl rfl rfl rfl (Nat.le_of_ble_eq_true rfl) (by decide) (by decide) (fun v5 μ5 h5 => ?_)
    obtain ⟨rfl, rfl⟩ := h5
    refine Rn.astore_n (pc1 := 9) (x := x + 1 + 10 + 5 * i)  dX8_shortest_8 rfl rfl (by decide) rfl rfl ?_
    refine Rn.aload_n (pc1 := 10)  dX8_shortest_9 rfl rfl rfl ?_
    refine Rn.ifnonnull 15 dX8_shortest_10 (by decide) ?_
    refine Rn.iload_n (pc1 := 16)  dX8_shortest_15 rfl rfl rfl ?_
    refine Rn.if_lt (pc1 := 19) 24 dX8_shortest_16 rfl (by decide) (fun c16 => ?_) (fun c16 => ?_)
    · rw [inB_lo c16, if_neg (by decide)]
      refine Rn.bipush (pc1 := 26) (v := (-2)) dX8_shortest_24 rfl (by decide) ?_
      exact Rn.ireturn dX8_shortest_26 rfl rfl ⟨_, rfl, rfl, rfl⟩
    · refine Rn.iload_n (pc1 := 20)  dX8_shortest_19 rfl rfl rfl ?_
      refine Rn.iconst (pc1 := 21) (v := nI 1) dX8_shortest_20 rfl (by decide) ?_
      refine Rn.icmp_le (pc1 := 24) 27 dX8_shortest_21 rfl (by decide) (fun c21 => ?_) (fun c21 => ?_)
      · rw [inB_t c16 (i32_nlt.mpr c21), if_pos rfl]
        refine Rn.aload_n (pc1 := 28)  dX8_shortest_27 rfl rfl rfl ?_
        refine Rn.getfield (pc1 := 31)  dX8_shortest_28 rfl fX8_10 (by first | assumption | exact mset_same | exact mget_ne (by omega) (by assumption)) rfl ?_
        refine Rn.aload_n (pc1 := 32)  dX8_shortest_31 rfl rfl rfl ?_
        refine Rn.cV_i (pc1 := 35) (eX6_shortestWay A hs hi) dX8_shortest_32 rfl qX8_214 oX6_shortestWay (by first | assumption | exact mset_same | exact mget_ne (by omega) (by assumption)) rfl rfl rfl rfl (Nat.le_of_ble_eq_true rfl) (by decide) (by decide) (fun v32 μ32 h32 => ?_)
        obtain ⟨rfl, rfl⟩ := h32
        refine Rn.istore (pc1 := 37)  dX8_shortest_35 rfl (by decide) rfl rfl ?_
        refine Rn.iload_n (pc1 := 38)  dX8_shortest_37 rfl rfl rfl ?_
        refine Rn.if_ne (pc1 := 41) 46 dX8_shortest_38 rfl (by decide) (fun c38 => ?_) (fun c38 => ?_)
        · rw [if_neg c38]
          refine Rn.aload_n (pc1 := 47)  dX8_shortest_46 rfl rfl rfl ?_
          refine Rn.getfield (pc1 := 50)  dX8_shortest_47 rfl fX8_10 (by first | assumption | exact mset_same | exact mget_ne (by omega) (by assumption)) rfl ?_
          refine Rn.aload_n (pc1 := 51)  dX8_shortest_50 rfl rfl rfl ?_
          refine Rn.iload (pc1 := 53)  dX8_shortest_51 rfl rfl ?_
          refine Rn.cV_i (pc1 := 56) (eX6_entriesOnWay A hs hi k2) dX8_shortest_53 rfl qX8_218 oX6_entriesOnWay (by first | assumption | exact mset_same | exact mget_ne (by omega) (by assumption)) rfl rfl rfl rfl (Nat.le_of_ble_eq_true rfl) (by decide) (by decide) (fun v53 μ53 h53 => ?_)
          obtain ⟨rfl, rfl⟩ := h53
          rw [k1]
          exact Rn.ireturn dX8_shortest_56 rfl rfl ⟨_, rfl, rfl, rfl⟩
        · rw [if_pos c38]
          refine Rn.iload (pc1 := 43)  dX8_shortest_41 rfl rfl ?_
          refine Rn.goto 56 dX8_shortest_43 (by decide) ?_
          exact Rn.ireturn dX8_shortest_56 rfl rfl ⟨_, rfl, rfl, rfl⟩
      · rw [inB_hi (i32_nle.mp c21), if_neg (by decide)]
        refine Rn.bipush (pc1 := 26) (v := (-2)) dX8_shortest_24 rfl (by decide) ?_
        exact Rn.ireturn dX8_shortest_26 rfl rfl ⟨_, rfl, rfl, rfl⟩
end CQ
