/-! ===== what is made: History, Slot, ChangeFeed ===== -/
-- LOOK2
theorem ST.ne {μ : Mm} {b q B : Nat} {f : Nat → Int32} {c : Cl} (H : ST μ b f B) (hq : q < b ∨ b + 52 ≤ q) : ST (mset μ q c) b f B := H.fr (Fr.set (a := q) (b := q + 1) (Nat.le_refl _) (Nat.lt_succ_self _)) (by omega)
theorem SD.ne {μ : Mm} {b q : Nat} {c : Cl} (H : SD μ b) (hq : q < b ∨ b + 52 ≤ q) : SD (mset μ q c) b := H.fr (Fr.set (a := q) (b := q + 1) (Nat.le_refl _) (Nat.lt_succ_self _)) (by omega)
def PH (μ : Mm) (y i : Nat) : Prop := μ y = some (obj 1 [.ref (y + 1), .int (nI 0)]) ∧ μ (y + 1) = some (refs 2 7 (fun q => if q < i then some (y + 2 + 52 * q) else none)) ∧ ∀ q, q < i → SD μ (y + 2 + 52 * q)
theorem PH.fr {μ μ' : Mm} {y i x z : Nat} (F : PH μ y i) (hF : Fr x z μ μ') (h : y + 2 + 52 * i ≤ x ∨ z ≤ y) : PH μ' y i := ⟨(hF _ (by omega)).trans F.1, (hF _ (by omega)).trans F.2.1, fun q hq => (F.2.2 q hq).fr hF (by omega)⟩
theorem PH.ha {μ : Mm} {y : Nat} (F : PH μ y 7) : HA μ y (fun t => y + 2 + 52 * t) 0 := ⟨F.1, by omega, ⟨_, F.2.1, fun i hi => if_pos hi⟩, fun i hi => ⟨i, hi, rfl⟩, fun i j hi hj e => by simp only at e; omega, fun i hi => F.2.2 i hi⟩
theorem PH.ne {μ : Mm} {y i q : Nat} {c : Cl} (H : PH μ y i) (hq : q < y ∨ y + 2 + 52 * i ≤ q) : PH (mset μ q c) y i := H.fr (Fr.set (a := q) (b := q + 1) (Nat.le_refl _) (Nat.lt_succ_self _)) (by omega)
theorem PA.ne {μ : Mm} {z q len pl : Nat} {P : Nat → Int32} {lt fi se : Int32} {c : Cl} (H : PA μ z P len pl lt fi se) (hq : q < z ∨ z + 2 ≤ q) : PA (mset μ q c) z P len pl lt fi se := H.fr (Fr.set (a := q) (b := q + 1) (Nat.le_refl _) (Nat.lt_succ_self _)) (by omega)
section CTOR3
variable {G : GG} {μ : Mm} {a : Nat}
theorem eX1_init (hO : μ a = some (obj 1 [.null, .int 0])) : EvA G 5 kX1_init [.ref a] μ (a + 1) 365 3689 (rV fun μ' => PH μ' a 7 ∧ Fr a (a + 366) μ μ') := by
  have loop : ∀ (n i : Nat) (μ1 : Mm), i + n = 7 → PH μ1 a i → Fr a (a + 366) μ μ1 → Rn G 5 kX1_init 20 [some (.ref a), some (.int (nI i))] [] μ1 (a + 2 + 52 * i) (52 * n) (526 * n) (rV fun μ' => PH μ' a 7 ∧ Fr a (a + 366) μ μ') := by
    intro n
    induction n with
    | zero =>
      intro i μ1 hi F1 z1
      obtain rfl : i = 7 := by omega
      have hO := F1.1
      have hR := F1.2.1
      refine Rn.iload_n (pc1 := 21)  dX1_init_20 rfl rfl rfl ?_
      refine Rn.aload_n (pc1 := 22)  dX1_init_21 rfl rfl rfl ?_
      refine Rn.getfield (pc1 := 25)  dX1_init_22 rfl fX1_11 (by first | assumption | exact mset_same | exact mget_ne (by omega) (by assumption) | exact mget_ne (by omega) mset_same) rfl ?_
      refine Rn.alen (pc1 := 26)  dX1_init_25 rfl (by first | assumption | exact mset_same | exact mget_ne (by omega) (by assumption) | exact mget_ne (by omega) mset_same) (fun _ => rfl) rfl ?_
      refine Rn.icmp_ge (pc1 := 29) 48 dX1_init_26 rfl (by decide) (fun c26 => ?_) (fun c26 => ?_)
      · exact Rn.vreturn dX1_init_48 rfl ⟨rfl, F1, z1⟩
      · exact absurd (nI_le (Nat.le_refl 7) (by decide)) c26
    | succ n ih =>
      intro i μ1 hi F1 z1
      have hO := F1.1
      have hR := F1.2.1
      rw [show 52 * (n + 1) = 52 * n + 51 + 1 by omega, show 526 * (n + 1) = 526 * n + 517 + 9 by omega]
      refine Rn.iload_n (pc1 := 21)  dX1_init_20 rfl rfl rfl ?_
      refine Rn.aload_n (pc1 := 22)  dX1_init_21 rfl rfl rfl ?_
      refine Rn.getfield (pc1 := 25)  dX1_init_22 rfl fX1_11 (by first | assumption | exact mset_same | exact mget_ne (by omega) (by assumption) | exact mget_ne (by omega) mset_same) rfl ?_
      refine Rn.alen (pc1 := 26)  dX1_init_25 rfl (by first | assumption | exact mset_same | exact mget_ne (by omega) (by assumption) | exact mget_ne (by omega) mset_same) (fun _ => rfl) rfl ?_
      refine Rn.icmp_ge (pc1 := 29) 48 dX1_init_26 rfl (by decide) (fun c26 => ?_) (fun c26 => ?_)
      · exact absurd c26 (nI_ge (show i < 7 by omega) (show (7 : Nat) < 2 ^ 31 by decide))
      · refine Rn.aload_n (pc1 := 30)  dX1_init_29 rfl rfl rfl ?_
        refine Rn.getfield (pc1 := 33)  dX1_init_30 rfl fX1_11 (by first | assumption | exact mset_same | exact mget_ne (by omega) (by assumption) | exact mget_ne (by omega) mset_same) rfl ?_
        refine Rn.iload_n (pc1 := 34)  dX1_init_33 rfl rfl rfl ?_
        refine Rn.newobj (pc1 := 37) (fs := [.int 0, .int 0, .int 0, .int 0, .int 0, .null, .null, .null, .null]) (mc := 52 * n + 51) (ms := 526 * n + 517) (ci := 6) (N0 := 9) tyX6 dX1_init_34 rfl qX1_9 qins_X6 qini_X6 rfl inX6 tyX6_ok (by decide) ?_
        refine Rn.dup (pc1 := 38)  dX1_init_37 rfl rfl ?_
        refine Rn.cI (pc1 := 41) (mc := 52 * n) (ms := 526 * n) (host := "") (eX6_init (a := a + 2 + 52 * i) mset_same) dX1_init_38 rfl qX1_21 rfl oX6_init rfl rfl (Nat.le_of_ble_eq_true rfl) (by decide) (by decide) (by omega) (by omega) (fun μ38 h38 => ?_)
        obtain ⟨V, z⟩ := h38
        have F2 : PH μ38 a i := (F1.fr (Fr.set (a := a + 2 + 52 * i) (b := a + 2 + 52 * i + 3) (Nat.le_refl _) (by omega)) (by omega)).fr z (by omega)
        have z2 : Fr a (a + 366) μ μ38 := (z1.set_ (by omega) (by omega)).trans (z.wide (by omega) (by omega))
        have VO : ∃ vs, μ38 (a + 2 + 52 * i) = some (.inr (6, vs)) := (by obtain ⟨h, rc, sc, A, _⟩ := V; exact ⟨_, A.2.1⟩)
        obtain ⟨vs, VO⟩ := VO
        refine Rn.aastore (pc1 := 42) (f' := fun q => if q < i + 1 then some (a + 2 + 52 * q) else none)  dX1_init_41 rfl F2.2.1 (fun _ => rfl) VO rfl (vp_nI (j := i) rfl (by omega) (by decide)) (by rw [nI_clamp (by omega)]; exact refs_s (s := fun q => a + 2 + 52 * q)) ?_
        refine Rn.iinc (pc1 := 45)  dX1_init_42 rfl rfl (nI_1 i) (by decide) rfl rfl ?_
        refine Rn.goto 20 dX1_init_45 (by decide) ?_
        have N := ih (i + 1) _ (by omega) (show PH (mset μ38 (a + 1) (refs 2 7 (fun q => if q < i + 1 then some (a + 2 + 52 * q) else none))) a (i + 1) from by
          obtain ⟨p1, p2, p3⟩ := F2
          refine ⟨mget_ne (by omega) p1, mset_same, fun q hq => ?_⟩
          by_cases e : q = i
          · subst e; exact V.sd.ne (by omega)
          · exact (p3 q (by omega)).ne (by omega)) (z2.set_ (by omega) (by omega))
        rw [show a + 2 + 52 * (i + 1) = a + 2 + 52 * i + 1 + 51 by omega] at N
        exact N
  refine EvA.of (L := [some (.ref a), none]) (by decide +kernel) (Nat.le_of_ble_eq_true rfl) rfl ?_
  refine Rn.aload_n (pc1 := 1)  dX1_init_0 rfl rfl rfl ?_
  refine Rn.objInit (pc1 := 4) dX1_init_1 rfl qX1_3 (Nat.le_of_ble_eq_true rfl) (by decide) ?_
  refine Rn.aload_n (pc1 := 5)  dX1_init_4 rfl rfl rfl ?_
  refine Rn.bipush (pc1 := 7) (v := nI 7) dX1_init_5 rfl (by decide) ?_
  refine Rn.newrefs (pc1 := 10) (n := 7) (t := 2) (mc := 364) (ms := 3682)  dX1_init_7 rfl qX1_9 (fun _ h => h.1) (fun _ => rfl) (by decide) (by decide) (by decide) ?_
  refine Rn.putfield (pc1 := 13)  dX1_init_10 rfl pX1_11 (fun _ => rfl) (by first | assumption | exact mset_same | exact mget_ne (by omega) (by assumption) | exact mget_ne (by omega) mset_same) (Nat.le_of_ble_eq_true rfl) rfl rfl rfl ?_
  refine Rn.aload_n (pc1 := 14)  dX1_init_13 rfl rfl rfl ?_
  refine Rn.iconst (pc1 := 15) (v := nI 0) dX1_init_14 rfl (by decide) ?_
  refine Rn.putfield (pc1 := 18)  dX1_init_15 rfl pX1_17 (fun h => Bool.noConfusion h) (by first | assumption | exact mset_same | exact mget_ne (by omega) (by assumption) | exact mget_ne (by omega) mset_same) (Nat.le_of_ble_eq_true rfl) rfl rfl rfl ?_
  refine Rn.iconst (pc1 := 19) (v := nI 0) dX1_init_18 rfl (by decide) ?_
  refine Rn.istore_n (pc1 := 20)  dX1_init_19 rfl rfl (by decide) rfl rfl ?_
  have p2 : ∀ (μ0 : Mm) (c1 c2 : Cl), mset (mset (mset μ0 (a + 1) (.inl (2, 7, .inr (.inr (.inr (.inr (fun _ => none))))))) a c1) a c2 (a + 1) = some (refs 2 7 (fun q => if q < 0 then some (a + 2 + 52 * q) else none)) := fun μ0 c1 c2 => (mset_ne (by omega)).trans ((mset_ne (by omega)).trans (mset_same.trans (by rw [refs_0 (s := fun q => a + 2 + 52 * q)])))
  exact loop 7 0 _ (by omega) ⟨mset_same, p2 _ _ _, fun q hq => by omega⟩ (fun q hq => by simp (disch := omega) only [mset_ne])
theorem eX4_init (hO : μ a = some (obj 4 [.int 0, .null])) : EvA G 5 kX4_init [.ref a] μ (a + 1) 52 526 (rV fun μ' => (μ' a = some (obj 4 [.int (bI false), .ref (a + 1)]) ∧ SD μ' (a + 1)) ∧ Fr a (a + 53) μ μ') := by
  refine EvA.of (L := [some (.ref a)]) (by decide +kernel) (Nat.le_of_ble_eq_true rfl) rfl ?_
  refine Rn.aload_n (pc1 := 1)  dX4_init_0 rfl rfl rfl ?_
  refine Rn.objInit (pc1 := 4) dX4_init_1 rfl qX4_1 (Nat.le_of_ble_eq_true rfl) (by decide) ?_
  refine Rn.aload_n (pc1 := 5)  dX4_init_4 rfl rfl rfl ?_
  refine Rn.iconst (pc1 := 6) (v := nI 0) dX4_init_5 rfl (by decide) ?_
  refine Rn.putfield (pc1 := 9)  dX4_init_6 rfl pX4_7 (fun h => Bool.noConfusion h) (by first | assumption | exact mset_same | exact mget_ne (by omega) (by assumption) | exact mget_ne (by omega) mset_same) (Nat.le_of_ble_eq_true rfl) rfl rfl rfl ?_
  refine Rn.aload_n (pc1 := 10)  dX4_init_9 rfl rfl rfl ?_
  refine Rn.newobj (pc1 := 13) (fs := [.int 0, .int 0, .int 0, .int 0, .int 0, .null, .null, .null, .null]) (mc := 51) (ms := 517) (ci := 6) (N0 := 9) tyX6 dX4_init_10 rfl qX4_13 qins_X6 qini_X6 rfl inX6 tyX6_ok (by decide) ?_
  refine Rn.dup (pc1 := 14)  dX4_init_13 rfl rfl ?_
  refine Rn.cI (pc1 := 17) (mc := 0) (ms := 0) (host := "") (eX6_init (a := a + 1) mset_same) dX4_init_14 rfl qX4_15 rfl oX6_init rfl rfl (Nat.le_of_ble_eq_true rfl) (by decide) (by decide) rfl rfl (fun μ14 h14 => ?_)
  obtain ⟨V1, z1⟩ := h14
  have hO1 := (z1 a (by omega)).trans ((mset_ne (by omega)).trans mset_same)
  refine Rn.putfield (pc1 := 20)  dX4_init_17 rfl pX4_16 (fun _ => rfl) (by first | assumption | exact mset_same | exact mget_ne (by omega) (by assumption) | exact mget_ne (by omega) mset_same) (Nat.le_of_ble_eq_true rfl) rfl rfl rfl ?_
  exact Rn.vreturn dX4_init_20 rfl ⟨rfl, ⟨mset_same, V1.sd.ne (by omega)⟩, fun q hq => (mset_ne (by omega)).trans ((z1 q (by omega)).trans (by simp (disch := omega) only [mset_ne]))⟩
def PC (μ : Mm) (x i : Nat) : Prop := CO μ x ∧ ST μ (x + 1) f9 0 ∧ PH μ (x + 53) 7 ∧ PA μ (x + 419) (fun _ => 0) 0 0 (nI 0) (nI 0) (nI 0) ∧ μ (x + 421) = some (refs 5 2 (fun q => if q < i then some (x + 422 + 53 * q) else none)) ∧ ∀ q, q < i → μ (x + 422 + 53 * q) = some (obj 4 [.int (bI false), .ref (x + 422 + 53 * q + 1)]) ∧ SD μ (x + 422 + 53 * q + 1)
theorem PC.fr {μ μ' : Mm} {x i b z : Nat} (F : PC μ x i) (hF : Fr b z μ μ') (h : x + 422 + 53 * i ≤ b ∨ z ≤ x) : PC μ' x i := ⟨(hF _ (by omega)).trans F.1, F.2.1.fr hF (by omega), F.2.2.1.fr hF (by omega), F.2.2.2.1.fr hF (by omega), (hF _ (by omega)).trans F.2.2.2.2.1, fun q hq => ⟨(hF _ (by omega)).trans (F.2.2.2.2.2 q hq).1, (F.2.2.2.2.2 q hq).2.fr hF (by omega)⟩⟩
theorem PC.cw {μ : Mm} {x : Nat} (F : PC μ x 2) (P S : Nat → Nat → Int32) : CW μ x f9 0 P (fun _ => 0) 0 (fun _ => false) S 0 := by
  obtain ⟨c1, c2, c3, c4, c5, c6⟩ := F
  refine ⟨c1, c2, ⟨_, c3.ha, fun i hi => by omega⟩, ⟨⟨by omega, fun j hj => by omega⟩, _, _, _, _, c4⟩, ⟨_, c5, fun i hi => if_pos hi⟩, fun i hi => ?_⟩
  obtain ⟨d1, d2⟩ := c6 i hi
  rw [show x + 422 + 53 * i + 1 = x + 423 + 53 * i by omega] at d1 d2
  exact ⟨d1, d2, fun q => by cases q⟩
theorem eX8_init (hO : μ a = some (obj 8 [.null, .null, .null, .null])) : EvA G 6 kX8_init [.ref a] μ (a + 1) 527 5361 (rV fun μ' => PC μ' a 2 ∧ Fr a (a + 528) μ μ') := by
  have loop : ∀ (n i : Nat) (μ1 : Mm), i + n = 2 → PC μ1 a i → Fr a (a + 528) μ μ1 → Rn G 6 kX8_init 47 [some (.ref a), some (.int (nI i))] [] μ1 (a + 422 + 53 * i) (53 * n) (528 * n) (rV fun μ' => PC μ' a 2 ∧ Fr a (a + 528) μ μ') := by
    intro n
    induction n with
    | zero =>
      intro i μ1 hi F1 z1
      obtain rfl : i = 2 := by omega
      have hO := F1.1
      have hR := F1.2.2.2.2.1
      refine Rn.iload_n (pc1 := 48)  dX8_init_47 rfl rfl rfl ?_
      refine Rn.aload_n (pc1 := 49)  dX8_init_48 rfl rfl rfl ?_
      refine Rn.getfield (pc1 := 52)  dX8_init_49 rfl fX8_32 (by first | assumption | exact mset_same | exact mget_ne (by omega) (by assumption) | exact mget_ne (by omega) mset_same) rfl ?_
      refine Rn.alen (pc1 := 53)  dX8_init_52 rfl (by first | assumption | exact mset_same | exact mget_ne (by omega) (by assumption) | exact mget_ne (by omega) mset_same) (fun _ => rfl) rfl ?_
      refine Rn.icmp_ge (pc1 := 56) 75 dX8_init_53 rfl (by decide) (fun c53 => ?_) (fun c53 => ?_)
      · exact Rn.vreturn dX8_init_75 rfl ⟨rfl, F1, z1⟩
      · exact absurd (nI_le (Nat.le_refl 2) (by decide)) c53
    | succ n ih =>
      intro i μ1 hi F1 z1
      have hO : _ = _ := F1.1
      have hR := F1.2.2.2.2.1
      rw [show 53 * (n + 1) = 53 * n + 52 + 1 by omega, show 528 * (n + 1) = 528 * n + 526 + 2 by omega]
      refine Rn.iload_n (pc1 := 48)  dX8_init_47 rfl rfl rfl ?_
      refine Rn.aload_n (pc1 := 49)  dX8_init_48 rfl rfl rfl ?_
      refine Rn.getfield (pc1 := 52)  dX8_init_49 rfl fX8_32 (by first | assumption | exact mset_same | exact mget_ne (by omega) (by assumption) | exact mget_ne (by omega) mset_same) rfl ?_
      refine Rn.alen (pc1 := 53)  dX8_init_52 rfl (by first | assumption | exact mset_same | exact mget_ne (by omega) (by assumption) | exact mget_ne (by omega) mset_same) (fun _ => rfl) rfl ?_
      refine Rn.icmp_ge (pc1 := 56) 75 dX8_init_53 rfl (by decide) (fun c53 => ?_) (fun c53 => ?_)
      · exact absurd c53 (nI_ge (show i < 2 by omega) (show (2 : Nat) < 2 ^ 31 by decide))
      · refine Rn.aload_n (pc1 := 57)  dX8_init_56 rfl rfl rfl ?_
        refine Rn.getfield (pc1 := 60)  dX8_init_57 rfl fX8_32 (by first | assumption | exact mset_same | exact mget_ne (by omega) (by assumption) | exact mget_ne (by omega) mset_same) rfl ?_
        refine Rn.iload_n (pc1 := 61)  dX8_init_60 rfl rfl rfl ?_
        refine Rn.newobj (pc1 := 64) (fs := [.int 0, .null]) (mc := 53 * n + 52) (ms := 528 * n + 526) (ci := 4) (N0 := 2) tyX4 dX8_init_61 rfl qX8_30 qins_X4 qini_X4 rfl inX4 tyX4_ok (by decide) ?_
        refine Rn.dup (pc1 := 65)  dX8_init_64 rfl rfl ?_
        refine Rn.cJ (pc1 := 68) (mc := 53 * n) (ms := 528 * n) (eX4_init (a := a + 422 + 53 * i) mset_same) dX8_init_65 rfl nX8_36 rfl oX4_init rfl rfl (Nat.le_of_ble_eq_true rfl) (by decide) (by decide) (by omega) (by omega) (fun μ65 h65 => ?_)
        obtain ⟨V, z⟩ := h65
        have F2 : PC μ65 a i := (F1.fr (Fr.set (a := a + 422 + 53 * i) (b := a + 422 + 53 * i + 3) (Nat.le_refl _) (by omega)) (by omega)).fr z (by omega)
        have z2 : Fr a (a + 528) μ μ65 := (z1.set_ (by omega) (by omega)).trans (z.wide (by omega) (by omega))
        refine Rn.aastore (pc1 := 69) (f' := fun q => if q < i + 1 then some (a + 422 + 53 * q) else none)  dX8_init_68 rfl F2.2.2.2.2.1 (fun _ => rfl) V.1 rfl (vp_nI (j := i) rfl (by omega) (by decide)) (by rw [nI_clamp (by omega)]; exact refs_s (s := fun q => a + 422 + 53 * q)) ?_
        refine Rn.iinc (pc1 := 72)  dX8_init_69 rfl rfl (nI_1 i) (by decide) rfl rfl ?_
        refine Rn.goto 47 dX8_init_72 (by decide) ?_
        have w : Fr (a + 421) (a + 422) μ65 (mset μ65 (a + 421) (refs 5 2 (fun q => if q < i + 1 then some (a + 422 + 53 * q) else none))) := Fr.set (by omega) (by omega)
        have N := ih (i + 1) _ (by omega) (show PC (mset μ65 (a + 421) (refs 5 2 (fun q => if q < i + 1 then some (a + 422 + 53 * q) else none))) a (i + 1) from by
          obtain ⟨p1, p2, p3, p4, p5, p6⟩ := F2
          refine ⟨(w _ (by omega)).trans p1, p2.fr w (by omega), p3.fr w (by omega), p4.fr w (by omega), mset_same, fun q hq => ?_⟩
          by_cases e : q = i
          · subst e; exact ⟨(w _ (by omega)).trans V.1, V.2.fr w (by omega)⟩
          · exact ⟨(w _ (by omega)).trans (p6 q (by omega)).1, (p6 q (by omega)).2.fr w (by omega)⟩) (z2.set_ (by omega) (by omega))
        rw [show a + 422 + 53 * (i + 1) = a + 422 + 53 * i + 1 + 52 by omega] at N
        exact N
  refine EvA.of (L := [some (.ref a), none]) (by decide +kernel) (Nat.le_of_ble_eq_true rfl) rfl ?_
  refine Rn.aload_n (pc1 := 1)  dX8_init_0 rfl rfl rfl ?_
  refine Rn.objInit (pc1 := 4) dX8_init_1 rfl qX8_1 (Nat.le_of_ble_eq_true rfl) (by decide) ?_
  refine Rn.aload_n (pc1 := 5)  dX8_init_4 rfl rfl rfl ?_
  refine Rn.newobj (pc1 := 8) (fs := [.int 0, .int 0, .int 0, .int 0, .int 0, .null, .null, .null, .null]) (mc := 526) (ms := 5352) (ci := 6) (N0 := 9) tyX6 dX8_init_5 rfl qX8_7 qins_X6 qini_X6 rfl inX6 tyX6_ok (by decide) ?_
  refine Rn.dup (pc1 := 9)  dX8_init_8 rfl rfl ?_
  refine Rn.cI (pc1 := 12) (mc := 475) (ms := 4835) (host := "") (eX6_init (a := a + 1) mset_same) dX8_init_9 rfl qX8_9 rfl oX6_init rfl rfl (Nat.le_of_ble_eq_true rfl) (by decide) (by decide) rfl rfl (fun μ9 h9 => ?_)
  obtain ⟨V1, z1⟩ := h9
  have hO1 := (z1 a (by omega)).trans ((mset_ne (by omega)).trans hO)
  refine Rn.putfield (pc1 := 15)  dX8_init_12 rfl pX8_10 (fun _ => rfl) (by first | assumption | exact mset_same | exact mget_ne (by omega) (by assumption) | exact mget_ne (by omega) mset_same) (Nat.le_of_ble_eq_true rfl) rfl rfl rfl ?_
  refine Rn.aload_n (pc1 := 16)  dX8_init_15 rfl rfl rfl ?_
  refine Rn.newobj (pc1 := 19) (fs := [.null, .int 0]) (mc := 474) (ms := 4833) (ci := 1) (N0 := 2) tyX1 dX8_init_16 rfl qX8_16 qins_X1 qini_X1 rfl inX1 tyX1_ok (by decide) ?_
  refine Rn.dup (pc1 := 20)  dX8_init_19 rfl rfl ?_
  refine Rn.cI (pc1 := 23) (mc := 109) (ms := 1144) (host := "") (eX1_init (a := a + 53) mset_same) dX8_init_20 rfl qX8_18 rfl oX1_init rfl rfl (Nat.le_of_ble_eq_true rfl) (by decide) (by decide) rfl rfl (fun μ20 h20 => ?_)
  obtain ⟨V2, z2⟩ := h20
  have hO2 := (z2 a (by omega)).trans ((mset_ne (by omega)).trans mset_same)
  refine Rn.putfield (pc1 := 26)  dX8_init_23 rfl pX8_19 (fun _ => rfl) (by first | assumption | exact mset_same | exact mget_ne (by omega) (by assumption) | exact mget_ne (by omega) mset_same) (Nat.le_of_ble_eq_true rfl) rfl rfl rfl ?_
  refine Rn.aload_n (pc1 := 27)  dX8_init_26 rfl rfl rfl ?_
  refine Rn.newobj (pc1 := 30) (fs := [.null, .int 0, .int 0, .int 0, .int 0, .int 0]) (mc := 108) (ms := 1138) (ci := 2) (N0 := 6) tyX2 dX8_init_27 rfl qX8_23 qins_X2 qini_X2 rfl inX2 tyX2_ok (by decide) ?_
  refine Rn.dup (pc1 := 31)  dX8_init_30 rfl rfl ?_
  refine Rn.cJ (pc1 := 34) (mc := 107) (ms := 1058) (eX2_init (a := a + 419) mset_same) dX8_init_31 rfl nX8_25 rfl oX2_init rfl rfl (Nat.le_of_ble_eq_true rfl) (by decide) (by decide) rfl rfl (fun μ31 h31 => ?_)
  obtain ⟨V3, z3⟩ := h31
  have hO3 := (z3 a (by omega)).trans ((mset_ne (by omega)).trans mset_same)
  refine Rn.putfield (pc1 := 37)  dX8_init_34 rfl pX8_26 (fun _ => rfl) (by first | assumption | exact mset_same | exact mget_ne (by omega) (by assumption) | exact mget_ne (by omega) mset_same) (Nat.le_of_ble_eq_true rfl) rfl rfl rfl ?_
  refine Rn.aload_n (pc1 := 38)  dX8_init_37 rfl rfl rfl ?_
  refine Rn.iconst (pc1 := 39) (v := nI 2) dX8_init_38 rfl (by decide) ?_
  refine Rn.newrefs (pc1 := 42) (n := 2) (t := 5) (mc := 106) (ms := 1056)  dX8_init_39 rfl qX8_30 (fun _ h => h.2.2.2) (fun _ => rfl) (by decide) (by decide) (by decide) ?_
  refine Rn.putfield (pc1 := 45)  dX8_init_42 rfl pX8_32 (fun _ => rfl) (by first | assumption | exact mset_same | exact mget_ne (by omega) (by assumption) | exact mget_ne (by omega) mset_same) (Nat.le_of_ble_eq_true rfl) rfl rfl rfl ?_
  refine Rn.iconst (pc1 := 46) (v := nI 0) dX8_init_45 rfl (by decide) ?_
  refine Rn.istore_n (pc1 := 47)  dX8_init_46 rfl rfl (by decide) rfl rfl ?_
  have p5 : ∀ (μ0 : Mm) (c : Cl), mset (mset μ0 (a + 421) (.inl (5, 2, .inr (.inr (.inr (.inr (fun _ => none))))))) a c (a + 421) = some (refs 5 2 (fun q => if q < 0 then some (a + 422 + 53 * q) else none)) := fun μ0 c => (mset_ne (by omega)).trans (mset_same.trans (by rw [refs_0 (s := fun q => a + 422 + 53 * q)]))
  exact loop 2 0 _ (by omega) ⟨mset_same, ((((((((V1.ne (by omega)).ne (by omega)).fr z2 (by omega)).ne (by omega)).ne (by omega)).fr z3 (by omega)).ne (by omega)).ne (by omega)).ne (by omega), (((((V2.ne (by omega)).ne (by omega)).fr z3 (by omega)).ne (by omega)).ne (by omega)).ne (by omega), ((V3.ne (by omega)).ne (by omega)).ne (by omega), p5 _ _, fun q hq => by omega⟩ (fun q hq => (mset_ne (by omega)).trans ((mset_ne (by omega)).trans ((mset_ne (by omega)).trans ((z3 q (by omega)).trans ((mset_ne (by omega)).trans ((mset_ne (by omega)).trans ((z2 q (by omega)).trans ((mset_ne (by omega)).trans ((mset_ne (by omega)).trans ((z1 q (by omega)).trans (by simp (disch := omega) only [mset_ne])))))))))))
end CTOR3
