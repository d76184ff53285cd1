/-! ===== the ChangeFeed at x: its State, history, pad, slots ===== -/
def CO (μ : Mm) (x : Nat) : Prop := μ x = some (obj 8 [.ref (x + 1), .ref (x + 53), .ref (x + 419), .ref (x + 421)])
def SL (μ : Mm) (x : Nat) (u : Nat → Bool) (S : Nat → Nat → Int32) (B : Nat) : Prop := (∃ r, μ (x + 421) = some (refs 5 2 r) ∧ ∀ i, i < 2 → r i = some (x + 422 + 53 * i)) ∧ ∀ i, i < 2 → μ (x + 422 + 53 * i) = some (obj 4 [.int (bI (u i)), .ref (x + 423 + 53 * i)]) ∧ SD μ (x + 423 + 53 * i) ∧ (u i = true → ST μ (x + 423 + 53 * i) (S i) B)
def PW (μ : Mm) (z : Nat) (Pp : Nat → Int32) (len : Nat) : Prop := PadOk Pp len ∧ ∃ pl lt fi se, PA μ z Pp len pl lt fi se
def CW (μ : Mm) (x : Nat) (f : Nat → Int32) (held : Nat) (P : Nat → Nat → Int32) (Pp : Nat → Int32) (len : Nat) (u : Nat → Bool) (S : Nat → Nat → Int32) (B : Nat) : Prop := CO μ x ∧ ST μ (x + 1) f B ∧ (∃ s, HA μ (x + 53) s held ∧ HP μ s held P B) ∧ PW μ (x + 419) Pp len ∧ SL μ x u S B
theorem SL.fr {μ μ' : Mm} {x a b B : Nat} {u : Nat → Bool} {S : Nat → Nat → Int32} (F : SL μ x u S B) (hF : Fr a b μ μ') (hd : x + 528 ≤ a ∨ b ≤ x + 421) : SL μ' x u S B := by
  obtain ⟨⟨r, r1, r2⟩, q⟩ := F
  exact ⟨⟨r, (hF _ (by omega)).trans r1, r2⟩, fun i hi => ⟨(hF _ (by omega)).trans (q i hi).1, (q i hi).2.1.fr hF (by omega), fun e => ((q i hi).2.2 e).fr hF (by omega)⟩⟩
theorem SL.mono {μ : Mm} {x B B' : Nat} {u : Nat → Bool} {S : Nat → Nat → Int32} (F : SL μ x u S B) (h : B ≤ B') : SL μ x u S B' := ⟨F.1, fun i hi => ⟨(F.2 i hi).1, (F.2 i hi).2.1, fun e => ((F.2 i hi).2.2 e).mono h⟩⟩
theorem PW.fr {μ μ' : Mm} {z len a b : Nat} {P : Nat → Int32} (F : PW μ z P len) (hF : Fr a b μ μ') (hd : z + 2 ≤ a ∨ b ≤ z) : PW μ' z P len := by
  obtain ⟨h, pl, lt, fi, se, q⟩ := F
  exact ⟨h, pl, lt, fi, se, q.fr hF hd⟩
theorem CO.fr {μ μ' : Mm} {x a b : Nat} (F : CO μ x) (hF : Fr a b μ μ') (hd : x + 1 ≤ a ∨ b ≤ x) : CO μ' x := (hF _ (by omega)).trans F
theorem HP.fr {μ μ' : Mm} {y held a b B : Nat} {s : Nat → Nat} {P : Nat → Nat → Int32} (H : HA μ y s held) (F : HP μ s held P B) (hF : Fr a b μ μ') (hd : y + 366 ≤ a ∨ b ≤ y + 2) : HP μ' s held P B := fun i hi => (F i hi).fr hF (by have := H.lo (show i < 7 by have := H.2.1; omega); omega)
theorem HP.mono {μ : Mm} {held B B' : Nat} {s : Nat → Nat} {P : Nat → Nat → Int32} (F : HP μ s held P B) (h : B ≤ B') : HP μ s held P B' := fun i hi => (F i hi).mono h
section CFD
variable {x held len B : Nat} {f : Nat → Int32} {P : Nat → Nat → Int32} {Pp : Nat → Int32} {u : Nat → Bool} {S : Nat → Nat → Int32}
theorem CW.fr {μ μ' : Mm} {a b : Nat} (C : CW μ x f held P Pp len u S B) (hF : Fr a b μ μ') (hd : x + 528 ≤ a ∨ b ≤ x) : CW μ' x f held P Pp len u S B := by
  obtain ⟨c1, c2, ⟨s, c3, c4⟩, c5, c6⟩ := C
  exact ⟨c1.fr hF (by omega), c2.fr hF (by omega), ⟨s, c3.fr hF (by omega), c4.fr c3 hF (by omega)⟩, c5.fr hF (by omega), c6.fr hF (by omega)⟩
theorem CW.mono {μ : Mm} {B' : Nat} (C : CW μ x f held P Pp len u S B) (h : B ≤ B') : CW μ x f held P Pp len u S B' := by
  obtain ⟨c1, c2, ⟨s, c3, c4⟩, c5, c6⟩ := C
  exact ⟨c1, c2.mono h, ⟨s, c3, c4.mono h⟩, c5, c6.mono h⟩
/-- behind prepare -/
def PP (x held len B : Nat) (f : Nat → Int32) (P : Nat → Nat → Int32) (Pp : Nat → Int32) (u : Nat → Bool) (S : Nat → Nat → Int32) (μ0 μ : Mm) : Prop := ∃ s, CO μ x ∧ PW μ (x + 419) Pp len ∧ SL μ x u S B ∧ HA μ (x + 53) s held ∧ HP μ s held P B ∧ ST μ (s held) f B ∧ Fr x (x + 528) μ0 μ
/-- behind the change, ahead of settle -/
def PD (x held len B : Nat) (f : Nat → Int32) (P : Nat → Nat → Int32) (Pp : Nat → Int32) (u : Nat → Bool) (S : Nat → Nat → Int32) (may val : Int32) (f' : Nat → Int32) (μ0 μ : Mm) (v : Int32) : Prop := PP x held len B f P Pp u S μ0 μ ∧ ((may < nI 0 ∧ v = may ∧ ST μ (x + 1) f B) ∨ (may = nI 0 ∧ nI 0 ≤ v ∧ v = val ∧ ST μ (x + 1) f' (B + 1)))
theorem PP.fr {μ0 μ μ' : Mm} {a b : Nat} (Z : PP x held len B f P Pp u S μ0 μ) (hF : Fr a b μ μ') (h1 : x + 1 ≤ a) (h2 : b ≤ x + 53) : PP x held len B f P Pp u S μ0 μ' := by
  obtain ⟨s, p1, p2, p3, p4, p5, p6, p7⟩ := Z
  have hl := p4.lo (show held < 7 by have := p4.2.1; omega)
  exact ⟨s, p1.fr hF (by omega), p2.fr hF (by omega), p3.fr hF (by omega), p4.fr hF (by omega), p5.fr p4 hF (by omega), p6.fr hF (by omega), p7.trans (hF.wide (by omega) (by omega))⟩
theorem PD.of {μ0 μ1 μ2 : Mm} {may val v : Int32} {f' : Nat → Int32} (Z : PP x held len B f P Pp u S μ0 μ1) (F : ST μ1 (x + 1) f B) (q : (may < nI 0 ∧ v = may ∧ μ2 = μ1) ∨ (may = nI 0 ∧ nI 0 ≤ val ∧ v = val ∧ ST μ2 (x + 1) f' (B + 1) ∧ Fr (x + 1) (x + 1 + 52) μ1 μ2)) : PD x held len B f P Pp u S may val f' μ0 μ2 v := by
  rcases q with ⟨h1, rfl, rfl⟩ | ⟨h1, h2, rfl, F2, z⟩
  · exact ⟨Z, Or.inl ⟨h1, rfl, F⟩⟩
  · exact ⟨Z.fr z (by omega) (by omega), Or.inr ⟨h1, h2, rfl, F2⟩⟩
end CFD
/-- what a change of the ChangeFeed answers, and what it leaves -/
abbrev QW (x held len B : Nat) (f : Nat → Int32) (P : Nat → Nat → Int32) (Pp : Nat → Int32) (u : Nat → Bool) (S : Nat → Nat → Int32) (may val : Int32) (f' : Nat → Int32) (μ0 : Mm) : Option Value → Mm → Prop := rI fun v μ' => ((may < nI 0 ∧ v = may ∧ CW μ' x f held P Pp len u S (B + 1)) ∨ (may = nI 0 ∧ nI 0 ≤ v ∧ v = val ∧ CW μ' x f' (if held < 6 then held + 1 else 6) (pushP P held f) Pp len u S (B + 1))) ∧ Fr x (x + 528) μ0 μ'
section CF
variable {G : GG} {μ : Mm} {sz x held len B : Nat} {f : Nat → Int32} {P : Nat → Nat → Int32} {Pp : Nat → Int32} {u : Nat → Bool} {S : Nat → Nat → Int32}
theorem eS_prepare (C : CW μ x f held P Pp len u S B) : EvA G 5 kX1_prepare [.ref (x + 53), .ref (x + 1)] μ sz 0 0 (rV fun μ' => PP x held len B f P Pp u S μ μ' ∧ ST μ' (x + 1) f B) := by
  obtain ⟨c1, c2, ⟨s, c3, c4⟩, c5, c6⟩ := C
  have hl := c3.lo (show held < 7 by have := c3.2.1; omega)
  refine (eX1_prepare c3 c2 (by omega)).imp ?_
  rintro r μ' ⟨rfl, h1, h2, z⟩
  refine ⟨rfl, ⟨s, c1.fr z (by omega), c5.fr z (by omega), c6.fr z (by omega), h1, fun i hi => (c4 i hi).fr z ?_, h2, z.wide (by omega) (by omega)⟩, c2.fr z (by omega)⟩
  have := c3.2.1
  have := c3.apart (show i < 7 by omega) (show held < 7 by omega) (by omega)
  omega
theorem eS_settle {μ0 : Mm} {may val v : Int32} {f' : Nat → Int32} (Z : PD x held len B f P Pp u S may val f' μ0 μ v) : EvA G 2 kX1_settle [.ref (x + 53), .int v] μ sz 0 0 (QW x held len B f P Pp u S may val f' μ0) := by
  obtain ⟨⟨s, p1, p2, p3, p4, p5, p6, p7⟩, ⟨h1, rfl, F⟩ | ⟨h1, h2, rfl, F⟩⟩ := Z
  · refine (eX1_settle_e h1).imp ?_
    rintro r μ' ⟨w, rfl, rfl, rfl⟩
    exact ⟨_, rfl, Or.inl ⟨h1, rfl, p1, F.mono (by omega), ⟨s, p4, p5.mono (by omega)⟩, p2, p3.mono (by omega)⟩, p7⟩
  · refine (eX1_settle h2 p4 (p5.mono (show B ≤ B + 1 by omega)) (p6.mono (show B ≤ B + 1 by omega))).imp ?_
    rintro r μ' ⟨w, rfl, rfl, s', held', rfl, q1, q2, z⟩
    exact ⟨_, rfl, Or.inr ⟨h1, h2, rfl, p1.fr z (by omega), F.fr z (by omega), ⟨s', q1, q2⟩, p2.fr z (by omega), (p3.fr z (by omega)).mono (by omega)⟩, p7.trans (z.wide (by omega) (by omega))⟩
theorem eX8_turn {s : Int32} {v : Int32} (C : CW μ x f held P Pp len u S B) : EvA G 6 kX8_turn [.ref x, .int s, .int v] μ sz 0 0 (QW x held len B f P Pp u S (mayTurnF s v) (f s.toNatClampNeg) (upd f s.toNatClampNeg v) μ) := by
  have hO := C.1
  obtain ⟨s0, c3, c4⟩ := C.2.2.1
  have yO := c3.1
  refine EvA.of (L := [some (.ref x), some (.int s), some (.int v)]) (by decide +kernel) (Nat.le_of_ble_eq_true rfl) rfl ?_
  refine Rn.aload_n (pc1 := 1)  dX8_turn_0 rfl rfl rfl ?_
  refine Rn.getfield (pc1 := 4)  dX8_turn_1 rfl fX8_19 (by first | assumption | exact mset_same | exact mget_ne (by omega) (by assumption)) rfl ?_
  refine Rn.aload_n (pc1 := 5)  dX8_turn_4 rfl rfl rfl ?_
  refine Rn.getfield (pc1 := 8)  dX8_turn_5 rfl fX8_10 (by first | assumption | exact mset_same | exact mget_ne (by omega) (by assumption)) rfl ?_
  refine Rn.cV_v (pc1 := 11) (eS_prepare C) dX8_turn_8 rfl qX8_37 oX1_prepare (by first | assumption | exact mset_same | exact mget_ne (by omega) (by assumption)) rfl rfl rfl rfl (Nat.le_of_ble_eq_true rfl) (by decide) (by decide) (fun μ8 h8 => ?_)
  obtain ⟨Z, F⟩ := h8
  obtain ⟨h, rc, sc, A, I⟩ := id F
  have nO : _ = _ := A.2.1
  obtain ⟨s1, p1, p2, p3, p4, -⟩ := id Z
  have hO1 := p1
  have yO1 := p4.1
  refine Rn.aload_n (pc1 := 12)  dX8_turn_11 rfl rfl rfl ?_
  refine Rn.getfield (pc1 := 15)  dX8_turn_12 rfl fX8_19 (by first | assumption | exact mset_same | exact mget_ne (by omega) (by assumption)) rfl ?_
  refine Rn.aload_n (pc1 := 16)  dX8_turn_15 rfl rfl rfl ?_
  refine Rn.getfield (pc1 := 19)  dX8_turn_16 rfl fX8_10 (by first | assumption | exact mset_same | exact mget_ne (by omega) (by assumption)) rfl ?_
  refine Rn.iload_n (pc1 := 20)  dX8_turn_19 rfl rfl rfl ?_
  refine Rn.iload_n (pc1 := 21)  dX8_turn_20 rfl rfl rfl ?_
  refine Rn.cV_i (pc1 := 24) (sX6_turnSetting F) dX8_turn_21 rfl qX8_41 oX6_turnSetting (by first | assumption | exact mset_same | exact mget_ne (by omega) (by assumption)) rfl rfl rfl rfl (Nat.le_of_ble_eq_true rfl) (by decide) (by decide) (fun v21 μ21 h21 => ?_)
  have Z2 := PD.of Z F h21
  obtain ⟨s2, q1, q2, q3, q4, -⟩ := id Z2.1
  have yO2 := q4.1
  refine Rn.cV_i (pc1 := 27) (eS_settle Z2) dX8_turn_24 rfl qX8_45 oX1_settle (by first | assumption | exact mset_same | exact mget_ne (by omega) (by assumption)) rfl rfl rfl rfl (Nat.le_of_ble_eq_true rfl) (by decide) (by decide) (fun v24 μ24 h24 => ?_)
  exact Rn.ireturn dX8_turn_27 rfl rfl ⟨_, rfl, h24⟩
theorem eX8_set {s : Int32} {v : Int32} (hB : B < 2 ^ 30) (C : CW μ x f held P Pp len u S B) : EvA G 6 kX8_set [.ref x, .int s, .int v] μ sz 0 0 (QW x held len B f P Pp u S (maySetF (hF f) s v) (f 3) (setsF f (hF f) s.toNatClampNeg v) μ) := by
  have hO := C.1
  obtain ⟨s0, c3, c4⟩ := C.2.2.1
  have yO := c3.1
  refine EvA.of (L := [some (.ref x), some (.int s), some (.int v)]) (by decide +kernel) (Nat.le_of_ble_eq_true rfl) rfl ?_
  refine Rn.aload_n (pc1 := 1)  dX8_set_0 rfl rfl rfl ?_
  refine Rn.getfield (pc1 := 4)  dX8_set_1 rfl fX8_19 (by first | assumption | exact mset_same | exact mget_ne (by omega) (by assumption)) rfl ?_
  refine Rn.aload_n (pc1 := 5)  dX8_set_4 rfl rfl rfl ?_
  refine Rn.getfield (pc1 := 8)  dX8_set_5 rfl fX8_10 (by first | assumption | exact mset_same | exact mget_ne (by omega) (by assumption)) rfl ?_
  refine Rn.cV_v (pc1 := 11) (eS_prepare C) dX8_set_8 rfl qX8_37 oX1_prepare (by first | assumption | exact mset_same | exact mget_ne (by omega) (by assumption)) rfl rfl rfl rfl (Nat.le_of_ble_eq_true rfl) (by decide) (by decide) (fun μ8 h8 => ?_)
  obtain ⟨Z, F⟩ := h8
  obtain ⟨h, rc, sc, A, I⟩ := id F
  have nO : _ = _ := A.2.1
  obtain ⟨s1, p1, p2, p3, p4, -⟩ := id Z
  have hO1 := p1
  have yO1 := p4.1
  refine Rn.aload_n (pc1 := 12)  dX8_set_11 rfl rfl rfl ?_
  refine Rn.getfield (pc1 := 15)  dX8_set_12 rfl fX8_19 (by first | assumption | exact mset_same | exact mget_ne (by omega) (by assumption)) rfl ?_
  refine Rn.aload_n (pc1 := 16)  dX8_set_15 rfl rfl rfl ?_
  refine Rn.getfield (pc1 := 19)  dX8_set_16 rfl fX8_10 (by first | assumption | exact mset_same | exact mget_ne (by omega) (by assumption)) rfl ?_
  refine Rn.iload_n (pc1 := 20)  dX8_set_19 rfl rfl rfl ?_
  refine Rn.iload_n (pc1 := 21)  dX8_set_20 rfl rfl rfl ?_
  refine Rn.cV_i (pc1 := 24) (sX6_setKey hB F) dX8_set_21 rfl qX8_49 oX6_setKey (by first | assumption | exact mset_same | exact mget_ne (by omega) (by assumption)) rfl rfl rfl rfl (Nat.le_of_ble_eq_true rfl) (by decide) (by decide) (fun v21 μ21 h21 => ?_)
  have Z2 := PD.of Z F h21
  obtain ⟨s2, q1, q2, q3, q4, -⟩ := id Z2.1
  have yO2 := q4.1
  refine Rn.cV_i (pc1 := 27) (eS_settle Z2) dX8_set_24 rfl qX8_45 oX1_settle (by first | assumption | exact mset_same | exact mget_ne (by omega) (by assumption)) rfl rfl rfl rfl (Nat.le_of_ble_eq_true rfl) (by decide) (by decide) (fun v24 μ24 h24 => ?_)
  exact Rn.ireturn dX8_set_27 rfl rfl ⟨_, rfl, h24⟩
theorem eX8_remove {s : Int32} (hB : B < 2 ^ 30) (C : CW μ x f held P Pp len u S B) : EvA G 6 kX8_remove [.ref x, .int s] μ sz 0 0 (QW x held len B f P Pp u S (mayRemoveF f (hF f) s) (f 3) (setsF f (hF f) s.toNatClampNeg (-6)) μ) := by
  have hO := C.1
  obtain ⟨s0, c3, c4⟩ := C.2.2.1
  have yO := c3.1
  refine EvA.of (L := [some (.ref x), some (.int s)]) (by decide +kernel) (Nat.le_of_ble_eq_true rfl) rfl ?_
  refine Rn.aload_n (pc1 := 1)  dX8_remove_0 rfl rfl rfl ?_
  refine Rn.getfield (pc1 := 4)  dX8_remove_1 rfl fX8_19 (by first | assumption | exact mset_same | exact mget_ne (by omega) (by assumption)) rfl ?_
  refine Rn.aload_n (pc1 := 5)  dX8_remove_4 rfl rfl rfl ?_
  refine Rn.getfield (pc1 := 8)  dX8_remove_5 rfl fX8_10 (by first | assumption | exact mset_same | exact mget_ne (by omega) (by assumption)) rfl ?_
  refine Rn.cV_v (pc1 := 11) (eS_prepare C) dX8_remove_8 rfl qX8_37 oX1_prepare (by first | assumption | exact mset_same | exact mget_ne (by omega) (by assumption)) rfl rfl rfl rfl (Nat.le_of_ble_eq_true rfl) (by decide) (by decide) (fun μ8 h8 => ?_)
  obtain ⟨Z, F⟩ := h8
  obtain ⟨h, rc, sc, A, I⟩ := id F
  have nO : _ = _ := A.2.1
  obtain ⟨s1, p1, p2, p3, p4, -⟩ := id Z
  have hO1 := p1
  have yO1 := p4.1
  refine Rn.aload_n (pc1 := 12)  dX8_remove_11 rfl rfl rfl ?_
  refine Rn.getfield (pc1 := 15)  dX8_remove_12 rfl fX8_19 (by first | assumption | exact mset_same | exact mget_ne (by omega) (by assumption)) rfl ?_
  refine Rn.aload_n (pc1 := 16)  dX8_remove_15 rfl rfl rfl ?_
  refine Rn.getfield (pc1 := 19)  dX8_remove_16 rfl fX8_10 (by first | assumption | exact mset_same | exact mget_ne (by omega) (by assumption)) rfl ?_
  refine Rn.iload_n (pc1 := 20)  dX8_remove_19 rfl rfl rfl ?_
  refine Rn.cV_i (pc1 := 23) (sX6_removeKey hB F) dX8_remove_20 rfl qX8_52 oX6_removeKey (by first | assumption | exact mset_same | exact mget_ne (by omega) (by assumption)) rfl rfl rfl rfl (Nat.le_of_ble_eq_true rfl) (by decide) (by decide) (fun v20 μ20 h20 => ?_)
  have Z2 := PD.of Z F h20
  obtain ⟨s2, q1, q2, q3, q4, -⟩ := id Z2.1
  have yO2 := q4.1
  refine Rn.cV_i (pc1 := 26) (eS_settle Z2) dX8_remove_23 rfl qX8_45 oX1_settle (by first | assumption | exact mset_same | exact mget_ne (by omega) (by assumption)) rfl rfl rfl rfl (Nat.le_of_ble_eq_true rfl) (by decide) (by decide) (fun v23 μ23 h23 => ?_)
  exact Rn.ireturn dX8_remove_26 rfl rfl ⟨_, rfl, h23⟩
theorem eX8_pass {s : Int32} (C : CW μ x f held P Pp len u S B) : EvA G 6 kX8_pass [.ref x, .int s] μ sz 0 0 (QW x held len B f P Pp u S (mayPassF f s) (f 2 + s) (upd f 2 (f 2 + s)) μ) := by
  have hO := C.1
  obtain ⟨s0, c3, c4⟩ := C.2.2.1
  have yO := c3.1
  refine EvA.of (L := [some (.ref x), some (.int s)]) (by decide +kernel) (Nat.le_of_ble_eq_true rfl) rfl ?_
  refine Rn.aload_n (pc1 := 1)  dX8_pass_0 rfl rfl rfl ?_
  refine Rn.getfield (pc1 := 4)  dX8_pass_1 rfl fX8_19 (by first | assumption | exact mset_same | exact mget_ne (by omega) (by assumption)) rfl ?_
  refine Rn.aload_n (pc1 := 5)  dX8_pass_4 rfl rfl rfl ?_
  refine Rn.getfield (pc1 := 8)  dX8_pass_5 rfl fX8_10 (by first | assumption | exact mset_same | exact mget_ne (by omega) (by assumption)) rfl ?_
  refine Rn.cV_v (pc1 := 11) (eS_prepare C) dX8_pass_8 rfl qX8_37 oX1_prepare (by first | assumption | exact mset_same | exact mget_ne (by omega) (by assumption)) rfl rfl rfl rfl (Nat.le_of_ble_eq_true rfl) (by decide) (by decide) (fun μ8 h8 => ?_)
  obtain ⟨Z, F⟩ := h8
  obtain ⟨h, rc, sc, A, I⟩ := id F
  have nO : _ = _ := A.2.1
  obtain ⟨s1, p1, p2, p3, p4, -⟩ := id Z
  have hO1 := p1
  have yO1 := p4.1
  refine Rn.aload_n (pc1 := 12)  dX8_pass_11 rfl rfl rfl ?_
  refine Rn.getfield (pc1 := 15)  dX8_pass_12 rfl fX8_19 (by first | assumption | exact mset_same | exact mget_ne (by omega) (by assumption)) rfl ?_
  refine Rn.aload_n (pc1 := 16)  dX8_pass_15 rfl rfl rfl ?_
  refine Rn.getfield (pc1 := 19)  dX8_pass_16 rfl fX8_10 (by first | assumption | exact mset_same | exact mget_ne (by omega) (by assumption)) rfl ?_
  refine Rn.iload_n (pc1 := 20)  dX8_pass_19 rfl rfl rfl ?_
  refine Rn.cV_i (pc1 := 23) (sX6_letPass F) dX8_pass_20 rfl qX8_55 oX6_letPass (by first | assumption | exact mset_same | exact mget_ne (by omega) (by assumption)) rfl rfl rfl rfl (Nat.le_of_ble_eq_true rfl) (by decide) (by decide) (fun v20 μ20 h20 => ?_)
  have Z2 := PD.of Z F h20
  obtain ⟨s2, q1, q2, q3, q4, -⟩ := id Z2.1
  have yO2 := q4.1
  refine Rn.cV_i (pc1 := 26) (eS_settle Z2) dX8_pass_23 rfl qX8_45 oX1_settle (by first | assumption | exact mset_same | exact mget_ne (by omega) (by assumption)) rfl rfl rfl rfl (Nat.le_of_ble_eq_true rfl) (by decide) (by decide) (fun v23 μ23 h23 => ?_)
  exact Rn.ireturn dX8_pass_26 rfl rfl ⟨_, rfl, h23⟩
theorem eX8_thin (C : CW μ x f held P Pp len u S B) : EvA G 6 kX8_thin [.ref x] μ sz 0 0 (QW x held len B f P Pp u S (nI 0) (nI (hF f - leftF f (hF f) (f 0) (f 2))) (thinF f (hF f) (f 0) (f 2)) μ) := by
  have hO := C.1
  obtain ⟨s0, c3, c4⟩ := C.2.2.1
  have yO := c3.1
  refine EvA.of (L := [some (.ref x)]) (by decide +kernel) (Nat.le_of_ble_eq_true rfl) rfl ?_
  refine Rn.aload_n (pc1 := 1)  dX8_thin_0 rfl rfl rfl ?_
  refine Rn.getfield (pc1 := 4)  dX8_thin_1 rfl fX8_19 (by first | assumption | exact mset_same | exact mget_ne (by omega) (by assumption)) rfl ?_
  refine Rn.aload_n (pc1 := 5)  dX8_thin_4 rfl rfl rfl ?_
  refine Rn.getfield (pc1 := 8)  dX8_thin_5 rfl fX8_10 (by first | assumption | exact mset_same | exact mget_ne (by omega) (by assumption)) rfl ?_
  refine Rn.cV_v (pc1 := 11) (eS_prepare C) dX8_thin_8 rfl qX8_37 oX1_prepare (by first | assumption | exact mset_same | exact mget_ne (by omega) (by assumption)) rfl rfl rfl rfl (Nat.le_of_ble_eq_true rfl) (by decide) (by decide) (fun μ8 h8 => ?_)
  obtain ⟨Z, F⟩ := h8
  obtain ⟨h, rc, sc, A, I⟩ := id F
  have nO : _ = _ := A.2.1
  obtain ⟨s1, p1, p2, p3, p4, -⟩ := id Z
  have hO1 := p1
  have yO1 := p4.1
  refine Rn.aload_n (pc1 := 12)  dX8_thin_11 rfl rfl rfl ?_
  refine Rn.getfield (pc1 := 15)  dX8_thin_12 rfl fX8_19 (by first | assumption | exact mset_same | exact mget_ne (by omega) (by assumption)) rfl ?_
  refine Rn.aload_n (pc1 := 16)  dX8_thin_15 rfl rfl rfl ?_
  refine Rn.getfield (pc1 := 19)  dX8_thin_16 rfl fX8_10 (by first | assumption | exact mset_same | exact mget_ne (by omega) (by assumption)) rfl ?_
  refine Rn.cV_i (pc1 := 22) (sX6_thinFeed F) dX8_thin_19 rfl qX8_58 oX6_thinFeed (by first | assumption | exact mset_same | exact mget_ne (by omega) (by assumption)) rfl rfl rfl rfl (Nat.le_of_ble_eq_true rfl) (by decide) (by decide) (fun v19 μ19 h19 => ?_)
  have Z2 := PD.of Z F h19
  obtain ⟨s2, q1, q2, q3, q4, -⟩ := id Z2.1
  have yO2 := q4.1
  refine Rn.cV_i (pc1 := 25) (eS_settle Z2) dX8_thin_22 rfl qX8_45 oX1_settle (by first | assumption | exact mset_same | exact mget_ne (by omega) (by assumption)) rfl rfl rfl rfl (Nat.le_of_ble_eq_true rfl) (by decide) (by decide) (fun v22 μ22 h22 => ?_)
  exact Rn.ireturn dX8_thin_25 rfl rfl ⟨_, rfl, h22⟩
theorem eX8_snapshot (hB : B < 2 ^ 30) (C : CW μ x f held P Pp len u S B) : EvA G 6 kX8_snapshot [.ref x] μ sz 0 0 (QW x held len B f P Pp u S (nI 0) (f 3) (shotF f (sF f)) μ) := by
  have hO := C.1
  obtain ⟨s0, c3, c4⟩ := C.2.2.1
  have yO := c3.1
  refine EvA.of (L := [some (.ref x)]) (by decide +kernel) (Nat.le_of_ble_eq_true rfl) rfl ?_
  refine Rn.aload_n (pc1 := 1)  dX8_snapshot_0 rfl rfl rfl ?_
  refine Rn.getfield (pc1 := 4)  dX8_snapshot_1 rfl fX8_19 (by first | assumption | exact mset_same | exact mget_ne (by omega) (by assumption)) rfl ?_
  refine Rn.aload_n (pc1 := 5)  dX8_snapshot_4 rfl rfl rfl ?_
  refine Rn.getfield (pc1 := 8)  dX8_snapshot_5 rfl fX8_10 (by first | assumption | exact mset_same | exact mget_ne (by omega) (by assumption)) rfl ?_
  refine Rn.cV_v (pc1 := 11) (eS_prepare C) dX8_snapshot_8 rfl qX8_37 oX1_prepare (by first | assumption | exact mset_same | exact mget_ne (by omega) (by assumption)) rfl rfl rfl rfl (Nat.le_of_ble_eq_true rfl) (by decide) (by decide) (fun μ8 h8 => ?_)
  obtain ⟨Z, F⟩ := h8
  obtain ⟨h, rc, sc, A, I⟩ := id F
  have nO : _ = _ := A.2.1
  obtain ⟨s1, p1, p2, p3, p4, -⟩ := id Z
  have hO1 := p1
  have yO1 := p4.1
  refine Rn.aload_n (pc1 := 12)  dX8_snapshot_11 rfl rfl rfl ?_
  refine Rn.getfield (pc1 := 15)  dX8_snapshot_12 rfl fX8_19 (by first | assumption | exact mset_same | exact mget_ne (by omega) (by assumption)) rfl ?_
  refine Rn.aload_n (pc1 := 16)  dX8_snapshot_15 rfl rfl rfl ?_
  refine Rn.getfield (pc1 := 19)  dX8_snapshot_16 rfl fX8_10 (by first | assumption | exact mset_same | exact mget_ne (by omega) (by assumption)) rfl ?_
  refine Rn.cV_i (pc1 := 22) (sX6_makeSnapshot hB F) dX8_snapshot_19 rfl qX8_62 oX6_makeSnapshot (by first | assumption | exact mset_same | exact mget_ne (by omega) (by assumption)) rfl rfl rfl rfl (Nat.le_of_ble_eq_true rfl) (by decide) (by decide) (fun v19 μ19 h19 => ?_)
  have Z2 := PD.of Z F h19
  obtain ⟨s2, q1, q2, q3, q4, -⟩ := id Z2.1
  have yO2 := q4.1
  refine Rn.cV_i (pc1 := 25) (eS_settle Z2) dX8_snapshot_22 rfl qX8_45 oX1_settle (by first | assumption | exact mset_same | exact mget_ne (by omega) (by assumption)) rfl rfl rfl rfl (Nat.le_of_ble_eq_true rfl) (by decide) (by decide) (fun v22 μ22 h22 => ?_)
  exact Rn.ireturn dX8_snapshot_25 rfl rfl ⟨_, rfl, h22⟩
theorem eX8_reader (C : CW μ x f held P Pp len u S B) : EvA G 6 kX8_reader [.ref x] μ sz 0 0 (QW x held len B f P Pp u S (mayComeF (rF f)) (nI (rF f)) (comeF f (rF f)) μ) := by
  have hO := C.1
  obtain ⟨s0, c3, c4⟩ := C.2.2.1
  have yO := c3.1
  refine EvA.of (L := [some (.ref x)]) (by decide +kernel) (Nat.le_of_ble_eq_true rfl) rfl ?_
  refine Rn.aload_n (pc1 := 1)  dX8_reader_0 rfl rfl rfl ?_
  refine Rn.getfield (pc1 := 4)  dX8_reader_1 rfl fX8_19 (by first | assumption | exact mset_same | exact mget_ne (by omega) (by assumption)) rfl ?_
  refine Rn.aload_n (pc1 := 5)  dX8_reader_4 rfl rfl rfl ?_
  refine Rn.getfield (pc1 := 8)  dX8_reader_5 rfl fX8_10 (by first | assumption | exact mset_same | exact mget_ne (by omega) (by assumption)) rfl ?_
  refine Rn.cV_v (pc1 := 11) (eS_prepare C) dX8_reader_8 rfl qX8_37 oX1_prepare (by first | assumption | exact mset_same | exact mget_ne (by omega) (by assumption)) rfl rfl rfl rfl (Nat.le_of_ble_eq_true rfl) (by decide) (by decide) (fun μ8 h8 => ?_)
  obtain ⟨Z, F⟩ := h8
  obtain ⟨h, rc, sc, A, I⟩ := id F
  have nO : _ = _ := A.2.1
  obtain ⟨s1, p1, p2, p3, p4, -⟩ := id Z
  have hO1 := p1
  have yO1 := p4.1
  refine Rn.aload_n (pc1 := 12)  dX8_reader_11 rfl rfl rfl ?_
  refine Rn.getfield (pc1 := 15)  dX8_reader_12 rfl fX8_19 (by first | assumption | exact mset_same | exact mget_ne (by omega) (by assumption)) rfl ?_
  refine Rn.aload_n (pc1 := 16)  dX8_reader_15 rfl rfl rfl ?_
  refine Rn.getfield (pc1 := 19)  dX8_reader_16 rfl fX8_10 (by first | assumption | exact mset_same | exact mget_ne (by omega) (by assumption)) rfl ?_
  refine Rn.cV_i (pc1 := 22) (sX6_addReader F) dX8_reader_19 rfl qX8_65 oX6_addReader (by first | assumption | exact mset_same | exact mget_ne (by omega) (by assumption)) rfl rfl rfl rfl (Nat.le_of_ble_eq_true rfl) (by decide) (by decide) (fun v19 μ19 h19 => ?_)
  have Z2 := PD.of Z F h19
  obtain ⟨s2, q1, q2, q3, q4, -⟩ := id Z2.1
  have yO2 := q4.1
  refine Rn.cV_i (pc1 := 25) (eS_settle Z2) dX8_reader_22 rfl qX8_45 oX1_settle (by first | assumption | exact mset_same | exact mget_ne (by omega) (by assumption)) rfl rfl rfl rfl (Nat.le_of_ble_eq_true rfl) (by decide) (by decide) (fun v22 μ22 h22 => ?_)
  exact Rn.ireturn dX8_reader_25 rfl rfl ⟨_, rfl, h22⟩
theorem eX8_read {s : Int32} {v : Int32} (hB : B < 2 ^ 30) (C : CW μ x f held P Pp len u S B) : EvA G 6 kX8_read [.ref x, .int s, .int v] μ sz 0 0 (QW x held len B f P Pp u S (mayReadF f (rF f) s v) (nI (rdC f (hF f) s.toNatClampNeg v.toNatClampNeg)) (readF f s.toNatClampNeg (rdK f (hF f) s.toNatClampNeg) (rdC f (hF f) s.toNatClampNeg v.toNatClampNeg)) μ) := by
  have hO := C.1
  obtain ⟨s0, c3, c4⟩ := C.2.2.1
  have yO := c3.1
  refine EvA.of (L := [some (.ref x), some (.int s), some (.int v)]) (by decide +kernel) (Nat.le_of_ble_eq_true rfl) rfl ?_
  refine Rn.aload_n (pc1 := 1)  dX8_read_0 rfl rfl rfl ?_
  refine Rn.getfield (pc1 := 4)  dX8_read_1 rfl fX8_19 (by first | assumption | exact mset_same | exact mget_ne (by omega) (by assumption)) rfl ?_
  refine Rn.aload_n (pc1 := 5)  dX8_read_4 rfl rfl rfl ?_
  refine Rn.getfield (pc1 := 8)  dX8_read_5 rfl fX8_10 (by first | assumption | exact mset_same | exact mget_ne (by omega) (by assumption)) rfl ?_
  refine Rn.cV_v (pc1 := 11) (eS_prepare C) dX8_read_8 rfl qX8_37 oX1_prepare (by first | assumption | exact mset_same | exact mget_ne (by omega) (by assumption)) rfl rfl rfl rfl (Nat.le_of_ble_eq_true rfl) (by decide) (by decide) (fun μ8 h8 => ?_)
  obtain ⟨Z, F⟩ := h8
  obtain ⟨h, rc, sc, A, I⟩ := id F
  have nO : _ = _ := A.2.1
  obtain ⟨s1, p1, p2, p3, p4, -⟩ := id Z
  have hO1 := p1
  have yO1 := p4.1
  refine Rn.aload_n (pc1 := 12)  dX8_read_11 rfl rfl rfl ?_
  refine Rn.getfield (pc1 := 15)  dX8_read_12 rfl fX8_19 (by first | assumption | exact mset_same | exact mget_ne (by omega) (by assumption)) rfl ?_
  refine Rn.aload_n (pc1 := 16)  dX8_read_15 rfl rfl rfl ?_
  refine Rn.getfield (pc1 := 19)  dX8_read_16 rfl fX8_10 (by first | assumption | exact mset_same | exact mget_ne (by omega) (by assumption)) rfl ?_
  refine Rn.iload_n (pc1 := 20)  dX8_read_19 rfl rfl rfl ?_
  refine Rn.iload_n (pc1 := 21)  dX8_read_20 rfl rfl rfl ?_
  refine Rn.cV_i (pc1 := 24) (sX6_letRead hB F) dX8_read_21 rfl qX8_68 oX6_letRead (by first | assumption | exact mset_same | exact mget_ne (by omega) (by assumption)) rfl rfl rfl rfl (Nat.le_of_ble_eq_true rfl) (by decide) (by decide) (fun v21 μ21 h21 => ?_)
  have Z2 := PD.of Z F h21
  obtain ⟨s2, q1, q2, q3, q4, -⟩ := id Z2.1
  have yO2 := q4.1
  refine Rn.cV_i (pc1 := 27) (eS_settle Z2) dX8_read_24 rfl qX8_45 oX1_settle (by first | assumption | exact mset_same | exact mget_ne (by omega) (by assumption)) rfl rfl rfl rfl (Nat.le_of_ble_eq_true rfl) (by decide) (by decide) (fun v24 μ24 h24 => ?_)
  exact Rn.ireturn dX8_read_27 rfl rfl ⟨_, rfl, h24⟩
theorem eX8_confirm {s : Int32} (C : CW μ x f held P Pp len u S B) : EvA G 6 kX8_confirm [.ref x, .int s] μ sz 0 0 (QW x held len B f P Pp u S (mayIsF (rF f) s) (f (261 + 27 * s.toNatClampNeg)) (confF f s.toNatClampNeg) μ) := by
  have hO := C.1
  obtain ⟨s0, c3, c4⟩ := C.2.2.1
  have yO := c3.1
  refine EvA.of (L := [some (.ref x), some (.int s)]) (by decide +kernel) (Nat.le_of_ble_eq_true rfl) rfl ?_
  refine Rn.aload_n (pc1 := 1)  dX8_confirm_0 rfl rfl rfl ?_
  refine Rn.getfield (pc1 := 4)  dX8_confirm_1 rfl fX8_19 (by first | assumption | exact mset_same | exact mget_ne (by omega) (by assumption)) rfl ?_
  refine Rn.aload_n (pc1 := 5)  dX8_confirm_4 rfl rfl rfl ?_
  refine Rn.getfield (pc1 := 8)  dX8_confirm_5 rfl fX8_10 (by first | assumption | exact mset_same | exact mget_ne (by omega) (by assumption)) rfl ?_
  refine Rn.cV_v (pc1 := 11) (eS_prepare C) dX8_confirm_8 rfl qX8_37 oX1_prepare (by first | assumption | exact mset_same | exact mget_ne (by omega) (by assumption)) rfl rfl rfl rfl (Nat.le_of_ble_eq_true rfl) (by decide) (by decide) (fun μ8 h8 => ?_)
  obtain ⟨Z, F⟩ := h8
  obtain ⟨h, rc, sc, A, I⟩ := id F
  have nO : _ = _ := A.2.1
  obtain ⟨s1, p1, p2, p3, p4, -⟩ := id Z
  have hO1 := p1
  have yO1 := p4.1
  refine Rn.aload_n (pc1 := 12)  dX8_confirm_11 rfl rfl rfl ?_
  refine Rn.getfield (pc1 := 15)  dX8_confirm_12 rfl fX8_19 (by first | assumption | exact mset_same | exact mget_ne (by omega) (by assumption)) rfl ?_
  refine Rn.aload_n (pc1 := 16)  dX8_confirm_15 rfl rfl rfl ?_
  refine Rn.getfield (pc1 := 19)  dX8_confirm_16 rfl fX8_10 (by first | assumption | exact mset_same | exact mget_ne (by omega) (by assumption)) rfl ?_
  refine Rn.iload_n (pc1 := 20)  dX8_confirm_19 rfl rfl rfl ?_
  refine Rn.cV_i (pc1 := 23) (sX6_letConfirm F) dX8_confirm_20 rfl qX8_71 oX6_letConfirm (by first | assumption | exact mset_same | exact mget_ne (by omega) (by assumption)) rfl rfl rfl rfl (Nat.le_of_ble_eq_true rfl) (by decide) (by decide) (fun v20 μ20 h20 => ?_)
  have Z2 := PD.of Z F h20
  obtain ⟨s2, q1, q2, q3, q4, -⟩ := id Z2.1
  have yO2 := q4.1
  refine Rn.cV_i (pc1 := 26) (eS_settle Z2) dX8_confirm_23 rfl qX8_45 oX1_settle (by first | assumption | exact mset_same | exact mget_ne (by omega) (by assumption)) rfl rfl rfl rfl (Nat.le_of_ble_eq_true rfl) (by decide) (by decide) (fun v23 μ23 h23 => ?_)
  exact Rn.ireturn dX8_confirm_26 rfl rfl ⟨_, rfl, h23⟩
theorem eX8_goBack {s : Int32} (C : CW μ x f held P Pp len u S B) : EvA G 6 kX8_goBack [.ref x, .int s] μ sz 0 0 (QW x held len B f P Pp u S (mayIsF (rF f) s) (f (261 + 27 * s.toNatClampNeg + 1)) (backF f s.toNatClampNeg) μ) := by
  have hO := C.1
  obtain ⟨s0, c3, c4⟩ := C.2.2.1
  have yO := c3.1
  refine EvA.of (L := [some (.ref x), some (.int s)]) (by decide +kernel) (Nat.le_of_ble_eq_true rfl) rfl ?_
  refine Rn.aload_n (pc1 := 1)  dX8_goBack_0 rfl rfl rfl ?_
  refine Rn.getfield (pc1 := 4)  dX8_goBack_1 rfl fX8_19 (by first | assumption | exact mset_same | exact mget_ne (by omega) (by assumption)) rfl ?_
  refine Rn.aload_n (pc1 := 5)  dX8_goBack_4 rfl rfl rfl ?_
  refine Rn.getfield (pc1 := 8)  dX8_goBack_5 rfl fX8_10 (by first | assumption | exact mset_same | exact mget_ne (by omega) (by assumption)) rfl ?_
  refine Rn.cV_v (pc1 := 11) (eS_prepare C) dX8_goBack_8 rfl qX8_37 oX1_prepare (by first | assumption | exact mset_same | exact mget_ne (by omega) (by assumption)) rfl rfl rfl rfl (Nat.le_of_ble_eq_true rfl) (by decide) (by decide) (fun μ8 h8 => ?_)
  obtain ⟨Z, F⟩ := h8
  obtain ⟨h, rc, sc, A, I⟩ := id F
  have nO : _ = _ := A.2.1
  obtain ⟨s1, p1, p2, p3, p4, -⟩ := id Z
  have hO1 := p1
  have yO1 := p4.1
  refine Rn.aload_n (pc1 := 12)  dX8_goBack_11 rfl rfl rfl ?_
  refine Rn.getfield (pc1 := 15)  dX8_goBack_12 rfl fX8_19 (by first | assumption | exact mset_same | exact mget_ne (by omega) (by assumption)) rfl ?_
  refine Rn.aload_n (pc1 := 16)  dX8_goBack_15 rfl rfl rfl ?_
  refine Rn.getfield (pc1 := 19)  dX8_goBack_16 rfl fX8_10 (by first | assumption | exact mset_same | exact mget_ne (by omega) (by assumption)) rfl ?_
  refine Rn.iload_n (pc1 := 20)  dX8_goBack_19 rfl rfl rfl ?_
  refine Rn.cV_i (pc1 := 23) (sX6_letGoBack F) dX8_goBack_20 rfl qX8_74 oX6_letGoBack (by first | assumption | exact mset_same | exact mget_ne (by omega) (by assumption)) rfl rfl rfl rfl (Nat.le_of_ble_eq_true rfl) (by decide) (by decide) (fun v20 μ20 h20 => ?_)
  have Z2 := PD.of Z F h20
  obtain ⟨s2, q1, q2, q3, q4, -⟩ := id Z2.1
  have yO2 := q4.1
  refine Rn.cV_i (pc1 := 26) (eS_settle Z2) dX8_goBack_23 rfl qX8_45 oX1_settle (by first | assumption | exact mset_same | exact mget_ne (by omega) (by assumption)) rfl rfl rfl rfl (Nat.le_of_ble_eq_true rfl) (by decide) (by decide) (fun v23 μ23 h23 => ?_)
  exact Rn.ireturn dX8_goBack_26 rfl rfl ⟨_, rfl, h23⟩
theorem eX8_beginAnew {s : Int32} (hB : B < 2 ^ 30) (C : CW μ x f held P Pp len u S B) : EvA G 6 kX8_beginAnew [.ref x, .int s] μ sz 0 0 (QW x held len B f P Pp u S (mayIsF (rF f) s) (nI (hF f)) (beginF f s.toNatClampNeg (nI 0) (fun _ => -6)) μ) := by
  have hO := C.1
  obtain ⟨s0, c3, c4⟩ := C.2.2.1
  have yO := c3.1
  refine EvA.of (L := [some (.ref x), some (.int s)]) (by decide +kernel) (Nat.le_of_ble_eq_true rfl) rfl ?_
  refine Rn.aload_n (pc1 := 1)  dX8_beginAnew_0 rfl rfl rfl ?_
  refine Rn.getfield (pc1 := 4)  dX8_beginAnew_1 rfl fX8_19 (by first | assumption | exact mset_same | exact mget_ne (by omega) (by assumption)) rfl ?_
  refine Rn.aload_n (pc1 := 5)  dX8_beginAnew_4 rfl rfl rfl ?_
  refine Rn.getfield (pc1 := 8)  dX8_beginAnew_5 rfl fX8_10 (by first | assumption | exact mset_same | exact mget_ne (by omega) (by assumption)) rfl ?_
  refine Rn.cV_v (pc1 := 11) (eS_prepare C) dX8_beginAnew_8 rfl qX8_37 oX1_prepare (by first | assumption | exact mset_same | exact mget_ne (by omega) (by assumption)) rfl rfl rfl rfl (Nat.le_of_ble_eq_true rfl) (by decide) (by decide) (fun μ8 h8 => ?_)
  obtain ⟨Z, F⟩ := h8
  obtain ⟨h, rc, sc, A, I⟩ := id F
  have nO : _ = _ := A.2.1
  obtain ⟨s1, p1, p2, p3, p4, -⟩ := id Z
  have hO1 := p1
  have yO1 := p4.1
  refine Rn.aload_n (pc1 := 12)  dX8_beginAnew_11 rfl rfl rfl ?_
  refine Rn.getfield (pc1 := 15)  dX8_beginAnew_12 rfl fX8_19 (by first | assumption | exact mset_same | exact mget_ne (by omega) (by assumption)) rfl ?_
  refine Rn.aload_n (pc1 := 16)  dX8_beginAnew_15 rfl rfl rfl ?_
  refine Rn.getfield (pc1 := 19)  dX8_beginAnew_16 rfl fX8_10 (by first | assumption | exact mset_same | exact mget_ne (by omega) (by assumption)) rfl ?_
  refine Rn.iload_n (pc1 := 20)  dX8_beginAnew_19 rfl rfl rfl ?_
  refine Rn.cV_i (pc1 := 23) (sX6_letBeginAnew hB F) dX8_beginAnew_20 rfl qX8_77 oX6_letBeginAnew (by first | assumption | exact mset_same | exact mget_ne (by omega) (by assumption)) rfl rfl rfl rfl (Nat.le_of_ble_eq_true rfl) (by decide) (by decide) (fun v20 μ20 h20 => ?_)
  have Z2 := PD.of Z F h20
  obtain ⟨s2, q1, q2, q3, q4, -⟩ := id Z2.1
  have yO2 := q4.1
  refine Rn.cV_i (pc1 := 26) (eS_settle Z2) dX8_beginAnew_23 rfl qX8_45 oX1_settle (by first | assumption | exact mset_same | exact mget_ne (by omega) (by assumption)) rfl rfl rfl rfl (Nat.le_of_ble_eq_true rfl) (by decide) (by decide) (fun v23 μ23 h23 => ?_)
  exact Rn.ireturn dX8_beginAnew_26 rfl rfl ⟨_, rfl, h23⟩
theorem eX8_load {s : Int32} {v : Int32} (C : CW μ x f held P Pp len u S B) : EvA G 6 kX8_load [.ref x, .int s, .int v] μ sz 0 0 (QW x held len B f P Pp u S (mayLoadF f (rF f) (sF f) s v) (f (423 + 13 * v.toNatClampNeg)) (beginF f s.toNatClampNeg (f (423 + 13 * v.toNatClampNeg)) (fun k => f (423 + 13 * v.toNatClampNeg + 1 + k))) μ) := by
  have hO := C.1
  obtain ⟨s0, c3, c4⟩ := C.2.2.1
  have yO := c3.1
  refine EvA.of (L := [some (.ref x), some (.int s), some (.int v)]) (by decide +kernel) (Nat.le_of_ble_eq_true rfl) rfl ?_
  refine Rn.aload_n (pc1 := 1)  dX8_load_0 rfl rfl rfl ?_
  refine Rn.getfield (pc1 := 4)  dX8_load_1 rfl fX8_19 (by first | assumption | exact mset_same | exact mget_ne (by omega) (by assumption)) rfl ?_
  refine Rn.aload_n (pc1 := 5)  dX8_load_4 rfl rfl rfl ?_
  refine Rn.getfield (pc1 := 8)  dX8_load_5 rfl fX8_10 (by first | assumption | exact mset_same | exact mget_ne (by omega) (by assumption)) rfl ?_
  refine Rn.cV_v (pc1 := 11) (eS_prepare C) dX8_load_8 rfl qX8_37 oX1_prepare (by first | assumption | exact mset_same | exact mget_ne (by omega) (by assumption)) rfl rfl rfl rfl (Nat.le_of_ble_eq_true rfl) (by decide) (by decide) (fun μ8 h8 => ?_)
  obtain ⟨Z, F⟩ := h8
  obtain ⟨h, rc, sc, A, I⟩ := id F
  have nO : _ = _ := A.2.1
  obtain ⟨s1, p1, p2, p3, p4, -⟩ := id Z
  have hO1 := p1
  have yO1 := p4.1
  refine Rn.aload_n (pc1 := 12)  dX8_load_11 rfl rfl rfl ?_
  refine Rn.getfield (pc1 := 15)  dX8_load_12 rfl fX8_19 (by first | assumption | exact mset_same | exact mget_ne (by omega) (by assumption)) rfl ?_
  refine Rn.aload_n (pc1 := 16)  dX8_load_15 rfl rfl rfl ?_
  refine Rn.getfield (pc1 := 19)  dX8_load_16 rfl fX8_10 (by first | assumption | exact mset_same | exact mget_ne (by omega) (by assumption)) rfl ?_
  refine Rn.iload_n (pc1 := 20)  dX8_load_19 rfl rfl rfl ?_
  refine Rn.iload_n (pc1 := 21)  dX8_load_20 rfl rfl rfl ?_
  refine Rn.cV_i (pc1 := 24) (sX6_letLoad F) dX8_load_21 rfl qX8_80 oX6_letLoad (by first | assumption | exact mset_same | exact mget_ne (by omega) (by assumption)) rfl rfl rfl rfl (Nat.le_of_ble_eq_true rfl) (by decide) (by decide) (fun v21 μ21 h21 => ?_)
  have Z2 := PD.of Z F h21
  obtain ⟨s2, q1, q2, q3, q4, -⟩ := id Z2.1
  have yO2 := q4.1
  refine Rn.cV_i (pc1 := 27) (eS_settle Z2) dX8_load_24 rfl qX8_45 oX1_settle (by first | assumption | exact mset_same | exact mget_ne (by omega) (by assumption)) rfl rfl rfl rfl (Nat.le_of_ble_eq_true rfl) (by decide) (by decide) (fun v24 μ24 h24 => ?_)
  exact Rn.ireturn dX8_load_27 rfl rfl ⟨_, rfl, h24⟩
end CF
