/-! ===== Reader, Snapshot ===== -/
def RA (μ : Mm) (a : Nat) (pl cp rs : Int32) (vw cv : Nat → Int32) : Prop := μ a = some (obj 3 [.int pl, .int cp, .int rs, .ref (a + 1), .ref (a + 3)]) ∧ VA μ (a + 1) vw ∧ VA μ (a + 3) cv
def SN (μ : Mm) (a : Nat) (n : Int32) (tb : Nat → Int32) : Prop := μ a = some (obj 5 [.int n, .ref (a + 1)]) ∧ VA μ (a + 1) tb
section READM
variable {μ : Mm} {a : Nat} {pl cp rs n : Int32} {vw cv tb : Nat → Int32}
theorem RA.fr {μ' : Mm} {x y : Nat} (F : RA μ a pl cp rs vw cv) (hF : Fr x y μ μ') (hd : a + 5 ≤ x ∨ y ≤ a) : RA μ' a pl cp rs vw cv := ⟨(hF a (by omega)).trans F.1, F.2.1.fr hF (by omega), F.2.2.fr hF (by omega)⟩
theorem SN.fr {μ' : Mm} {x y : Nat} (F : SN μ a n tb) (hF : Fr x y μ μ') (hd : a + 3 ≤ x ∨ y ≤ a) : SN μ' a n tb := ⟨(hF a (by omega)).trans F.1, F.2.fr hF (by omega)⟩
theorem RA.setO (F : RA μ a pl cp rs vw cv) (pl' cp' rs' : Int32) : RA (mset μ a (obj 3 [.int pl', .int cp', .int rs', .ref (a + 1), .ref (a + 3)])) a pl' cp' rs' vw cv := ⟨mset_same, F.2.1.fr (Fr.set (a := a) (b := a + 1) (by omega) (by omega)) (by omega), F.2.2.fr (Fr.set (a := a) (b := a + 1) (by omega) (by omega)) (by omega)⟩
theorem SN.setO (F : SN μ a n tb) (n' : Int32) : SN (mset μ a (obj 5 [.int n', .ref (a + 1)])) a n' tb := ⟨mset_same, F.2.fr (Fr.set (a := a) (b := a + 1) (by omega) (by omega)) (by omega)⟩
end READM
def vwN (g1 g2 vw : Nat → Int32) (k : Nat) : Nat → Nat → Int32
  | 0 => vw
  | n + 1 => upd (vwN g1 g2 vw k n) (g1 (k + n)).toNatClampNeg (g2 (k + n))
def plN (g0 : Nat → Int32) (pl : Int32) (k : Nat) : Nat → Int32
  | 0 => pl
  | n + 1 => g0 (k + n) + nI 1
theorem vwN_congr {g1 g2 vw k1 k2 vw' : Nat → Int32} {k h : Nat} (h1 : ∀ j, j < h → g1 j = k1 j) (h2 : ∀ j, j < h → g2 j = k2 j) (hv : ∀ j, j < 12 → vw j = vw' j) : ∀ n, k + n ≤ h → ∀ j, j < 12 → vwN g1 g2 vw k n j = vwN k1 k2 vw' k n j
  | 0, _, j, hj => hv j hj
  | n + 1, hn, j, hj => by
    show upd _ _ _ j = upd _ _ _ j
    rw [h1 _ (by omega), h2 _ (by omega)]
    unfold upd
    split
    · rfl
    · exact vwN_congr h1 h2 hv n (by omega) j hj
section READER
variable {G : GG} {μ : Mm} {sz : Nat} {a : Nat} {pl cp rs : Int32} {vw cv : Nat → Int32}
theorem eX3_copyFrom {b : Nat} {pl' cp' rs' : Int32} {vw' cv' : Nat → Int32} (F : RA μ a pl cp rs vw cv) (K : RA μ b pl' cp' rs' vw' cv') (hd : a + 5 ≤ b ∨ b + 5 ≤ a) : EvA G 2 kX3_copyFrom [.ref a, .ref b] μ sz 0 0 (rV fun μ' => RA μ' a pl' cp' rs' vw' cv' ∧ Fr a (a + 5) μ μ') := by
  have hO := F.1
  have kO := K.1
  refine EvA.of (L := [some (.ref a), some (.ref b)]) (by decide +kernel) (Nat.le_of_ble_eq_true rfl) rfl ?_
  refine Rn.aload_n (pc1 := 1)  dX3_copyFrom_0 rfl rfl rfl ?_
  refine Rn.aload_n (pc1 := 2)  dX3_copyFrom_1 rfl rfl rfl ?_
  refine Rn.getfield (pc1 := 5)  dX3_copyFrom_2 rfl fX3_7 (by first | assumption | exact mset_same | exact mget_ne (by omega) (by assumption)) rfl ?_
  refine Rn.putfield (pc1 := 8)  dX3_copyFrom_5 rfl pX3_7 (fun h => Bool.noConfusion h) (by assumption) (Nat.le_of_ble_eq_true rfl) rfl rfl rfl ?_
  have F1 := F.setO pl' cp rs
  have O1 := F1.1
  have q1 : Fr a (a + 5) μ _ := Fr.set (c := obj 3 [.int pl', .int cp, .int rs, .ref (a + 1), .ref (a + 3)]) (Nat.le_refl a) (by omega)
  have K1 := K.fr q1 (by omega)
  have P1 := K1.1
  refine Rn.aload_n (pc1 := 9)  dX3_copyFrom_8 rfl rfl rfl ?_
  refine Rn.aload_n (pc1 := 10)  dX3_copyFrom_9 rfl rfl rfl ?_
  refine Rn.getfield (pc1 := 13)  dX3_copyFrom_10 rfl fX3_13 (by first | assumption | exact mset_same | exact mget_ne (by omega) (by assumption)) rfl ?_
  refine Rn.putfield (pc1 := 16)  dX3_copyFrom_13 rfl pX3_13 (fun h => Bool.noConfusion h) (by assumption) (Nat.le_of_ble_eq_true rfl) rfl rfl rfl ?_
  have F2 := F1.setO pl' cp' rs
  have O2 := F2.1
  have q2 := q1.set_ (q := a) (c := obj 3 [.int pl', .int cp', .int rs, .ref (a + 1), .ref (a + 3)]) (Nat.le_refl a) (by omega)
  have K2 := K.fr q2 (by omega)
  have P2 := K2.1
  refine Rn.aload_n (pc1 := 17)  dX3_copyFrom_16 rfl rfl rfl ?_
  refine Rn.aload_n (pc1 := 18)  dX3_copyFrom_17 rfl rfl rfl ?_
  refine Rn.getfield (pc1 := 21)  dX3_copyFrom_18 rfl fX3_16 (by first | assumption | exact mset_same | exact mget_ne (by omega) (by assumption)) rfl ?_
  refine Rn.putfield (pc1 := 24)  dX3_copyFrom_21 rfl pX3_16 (fun h => Bool.noConfusion h) (by assumption) (Nat.le_of_ble_eq_true rfl) rfl rfl rfl ?_
  have F3 := F2.setO pl' cp' rs'
  have O3 := F3.1
  have q3 := q2.set_ (q := a) (c := obj 3 [.int pl', .int cp', .int rs', .ref (a + 1), .ref (a + 3)]) (Nat.le_refl a) (by omega)
  have K3 := K.fr q3 (by omega)
  have P3 := K3.1
  have V1 := F3.2.1.1
  have V2 := F3.2.2.1
  refine Rn.aload_n (pc1 := 25)  dX3_copyFrom_24 rfl rfl rfl ?_
  refine Rn.getfield (pc1 := 28)  dX3_copyFrom_25 rfl fX3_22 (by first | assumption | exact mset_same | exact mget_ne (by omega) (by assumption)) rfl ?_
  refine Rn.aload_n (pc1 := 29)  dX3_copyFrom_28 rfl rfl rfl ?_
  refine Rn.getfield (pc1 := 32)  dX3_copyFrom_29 rfl fX3_22 (by first | assumption | exact mset_same | exact mget_ne (by omega) (by assumption)) rfl ?_
  refine Rn.cV_v (pc1 := 35) (eX7_copyFrom F3.2.1 K3.2.1 (by omega)) dX3_copyFrom_32 rfl qX3_29 oX7_copyFrom (by first | assumption | exact mset_same | exact mget_ne (by omega) (by assumption)) rfl rfl rfl rfl (Nat.le_of_ble_eq_true rfl) (by decide) (by decide) (fun μ32 h32 => ?_)
  obtain ⟨W1, w1⟩ := h32
  have q4 := q3.trans (w1.wide (a' := a) (b' := a + 5) (by omega) (by omega))
  have O4 := (w1 a (by omega)).trans O3
  have K4 := K.fr q4 (by omega)
  have P4 := K4.1
  have W2 := F3.2.2.fr w1 (by omega)
  have V3 := W2.1
  refine Rn.aload_n (pc1 := 36)  dX3_copyFrom_35 rfl rfl rfl ?_
  refine Rn.getfield (pc1 := 39)  dX3_copyFrom_36 rfl fX3_26 (by first | assumption | exact mset_same | exact mget_ne (by omega) (by assumption)) rfl ?_
  refine Rn.aload_n (pc1 := 40)  dX3_copyFrom_39 rfl rfl rfl ?_
  refine Rn.getfield (pc1 := 43)  dX3_copyFrom_40 rfl fX3_26 (by first | assumption | exact mset_same | exact mget_ne (by omega) (by assumption)) rfl ?_
  refine Rn.cV_v (pc1 := 46) (eX7_copyFrom W2 K4.2.2 (by omega)) dX3_copyFrom_43 rfl qX3_29 oX7_copyFrom (by first | assumption | exact mset_same | exact mget_ne (by omega) (by assumption)) rfl rfl rfl rfl (Nat.le_of_ble_eq_true rfl) (by decide) (by decide) (fun μ43 h43 => ?_)
  obtain ⟨W3, w3⟩ := h43
  exact Rn.vreturn dX3_copyFrom_46 rfl ⟨rfl, ⟨(w3 a (by omega)).trans O4, W1.fr w3 (by omega), W3⟩, q4.trans (w3.wide (by omega) (by omega))⟩
theorem eX3_keepPlace (F : RA μ a pl cp rs vw cv) : EvA G 2 kX3_keepPlace [.ref a] μ sz 0 0 (rV fun μ' => RA μ' a pl pl rs vw vw ∧ Fr a (a + 5) μ μ') := by
  have hO := F.1
  refine EvA.of (L := [some (.ref a)]) (by decide +kernel) (Nat.le_of_ble_eq_true rfl) rfl ?_
  refine Rn.aload_n (pc1 := 1)  dX3_keepPlace_0 rfl rfl rfl ?_
  refine Rn.aload_n (pc1 := 2)  dX3_keepPlace_1 rfl rfl rfl ?_
  refine Rn.getfield (pc1 := 5)  dX3_keepPlace_2 rfl fX3_7 (by first | assumption | exact mset_same | exact mget_ne (by omega) (by assumption)) rfl ?_
  refine Rn.putfield (pc1 := 8)  dX3_keepPlace_5 rfl pX3_13 (fun h => Bool.noConfusion h) (by assumption) (Nat.le_of_ble_eq_true rfl) rfl rfl rfl ?_
  have F1 := F.setO pl pl rs
  have O1 := F1.1
  have V2 := F1.2.2.1
  refine Rn.aload_n (pc1 := 9)  dX3_keepPlace_8 rfl rfl rfl ?_
  refine Rn.getfield (pc1 := 12)  dX3_keepPlace_9 rfl fX3_26 (by first | assumption | exact mset_same | exact mget_ne (by omega) (by assumption)) rfl ?_
  refine Rn.aload_n (pc1 := 13)  dX3_keepPlace_12 rfl rfl rfl ?_
  refine Rn.getfield (pc1 := 16)  dX3_keepPlace_13 rfl fX3_22 (by first | assumption | exact mset_same | exact mget_ne (by omega) (by assumption)) rfl ?_
  refine Rn.cV_v (pc1 := 19) (eX7_copyFrom F1.2.2 F1.2.1 (by omega)) dX3_keepPlace_16 rfl qX3_29 oX7_copyFrom (by first | assumption | exact mset_same | exact mget_ne (by omega) (by assumption)) rfl rfl rfl rfl (Nat.le_of_ble_eq_true rfl) (by decide) (by decide) (fun μ16 h16 => ?_)
  obtain ⟨W1, w1⟩ := h16
  exact Rn.vreturn dX3_keepPlace_19 rfl ⟨rfl, ⟨(w1 a (by omega)).trans O1, F1.2.1.fr w1 (by omega), W1⟩, (Fr.set (by omega) (by omega)).trans (w1.wide (by omega) (by omega))⟩
theorem eX3_returnToConfirmed (F : RA μ a pl cp rs vw cv) : EvA G 2 kX3_returnToConfirmed [.ref a] μ sz 0 0 (rV fun μ' => RA μ' a cp cp rs cv cv ∧ Fr a (a + 5) μ μ') := by
  have hO := F.1
  refine EvA.of (L := [some (.ref a)]) (by decide +kernel) (Nat.le_of_ble_eq_true rfl) rfl ?_
  refine Rn.aload_n (pc1 := 1)  dX3_returnToConfirmed_0 rfl rfl rfl ?_
  refine Rn.aload_n (pc1 := 2)  dX3_returnToConfirmed_1 rfl rfl rfl ?_
  refine Rn.getfield (pc1 := 5)  dX3_returnToConfirmed_2 rfl fX3_13 (by first | assumption | exact mset_same | exact mget_ne (by omega) (by assumption)) rfl ?_
  refine Rn.putfield (pc1 := 8)  dX3_returnToConfirmed_5 rfl pX3_7 (fun h => Bool.noConfusion h) (by assumption) (Nat.le_of_ble_eq_true rfl) rfl rfl rfl ?_
  have F1 := F.setO cp cp rs
  have O1 := F1.1
  have V2 := F1.2.1.1
  refine Rn.aload_n (pc1 := 9)  dX3_returnToConfirmed_8 rfl rfl rfl ?_
  refine Rn.getfield (pc1 := 12)  dX3_returnToConfirmed_9 rfl fX3_22 (by first | assumption | exact mset_same | exact mget_ne (by omega) (by assumption)) rfl ?_
  refine Rn.aload_n (pc1 := 13)  dX3_returnToConfirmed_12 rfl rfl rfl ?_
  refine Rn.getfield (pc1 := 16)  dX3_returnToConfirmed_13 rfl fX3_26 (by first | assumption | exact mset_same | exact mget_ne (by omega) (by assumption)) rfl ?_
  refine Rn.cV_v (pc1 := 19) (eX7_copyFrom F1.2.1 F1.2.2 (by omega)) dX3_returnToConfirmed_16 rfl qX3_29 oX7_copyFrom (by first | assumption | exact mset_same | exact mget_ne (by omega) (by assumption)) rfl rfl rfl rfl (Nat.le_of_ble_eq_true rfl) (by decide) (by decide) (fun μ16 h16 => ?_)
  obtain ⟨W1, w1⟩ := h16
  exact Rn.vreturn dX3_returnToConfirmed_19 rfl ⟨rfl, ⟨(w1 a (by omega)).trans O1, W1, F1.2.2.fr w1 (by omega)⟩, (Fr.set (by omega) (by omega)).trans (w1.wide (by omega) (by omega))⟩
theorem eX3_startOver (F : RA μ a pl cp rs vw cv) : EvA G 3 kX3_startOver [.ref a] μ sz 0 0 (rV fun μ' => RA μ' a (nI 0) (nI 0) rs (fun _ => -6) (fun _ => -6) ∧ Fr a (a + 5) μ μ') := by
  have hO := F.1
  refine EvA.of (L := [some (.ref a)]) (by decide +kernel) (Nat.le_of_ble_eq_true rfl) rfl ?_
  refine Rn.aload_n (pc1 := 1)  dX3_startOver_0 rfl rfl rfl ?_
  refine Rn.iconst (pc1 := 2) (v := nI 0) dX3_startOver_1 rfl (by decide) ?_
  refine Rn.putfield (pc1 := 5)  dX3_startOver_2 rfl pX3_7 (fun h => Bool.noConfusion h) (by assumption) (Nat.le_of_ble_eq_true rfl) rfl rfl rfl ?_
  have F1 := F.setO (nI 0) cp rs
  have O1 := F1.1
  have V2 := F1.2.1.1
  refine Rn.aload_n (pc1 := 6)  dX3_startOver_5 rfl rfl rfl ?_
  refine Rn.getfield (pc1 := 9)  dX3_startOver_6 rfl fX3_22 (by first | assumption | exact mset_same | exact mget_ne (by omega) (by assumption)) rfl ?_
  refine Rn.cV_v (pc1 := 12) (eX7_clear F1.2.1) dX3_startOver_9 rfl qX3_33 oX7_clear (by first | assumption | exact mset_same | exact mget_ne (by omega) (by assumption)) rfl rfl rfl rfl (Nat.le_of_ble_eq_true rfl) (by decide) (by decide) (fun μ9 h9 => ?_)
  obtain ⟨W1, w1⟩ := h9
  have F2 : RA _ a (nI 0) cp rs (fun _ => -6) cv := ⟨(w1 a (by omega)).trans O1, W1, F1.2.2.fr w1 (by omega)⟩
  have O2 := F2.1
  refine Rn.aload_n (pc1 := 13)  dX3_startOver_12 rfl rfl rfl ?_
  refine Rn.cV_v (pc1 := 16) (eX3_keepPlace F2) dX3_startOver_13 rfl qX3_36 oX3_keepPlace (by first | assumption | exact mset_same | exact mget_ne (by omega) (by assumption)) rfl rfl rfl rfl (Nat.le_of_ble_eq_true rfl) (by decide) (by decide) (fun μ13 h13 => ?_)
  obtain ⟨F3, q3⟩ := h13
  exact Rn.vreturn dX3_startOver_16 rfl ⟨rfl, F3, ((Fr.set (by omega) (by omega)).trans (w1.wide (by omega) (by omega))).trans q3⟩
theorem eX3_takeOver {b : Nat} {n : Int32} {tb : Nat → Int32} (F : RA μ a pl cp rs vw cv) (K : SN μ b n tb) (hd : a + 5 ≤ b ∨ b + 3 ≤ a) : EvA G 3 kX3_takeOver [.ref a, .ref b] μ sz 0 0 (rV fun μ' => RA μ' a n n rs tb tb ∧ Fr a (a + 5) μ μ') := by
  have hO := F.1
  have kO := K.1
  refine EvA.of (L := [some (.ref a), some (.ref b)]) (by decide +kernel) (Nat.le_of_ble_eq_true rfl) rfl ?_
  refine Rn.aload_n (pc1 := 1)  dX3_takeOver_0 rfl rfl rfl ?_
  refine Rn.aload_n (pc1 := 2)  dX3_takeOver_1 rfl rfl rfl ?_
  refine Rn.getfield (pc1 := 5)  dX3_takeOver_2 rfl fX3_39 (by first | assumption | exact mset_same | exact mget_ne (by omega) (by assumption)) rfl ?_
  refine Rn.putfield (pc1 := 8)  dX3_takeOver_5 rfl pX3_7 (fun h => Bool.noConfusion h) (by assumption) (Nat.le_of_ble_eq_true rfl) rfl rfl rfl ?_
  have F1 := F.setO n cp rs
  have O1 := F1.1
  have V2 := F1.2.1.1
  have q1 : Fr a (a + 5) μ _ := Fr.set (c := obj 3 [.int n, .int cp, .int rs, .ref (a + 1), .ref (a + 3)]) (Nat.le_refl a) (by omega)
  have K1 := K.fr q1 (by omega)
  have P1 := K1.1
  refine Rn.aload_n (pc1 := 9)  dX3_takeOver_8 rfl rfl rfl ?_
  refine Rn.getfield (pc1 := 12)  dX3_takeOver_9 rfl fX3_22 (by first | assumption | exact mset_same | exact mget_ne (by omega) (by assumption)) rfl ?_
  refine Rn.aload_n (pc1 := 13)  dX3_takeOver_12 rfl rfl rfl ?_
  refine Rn.getfield (pc1 := 16)  dX3_takeOver_13 rfl fX3_44 (by first | assumption | exact mset_same | exact mget_ne (by omega) (by assumption)) rfl ?_
  refine Rn.cV_v (pc1 := 19) (eX7_copyFrom F1.2.1 K1.2 (by omega)) dX3_takeOver_16 rfl qX3_29 oX7_copyFrom (by first | assumption | exact mset_same | exact mget_ne (by omega) (by assumption)) rfl rfl rfl rfl (Nat.le_of_ble_eq_true rfl) (by decide) (by decide) (fun μ16 h16 => ?_)
  obtain ⟨W1, w1⟩ := h16
  have F2 : RA _ a n cp rs tb cv := ⟨(w1 a (by omega)).trans O1, W1, F1.2.2.fr w1 (by omega)⟩
  have O2 := F2.1
  refine Rn.aload_n (pc1 := 20)  dX3_takeOver_19 rfl rfl rfl ?_
  refine Rn.cV_v (pc1 := 23) (eX3_keepPlace F2) dX3_takeOver_20 rfl qX3_36 oX3_keepPlace (by first | assumption | exact mset_same | exact mget_ne (by omega) (by assumption)) rfl rfl rfl rfl (Nat.le_of_ble_eq_true rfl) (by decide) (by decide) (fun μ20 h20 => ?_)
  obtain ⟨F3, q3⟩ := h20
  exact Rn.vreturn dX3_takeOver_23 rfl ⟨rfl, F3, (q1.trans (w1.wide (by omega) (by omega))).trans q3⟩
theorem eX5_copyFrom {b : Nat} {n n' : Int32} {tb tb' : Nat → Int32} (F : SN μ a n tb) (K : SN μ b n' tb') (hd : a + 3 ≤ b ∨ b + 3 ≤ a) : EvA G 2 kX5_copyFrom [.ref a, .ref b] μ sz 0 0 (rV fun μ' => SN μ' a n' tb' ∧ Fr a (a + 3) μ μ') := by
  have hO := F.1
  have kO := K.1
  refine EvA.of (L := [some (.ref a), some (.ref b)]) (by decide +kernel) (Nat.le_of_ble_eq_true rfl) rfl ?_
  refine Rn.aload_n (pc1 := 1)  dX5_copyFrom_0 rfl rfl rfl ?_
  refine Rn.aload_n (pc1 := 2)  dX5_copyFrom_1 rfl rfl rfl ?_
  refine Rn.getfield (pc1 := 5)  dX5_copyFrom_2 rfl fX5_7 (by first | assumption | exact mset_same | exact mget_ne (by omega) (by assumption)) rfl ?_
  refine Rn.putfield (pc1 := 8)  dX5_copyFrom_5 rfl pX5_7 (fun h => Bool.noConfusion h) (by assumption) (Nat.le_of_ble_eq_true rfl) rfl rfl rfl ?_
  have F1 := F.setO n'
  have O1 := F1.1
  have V2 := F1.2.1
  have q1 : Fr a (a + 3) μ _ := Fr.set (c := obj 5 [.int n', .ref (a + 1)]) (Nat.le_refl a) (by omega)
  have K1 := K.fr q1 (by omega)
  have P1 := K1.1
  refine Rn.aload_n (pc1 := 9)  dX5_copyFrom_8 rfl rfl rfl ?_
  refine Rn.getfield (pc1 := 12)  dX5_copyFrom_9 rfl fX5_16 (by first | assumption | exact mset_same | exact mget_ne (by omega) (by assumption)) rfl ?_
  refine Rn.aload_n (pc1 := 13)  dX5_copyFrom_12 rfl rfl rfl ?_
  refine Rn.getfield (pc1 := 16)  dX5_copyFrom_13 rfl fX5_16 (by first | assumption | exact mset_same | exact mget_ne (by omega) (by assumption)) rfl ?_
  refine Rn.cV_v (pc1 := 19) (eX7_copyFrom F1.2 K1.2 (by omega)) dX5_copyFrom_16 rfl qX5_20 oX7_copyFrom (by first | assumption | exact mset_same | exact mget_ne (by omega) (by assumption)) rfl rfl rfl rfl (Nat.le_of_ble_eq_true rfl) (by decide) (by decide) (fun μ16 h16 => ?_)
  obtain ⟨W1, w1⟩ := h16
  exact Rn.vreturn dX5_copyFrom_19 rfl ⟨rfl, ⟨(w1 a (by omega)).trans O1, W1⟩, q1.trans (w1.wide (by omega) (by omega))⟩
theorem lX3_readOn {b h M k c : Nat} {nx fl gn : Int32} {g0 g1 g2 g3 : Nat → Int32} (K : FB μ b h nx fl gn g0 g1 g2 g3) (hh : h ≤ 60) (hc : c = min M (h - k)) (hkc : k + c ≤ h) (k2 : ∀ j, j < k → g0 j < pl) (k3 : k < h → pl ≤ g0 k) (hk : ∀ j, j < h → ∃ q, q < 12 ∧ g1 j = nI q) (hd : a + 5 ≤ b ∨ b + 5 ≤ a) : ∀ (m i : Nat), i + m = c → ∀ (μ1 : Mm), RA μ1 a (plN g0 pl k i) cp rs (vwN g1 g2 vw k i) cv → Fr a (a + 5) μ μ1 → Rn G 3 kX3_readOn 24 [some (.ref a), some (.ref b), some (.int (nI M)), some (.int (nI k)), some (.int (nI c)), some (.int (nI (k + i)))] [] μ1 sz 0 0 (rI fun v μ' => ∃ k c, k + c ≤ h ∧ c = min M (h - k) ∧ v = nI c ∧ (∀ j, j < k → g0 j < pl) ∧ (k < h → pl ≤ g0 k) ∧ RA μ' a (plN g0 pl k c) cp (rs + nI c) (vwN g1 g2 vw k c) cv ∧ Fr a (a + 5) μ μ') := by
  intro m
  induction m with
  | zero =>
    intro i hi μ1 F1 q1
    obtain rfl : i = c := by omega
    have hO := F1.1
    refine Rn.iload (pc1 := 26)  dX3_readOn_24 rfl rfl ?_
    refine Rn.iload_n (pc1 := 27)  dX3_readOn_26 rfl rfl rfl ?_
    refine Rn.iload (pc1 := 29)  dX3_readOn_27 rfl rfl ?_
    refine Rn.iadd (pc1 := 30)  dX3_readOn_29 rfl (nI_add k i) ?_
    refine Rn.icmp_ge (pc1 := 33) 70 dX3_readOn_30 rfl (by decide) (fun c30 => ?_) (fun c30 => ?_)
    · refine Rn.aload_n (pc1 := 71)  dX3_readOn_70 rfl rfl rfl ?_
      refine Rn.dup (pc1 := 72)  dX3_readOn_71 rfl rfl ?_
      refine Rn.getfield (pc1 := 75)  dX3_readOn_72 rfl fX3_16 (by first | assumption | exact mset_same | exact mget_ne (by omega) (by assumption)) rfl ?_
      refine Rn.iload (pc1 := 77)  dX3_readOn_75 rfl rfl ?_
      refine Rn.iadd (pc1 := 78)  dX3_readOn_77 rfl rfl ?_
      refine Rn.putfield (pc1 := 81)  dX3_readOn_78 rfl pX3_16 (fun h => Bool.noConfusion h) (by assumption) (Nat.le_of_ble_eq_true rfl) rfl rfl rfl ?_
      have F2 := F1.setO (plN g0 pl k i) cp (rs + nI i)
      refine Rn.iload (pc1 := 83)  dX3_readOn_81 rfl rfl ?_
      exact Rn.ireturn dX3_readOn_83 rfl rfl ⟨_, rfl, k, i, hkc, hc, rfl, k2, k3, F2, q1.set_ (by omega) (by omega)⟩
    · exact absurd (nI_le (Nat.le_refl _) (by omega)) c30
  | succ m ih =>
    intro i hi μ1 F1 q1
    have hO := F1.1
    have K1 := K.fr q1 (by omega)
    have kO := K1.1
    obtain ⟨q, hq1, hq2⟩ := hk (k + i) (by omega)
    have V1 := F1.2.1.1
    refine Rn.iload (pc1 := 26)  dX3_readOn_24 rfl rfl ?_
    refine Rn.iload_n (pc1 := 27)  dX3_readOn_26 rfl rfl rfl ?_
    refine Rn.iload (pc1 := 29)  dX3_readOn_27 rfl rfl ?_
    refine Rn.iadd (pc1 := 30)  dX3_readOn_29 rfl (nI_add k c) ?_
    refine Rn.icmp_ge (pc1 := 33) 70 dX3_readOn_30 rfl (by decide) (fun c30 => ?_) (fun c30 => ?_)
    · exact absurd c30 (nI_ge (by omega) (by omega))
    · refine Rn.aload_n (pc1 := 34)  dX3_readOn_33 rfl rfl rfl ?_
      refine Rn.getfield (pc1 := 37)  dX3_readOn_34 rfl fX3_22 (by first | assumption | exact mset_same | exact mget_ne (by omega) (by assumption)) rfl ?_
      refine Rn.aload_n (pc1 := 38)  dX3_readOn_37 rfl rfl rfl ?_
      refine Rn.iload (pc1 := 40)  dX3_readOn_38 rfl rfl ?_
      refine Rn.cV_i (pc1 := 43) (eX0_keyAt K1 rfl (show k + i < 60 by omega)) dX3_readOn_40 rfl qX3_62 oX0_keyAt (by first | assumption | exact mset_same | exact mget_ne (by omega) (by assumption)) rfl rfl rfl rfl (Nat.le_of_ble_eq_true rfl) (by decide) (by decide) (fun v40 μ40 h40 => ?_)
      obtain ⟨rfl, rfl⟩ := h40
      refine Rn.aload_n (pc1 := 44)  dX3_readOn_43 rfl rfl rfl ?_
      refine Rn.iload (pc1 := 46)  dX3_readOn_44 rfl rfl ?_
      refine Rn.cV_i (pc1 := 49) (eX0_valueAt K1 rfl (show k + i < 60 by omega)) dX3_readOn_46 rfl qX3_65 oX0_valueAt (by first | assumption | exact mset_same | exact mget_ne (by omega) (by assumption)) rfl rfl rfl rfl (Nat.le_of_ble_eq_true rfl) (by decide) (by decide) (fun v46 μ46 h46 => ?_)
      obtain ⟨rfl, rfl⟩ := h46
      refine Rn.cV_v (pc1 := 52) (eX7_change F1.2.1 hq2 hq1) dX3_readOn_49 rfl qX3_68 oX7_change (by first | assumption | exact mset_same | exact mget_ne (by omega) (by assumption)) rfl rfl rfl rfl (Nat.le_of_ble_eq_true rfl) (by decide) (by decide) (fun μ49 h49 => ?_)
      obtain ⟨W1, w1⟩ := h49
      have O2 := (w1 a (by omega)).trans hO
      have q2 := q1.trans (w1.wide (a' := a) (b' := a + 5) (by omega) (by omega))
      have K2 := K.fr q2 (by omega)
      have kO2 := K2.1
      refine Rn.aload_n (pc1 := 53)  dX3_readOn_52 rfl rfl rfl ?_
      refine Rn.aload_n (pc1 := 54)  dX3_readOn_53 rfl rfl rfl ?_
      refine Rn.iload (pc1 := 56)  dX3_readOn_54 rfl rfl ?_
      refine Rn.cV_i (pc1 := 59) (eX0_numberAt K2 rfl (show k + i < 60 by omega)) dX3_readOn_56 rfl qX3_72 oX0_numberAt (by first | assumption | exact mset_same | exact mget_ne (by omega) (by assumption)) rfl rfl rfl rfl (Nat.le_of_ble_eq_true rfl) (by decide) (by decide) (fun v56 μ56 h56 => ?_)
      obtain ⟨rfl, rfl⟩ := h56
      refine Rn.iconst (pc1 := 60) (v := nI 1) dX3_readOn_59 rfl (by decide) ?_
      refine Rn.iadd (pc1 := 61)  dX3_readOn_60 rfl rfl ?_
      refine Rn.putfield (pc1 := 64)  dX3_readOn_61 rfl pX3_7 (fun h => Bool.noConfusion h) (by assumption) (Nat.le_of_ble_eq_true rfl) rfl rfl rfl ?_
      refine Rn.iinc (pc1 := 67)  dX3_readOn_64 rfl rfl (nI_1 _) (by decide) rfl rfl ?_
      refine Rn.goto 24 dX3_readOn_67 (by decide) ?_
      have F2 : RA _ a (plN g0 pl k i) cp rs (upd (vwN g1 g2 vw k i) q (g2 (k + i))) cv := ⟨O2, W1, F1.2.2.fr w1 (by omega)⟩
      have F3 := F2.setO (g0 (k + i) + nI 1) cp rs
      have e : vwN g1 g2 vw k (i + 1) = upd (vwN g1 g2 vw k i) q (g2 (k + i)) := by show upd _ _ _ = _; rw [hq2, nI_clamp (by omega)]
      rw [← e] at F3
      exact ih (i + 1) (by omega) _ F3 (q2.set_ (by omega) (by omega))
theorem eX3_readOn {b h M : Nat} {nx fl gn : Int32} {g0 g1 g2 g3 : Nat → Int32} (F : RA μ a pl cp rs vw cv) (K : FB μ b h nx fl gn g0 g1 g2 g3) (hh : h ≤ 60) (hM : M ≤ 99) (hk : ∀ j, j < h → ∃ q, q < 12 ∧ g1 j = nI q) (hd : a + 5 ≤ b ∨ b + 5 ≤ a) : EvA G 3 kX3_readOn [.ref a, .ref b, .int (nI M)] μ sz 0 0 (rI fun v μ' => ∃ k c, k + c ≤ h ∧ c = min M (h - k) ∧ v = nI c ∧ (∀ j, j < k → g0 j < pl) ∧ (k < h → pl ≤ g0 k) ∧ RA μ' a (plN g0 pl k c) cp (rs + nI c) (vwN g1 g2 vw k c) cv ∧ Fr a (a + 5) μ μ') := by
  have hO := F.1
  have kO := K.1
  refine EvA.of (L := [some (.ref a), some (.ref b), some (.int (nI M)), none, none, none]) (by decide +kernel) (Nat.le_of_ble_eq_true rfl) rfl ?_
  refine Rn.aload_n (pc1 := 1)  dX3_readOn_0 rfl rfl rfl ?_
  refine Rn.aload_n (pc1 := 2)  dX3_readOn_1 rfl rfl rfl ?_
  refine Rn.getfield (pc1 := 5)  dX3_readOn_2 rfl fX3_7 (by first | assumption | exact mset_same | exact mget_ne (by omega) (by assumption)) rfl ?_
  refine Rn.cV_i (pc1 := 8) (eX0_firstFrom K hh) dX3_readOn_5 rfl qX3_47 oX0_firstFrom (by first | assumption | exact mset_same | exact mget_ne (by omega) (by assumption)) rfl rfl rfl rfl (Nat.le_of_ble_eq_true rfl) (by decide) (by decide) (fun v5 μ5 h5 => ?_)
  obtain ⟨⟨k, k1, rfl, k2, k3⟩, rfl⟩ := h5
  refine Rn.istore_n (pc1 := 9)  dX3_readOn_8 rfl rfl (by decide) rfl rfl ?_
  refine Rn.iload_n (pc1 := 10)  dX3_readOn_9 rfl rfl rfl ?_
  refine Rn.aload_n (pc1 := 11)  dX3_readOn_10 rfl rfl rfl ?_
  refine Rn.getfield (pc1 := 14)  dX3_readOn_11 rfl fX3_53 (by first | assumption | exact mset_same | exact mget_ne (by omega) (by assumption)) rfl ?_
  refine Rn.iload_n (pc1 := 15)  dX3_readOn_14 rfl rfl rfl ?_
  refine Rn.isub (pc1 := 16)  dX3_readOn_15 rfl (nI_sub k1) ?_
  refine Rn.mmin (pc1 := 19) (v := nI (min M (h - k)))  dX3_readOn_16 rfl qX3_56 (Nat.le_of_ble_eq_true rfl) (by decide) (by
      by_cases e : h - k < M
      · rw [if_pos (nI_lt e (by omega)), Nat.min_eq_right (by omega)]
      · rw [if_neg (nI_nlt (by omega) (by omega)), Nat.min_eq_left (by omega)]) ?_
  refine Rn.istore (pc1 := 21)  dX3_readOn_19 rfl (by decide) rfl rfl ?_
  obtain ⟨c, hc⟩ : ∃ c, c = min M (h - k) := ⟨_, rfl⟩
  rw [← hc]
  have hkc : k + c ≤ h := by omega
  clear hO kO
  refine Rn.iload_n (pc1 := 22)  dX3_readOn_21 rfl rfl rfl ?_
  refine Rn.istore (pc1 := 24)  dX3_readOn_22 rfl (by decide) rfl rfl ?_
  exact lX3_readOn K hh hc hkc k2 k3 hk hd c 0 (by omega) _ F Fr.rf
end READER
