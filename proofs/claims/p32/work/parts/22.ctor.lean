/-! ===== what is made ===== -/
-- LOOK2
theorem VA.ne {μ : Mm} {b q : Nat} {f : Nat → Int32} {c : Cl} (h : VA μ b f) (hq : q < b ∨ b + 2 ≤ q) : VA (mset μ q c) b f := h.fr (Fr.set (a := q) (b := q + 1) (Nat.le_refl _) (Nat.lt_succ_self _)) (by omega)
theorem RA.ne {μ : Mm} {b q : Nat} {pl cp rs : Int32} {vw cv : Nat → Int32} {c : Cl} (h : RA μ b pl cp rs vw cv) (hq : q < b ∨ b + 5 ≤ q) : RA (mset μ q c) b pl cp rs vw cv := h.fr (Fr.set (a := q) (b := q + 1) (Nat.le_refl _) (Nat.lt_succ_self _)) (by omega)
section CTOR
variable {G : GG} {μ : Mm} {a : Nat}
theorem eX7_init (hO : μ a = some (obj 7 [.null])) : EvA G 2 kX7_init [.ref a] μ (a + 1) 1 12 (rV fun μ' => VA μ' a (fun _ => -6) ∧ Fr a (a + 2) μ μ') := by
  refine EvA.of (L := [some (.ref a)]) (by decide +kernel) (Nat.le_of_ble_eq_true rfl) rfl ?_
  refine Rn.aload_n (pc1 := 1)  dX7_init_0 rfl rfl rfl ?_
  refine Rn.objInit (pc1 := 4) dX7_init_1 rfl qX7_3 (Nat.le_of_ble_eq_true rfl) (by decide) ?_
  refine Rn.aload_n (pc1 := 5)  dX7_init_4 rfl rfl rfl ?_
  refine Rn.bipush (pc1 := 7) (v := nI 12) dX7_init_5 rfl (by decide) ?_
  refine Rn.newints (pc1 := 9) (n := 12) (mc := 0) (ms := 0)  dX7_init_7 rfl qac_int (by decide) (by decide) (by decide) ?_
  refine Rn.putfield (pc1 := 12)  dX7_init_9 rfl pX7_9 (fun _ => rfl) (by first | assumption | exact mset_same | exact mget_ne (by omega) (by assumption) | exact mget_ne (by omega) mset_same) (Nat.le_of_ble_eq_true rfl) rfl rfl rfl ?_
  refine Rn.aload_n (pc1 := 13)  dX7_init_12 rfl rfl rfl ?_
  refine Rn.cV_v (pc1 := 16) (eX7_clear (a := a) ⟨mset_same, fun _ => 0, mget_ne (by omega) mset_same, fun _ _ => rfl⟩) dX7_init_13 rfl qX7_15 oX7_clear (by first | assumption | exact mset_same | exact mget_ne (by omega) (by assumption) | exact mget_ne (by omega) mset_same) rfl rfl rfl rfl (Nat.le_of_ble_eq_true rfl) (by decide) (by decide) (fun μ13 h13 => ?_)
  obtain ⟨V, z⟩ := h13
  exact Rn.vreturn dX7_init_16 rfl ⟨rfl, V, ((Fr.set (by omega) (by omega)).set_ (by omega) (by omega)).trans z⟩
theorem eX0_init (hO : μ a = some (obj 0 [.null, .null, .null, .null, .int 0, .int 0, .int 0, .int 0])) : EvA G 1 kX0_init [.ref a] μ (a + 1) 4 240 (rV fun μ' => FB μ' a 0 (nI 0) (nI 0) (nI 0) (fun _ => 0) (fun _ => 0) (fun _ => 0) (fun _ => 0) ∧ Fr a (a + 5) μ μ') := by
  refine EvA.of (L := [some (.ref a)]) (by decide +kernel) (Nat.le_of_ble_eq_true rfl) rfl ?_
  refine Rn.aload_n (pc1 := 1)  dX0_init_0 rfl rfl rfl ?_
  refine Rn.objInit (pc1 := 4) dX0_init_1 rfl qX0_3 (Nat.le_of_ble_eq_true rfl) (by decide) ?_
  refine Rn.aload_n (pc1 := 5)  dX0_init_4 rfl rfl rfl ?_
  refine Rn.bipush (pc1 := 7) (v := nI 60) dX0_init_5 rfl (by decide) ?_
  refine Rn.newints (pc1 := 9) (n := 60) (mc := 3) (ms := 180)  dX0_init_7 rfl qac_int (by decide) (by decide) (by decide) ?_
  refine Rn.putfield (pc1 := 12)  dX0_init_9 rfl pX0_9 (fun _ => rfl) (by first | assumption | exact mset_same | exact mget_ne (by omega) (by assumption) | exact mget_ne (by omega) mset_same) (Nat.le_of_ble_eq_true rfl) rfl rfl rfl ?_
  refine Rn.aload_n (pc1 := 13)  dX0_init_12 rfl rfl rfl ?_
  refine Rn.bipush (pc1 := 15) (v := nI 60) dX0_init_13 rfl (by decide) ?_
  refine Rn.newints (pc1 := 17) (n := 60) (mc := 2) (ms := 120)  dX0_init_15 rfl qac_int (by decide) (by decide) (by decide) ?_
  refine Rn.putfield (pc1 := 20)  dX0_init_17 rfl pX0_15 (fun _ => rfl) (by first | assumption | exact mset_same | exact mget_ne (by omega) (by assumption) | exact mget_ne (by omega) mset_same) (Nat.le_of_ble_eq_true rfl) rfl rfl rfl ?_
  refine Rn.aload_n (pc1 := 21)  dX0_init_20 rfl rfl rfl ?_
  refine Rn.bipush (pc1 := 23) (v := nI 60) dX0_init_21 rfl (by decide) ?_
  refine Rn.newints (pc1 := 25) (n := 60) (mc := 1) (ms := 60)  dX0_init_23 rfl qac_int (by decide) (by decide) (by decide) ?_
  refine Rn.putfield (pc1 := 28)  dX0_init_25 rfl pX0_18 (fun _ => rfl) (by first | assumption | exact mset_same | exact mget_ne (by omega) (by assumption) | exact mget_ne (by omega) mset_same) (Nat.le_of_ble_eq_true rfl) rfl rfl rfl ?_
  refine Rn.aload_n (pc1 := 29)  dX0_init_28 rfl rfl rfl ?_
  refine Rn.bipush (pc1 := 31) (v := nI 60) dX0_init_29 rfl (by decide) ?_
  refine Rn.newints (pc1 := 33) (n := 60) (mc := 0) (ms := 0)  dX0_init_31 rfl qac_int (by decide) (by decide) (by decide) ?_
  refine Rn.putfield (pc1 := 36)  dX0_init_33 rfl pX0_21 (fun _ => rfl) (by first | assumption | exact mset_same | exact mget_ne (by omega) (by assumption) | exact mget_ne (by omega) mset_same) (Nat.le_of_ble_eq_true rfl) rfl rfl rfl ?_
  refine Rn.aload_n (pc1 := 37)  dX0_init_36 rfl rfl rfl ?_
  refine Rn.iconst (pc1 := 38) (v := nI 0) dX0_init_37 rfl (by decide) ?_
  refine Rn.putfield (pc1 := 41)  dX0_init_38 rfl pX0_24 (fun h => Bool.noConfusion h) (by first | assumption | exact mset_same | exact mget_ne (by omega) (by assumption) | exact mget_ne (by omega) mset_same) (Nat.le_of_ble_eq_true rfl) rfl rfl rfl ?_
  refine Rn.aload_n (pc1 := 42)  dX0_init_41 rfl rfl rfl ?_
  refine Rn.iconst (pc1 := 43) (v := nI 0) dX0_init_42 rfl (by decide) ?_
  refine Rn.putfield (pc1 := 46)  dX0_init_43 rfl pX0_28 (fun h => Bool.noConfusion h) (by first | assumption | exact mset_same | exact mget_ne (by omega) (by assumption) | exact mget_ne (by omega) mset_same) (Nat.le_of_ble_eq_true rfl) rfl rfl rfl ?_
  refine Rn.aload_n (pc1 := 47)  dX0_init_46 rfl rfl rfl ?_
  refine Rn.iconst (pc1 := 48) (v := nI 0) dX0_init_47 rfl (by decide) ?_
  refine Rn.putfield (pc1 := 51)  dX0_init_48 rfl pX0_31 (fun h => Bool.noConfusion h) (by first | assumption | exact mset_same | exact mget_ne (by omega) (by assumption) | exact mget_ne (by omega) mset_same) (Nat.le_of_ble_eq_true rfl) rfl rfl rfl ?_
  refine Rn.aload_n (pc1 := 52)  dX0_init_51 rfl rfl rfl ?_
  refine Rn.iconst (pc1 := 53) (v := nI 0) dX0_init_52 rfl (by decide) ?_
  refine Rn.putfield (pc1 := 56)  dX0_init_53 rfl pX0_34 (fun h => Bool.noConfusion h) (by first | assumption | exact mset_same | exact mget_ne (by omega) (by assumption) | exact mget_ne (by omega) mset_same) (Nat.le_of_ble_eq_true rfl) rfl rfl rfl ?_
  exact Rn.vreturn dX0_init_56 rfl ⟨rfl, ⟨mset_same, by simp (disch := omega) only [mset_ne, mset_same], by simp (disch := omega) only [mset_ne, mset_same], by simp (disch := omega) only [mset_ne, mset_same], by simp (disch := omega) only [mset_ne, mset_same]⟩, fun q hq => by simp (disch := omega) only [mset_ne]⟩
theorem eX3_init (hO : μ a = some (obj 3 [.int 0, .int 0, .int 0, .null, .null])) : EvA G 3 kX3_init [.ref a] μ (a + 1) 4 26 (rV fun μ' => RA μ' a (nI 0) (nI 0) (nI 0) (fun _ => -6) (fun _ => -6) ∧ Fr a (a + 5) μ μ') := by
  refine EvA.of (L := [some (.ref a)]) (by decide +kernel) (Nat.le_of_ble_eq_true rfl) rfl ?_
  refine Rn.aload_n (pc1 := 1)  dX3_init_0 rfl rfl rfl ?_
  refine Rn.objInit (pc1 := 4) dX3_init_1 rfl qX3_1 (Nat.le_of_ble_eq_true rfl) (by decide) ?_
  refine Rn.aload_n (pc1 := 5)  dX3_init_4 rfl rfl rfl ?_
  refine Rn.iconst (pc1 := 6) (v := nI 0) dX3_init_5 rfl (by decide) ?_
  refine Rn.putfield (pc1 := 9)  dX3_init_6 rfl pX3_7 (fun h => Bool.noConfusion h) (by first | assumption | exact mset_same | exact mget_ne (by omega) (by assumption) | exact mget_ne (by omega) mset_same) (Nat.le_of_ble_eq_true rfl) rfl rfl rfl ?_
  refine Rn.aload_n (pc1 := 10)  dX3_init_9 rfl rfl rfl ?_
  refine Rn.iconst (pc1 := 11) (v := nI 0) dX3_init_10 rfl (by decide) ?_
  refine Rn.putfield (pc1 := 14)  dX3_init_11 rfl pX3_13 (fun h => Bool.noConfusion h) (by first | assumption | exact mset_same | exact mget_ne (by omega) (by assumption) | exact mget_ne (by omega) mset_same) (Nat.le_of_ble_eq_true rfl) rfl rfl rfl ?_
  refine Rn.aload_n (pc1 := 15)  dX3_init_14 rfl rfl rfl ?_
  refine Rn.iconst (pc1 := 16) (v := nI 0) dX3_init_15 rfl (by decide) ?_
  refine Rn.putfield (pc1 := 19)  dX3_init_16 rfl pX3_16 (fun h => Bool.noConfusion h) (by first | assumption | exact mset_same | exact mget_ne (by omega) (by assumption) | exact mget_ne (by omega) mset_same) (Nat.le_of_ble_eq_true rfl) rfl rfl rfl ?_
  refine Rn.aload_n (pc1 := 20)  dX3_init_19 rfl rfl rfl ?_
  refine Rn.newobj (pc1 := 23) (fs := [.null]) (mc := 3) (ms := 25) (ci := 7) (N0 := 1) tyX7 dX3_init_20 rfl qX3_19 qins_X7 qini_X7 rfl inX7 tyX7_ok (by decide) ?_
  refine Rn.dup (pc1 := 24)  dX3_init_23 rfl rfl ?_
  refine Rn.cI (pc1 := 27) (mc := 2) (ms := 13) (host := "") (eX7_init (a := a + 1) mset_same) dX3_init_24 rfl qX3_21 rfl oX7_init rfl rfl (Nat.le_of_ble_eq_true rfl) (by decide) (by decide) rfl rfl (fun μ24 h24 => ?_)
  obtain ⟨V1, z1⟩ := h24
  have hO1 := (z1 a (by omega)).trans (mget_ne (by omega) mset_same)
  refine Rn.putfield (pc1 := 30)  dX3_init_27 rfl pX3_22 (fun _ => rfl) (by first | assumption | exact mset_same | exact mget_ne (by omega) (by assumption) | exact mget_ne (by omega) mset_same) (Nat.le_of_ble_eq_true rfl) rfl rfl rfl ?_
  refine Rn.aload_n (pc1 := 31)  dX3_init_30 rfl rfl rfl ?_
  refine Rn.newobj (pc1 := 34) (fs := [.null]) (mc := 1) (ms := 12) (ci := 7) (N0 := 1) tyX7 dX3_init_31 rfl qX3_19 qins_X7 qini_X7 rfl inX7 tyX7_ok (by decide) ?_
  refine Rn.dup (pc1 := 35)  dX3_init_34 rfl rfl ?_
  refine Rn.cI (pc1 := 38) (mc := 0) (ms := 0) (host := "") (eX7_init (a := a + 3) mset_same) dX3_init_35 rfl qX3_21 rfl oX7_init rfl rfl (Nat.le_of_ble_eq_true rfl) (by decide) (by decide) rfl rfl (fun μ35 h35 => ?_)
  obtain ⟨V2, z2⟩ := h35
  have hO2 := (z2 a (by omega)).trans ((mset_ne (by omega)).trans mset_same)
  refine Rn.putfield (pc1 := 41)  dX3_init_38 rfl pX3_26 (fun _ => rfl) (by first | assumption | exact mset_same | exact mget_ne (by omega) (by assumption) | exact mget_ne (by omega) mset_same) (Nat.le_of_ble_eq_true rfl) rfl rfl rfl ?_
  exact Rn.vreturn dX3_init_41 rfl ⟨rfl, ⟨mset_same, (((V1.ne (by omega)).ne (by omega)).fr z2 (by omega)).ne (by omega), V2.ne (by omega)⟩, fun q hq => (mset_ne (by omega)).trans ((z2 q (by omega)).trans ((mset_ne (by omega)).trans ((mset_ne (by omega)).trans ((z1 q (by omega)).trans (by simp (disch := omega) only [mset_ne])))))⟩
theorem eX5_init (hO : μ a = some (obj 5 [.int 0, .null])) : EvA G 3 kX5_init [.ref a] μ (a + 1) 2 13 (rV fun μ' => SN μ' a (nI 0) (fun _ => -6) ∧ Fr a (a + 3) μ μ') := by
  refine EvA.of (L := [some (.ref a)]) (by decide +kernel) (Nat.le_of_ble_eq_true rfl) rfl ?_
  refine Rn.aload_n (pc1 := 1)  dX5_init_0 rfl rfl rfl ?_
  refine Rn.objInit (pc1 := 4) dX5_init_1 rfl qX5_1 (Nat.le_of_ble_eq_true rfl) (by decide) ?_
  refine Rn.aload_n (pc1 := 5)  dX5_init_4 rfl rfl rfl ?_
  refine Rn.iconst (pc1 := 6) (v := nI 0) dX5_init_5 rfl (by decide) ?_
  refine Rn.putfield (pc1 := 9)  dX5_init_6 rfl pX5_7 (fun h => Bool.noConfusion h) (by first | assumption | exact mset_same | exact mget_ne (by omega) (by assumption) | exact mget_ne (by omega) mset_same) (Nat.le_of_ble_eq_true rfl) rfl rfl rfl ?_
  refine Rn.aload_n (pc1 := 10)  dX5_init_9 rfl rfl rfl ?_
  refine Rn.newobj (pc1 := 13) (fs := [.null]) (mc := 1) (ms := 12) (ci := 7) (N0 := 1) tyX7 dX5_init_10 rfl qX5_13 qins_X7 qini_X7 rfl inX7 tyX7_ok (by decide) ?_
  refine Rn.dup (pc1 := 14)  dX5_init_13 rfl rfl ?_
  refine Rn.cI (pc1 := 17) (mc := 0) (ms := 0) (host := "") (eX7_init (a := a + 1) mset_same) dX5_init_14 rfl qX5_15 rfl oX7_init rfl rfl (Nat.le_of_ble_eq_true rfl) (by decide) (by decide) rfl rfl (fun μ14 h14 => ?_)
  obtain ⟨V1, z1⟩ := h14
  have hO1 := (z1 a (by omega)).trans ((mset_ne (by omega)).trans mset_same)
  refine Rn.putfield (pc1 := 20)  dX5_init_17 rfl pX5_16 (fun _ => rfl) (by first | assumption | exact mset_same | exact mget_ne (by omega) (by assumption) | exact mget_ne (by omega) mset_same) (Nat.le_of_ble_eq_true rfl) rfl rfl rfl ?_
  exact Rn.vreturn dX5_init_20 rfl ⟨rfl, ⟨mset_same, V1.ne (by omega)⟩, fun q hq => (mset_ne (by omega)).trans ((z1 q (by omega)).trans (by simp (disch := omega) only [mset_ne]))⟩
theorem eX2_init (hO : μ a = some (obj 2 [.null, .int 0, .int 0, .int 0, .int 0, .int 0])) : EvA G 1 kX2_init [.ref a] μ (a + 1) 1 80 (rV fun μ' => PA μ' a (fun _ => 0) 0 0 (nI 0) (nI 0) (nI 0) ∧ Fr a (a + 2) μ μ') := by
  refine EvA.of (L := [some (.ref a)]) (by decide +kernel) (Nat.le_of_ble_eq_true rfl) rfl ?_
  refine Rn.aload_n (pc1 := 1)  dX2_init_0 rfl rfl rfl ?_
  refine Rn.objInit (pc1 := 4) dX2_init_1 rfl qX2_3 (Nat.le_of_ble_eq_true rfl) (by decide) ?_
  refine Rn.aload_n (pc1 := 5)  dX2_init_4 rfl rfl rfl ?_
  refine Rn.bipush (pc1 := 7) (v := nI 80) dX2_init_5 rfl (by decide) ?_
  refine Rn.newints (pc1 := 9) (n := 80) (mc := 0) (ms := 0)  dX2_init_7 rfl qac_int (by decide) (by decide) (by decide) ?_
  refine Rn.putfield (pc1 := 12)  dX2_init_9 rfl pX2_9 (fun _ => rfl) (by first | assumption | exact mset_same | exact mget_ne (by omega) (by assumption) | exact mget_ne (by omega) mset_same) (Nat.le_of_ble_eq_true rfl) rfl rfl rfl ?_
  refine Rn.aload_n (pc1 := 13)  dX2_init_12 rfl rfl rfl ?_
  refine Rn.iconst (pc1 := 14) (v := nI 0) dX2_init_13 rfl (by decide) ?_
  refine Rn.putfield (pc1 := 17)  dX2_init_14 rfl pX2_15 (fun h => Bool.noConfusion h) (by first | assumption | exact mset_same | exact mget_ne (by omega) (by assumption) | exact mget_ne (by omega) mset_same) (Nat.le_of_ble_eq_true rfl) rfl rfl rfl ?_
  refine Rn.aload_n (pc1 := 18)  dX2_init_17 rfl rfl rfl ?_
  refine Rn.iconst (pc1 := 19) (v := nI 0) dX2_init_18 rfl (by decide) ?_
  refine Rn.putfield (pc1 := 22)  dX2_init_19 rfl pX2_19 (fun h => Bool.noConfusion h) (by first | assumption | exact mset_same | exact mget_ne (by omega) (by assumption) | exact mget_ne (by omega) mset_same) (Nat.le_of_ble_eq_true rfl) rfl rfl rfl ?_
  refine Rn.aload_n (pc1 := 23)  dX2_init_22 rfl rfl rfl ?_
  refine Rn.iconst (pc1 := 24) (v := nI 0) dX2_init_23 rfl (by decide) ?_
  refine Rn.putfield (pc1 := 27)  dX2_init_24 rfl pX2_22 (fun h => Bool.noConfusion h) (by first | assumption | exact mset_same | exact mget_ne (by omega) (by assumption) | exact mget_ne (by omega) mset_same) (Nat.le_of_ble_eq_true rfl) rfl rfl rfl ?_
  refine Rn.aload_n (pc1 := 28)  dX2_init_27 rfl rfl rfl ?_
  refine Rn.iconst (pc1 := 29) (v := nI 0) dX2_init_28 rfl (by decide) ?_
  refine Rn.putfield (pc1 := 32)  dX2_init_29 rfl pX2_25 (fun h => Bool.noConfusion h) (by first | assumption | exact mset_same | exact mget_ne (by omega) (by assumption) | exact mget_ne (by omega) mset_same) (Nat.le_of_ble_eq_true rfl) rfl rfl rfl ?_
  refine Rn.aload_n (pc1 := 33)  dX2_init_32 rfl rfl rfl ?_
  refine Rn.iconst (pc1 := 34) (v := nI 0) dX2_init_33 rfl (by decide) ?_
  refine Rn.putfield (pc1 := 37)  dX2_init_34 rfl pX2_28 (fun h => Bool.noConfusion h) (by first | assumption | exact mset_same | exact mget_ne (by omega) (by assumption) | exact mget_ne (by omega) mset_same) (Nat.le_of_ble_eq_true rfl) rfl rfl rfl ?_
  exact Rn.vreturn dX2_init_37 rfl ⟨rfl, ⟨mset_same, by simp (disch := omega) only [mset_ne, mset_same]⟩, fun q hq => by simp (disch := omega) only [mset_ne]⟩
/-- the reference's row, when it is made -/
def f9 : Nat → Int32 := blk (upd (upd (fun _ => 0) 0 (nI 5)) 1 (nI 30)) 9 12 (fun _ => -6)
end CTOR
