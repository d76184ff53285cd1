/-! ===== Pad: the text, and the walk over it ===== -/
def PA (μ : Mm) (z : Nat) (P : Nat → Int32) (len pl : Nat) (lt fi se : Int32) : Prop := μ z = some (obj 2 [.ref (z + 1), .int (nI len), .int (nI pl), .int lt, .int fi, .int se]) ∧ μ (z + 1) = some (ints 80 P)
theorem PA.fr {μ μ' : Mm} {z x y len pl : Nat} {P : Nat → Int32} {lt fi se : Int32} (F : PA μ z P len pl lt fi se) (hF : Fr x y μ μ') (hd : z + 2 ≤ x ∨ y ≤ z) : PA μ' z P len pl lt fi se := ⟨(hF _ (by omega)).trans F.1, (hF _ (by omega)).trans F.2⟩
theorem PA.setO {μ : Mm} {z len pl : Nat} {P : Nat → Int32} {lt fi se : Int32} (F : PA μ z P len pl lt fi se) (len' pl' : Nat) (lt' fi' se' : Int32) {c : Cl} (hc : c = obj 2 [.ref (z + 1), .int (nI len'), .int (nI pl'), .int lt', .int fi', .int se']) : PA (mset μ z c) z P len' pl' lt' fi' se' := by
  subst hc
  exact ⟨mset_same, mget_ne (by omega) F.2⟩
/-- signs are 33 to 126 -/
def PadOk (P : Nat → Int32) (len : Nat) : Prop := len ≤ 80 ∧ ∀ j, j < len → ∃ c, 33 ≤ c ∧ c ≤ 126 ∧ P j = nI c
/-- the sign at a place, 0 behind the end -/
def sgn (P : Nat → Int32) (len i : Nat) : Nat := if i < len then (P i).toNatClampNeg else 0
theorem sgn_in {P : Nat → Int32} {len i : Nat} (h : PadOk P len) (hi : i < len) : 33 ≤ sgn P len i ∧ sgn P len i ≤ 126 ∧ P i = nI (sgn P len i) := by
  obtain ⟨c, h1, h2, h3⟩ := h.2 i hi
  unfold sgn
  rw [if_pos hi, h3, nI_clamp (by omega)]
  exact ⟨h1, h2, rfl⟩
theorem sgn_out {P : Nat → Int32} {len i : Nat} (hi : len ≤ i) : sgn P len i = 0 := if_neg (by omega)
theorem sgn_le {P : Nat → Int32} {len i : Nat} (h : PadOk P len) : sgn P len i ≤ 126 := by
  by_cases hi : i < len
  · exact (sgn_in h hi).2.1
  · rw [sgn_out (by omega)]; omega
theorem sgn_lt {P : Nat → Int32} {len i : Nat} (h : sgn P len i ≠ 0) : i < len := by
  by_cases hi : i < len
  · exact hi
  · exact absurd (sgn_out (by omega)) h
def digV (P : Nat → Int32) (len i hi : Nat) : Option Nat := if 48 ≤ sgn P len i ∧ sgn P len i ≤ 48 + hi then some (sgn P len i - 48) else none
def numV (P : Nat → Int32) (len i : Nat) : Option (Nat × Nat) := match digV P len i 9 with
  | none => none
  | some 0 => some (0, i + 1)
  | some (a + 1) => match digV P len (i + 1) 9 with
    | none => some (a + 1, i + 1)
    | some b => match digV P len (i + 2) 9 with
      | none => some (10 * (a + 1) + b, i + 2)
      | some c => some (10 * (10 * (a + 1) + b) + c, i + 3)
def kindF (c : Nat) : Nat := if c = 104 ∨ c = 110 ∨ c = 115 then 1 else if c = 120 ∨ c = 116 then 2 else if c = 99 ∨ c = 98 then 3 else if c = 112 then 4 else if c = 114 then 5 else if c = 108 then 6 else 0
/-- an order at a place: whether there is one, where the walk stands behind it, its numbers -/
def ordV (P : Nat → Int32) (len i : Nat) : Bool × Nat × Nat × Nat := match kindF (sgn P len i) with
  | 0 => (false, i, 0, 0)
  | 1 => (true, i + 1, 0, 0)
  | 2 => match numV P len (i + 1) with
    | none => (false, i + 1, 0, 0)
    | some (v, q) => (true, q, v, 0)
  | 3 => match digV P len (i + 1) 5 with
    | none => (false, i + 1, 0, 0)
    | some d => (true, i + 2, d, 0)
  | 4 => match numV P len (i + 1) with
    | none => (false, i + 1, 0, 0)
    | some (v, q) => if sgn P len q = 61 then (match numV P len (q + 1) with
      | none => (false, q + 1, v, 0)
      | some (w, q2) => (true, q2, v, w)) else (false, q, v, 0)
  | 5 => match digV P len (i + 1) 5 with
    | none => (false, i + 1, 0, 0)
    | some d => if sgn P len (i + 2) = 42 then (match numV P len (i + 3) with
      | none => (false, i + 3, d, 0)
      | some (w, q2) => (true, q2, d, w)) else (false, i + 2, d, 0)
  | _ => match digV P len (i + 1) 5 with
    | none => (false, i + 1, 0, 0)
    | some d => if sgn P len (i + 2) = 64 then (match digV P len (i + 3) 9 with
      | none => (false, i + 3, d, 0)
      | some e => (true, i + 4, d, e)) else (false, i + 2, d, 0)
theorem digV_lt {P : Nat → Int32} {len i hi d : Nat} (h : digV P len i hi = some d) : i < len ∧ d ≤ hi ∧ sgn P len i = d + 48 := by
  unfold digV at h
  by_cases q : 48 ≤ sgn P len i ∧ sgn P len i ≤ 48 + hi
  · rw [if_pos q] at h
    cases h
    exact ⟨sgn_lt (show sgn P len i ≠ 0 by omega), by omega, by omega⟩
  · rw [if_neg q] at h; cases h
section PAD
variable {G : GG} {μ : Mm} {sz : Nat} {z len pl : Nat} {P : Nat → Int32} {lt fi se : Int32}
theorem eX2_signHere (F : PA μ z P len pl lt fi se) (ho : PadOk P len) (hp : pl < 2 ^ 31) : EvA G 1 kX2_signHere [.ref z] μ sz 0 0 (rI fun v μ' => v = nI (sgn P len pl) ∧ μ' = μ) := by
  have hO := F.1
  have hl := ho.1
  refine EvA.of (L := [some (.ref z)]) (by decide +kernel) (Nat.le_of_ble_eq_true rfl) rfl ?_
  refine Rn.aload_n (pc1 := 1)  dX2_signHere_0 rfl rfl rfl ?_
  refine Rn.getfield (pc1 := 4)  dX2_signHere_1 rfl fX2_19 (by first | assumption | exact mset_same | exact mget_ne (by omega) (by assumption)) rfl ?_
  refine Rn.aload_n (pc1 := 5)  dX2_signHere_4 rfl rfl rfl ?_
  refine Rn.getfield (pc1 := 8)  dX2_signHere_5 rfl fX2_15 (by first | assumption | exact mset_same | exact mget_ne (by omega) (by assumption)) rfl ?_
  refine Rn.icmp_ge (pc1 := 11) 25 dX2_signHere_8 rfl (by decide) (fun c8 => ?_) (fun c8 => ?_)
  · rw [nI_leI (by omega) hp] at c8
    rw [sgn_out c8]
    refine Rn.iconst (pc1 := 26) (v := nI 0) dX2_signHere_25 rfl (by decide) ?_
    exact Rn.ireturn dX2_signHere_26 rfl rfl ⟨_, rfl, rfl, rfl⟩
  · rw [i32_nle, nI_ltI hp (by omega)] at c8
    refine Rn.aload_n (pc1 := 12)  dX2_signHere_11 rfl rfl rfl ?_
    refine Rn.getfield (pc1 := 15)  dX2_signHere_12 rfl fX2_9 (by first | assumption | exact mset_same | exact mget_ne (by omega) (by assumption)) rfl ?_
    refine Rn.aload_n (pc1 := 16)  dX2_signHere_15 rfl rfl rfl ?_
    refine Rn.getfield (pc1 := 19)  dX2_signHere_16 rfl fX2_19 (by first | assumption | exact mset_same | exact mget_ne (by omega) (by assumption)) rfl ?_
    refine Rn.cN_i (pc1 := 22) (eX8_at F.2 rfl (show pl < 80 by omega) (by decide)) dX2_signHere_19 rfl nX2_72 oX8_at rfl rfl (Nat.le_of_ble_eq_true rfl) (by decide) (by decide) (fun v19 μ19 h19 => ?_)
    obtain ⟨rfl, rfl⟩ := h19
    rw [(sgn_in ho c8).2.2]
    refine Rn.goto 26 dX2_signHere_22 (by decide) ?_
    exact Rn.ireturn dX2_signHere_26 rfl rfl ⟨_, rfl, rfl, rfl⟩
theorem eX2_takeSign_y {c : Nat} (F : PA μ z P len pl lt fi se) (ho : PadOk P len) (hp : pl < 2 ^ 31) (hc : sgn P len pl = c) : EvA G 2 kX2_takeSign [.ref z, .int (nI c)] μ sz 0 0 (rI fun v μ' => v = bI true ∧ PA μ' z P len (pl + 1) lt fi se ∧ Fr z (z + 2) μ μ') := by
  have hO := F.1
  refine EvA.of (L := [some (.ref z), some (.int (nI c))]) (by decide +kernel) (Nat.le_of_ble_eq_true rfl) rfl ?_
  refine Rn.aload_n (pc1 := 1)  dX2_takeSign_0 rfl rfl rfl ?_
  refine Rn.cV_i (pc1 := 4) (eX2_signHere F ho hp) dX2_takeSign_1 rfl qX2_52 oX2_signHere (by first | assumption | exact mset_same | exact mget_ne (by omega) (by assumption)) rfl rfl rfl rfl (Nat.le_of_ble_eq_true rfl) (by decide) (by decide) (fun v1 μ1 h1 => ?_)
  obtain ⟨rfl, rfl⟩ := h1
  refine Rn.iload_n (pc1 := 5)  dX2_takeSign_4 rfl rfl rfl ?_
  refine Rn.icmp_eq (pc1 := 8) 10 dX2_takeSign_5 rfl (by decide) (fun c5 => ?_) (fun c5 => ?_)
  · refine Rn.aload_n (pc1 := 11)  dX2_takeSign_10 rfl rfl rfl ?_
    refine Rn.dup (pc1 := 12)  dX2_takeSign_11 rfl rfl ?_
    refine Rn.getfield (pc1 := 15)  dX2_takeSign_12 rfl fX2_19 (by first | assumption | exact mset_same | exact mget_ne (by omega) (by assumption)) rfl ?_
    refine Rn.iconst (pc1 := 16) (v := nI 1) dX2_takeSign_15 rfl (by decide) ?_
    refine Rn.iadd (pc1 := 17)  dX2_takeSign_16 rfl (nI_add pl 1) ?_
    refine Rn.putfield (pc1 := 20)  dX2_takeSign_17 rfl pX2_19 (fun h => Bool.noConfusion h) (by first | assumption | exact mset_same | exact mget_ne (by omega) (by assumption)) (Nat.le_of_ble_eq_true rfl) rfl rfl rfl ?_
    refine Rn.iconst (pc1 := 21) (v := nI 1) dX2_takeSign_20 rfl (by decide) ?_
    exact Rn.ireturn dX2_takeSign_21 rfl rfl ⟨_, rfl, rfl, F.setO len (pl + 1) lt fi se rfl, Fr.set (by omega) (by omega)⟩
  · exact absurd (by rw [hc]) c5
theorem eX2_takeSign_n {c : Nat} (F : PA μ z P len pl lt fi se) (ho : PadOk P len) (hp : pl < 2 ^ 31) (hc2 : c < 1000) (hc : ¬ sgn P len pl = c) : EvA G 2 kX2_takeSign [.ref z, .int (nI c)] μ sz 0 0 (rI fun v μ' => v = bI false ∧ μ' = μ) := by
  have hO := F.1
  have hle := sgn_le (i := pl) ho
  refine EvA.of (L := [some (.ref z), some (.int (nI c))]) (by decide +kernel) (Nat.le_of_ble_eq_true rfl) rfl ?_
  refine Rn.aload_n (pc1 := 1)  dX2_takeSign_0 rfl rfl rfl ?_
  refine Rn.cV_i (pc1 := 4) (eX2_signHere F ho hp) dX2_takeSign_1 rfl qX2_52 oX2_signHere (by first | assumption | exact mset_same | exact mget_ne (by omega) (by assumption)) rfl rfl rfl rfl (Nat.le_of_ble_eq_true rfl) (by decide) (by decide) (fun v1 μ1 h1 => ?_)
  obtain ⟨rfl, rfl⟩ := h1
  refine Rn.iload_n (pc1 := 5)  dX2_takeSign_4 rfl rfl rfl ?_
  refine Rn.icmp_eq (pc1 := 8) 10 dX2_takeSign_5 rfl (by decide) (fun c5 => ?_) (fun c5 => ?_)
  · exact absurd ((nI_eq (by omega) (by omega)).mp c5) hc
  · refine Rn.iconst (pc1 := 9) (v := nI 0) dX2_takeSign_8 rfl (by decide) ?_
    exact Rn.ireturn dX2_takeSign_9 rfl rfl ⟨_, rfl, rfl, rfl⟩
theorem eX2_takeDigit_y {hi d : Nat} (F : PA μ z P len pl lt fi se) (ho : PadOk P len) (hp : pl < 2 ^ 31) (hh : hi ≤ 9) (hd : digV P len pl hi = some d) : EvA G 2 kX2_takeDigit [.ref z, .int (nI hi)] μ sz 0 0 (rI fun v μ' => v = nI d ∧ PA μ' z P len (pl + 1) lt fi se ∧ Fr z (z + 2) μ μ') := by
  have hO := F.1
  obtain ⟨h1, h2, h3⟩ := digV_lt hd
  refine EvA.of (L := [some (.ref z), some (.int (nI hi)), none]) (by decide +kernel) (Nat.le_of_ble_eq_true rfl) rfl ?_
  refine Rn.aload_n (pc1 := 1)  dX2_takeDigit_0 rfl rfl rfl ?_
  refine Rn.cV_i (pc1 := 4) (eX2_signHere F ho hp) dX2_takeDigit_1 rfl qX2_52 oX2_signHere (by first | assumption | exact mset_same | exact mget_ne (by omega) (by assumption)) rfl rfl rfl rfl (Nat.le_of_ble_eq_true rfl) (by decide) (by decide) (fun v1 μ1 h1 => ?_)
  obtain ⟨rfl, rfl⟩ := h1
  rw [h3]
  refine Rn.bipush (pc1 := 6) (v := nI 48) dX2_takeDigit_4 rfl (by decide) ?_
  refine Rn.isub (pc1 := 7) (v := nI d)  dX2_takeDigit_6 rfl (by rw [nI_sub (by omega), Nat.add_sub_cancel]) ?_
  refine Rn.istore_n (pc1 := 8)  dX2_takeDigit_7 rfl rfl (by decide) rfl rfl ?_
  refine Rn.iload_n (pc1 := 9)  dX2_takeDigit_8 rfl rfl rfl ?_
  refine Rn.if_lt (pc1 := 12) 17 dX2_takeDigit_9 rfl (by decide) (fun c9 => ?_) (fun c9 => ?_)
  · exact absurd c9 (nI_nlt (Nat.zero_le _) (by omega))
  · refine Rn.iload_n (pc1 := 13)  dX2_takeDigit_12 rfl rfl rfl ?_
    refine Rn.iload_n (pc1 := 14)  dX2_takeDigit_13 rfl rfl rfl ?_
    refine Rn.icmp_le (pc1 := 17) 20 dX2_takeDigit_14 rfl (by decide) (fun c14 => ?_) (fun c14 => ?_)
    · refine Rn.aload_n (pc1 := 21)  dX2_takeDigit_20 rfl rfl rfl ?_
      refine Rn.dup (pc1 := 22)  dX2_takeDigit_21 rfl rfl ?_
      refine Rn.getfield (pc1 := 25)  dX2_takeDigit_22 rfl fX2_19 (by first | assumption | exact mset_same | exact mget_ne (by omega) (by assumption)) rfl ?_
      refine Rn.iconst (pc1 := 26) (v := nI 1) dX2_takeDigit_25 rfl (by decide) ?_
      refine Rn.iadd (pc1 := 27)  dX2_takeDigit_26 rfl (nI_add pl 1) ?_
      refine Rn.putfield (pc1 := 30)  dX2_takeDigit_27 rfl pX2_19 (fun h => Bool.noConfusion h) (by first | assumption | exact mset_same | exact mget_ne (by omega) (by assumption)) (Nat.le_of_ble_eq_true rfl) rfl rfl rfl ?_
      refine Rn.iload_n (pc1 := 31)  dX2_takeDigit_30 rfl rfl rfl ?_
      exact Rn.ireturn dX2_takeDigit_31 rfl rfl ⟨_, rfl, rfl, F.setO len (pl + 1) lt fi se rfl, Fr.set (by omega) (by omega)⟩
    · exact absurd (nI_le h2 (by omega)) c14
theorem eX2_takeDigit_n {hi : Nat} (F : PA μ z P len pl lt fi se) (ho : PadOk P len) (hp : pl < 2 ^ 31) (hh : hi ≤ 9) (hd : digV P len pl hi = none) : EvA G 2 kX2_takeDigit [.ref z, .int (nI hi)] μ sz 0 0 (rI fun v μ' => v = -6 ∧ μ' = μ) := by
  have hO := F.1
  have hle := sgn_le (i := pl) ho
  have hn : ¬ (48 ≤ sgn P len pl ∧ sgn P len pl ≤ 48 + hi) := by
    intro q
    unfold digV at hd
    rw [if_pos q] at hd
    cases hd
  refine EvA.of (L := [some (.ref z), some (.int (nI hi)), none]) (by decide +kernel) (Nat.le_of_ble_eq_true rfl) rfl ?_
  refine Rn.aload_n (pc1 := 1)  dX2_takeDigit_0 rfl rfl rfl ?_
  refine Rn.cV_i (pc1 := 4) (eX2_signHere F ho hp) dX2_takeDigit_1 rfl qX2_52 oX2_signHere (by first | assumption | exact mset_same | exact mget_ne (by omega) (by assumption)) rfl rfl rfl rfl (Nat.le_of_ble_eq_true rfl) (by decide) (by decide) (fun v1 μ1 h1 => ?_)
  obtain ⟨rfl, rfl⟩ := h1
  refine Rn.bipush (pc1 := 6) (v := nI 48) dX2_takeDigit_4 rfl (by decide) ?_
  refine Rn.isub (pc1 := 7)  dX2_takeDigit_6 rfl rfl ?_
  refine Rn.istore_n (pc1 := 8)  dX2_takeDigit_7 rfl rfl (by decide) rfl rfl ?_
  refine Rn.iload_n (pc1 := 9)  dX2_takeDigit_8 rfl rfl rfl ?_
  refine Rn.if_lt (pc1 := 12) 17 dX2_takeDigit_9 rfl (by decide) (fun c9 => ?_) (fun c9 => ?_)
  · refine Rn.bipush (pc1 := 19) (v := (-6)) dX2_takeDigit_17 rfl (by decide) ?_
    exact Rn.ireturn dX2_takeDigit_19 rfl rfl ⟨_, rfl, rfl, rfl⟩
  · refine Rn.iload_n (pc1 := 13)  dX2_takeDigit_12 rfl rfl rfl ?_
    refine Rn.iload_n (pc1 := 14)  dX2_takeDigit_13 rfl rfl rfl ?_
    refine Rn.icmp_le (pc1 := 17) 20 dX2_takeDigit_14 rfl (by decide) (fun c14 => ?_) (fun c14 => ?_)
    · exfalso
      by_cases q : 48 ≤ sgn P len pl
      · rw [nI_sub q, nI_leI (by omega) (by omega)] at c14; omega
      · apply c9
        rw [Int32.lt_iff_toInt_lt, Int32.toInt_sub, nI_toInt (by omega), nI_toInt (by decide), nI_toInt (by decide), Int.bmod_eq_of_le (by omega) (by omega)]
        omega
    · refine Rn.bipush (pc1 := 19) (v := (-6)) dX2_takeDigit_17 rfl (by decide) ?_
      exact Rn.ireturn dX2_takeDigit_19 rfl rfl ⟨_, rfl, rfl, rfl⟩
theorem eX2_takeReader_y {d : Nat} (F : PA μ z P len pl lt fi se) (ho : PadOk P len) (hp : pl < 2 ^ 31) (hd : digV P len pl 5 = some d) : EvA G 3 kX2_takeReader [.ref z] μ sz 0 0 (rI fun v μ' => v = nI d ∧ PA μ' z P len (pl + 1) lt fi se ∧ Fr z (z + 2) μ μ') := by
  have hO := F.1
  refine EvA.of (L := [some (.ref z)]) (by decide +kernel) (Nat.le_of_ble_eq_true rfl) rfl ?_
  refine Rn.aload_n (pc1 := 1)  dX2_takeReader_0 rfl rfl rfl ?_
  refine Rn.iconst (pc1 := 2) (v := nI 5) dX2_takeReader_1 rfl (by decide) ?_
  refine Rn.cV_i (pc1 := 5) (eX2_takeDigit_y F ho hp (by omega) hd) dX2_takeReader_2 rfl qX2_68 oX2_takeDigit (by first | assumption | exact mset_same | exact mget_ne (by omega) (by assumption)) rfl rfl rfl rfl (Nat.le_of_ble_eq_true rfl) (by decide) (by decide) (fun v2 μ2 h2 => ?_)
  obtain ⟨rfl, F1, z1⟩ := h2
  exact Rn.ireturn dX2_takeReader_5 rfl rfl ⟨_, rfl, rfl, F1, z1⟩
theorem eX2_takeReader_n (F : PA μ z P len pl lt fi se) (ho : PadOk P len) (hp : pl < 2 ^ 31) (hd : digV P len pl 5 = none) : EvA G 3 kX2_takeReader [.ref z] μ sz 0 0 (rI fun v μ' => v = -6 ∧ μ' = μ) := by
  have hO := F.1
  refine EvA.of (L := [some (.ref z)]) (by decide +kernel) (Nat.le_of_ble_eq_true rfl) rfl ?_
  refine Rn.aload_n (pc1 := 1)  dX2_takeReader_0 rfl rfl rfl ?_
  refine Rn.iconst (pc1 := 2) (v := nI 5) dX2_takeReader_1 rfl (by decide) ?_
  refine Rn.cV_i (pc1 := 5) (eX2_takeDigit_n F ho hp (by omega) hd) dX2_takeReader_2 rfl qX2_68 oX2_takeDigit (by first | assumption | exact mset_same | exact mget_ne (by omega) (by assumption)) rfl rfl rfl rfl (Nat.le_of_ble_eq_true rfl) (by decide) (by decide) (fun v2 μ2 h2 => ?_)
  obtain ⟨rfl, rfl⟩ := h2
  exact Rn.ireturn dX2_takeReader_5 rfl rfl ⟨_, rfl, rfl, rfl⟩
theorem eX2_takeFirst {v : Int32} (F : PA μ z P len pl lt fi se) : EvA G 0 kX2_takeFirst [.ref z, .int v] μ sz 0 0 (rI fun r μ' => r = bI (decide (¬ v = -6)) ∧ PA μ' z P len pl lt v se ∧ Fr z (z + 2) μ μ') := by
  have hO := F.1
  refine EvA.of (L := [some (.ref z), some (.int v)]) (by decide +kernel) (Nat.le_of_ble_eq_true rfl) rfl ?_
  refine Rn.aload_n (pc1 := 1)  dX2_takeFirst_0 rfl rfl rfl ?_
  refine Rn.iload_n (pc1 := 2)  dX2_takeFirst_1 rfl rfl rfl ?_
  refine Rn.putfield (pc1 := 5)  dX2_takeFirst_2 rfl pX2_25 (fun h => Bool.noConfusion h) (by first | assumption | exact mset_same | exact mget_ne (by omega) (by assumption)) (Nat.le_of_ble_eq_true rfl) rfl rfl rfl ?_
  refine Rn.iload_n (pc1 := 6)  dX2_takeFirst_5 rfl rfl rfl ?_
  refine Rn.bipush (pc1 := 8) (v := (-6)) dX2_takeFirst_6 rfl (by decide) ?_
  refine Rn.icmp_eq (pc1 := 11) 15 dX2_takeFirst_8 rfl (by decide) (fun c8 => ?_) (fun c8 => ?_)
  · have e : decide (¬ v = -6) = false := decide_eq_false (fun q => q c8)
    refine Rn.iconst (pc1 := 16) (v := nI 0) dX2_takeFirst_15 rfl (by decide) ?_
    exact Rn.ireturn dX2_takeFirst_16 rfl rfl ⟨_, rfl, by rw [e]; rfl, F.setO len pl lt v se rfl, Fr.set (by omega) (by omega)⟩
  · have e : decide (¬ v = -6) = true := decide_eq_true c8
    refine Rn.iconst (pc1 := 12) (v := nI 1) dX2_takeFirst_11 rfl (by decide) ?_
    refine Rn.goto 16 dX2_takeFirst_12 (by decide) ?_
    exact Rn.ireturn dX2_takeFirst_16 rfl rfl ⟨_, rfl, by rw [e]; rfl, F.setO len pl lt v se rfl, Fr.set (by omega) (by omega)⟩
theorem eX2_takeSecond {v : Int32} (F : PA μ z P len pl lt fi se) : EvA G 0 kX2_takeSecond [.ref z, .int v] μ sz 0 0 (rI fun r μ' => r = bI (decide (¬ v = -6)) ∧ PA μ' z P len pl lt fi v ∧ Fr z (z + 2) μ μ') := by
  have hO := F.1
  refine EvA.of (L := [some (.ref z), some (.int v)]) (by decide +kernel) (Nat.le_of_ble_eq_true rfl) rfl ?_
  refine Rn.aload_n (pc1 := 1)  dX2_takeSecond_0 rfl rfl rfl ?_
  refine Rn.iload_n (pc1 := 2)  dX2_takeSecond_1 rfl rfl rfl ?_
  refine Rn.putfield (pc1 := 5)  dX2_takeSecond_2 rfl pX2_28 (fun h => Bool.noConfusion h) (by first | assumption | exact mset_same | exact mget_ne (by omega) (by assumption)) (Nat.le_of_ble_eq_true rfl) rfl rfl rfl ?_
  refine Rn.iload_n (pc1 := 6)  dX2_takeSecond_5 rfl rfl rfl ?_
  refine Rn.bipush (pc1 := 8) (v := (-6)) dX2_takeSecond_6 rfl (by decide) ?_
  refine Rn.icmp_eq (pc1 := 11) 15 dX2_takeSecond_8 rfl (by decide) (fun c8 => ?_) (fun c8 => ?_)
  · have e : decide (¬ v = -6) = false := decide_eq_false (fun q => q c8)
    refine Rn.iconst (pc1 := 16) (v := nI 0) dX2_takeSecond_15 rfl (by decide) ?_
    exact Rn.ireturn dX2_takeSecond_16 rfl rfl ⟨_, rfl, by rw [e]; rfl, F.setO len pl lt fi v rfl, Fr.set (by omega) (by omega)⟩
  · have e : decide (¬ v = -6) = true := decide_eq_true c8
    refine Rn.iconst (pc1 := 12) (v := nI 1) dX2_takeSecond_11 rfl (by decide) ?_
    refine Rn.goto 16 dX2_takeSecond_12 (by decide) ?_
    exact Rn.ireturn dX2_takeSecond_16 rfl rfl ⟨_, rfl, by rw [e]; rfl, F.setO len pl lt fi v rfl, Fr.set (by omega) (by omega)⟩
theorem nI_dec {n : Nat} (h : n < 2 ^ 31) : decide (¬ nI n = -6) = true := decide_eq_true (fun q => by have := nI_pos h; rw [q] at this; exact this (by decide))
/-- what a number answers -/
abbrev QN (P : Nat → Int32) (len i : Nat) (z : Nat) (lt fi se : Int32) (μ : Mm) : Option Value → Mm → Prop := rI fun v μ' => (numV P len i = none ∧ v = -6 ∧ μ' = μ) ∨ ∃ n q, numV P len i = some (n, q) ∧ n ≤ 999 ∧ q ≤ i + 3 ∧ v = nI n ∧ PA μ' z P len q lt fi se ∧ Fr z (z + 2) μ μ'
theorem eX2_takeNumber (F : PA μ z P len pl lt fi se) (ho : PadOk P len) (hp : pl < 2 ^ 30) : EvA G 3 kX2_takeNumber [.ref z] μ sz 0 0 (QN P len pl z lt fi se μ) := by
  have J3 : ∀ (μ1 : Mm) (n : Nat) (o3 : Option Value), n ≤ 999 → PA μ1 z P len (pl + 3) lt fi se → Fr z (z + 2) μ μ1 → numV P len pl = some (n, pl + 3) → Rn G 3 kX2_takeNumber 15 [some (.ref z), some (.int (nI n)), some (.int (nI 3)), o3] [] μ1 sz 0 0 (QN P len pl z lt fi se μ) := by
    intro μ1 n o3 hn F1 z1 e
    refine Rn.iload_n (pc1 := 16)  dX2_takeNumber_15 rfl rfl rfl ?_
    refine Rn.iconst (pc1 := 17) (v := nI 3) dX2_takeNumber_16 rfl (by decide) ?_
    refine Rn.icmp_ge (pc1 := 20) 48 dX2_takeNumber_17 rfl (by decide) (fun c17 => ?_) (fun c17 => ?_)
    · refine Rn.iload_n (pc1 := 49)  dX2_takeNumber_48 rfl rfl rfl ?_
      exact Rn.ireturn dX2_takeNumber_49 rfl rfl ⟨_, rfl, Or.inr ⟨n, pl + 3, e, hn, Nat.le_refl _, rfl, F1, z1⟩⟩
    · exact absurd (show nI 3 ≤ nI 3 by decide) c17
  have J2 : ∀ (μ1 : Mm) (n : Nat) (o3 : Option Value), n ≤ 99 → PA μ1 z P len (pl + 2) lt fi se → Fr z (z + 2) μ μ1 → (digV P len (pl + 2) 9 = none → numV P len pl = some (n, pl + 2)) → (∀ c, digV P len (pl + 2) 9 = some c → numV P len pl = some (10 * n + c, pl + 3)) → Rn G 3 kX2_takeNumber 15 [some (.ref z), some (.int (nI n)), some (.int (nI 2)), o3] [] μ1 sz 0 0 (QN P len pl z lt fi se μ) := by
    intro μ1 n o3 hn F1 z1 e1 e2
    have hO := F1.1
    cases hd : digV P len (pl + 2) 9 with
    | none =>
      refine Rn.iload_n (pc1 := 16)  dX2_takeNumber_15 rfl rfl rfl ?_
      refine Rn.iconst (pc1 := 17) (v := nI 3) dX2_takeNumber_16 rfl (by decide) ?_
      refine Rn.icmp_ge (pc1 := 20) 48 dX2_takeNumber_17 rfl (by decide) (fun c17 => ?_) (fun c17 => ?_)
      · exact absurd c17 (by decide)
      · refine Rn.aload_n (pc1 := 21)  dX2_takeNumber_20 rfl rfl rfl ?_
        refine Rn.bipush (pc1 := 23) (v := nI 9) dX2_takeNumber_21 rfl (by decide) ?_
        refine Rn.cV_i (pc1 := 26) (eX2_takeDigit_n F1 ho (by omega) (by omega) hd) dX2_takeNumber_23 rfl qX2_68 oX2_takeDigit (by first | assumption | exact mset_same | exact mget_ne (by omega) (by assumption)) rfl rfl rfl rfl (Nat.le_of_ble_eq_true rfl) (by decide) (by decide) (fun v23 μ23 h23 => ?_)
        obtain ⟨rfl, rfl⟩ := h23
        refine Rn.istore_n (pc1 := 27)  dX2_takeNumber_26 rfl rfl (by decide) rfl rfl ?_
        refine Rn.iload_n (pc1 := 28)  dX2_takeNumber_27 rfl rfl rfl ?_
        refine Rn.bipush (pc1 := 30) (v := (-6)) dX2_takeNumber_28 rfl (by decide) ?_
        refine Rn.icmp_ne (pc1 := 33) 35 dX2_takeNumber_30 rfl (by decide) (fun c30 => ?_) (fun c30 => ?_)
        · exact absurd rfl c30
        · refine Rn.iload_n (pc1 := 34)  dX2_takeNumber_33 rfl rfl rfl ?_
          exact Rn.ireturn dX2_takeNumber_34 rfl rfl ⟨_, rfl, Or.inr ⟨n, pl + 2, e1 hd, by omega, by omega, rfl, F1, z1⟩⟩
    | some c =>
      obtain ⟨h1, h2, h3⟩ := digV_lt hd
      refine Rn.iload_n (pc1 := 16)  dX2_takeNumber_15 rfl rfl rfl ?_
      refine Rn.iconst (pc1 := 17) (v := nI 3) dX2_takeNumber_16 rfl (by decide) ?_
      refine Rn.icmp_ge (pc1 := 20) 48 dX2_takeNumber_17 rfl (by decide) (fun c17 => ?_) (fun c17 => ?_)
      · exact absurd c17 (by decide)
      · refine Rn.aload_n (pc1 := 21)  dX2_takeNumber_20 rfl rfl rfl ?_
        refine Rn.bipush (pc1 := 23) (v := nI 9) dX2_takeNumber_21 rfl (by decide) ?_
        refine Rn.cV_i (pc1 := 26) (eX2_takeDigit_y F1 ho (by omega) (by omega) hd) dX2_takeNumber_23 rfl qX2_68 oX2_takeDigit (by first | assumption | exact mset_same | exact mget_ne (by omega) (by assumption)) rfl rfl rfl rfl (Nat.le_of_ble_eq_true rfl) (by decide) (by decide) (fun v23 μ23 h23 => ?_)
        obtain ⟨rfl, F2, z2⟩ := h23
        refine Rn.istore_n (pc1 := 27)  dX2_takeNumber_26 rfl rfl (by decide) rfl rfl ?_
        refine Rn.iload_n (pc1 := 28)  dX2_takeNumber_27 rfl rfl rfl ?_
        refine Rn.bipush (pc1 := 30) (v := (-6)) dX2_takeNumber_28 rfl (by decide) ?_
        refine Rn.icmp_ne (pc1 := 33) 35 dX2_takeNumber_30 rfl (by decide) (fun c30 => ?_) (fun c30 => ?_)
        · refine Rn.bipush (pc1 := 37) (v := nI 10) dX2_takeNumber_35 rfl (by decide) ?_
          refine Rn.iload_n (pc1 := 38)  dX2_takeNumber_37 rfl rfl rfl ?_
          refine Rn.imul (pc1 := 39)  dX2_takeNumber_38 rfl (nI_mul 10 n) ?_
          refine Rn.iload_n (pc1 := 40)  dX2_takeNumber_39 rfl rfl rfl ?_
          refine Rn.iadd (pc1 := 41)  dX2_takeNumber_40 rfl (nI_add (10 * n) c) ?_
          refine Rn.istore_n (pc1 := 42)  dX2_takeNumber_41 rfl rfl (by decide) rfl rfl ?_
          refine Rn.iinc (pc1 := 45)  dX2_takeNumber_42 rfl rfl (nI_1 2) (by decide) rfl rfl ?_
          refine Rn.goto 15 dX2_takeNumber_45 (by decide) ?_
          exact J3 _ (10 * n + c) _ (by omega) F2 (z1.trans z2) (e2 c hd)
        · exact absurd c30 (of_decide_eq_true (nI_dec (by omega)))
  have J1 : ∀ (μ1 : Mm) (n : Nat) (o3 : Option Value), n ≤ 9 → PA μ1 z P len (pl + 1) lt fi se → Fr z (z + 2) μ μ1 → (digV P len (pl + 1) 9 = none → numV P len pl = some (n, pl + 1)) → (∀ b, digV P len (pl + 1) 9 = some b → (digV P len (pl + 2) 9 = none → numV P len pl = some (10 * n + b, pl + 2)) ∧ (∀ c, digV P len (pl + 2) 9 = some c → numV P len pl = some (10 * (10 * n + b) + c, pl + 3))) → Rn G 3 kX2_takeNumber 15 [some (.ref z), some (.int (nI n)), some (.int (nI 1)), o3] [] μ1 sz 0 0 (QN P len pl z lt fi se μ) := by
    intro μ1 n o3 hn F1 z1 e1 e2
    have hO := F1.1
    cases hd : digV P len (pl + 1) 9 with
    | none =>
      refine Rn.iload_n (pc1 := 16)  dX2_takeNumber_15 rfl rfl rfl ?_
      refine Rn.iconst (pc1 := 17) (v := nI 3) dX2_takeNumber_16 rfl (by decide) ?_
      refine Rn.icmp_ge (pc1 := 20) 48 dX2_takeNumber_17 rfl (by decide) (fun c17 => ?_) (fun c17 => ?_)
      · exact absurd c17 (by decide)
      · refine Rn.aload_n (pc1 := 21)  dX2_takeNumber_20 rfl rfl rfl ?_
        refine Rn.bipush (pc1 := 23) (v := nI 9) dX2_takeNumber_21 rfl (by decide) ?_
        refine Rn.cV_i (pc1 := 26) (eX2_takeDigit_n F1 ho (by omega) (by omega) hd) dX2_takeNumber_23 rfl qX2_68 oX2_takeDigit (by first | assumption | exact mset_same | exact mget_ne (by omega) (by assumption)) rfl rfl rfl rfl (Nat.le_of_ble_eq_true rfl) (by decide) (by decide) (fun v23 μ23 h23 => ?_)
        obtain ⟨rfl, rfl⟩ := h23
        refine Rn.istore_n (pc1 := 27)  dX2_takeNumber_26 rfl rfl (by decide) rfl rfl ?_
        refine Rn.iload_n (pc1 := 28)  dX2_takeNumber_27 rfl rfl rfl ?_
        refine Rn.bipush (pc1 := 30) (v := (-6)) dX2_takeNumber_28 rfl (by decide) ?_
        refine Rn.icmp_ne (pc1 := 33) 35 dX2_takeNumber_30 rfl (by decide) (fun c30 => ?_) (fun c30 => ?_)
        · exact absurd rfl c30
        · refine Rn.iload_n (pc1 := 34)  dX2_takeNumber_33 rfl rfl rfl ?_
          exact Rn.ireturn dX2_takeNumber_34 rfl rfl ⟨_, rfl, Or.inr ⟨n, pl + 1, e1 hd, by omega, by omega, rfl, F1, z1⟩⟩
    | some b =>
      obtain ⟨h1, h2, h3⟩ := digV_lt hd
      refine Rn.iload_n (pc1 := 16)  dX2_takeNumber_15 rfl rfl rfl ?_
      refine Rn.iconst (pc1 := 17) (v := nI 3) dX2_takeNumber_16 rfl (by decide) ?_
      refine Rn.icmp_ge (pc1 := 20) 48 dX2_takeNumber_17 rfl (by decide) (fun c17 => ?_) (fun c17 => ?_)
      · exact absurd c17 (by decide)
      · refine Rn.aload_n (pc1 := 21)  dX2_takeNumber_20 rfl rfl rfl ?_
        refine Rn.bipush (pc1 := 23) (v := nI 9) dX2_takeNumber_21 rfl (by decide) ?_
        refine Rn.cV_i (pc1 := 26) (eX2_takeDigit_y F1 ho (by omega) (by omega) hd) dX2_takeNumber_23 rfl qX2_68 oX2_takeDigit (by first | assumption | exact mset_same | exact mget_ne (by omega) (by assumption)) rfl rfl rfl rfl (Nat.le_of_ble_eq_true rfl) (by decide) (by decide) (fun v23 μ23 h23 => ?_)
        obtain ⟨rfl, F2, z2⟩ := h23
        refine Rn.istore_n (pc1 := 27)  dX2_takeNumber_26 rfl rfl (by decide) rfl rfl ?_
        refine Rn.iload_n (pc1 := 28)  dX2_takeNumber_27 rfl rfl rfl ?_
        refine Rn.bipush (pc1 := 30) (v := (-6)) dX2_takeNumber_28 rfl (by decide) ?_
        refine Rn.icmp_ne (pc1 := 33) 35 dX2_takeNumber_30 rfl (by decide) (fun c30 => ?_) (fun c30 => ?_)
        · refine Rn.bipush (pc1 := 37) (v := nI 10) dX2_takeNumber_35 rfl (by decide) ?_
          refine Rn.iload_n (pc1 := 38)  dX2_takeNumber_37 rfl rfl rfl ?_
          refine Rn.imul (pc1 := 39)  dX2_takeNumber_38 rfl (nI_mul 10 n) ?_
          refine Rn.iload_n (pc1 := 40)  dX2_takeNumber_39 rfl rfl rfl ?_
          refine Rn.iadd (pc1 := 41)  dX2_takeNumber_40 rfl (nI_add (10 * n) b) ?_
          refine Rn.istore_n (pc1 := 42)  dX2_takeNumber_41 rfl rfl (by decide) rfl rfl ?_
          refine Rn.iinc (pc1 := 45)  dX2_takeNumber_42 rfl rfl (nI_1 1) (by decide) rfl rfl ?_
          refine Rn.goto 15 dX2_takeNumber_45 (by decide) ?_
          exact J2 _ (10 * n + b) _ (by omega) F2 (z1.trans z2) (e2 b hd).1 (e2 b hd).2
        · exact absurd c30 (of_decide_eq_true (nI_dec (by omega)))
  have hO := F.1
  refine EvA.of (L := [some (.ref z), none, none, none]) (by decide +kernel) (Nat.le_of_ble_eq_true rfl) rfl ?_
  cases hd : digV P len pl 9 with
  | none =>
    refine Rn.aload_n (pc1 := 1)  dX2_takeNumber_0 rfl rfl rfl ?_
    refine Rn.bipush (pc1 := 3) (v := nI 9) dX2_takeNumber_1 rfl (by decide) ?_
    refine Rn.cV_i (pc1 := 6) (eX2_takeDigit_n F ho (by omega) (by omega) hd) dX2_takeNumber_3 rfl qX2_68 oX2_takeDigit (by first | assumption | exact mset_same | exact mget_ne (by omega) (by assumption)) rfl rfl rfl rfl (Nat.le_of_ble_eq_true rfl) (by decide) (by decide) (fun v3 μ3 h3 => ?_)
    obtain ⟨rfl, rfl⟩ := h3
    refine Rn.istore_n (pc1 := 7)  dX2_takeNumber_6 rfl rfl (by decide) rfl rfl ?_
    refine Rn.iload_n (pc1 := 8)  dX2_takeNumber_7 rfl rfl rfl ?_
    refine Rn.if_gt (pc1 := 11) 13 dX2_takeNumber_8 rfl (by decide) (fun c8 => ?_) (fun c8 => ?_)
    · exact absurd c8 (by decide)
    · refine Rn.iload_n (pc1 := 12)  dX2_takeNumber_11 rfl rfl rfl ?_
      exact Rn.ireturn dX2_takeNumber_12 rfl rfl ⟨_, rfl, Or.inl ⟨by unfold numV; rw [hd], rfl, rfl⟩⟩
  | some a =>
    obtain ⟨h1, h2, h3⟩ := digV_lt hd
    cases a with
    | zero =>
      refine Rn.aload_n (pc1 := 1)  dX2_takeNumber_0 rfl rfl rfl ?_
      refine Rn.bipush (pc1 := 3) (v := nI 9) dX2_takeNumber_1 rfl (by decide) ?_
      refine Rn.cV_i (pc1 := 6) (eX2_takeDigit_y F ho (by omega) (by omega) hd) dX2_takeNumber_3 rfl qX2_68 oX2_takeDigit (by first | assumption | exact mset_same | exact mget_ne (by omega) (by assumption)) rfl rfl rfl rfl (Nat.le_of_ble_eq_true rfl) (by decide) (by decide) (fun v3 μ3 h3 => ?_)
      obtain ⟨rfl, F2, z2⟩ := h3
      refine Rn.istore_n (pc1 := 7)  dX2_takeNumber_6 rfl rfl (by decide) rfl rfl ?_
      refine Rn.iload_n (pc1 := 8)  dX2_takeNumber_7 rfl rfl rfl ?_
      refine Rn.if_gt (pc1 := 11) 13 dX2_takeNumber_8 rfl (by decide) (fun c8 => ?_) (fun c8 => ?_)
      · exact absurd c8 (by decide)
      · refine Rn.iload_n (pc1 := 12)  dX2_takeNumber_11 rfl rfl rfl ?_
        exact Rn.ireturn dX2_takeNumber_12 rfl rfl ⟨_, rfl, Or.inr ⟨0, pl + 1, by unfold numV; rw [hd], by omega, by omega, rfl, F2, z2⟩⟩
    | succ a =>
      refine Rn.aload_n (pc1 := 1)  dX2_takeNumber_0 rfl rfl rfl ?_
      refine Rn.bipush (pc1 := 3) (v := nI 9) dX2_takeNumber_1 rfl (by decide) ?_
      refine Rn.cV_i (pc1 := 6) (eX2_takeDigit_y F ho (by omega) (by omega) hd) dX2_takeNumber_3 rfl qX2_68 oX2_takeDigit (by first | assumption | exact mset_same | exact mget_ne (by omega) (by assumption)) rfl rfl rfl rfl (Nat.le_of_ble_eq_true rfl) (by decide) (by decide) (fun v3 μ3 h3 => ?_)
      obtain ⟨rfl, F2, z2⟩ := h3
      refine Rn.istore_n (pc1 := 7)  dX2_takeNumber_6 rfl rfl (by decide) rfl rfl ?_
      refine Rn.iload_n (pc1 := 8)  dX2_takeNumber_7 rfl rfl rfl ?_
      refine Rn.if_gt (pc1 := 11) 13 dX2_takeNumber_8 rfl (by decide) (fun c8 => ?_) (fun c8 => ?_)
      · refine Rn.iconst (pc1 := 14) (v := nI 1) dX2_takeNumber_13 rfl (by decide) ?_
        refine Rn.istore_n (pc1 := 15)  dX2_takeNumber_14 rfl rfl (by decide) rfl rfl ?_
        exact J1 _ (a + 1) _ (by omega) F2 z2 (fun q => by unfold numV; rw [hd]; simp only [q]) (fun b q => ⟨fun r => by unfold numV; rw [hd]; simp only [q, r], fun c r => by unfold numV; rw [hd]; simp only [q, r]⟩)
      · exact absurd (nI_lt (show 0 < a + 1 by omega) (by omega)) c8
theorem eX2_goToStart (F : PA μ z P len pl lt fi se) : EvA G 0 kX2_goToStart [.ref z] μ sz 0 0 (rV fun μ' => PA μ' z P len 0 lt fi se ∧ Fr z (z + 2) μ μ') := by
  have hO := F.1
  refine EvA.of (L := [some (.ref z)]) (by decide +kernel) (Nat.le_of_ble_eq_true rfl) rfl ?_
  refine Rn.aload_n (pc1 := 1)  dX2_goToStart_0 rfl rfl rfl ?_
  refine Rn.iconst (pc1 := 2) (v := nI 0) dX2_goToStart_1 rfl (by decide) ?_
  refine Rn.putfield (pc1 := 5)  dX2_goToStart_2 rfl pX2_19 (fun h => Bool.noConfusion h) (by first | assumption | exact mset_same | exact mget_ne (by omega) (by assumption)) (Nat.le_of_ble_eq_true rfl) rfl rfl rfl ?_
  exact Rn.vreturn dX2_goToStart_5 rfl ⟨rfl, F.setO len 0 lt fi se rfl, Fr.set (by omega) (by omega)⟩
theorem eX2_empty (F : PA μ z P len pl lt fi se) : EvA G 0 kX2_empty [.ref z] μ sz 0 0 (rI fun v μ' => v = nI len ∧ PA μ' z P 0 pl lt fi se ∧ Fr z (z + 2) μ μ') := by
  have hO := F.1
  refine EvA.of (L := [some (.ref z), none]) (by decide +kernel) (Nat.le_of_ble_eq_true rfl) rfl ?_
  refine Rn.aload_n (pc1 := 1)  dX2_empty_0 rfl rfl rfl ?_
  refine Rn.getfield (pc1 := 4)  dX2_empty_1 rfl fX2_15 (by first | assumption | exact mset_same | exact mget_ne (by omega) (by assumption)) rfl ?_
  refine Rn.istore_n (pc1 := 5)  dX2_empty_4 rfl rfl (by decide) rfl rfl ?_
  refine Rn.aload_n (pc1 := 6)  dX2_empty_5 rfl rfl rfl ?_
  refine Rn.iconst (pc1 := 7) (v := nI 0) dX2_empty_6 rfl (by decide) ?_
  refine Rn.putfield (pc1 := 10)  dX2_empty_7 rfl pX2_15 (fun h => Bool.noConfusion h) (by first | assumption | exact mset_same | exact mget_ne (by omega) (by assumption)) (Nat.le_of_ble_eq_true rfl) rfl rfl rfl ?_
  refine Rn.iload_n (pc1 := 11)  dX2_empty_10 rfl rfl rfl ?_
  exact Rn.ireturn dX2_empty_11 rfl rfl ⟨_, rfl, rfl, F.setO 0 pl lt fi se rfl, Fr.set (by omega) (by omega)⟩
end PAD
