/-! ===== an order of the text ===== -/
theorem numV_le {P : Nat → Int32} {len i n q : Nat} (h : numV P len i = some (n, q)) : n ≤ 999 ∧ q ≤ i + 3 ∧ q ≤ len ∧ i < q := by
  unfold numV at h
  cases hd : digV P len i 9 with
  | none => rw [hd] at h; cases h
  | some a =>
    obtain ⟨h1, h2, h3⟩ := digV_lt hd
    rw [hd] at h
    cases a with
    | zero => cases h; omega
    | succ a =>
      simp only at h
      cases he : digV P len (i + 1) 9 with
      | none => rw [he] at h; cases h; omega
      | some b =>
        obtain ⟨k1, k2, k3⟩ := digV_lt he
        rw [he] at h
        simp only at h
        cases hf : digV P len (i + 2) 9 with
        | none => rw [hf] at h; cases h; omega
        | some c =>
          obtain ⟨l1, l2, l3⟩ := digV_lt hf
          rw [hf] at h; cases h; omega
section ORDER
variable {G : GG} {μ : Mm} {sz : Nat} {z len pl : Nat} {P : Nat → Int32} {lt fi se : Int32}
theorem eX2_takeNumber_n (F : PA μ z P len pl lt fi se) (ho : PadOk P len) (hp : pl < 2 ^ 30) (h : numV P len pl = none) : EvA G 3 kX2_takeNumber [.ref z] μ sz 0 0 (rI fun v μ' => v = -6 ∧ μ' = μ) := by
  refine (eX2_takeNumber F ho hp).imp ?_
  rintro r μ' ⟨v, rfl, ⟨-, rfl, rfl⟩ | ⟨n, q, h2, -⟩⟩
  · exact ⟨_, rfl, rfl, rfl⟩
  · rw [h] at h2; cases h2
theorem eX2_takeNumber_y {n q : Nat} (F : PA μ z P len pl lt fi se) (ho : PadOk P len) (hp : pl < 2 ^ 30) (h : numV P len pl = some (n, q)) : EvA G 3 kX2_takeNumber [.ref z] μ sz 0 0 (rI fun v μ' => v = nI n ∧ PA μ' z P len q lt fi se ∧ Fr z (z + 2) μ μ') := by
  refine (eX2_takeNumber F ho hp).imp ?_
  rintro r μ' ⟨v, rfl, ⟨h2, -⟩ | ⟨n', q', h2, -, -, rfl, h3, h4⟩⟩
  · rw [h] at h2; cases h2
  · rw [h] at h2; cases h2; exact ⟨_, rfl, rfl, h3, h4⟩
abbrev QO (P : Nat → Int32) (len pl z : Nat) (μ : Mm) : Option Value → Mm → Prop := rI fun v μ' => v = bI (ordV P len pl).1 ∧ ∃ fi' se', PA μ' z P len (ordV P len pl).2.1 (nI (sgn P len pl)) fi' se' ∧ Fr z (z + 2) μ μ' ∧ ((ordV P len pl).1 = true → (2 ≤ kindF (sgn P len pl) → fi' = nI (ordV P len pl).2.2.1) ∧ (4 ≤ kindF (sgn P len pl) → se' = nI (ordV P len pl).2.2.2))
theorem QO.of {r : Bool × Nat × Nat × Nat} {μ0 μ' : Mm} {fi' se' v : Int32} (e : ordV P len pl = r) (hv : v = bI r.1) (F : PA μ' z P len r.2.1 (nI (sgn P len pl)) fi' se') (h : Fr z (z + 2) μ0 μ') (h2 : r.1 = true → (2 ≤ kindF (sgn P len pl) → fi' = nI r.2.2.1) ∧ (4 ≤ kindF (sgn P len pl) → se' = nI r.2.2.2)) : QO P len pl z μ0 (some (.int v)) μ' := by
  subst e
  exact ⟨_, rfl, hv, fi', se', F, h, h2⟩
theorem lT120 {μ0 : Mm} (F : PA μ z P len pl (nI (sgn P len pl)) fi se) (ho : PadOk P len) (hp : pl < len) (h0 : Fr z (z + 2) μ0 μ) (hk : kindF (sgn P len pl) = 1) : Rn G 4 kX2_takeOrder 120 [some (.ref z)] [] μ sz 0 0 (QO P len pl z μ0) := by
  have hO := F.1
  have hl := ho.1
  have e : ordV P len pl = (true, pl + 1, 0, 0) := by unfold ordV; rw [hk]; rfl
  refine Rn.aload_n (pc1 := 121)  dX2_takeOrder_120 rfl rfl rfl ?_
  refine Rn.aload_n (pc1 := 122)  dX2_takeOrder_121 rfl rfl rfl ?_
  refine Rn.getfield (pc1 := 125)  dX2_takeOrder_122 rfl fX2_22 (by first | assumption | exact mset_same | exact mget_ne (by omega) (by assumption)) rfl ?_
  refine Rn.cV_i (pc1 := 128) (eX2_takeSign_y F ho (by omega) rfl) dX2_takeOrder_125 rfl qX2_48 oX2_takeSign (by first | assumption | exact mset_same | exact mget_ne (by omega) (by assumption)) rfl rfl rfl rfl (Nat.le_of_ble_eq_true rfl) (by decide) (by decide) (fun v125 μ125 h125 => ?_)
  obtain ⟨rfl, F1, z1⟩ := h125
  exact Rn.ireturn dX2_takeOrder_128 rfl rfl (QO.of e rfl F1 (h0.trans z1) (fun _ => by rw [hk]; exact ⟨fun q => by omega, fun q => by omega⟩))
theorem lT331 (F : PA μ z P len pl (nI (sgn P len pl)) fi se) {μ0 : Mm} (h0 : Fr z (z + 2) μ0 μ) (hk : kindF (sgn P len pl) = 0) : Rn G 4 kX2_takeOrder 331 [some (.ref z)] [] μ sz 0 0 (QO P len pl z μ0) := by
  have e : ordV P len pl = (false, pl, 0, 0) := by unfold ordV; rw [hk]; rfl
  refine Rn.iconst (pc1 := 332) (v := nI 0) dX2_takeOrder_331 rfl (by decide) ?_
  exact Rn.ireturn dX2_takeOrder_332 rfl rfl (QO.of e rfl F h0 (fun q => Bool.noConfusion q))
theorem lT129 {μ0 : Mm} (F : PA μ z P len pl (nI (sgn P len pl)) fi se) (ho : PadOk P len) (hp : pl < len) (h0 : Fr z (z + 2) μ0 μ) (hk : kindF (sgn P len pl) = 2) : Rn G 4 kX2_takeOrder 129 [some (.ref z)] [] μ sz 0 0 (QO P len pl z μ0) := by
  have hO := F.1
  have hl := ho.1
  cases hn : numV P len (pl + 1) with
  | none =>
    have e : ordV P len pl = (false, pl + 1, 0, 0) := by unfold ordV; rw [hk]; simp only [hn]
    refine Rn.aload_n (pc1 := 130)  dX2_takeOrder_129 rfl rfl rfl ?_
    refine Rn.aload_n (pc1 := 131)  dX2_takeOrder_130 rfl rfl rfl ?_
    refine Rn.getfield (pc1 := 134)  dX2_takeOrder_131 rfl fX2_22 (by first | assumption | exact mset_same | exact mget_ne (by omega) (by assumption)) rfl ?_
    refine Rn.cV_i (pc1 := 137) (eX2_takeSign_y F ho (by omega) rfl) dX2_takeOrder_134 rfl qX2_48 oX2_takeSign (by first | assumption | exact mset_same | exact mget_ne (by omega) (by assumption)) rfl rfl rfl rfl (Nat.le_of_ble_eq_true rfl) (by decide) (by decide) (fun v134 μ134 h134 => ?_)
    obtain ⟨rfl, F1, z1⟩ := h134
    have O1 := F1.1
    refine Rn.if_eq (pc1 := 140) 155 dX2_takeOrder_137 rfl (by decide) (fun c137 => ?_) (fun c137 => ?_)
    · exact absurd c137 (by decide)
    · refine Rn.aload_n (pc1 := 141)  dX2_takeOrder_140 rfl rfl rfl ?_
      refine Rn.aload_n (pc1 := 142)  dX2_takeOrder_141 rfl rfl rfl ?_
      refine Rn.cV_i (pc1 := 145) (eX2_takeNumber_n F1 ho (by omega) hn) dX2_takeOrder_142 rfl qX2_56 oX2_takeNumber (by first | assumption | exact mset_same | exact mget_ne (by omega) (by assumption)) rfl rfl rfl rfl (Nat.le_of_ble_eq_true rfl) (by decide) (by decide) (fun v142 μ142 h142 => ?_)
      obtain ⟨rfl, rfl⟩ := h142
      refine Rn.cV_i (pc1 := 148) (eX2_takeFirst F1) dX2_takeOrder_145 rfl qX2_59 oX2_takeFirst (by first | assumption | exact mset_same | exact mget_ne (by omega) (by assumption)) rfl rfl rfl rfl (Nat.le_of_ble_eq_true rfl) (by decide) (by decide) (fun v145 μ145 h145 => ?_)
      obtain ⟨rfl, F2, z2⟩ := h145
      refine Rn.if_eq (pc1 := 151) 155 dX2_takeOrder_148 rfl (by decide) (fun c148 => ?_) (fun c148 => ?_)
      · refine Rn.iconst (pc1 := 156) (v := nI 0) dX2_takeOrder_155 rfl (by decide) ?_
        exact Rn.ireturn dX2_takeOrder_156 rfl rfl (QO.of e rfl F2 ((h0.trans z1).trans z2) (fun q => Bool.noConfusion q))
      · exact absurd rfl c148
  | some w =>
    obtain ⟨n, q⟩ := w
    obtain ⟨h1, h2, h3, h4⟩ := numV_le hn
    have e : ordV P len pl = (true, q, n, 0) := by unfold ordV; rw [hk]; simp only [hn]
    refine Rn.aload_n (pc1 := 130)  dX2_takeOrder_129 rfl rfl rfl ?_
    refine Rn.aload_n (pc1 := 131)  dX2_takeOrder_130 rfl rfl rfl ?_
    refine Rn.getfield (pc1 := 134)  dX2_takeOrder_131 rfl fX2_22 (by first | assumption | exact mset_same | exact mget_ne (by omega) (by assumption)) rfl ?_
    refine Rn.cV_i (pc1 := 137) (eX2_takeSign_y F ho (by omega) rfl) dX2_takeOrder_134 rfl qX2_48 oX2_takeSign (by first | assumption | exact mset_same | exact mget_ne (by omega) (by assumption)) rfl rfl rfl rfl (Nat.le_of_ble_eq_true rfl) (by decide) (by decide) (fun v134 μ134 h134 => ?_)
    obtain ⟨rfl, F1, z1⟩ := h134
    have O1 := F1.1
    refine Rn.if_eq (pc1 := 140) 155 dX2_takeOrder_137 rfl (by decide) (fun c137 => ?_) (fun c137 => ?_)
    · exact absurd c137 (by decide)
    · refine Rn.aload_n (pc1 := 141)  dX2_takeOrder_140 rfl rfl rfl ?_
      refine Rn.aload_n (pc1 := 142)  dX2_takeOrder_141 rfl rfl rfl ?_
      refine Rn.cV_i (pc1 := 145) (eX2_takeNumber_y F1 ho (by omega) hn) dX2_takeOrder_142 rfl qX2_56 oX2_takeNumber (by first | assumption | exact mset_same | exact mget_ne (by omega) (by assumption)) rfl rfl rfl rfl (Nat.le_of_ble_eq_true rfl) (by decide) (by decide) (fun v142 μ142 h142 => ?_)
      obtain ⟨rfl, F2, z2⟩ := h142
      have O2 := F2.1
      refine Rn.cV_i (pc1 := 148) (eX2_takeFirst F2) dX2_takeOrder_145 rfl qX2_59 oX2_takeFirst (by first | assumption | exact mset_same | exact mget_ne (by omega) (by assumption)) rfl rfl rfl rfl (Nat.le_of_ble_eq_true rfl) (by decide) (by decide) (fun v145 μ145 h145 => ?_)
      obtain ⟨rfl, F3, z3⟩ := h145
      rw [nI_dec (by omega)]
      refine Rn.if_eq (pc1 := 151) 155 dX2_takeOrder_148 rfl (by decide) (fun c148 => ?_) (fun c148 => ?_)
      · exact absurd c148 (by decide)
      · refine Rn.iconst (pc1 := 152) (v := nI 1) dX2_takeOrder_151 rfl (by decide) ?_
        refine Rn.goto 156 dX2_takeOrder_152 (by decide) ?_
        exact Rn.ireturn dX2_takeOrder_156 rfl rfl (QO.of e rfl F3 (((h0.trans z1).trans z2).trans z3) (fun _ => by rw [hk]; exact ⟨fun _ => rfl, fun q => by omega⟩))
theorem lT157 {μ0 : Mm} (F : PA μ z P len pl (nI (sgn P len pl)) fi se) (ho : PadOk P len) (hp : pl < len) (h0 : Fr z (z + 2) μ0 μ) (hk : kindF (sgn P len pl) = 3) : Rn G 4 kX2_takeOrder 157 [some (.ref z)] [] μ sz 0 0 (QO P len pl z μ0) := by
  have hO := F.1
  have hl := ho.1
  cases hn : digV P len (pl + 1) 5 with
  | none =>
    have e : ordV P len pl = (false, pl + 1, 0, 0) := by unfold ordV; rw [hk]; simp only [hn]
    refine Rn.aload_n (pc1 := 158)  dX2_takeOrder_157 rfl rfl rfl ?_
    refine Rn.aload_n (pc1 := 159)  dX2_takeOrder_158 rfl rfl rfl ?_
    refine Rn.getfield (pc1 := 162)  dX2_takeOrder_159 rfl fX2_22 (by first | assumption | exact mset_same | exact mget_ne (by omega) (by assumption)) rfl ?_
    refine Rn.cV_i (pc1 := 165) (eX2_takeSign_y F ho (by omega) rfl) dX2_takeOrder_162 rfl qX2_48 oX2_takeSign (by first | assumption | exact mset_same | exact mget_ne (by omega) (by assumption)) rfl rfl rfl rfl (Nat.le_of_ble_eq_true rfl) (by decide) (by decide) (fun v162 μ162 h162 => ?_)
    obtain ⟨rfl, F1, z1⟩ := h162
    have O1 := F1.1
    refine Rn.if_eq (pc1 := 168) 183 dX2_takeOrder_165 rfl (by decide) (fun c165 => ?_) (fun c165 => ?_)
    · exact absurd c165 (by decide)
    · refine Rn.aload_n (pc1 := 169)  dX2_takeOrder_168 rfl rfl rfl ?_
      refine Rn.aload_n (pc1 := 170)  dX2_takeOrder_169 rfl rfl rfl ?_
      refine Rn.cV_i (pc1 := 173) (eX2_takeReader_n F1 ho (by omega) hn) dX2_takeOrder_170 rfl qX2_62 oX2_takeReader (by first | assumption | exact mset_same | exact mget_ne (by omega) (by assumption)) rfl rfl rfl rfl (Nat.le_of_ble_eq_true rfl) (by decide) (by decide) (fun v170 μ170 h170 => ?_)
      obtain ⟨rfl, rfl⟩ := h170
      refine Rn.cV_i (pc1 := 176) (eX2_takeFirst F1) dX2_takeOrder_173 rfl qX2_59 oX2_takeFirst (by first | assumption | exact mset_same | exact mget_ne (by omega) (by assumption)) rfl rfl rfl rfl (Nat.le_of_ble_eq_true rfl) (by decide) (by decide) (fun v173 μ173 h173 => ?_)
      obtain ⟨rfl, F2, z2⟩ := h173
      refine Rn.if_eq (pc1 := 179) 183 dX2_takeOrder_176 rfl (by decide) (fun c176 => ?_) (fun c176 => ?_)
      · refine Rn.iconst (pc1 := 184) (v := nI 0) dX2_takeOrder_183 rfl (by decide) ?_
        exact Rn.ireturn dX2_takeOrder_184 rfl rfl (QO.of e rfl F2 ((h0.trans z1).trans z2) (fun q => Bool.noConfusion q))
      · exact absurd rfl c176
  | some n =>
    obtain ⟨h1, h2, h3⟩ := digV_lt hn
    have e : ordV P len pl = (true, pl + 2, n, 0) := by unfold ordV; rw [hk]; simp only [hn]
    refine Rn.aload_n (pc1 := 158)  dX2_takeOrder_157 rfl rfl rfl ?_
    refine Rn.aload_n (pc1 := 159)  dX2_takeOrder_158 rfl rfl rfl ?_
    refine Rn.getfield (pc1 := 162)  dX2_takeOrder_159 rfl fX2_22 (by first | assumption | exact mset_same | exact mget_ne (by omega) (by assumption)) rfl ?_
    refine Rn.cV_i (pc1 := 165) (eX2_takeSign_y F ho (by omega) rfl) dX2_takeOrder_162 rfl qX2_48 oX2_takeSign (by first | assumption | exact mset_same | exact mget_ne (by omega) (by assumption)) rfl rfl rfl rfl (Nat.le_of_ble_eq_true rfl) (by decide) (by decide) (fun v162 μ162 h162 => ?_)
    obtain ⟨rfl, F1, z1⟩ := h162
    have O1 := F1.1
    refine Rn.if_eq (pc1 := 168) 183 dX2_takeOrder_165 rfl (by decide) (fun c165 => ?_) (fun c165 => ?_)
    · exact absurd c165 (by decide)
    · refine Rn.aload_n (pc1 := 169)  dX2_takeOrder_168 rfl rfl rfl ?_
      refine Rn.aload_n (pc1 := 170)  dX2_takeOrder_169 rfl rfl rfl ?_
      refine Rn.cV_i (pc1 := 173) (eX2_takeReader_y F1 ho (by omega) hn) dX2_takeOrder_170 rfl qX2_62 oX2_takeReader (by first | assumption | exact mset_same | exact mget_ne (by omega) (by assumption)) rfl rfl rfl rfl (Nat.le_of_ble_eq_true rfl) (by decide) (by decide) (fun v170 μ170 h170 => ?_)
      obtain ⟨rfl, F2, z2⟩ := h170
      have O2 := F2.1
      refine Rn.cV_i (pc1 := 176) (eX2_takeFirst F2) dX2_takeOrder_173 rfl qX2_59 oX2_takeFirst (by first | assumption | exact mset_same | exact mget_ne (by omega) (by assumption)) rfl rfl rfl rfl (Nat.le_of_ble_eq_true rfl) (by decide) (by decide) (fun v173 μ173 h173 => ?_)
      obtain ⟨rfl, F3, z3⟩ := h173
      rw [nI_dec (by omega)]
      refine Rn.if_eq (pc1 := 179) 183 dX2_takeOrder_176 rfl (by decide) (fun c176 => ?_) (fun c176 => ?_)
      · exact absurd c176 (by decide)
      · refine Rn.iconst (pc1 := 180) (v := nI 1) dX2_takeOrder_179 rfl (by decide) ?_
        refine Rn.goto 184 dX2_takeOrder_180 (by decide) ?_
        exact Rn.ireturn dX2_takeOrder_184 rfl rfl (QO.of e rfl F3 (((h0.trans z1).trans z2).trans z3) (fun _ => by rw [hk]; exact ⟨fun _ => rfl, fun q => by omega⟩))
theorem lT185 {μ0 : Mm} (F : PA μ z P len pl (nI (sgn P len pl)) fi se) (ho : PadOk P len) (hp : pl < len) (h0 : Fr z (z + 2) μ0 μ) (hk : kindF (sgn P len pl) = 4) : Rn G 4 kX2_takeOrder 185 [some (.ref z)] [] μ sz 0 0 (QO P len pl z μ0) := by
  have hO := F.1
  have hl := ho.1
  cases hn : numV P len (pl + 1) with
  | none =>
    have e : ordV P len pl = (false, pl + 1, 0, 0) := by unfold ordV; rw [hk]; simp only [hn]
    refine Rn.aload_n (pc1 := 186)  dX2_takeOrder_185 rfl rfl rfl ?_
    refine Rn.aload_n (pc1 := 187)  dX2_takeOrder_186 rfl rfl rfl ?_
    refine Rn.getfield (pc1 := 190)  dX2_takeOrder_187 rfl fX2_22 (by first | assumption | exact mset_same | exact mget_ne (by omega) (by assumption)) rfl ?_
    refine Rn.cV_i (pc1 := 193) (eX2_takeSign_y F ho (by omega) rfl) dX2_takeOrder_190 rfl qX2_48 oX2_takeSign (by first | assumption | exact mset_same | exact mget_ne (by omega) (by assumption)) rfl rfl rfl rfl (Nat.le_of_ble_eq_true rfl) (by decide) (by decide) (fun v190 μ190 h190 => ?_)
    obtain ⟨rfl, F1, z1⟩ := h190
    have O1 := F1.1
    refine Rn.if_eq (pc1 := 196) 231 dX2_takeOrder_193 rfl (by decide) (fun c193 => ?_) (fun c193 => ?_)
    · exact absurd c193 (by decide)
    · refine Rn.aload_n (pc1 := 197)  dX2_takeOrder_196 rfl rfl rfl ?_
      refine Rn.aload_n (pc1 := 198)  dX2_takeOrder_197 rfl rfl rfl ?_
      refine Rn.cV_i (pc1 := 201) (eX2_takeNumber_n F1 ho (by omega) hn) dX2_takeOrder_198 rfl qX2_56 oX2_takeNumber (by first | assumption | exact mset_same | exact mget_ne (by omega) (by assumption)) rfl rfl rfl rfl (Nat.le_of_ble_eq_true rfl) (by decide) (by decide) (fun v198 μ198 h198 => ?_)
      obtain ⟨rfl, rfl⟩ := h198
      refine Rn.cV_i (pc1 := 204) (eX2_takeFirst F1) dX2_takeOrder_201 rfl qX2_59 oX2_takeFirst (by first | assumption | exact mset_same | exact mget_ne (by omega) (by assumption)) rfl rfl rfl rfl (Nat.le_of_ble_eq_true rfl) (by decide) (by decide) (fun v201 μ201 h201 => ?_)
      obtain ⟨rfl, F2, z2⟩ := h201
      refine Rn.if_eq (pc1 := 207) 231 dX2_takeOrder_204 rfl (by decide) (fun c204 => ?_) (fun c204 => ?_)
      · refine Rn.iconst (pc1 := 232) (v := nI 0) dX2_takeOrder_231 rfl (by decide) ?_
        exact Rn.ireturn dX2_takeOrder_232 rfl rfl (QO.of e rfl F2 ((h0.trans z1).trans z2) (fun q => Bool.noConfusion q))
      · exact absurd rfl c204
  | some w =>
    obtain ⟨n, q⟩ := w
    obtain ⟨h1, h2, h3, h4⟩ := numV_le hn
    by_cases hs : sgn P len (q) = 61
    · cases hm : numV P len (q + 1) with
      | none =>
        have e : ordV P len pl = (false, q + 1, n, 0) := by unfold ordV; rw [hk]; simp only [hn]; rw [if_pos hs]; simp only [hm]
        refine Rn.aload_n (pc1 := 186)  dX2_takeOrder_185 rfl rfl rfl ?_
        refine Rn.aload_n (pc1 := 187)  dX2_takeOrder_186 rfl rfl rfl ?_
        refine Rn.getfield (pc1 := 190)  dX2_takeOrder_187 rfl fX2_22 (by first | assumption | exact mset_same | exact mget_ne (by omega) (by assumption)) rfl ?_
        refine Rn.cV_i (pc1 := 193) (eX2_takeSign_y F ho (by omega) rfl) dX2_takeOrder_190 rfl qX2_48 oX2_takeSign (by first | assumption | exact mset_same | exact mget_ne (by omega) (by assumption)) rfl rfl rfl rfl (Nat.le_of_ble_eq_true rfl) (by decide) (by decide) (fun v190 μ190 h190 => ?_)
        obtain ⟨rfl, F1, z1⟩ := h190
        have O1 := F1.1
        refine Rn.if_eq (pc1 := 196) 231 dX2_takeOrder_193 rfl (by decide) (fun c193 => ?_) (fun c193 => ?_)
        · exact absurd c193 (by decide)
        · refine Rn.aload_n (pc1 := 197)  dX2_takeOrder_196 rfl rfl rfl ?_
          refine Rn.aload_n (pc1 := 198)  dX2_takeOrder_197 rfl rfl rfl ?_
          refine Rn.cV_i (pc1 := 201) (eX2_takeNumber_y F1 ho (by omega) hn) dX2_takeOrder_198 rfl qX2_56 oX2_takeNumber (by first | assumption | exact mset_same | exact mget_ne (by omega) (by assumption)) rfl rfl rfl rfl (Nat.le_of_ble_eq_true rfl) (by decide) (by decide) (fun v198 μ198 h198 => ?_)
          obtain ⟨rfl, F2, z2⟩ := h198
          have O2 := F2.1
          refine Rn.cV_i (pc1 := 204) (eX2_takeFirst F2) dX2_takeOrder_201 rfl qX2_59 oX2_takeFirst (by first | assumption | exact mset_same | exact mget_ne (by omega) (by assumption)) rfl rfl rfl rfl (Nat.le_of_ble_eq_true rfl) (by decide) (by decide) (fun v201 μ201 h201 => ?_)
          obtain ⟨rfl, F3, z3⟩ := h201
          rw [nI_dec (by omega)]
          have O3 := F3.1
          refine Rn.if_eq (pc1 := 207) 231 dX2_takeOrder_204 rfl (by decide) (fun c204 => ?_) (fun c204 => ?_)
          · exact absurd c204 (by decide)
          · refine Rn.aload_n (pc1 := 208)  dX2_takeOrder_207 rfl rfl rfl ?_
            refine Rn.bipush (pc1 := 210) (v := nI 61) dX2_takeOrder_208 rfl (by decide) ?_
            refine Rn.cV_i (pc1 := 213) (eX2_takeSign_y F3 ho (by omega) hs) dX2_takeOrder_210 rfl qX2_48 oX2_takeSign (by first | assumption | exact mset_same | exact mget_ne (by omega) (by assumption)) rfl rfl rfl rfl (Nat.le_of_ble_eq_true rfl) (by decide) (by decide) (fun v210 μ210 h210 => ?_)
            obtain ⟨rfl, F4, z4⟩ := h210
            have O4 := F4.1
            refine Rn.if_eq (pc1 := 216) 231 dX2_takeOrder_213 rfl (by decide) (fun c213 => ?_) (fun c213 => ?_)
            · exact absurd c213 (by decide)
            · refine Rn.aload_n (pc1 := 217)  dX2_takeOrder_216 rfl rfl rfl ?_
              refine Rn.aload_n (pc1 := 218)  dX2_takeOrder_217 rfl rfl rfl ?_
              refine Rn.cV_i (pc1 := 221) (eX2_takeNumber_n F4 ho (by omega) hm) dX2_takeOrder_218 rfl qX2_56 oX2_takeNumber (by first | assumption | exact mset_same | exact mget_ne (by omega) (by assumption)) rfl rfl rfl rfl (Nat.le_of_ble_eq_true rfl) (by decide) (by decide) (fun v218 μ218 h218 => ?_)
              obtain ⟨rfl, rfl⟩ := h218
              refine Rn.cV_i (pc1 := 224) (eX2_takeSecond F4) dX2_takeOrder_221 rfl qX2_65 oX2_takeSecond (by first | assumption | exact mset_same | exact mget_ne (by omega) (by assumption)) rfl rfl rfl rfl (Nat.le_of_ble_eq_true rfl) (by decide) (by decide) (fun v221 μ221 h221 => ?_)
              obtain ⟨rfl, F5, z5⟩ := h221
              refine Rn.if_eq (pc1 := 227) 231 dX2_takeOrder_224 rfl (by decide) (fun c224 => ?_) (fun c224 => ?_)
              · refine Rn.iconst (pc1 := 232) (v := nI 0) dX2_takeOrder_231 rfl (by decide) ?_
                exact Rn.ireturn dX2_takeOrder_232 rfl rfl (QO.of e rfl F5 (((((h0.trans z1).trans z2).trans z3).trans z4).trans z5) (fun q => Bool.noConfusion q))
              · exact absurd rfl c224
      | some w =>
        obtain ⟨n2, q2⟩ := w
        obtain ⟨k1, k2, k3, k4⟩ := numV_le hm
        have e : ordV P len pl = (true, q2, n, n2) := by unfold ordV; rw [hk]; simp only [hn]; rw [if_pos hs]; simp only [hm]
        refine Rn.aload_n (pc1 := 186)  dX2_takeOrder_185 rfl rfl rfl ?_
        refine Rn.aload_n (pc1 := 187)  dX2_takeOrder_186 rfl rfl rfl ?_
        refine Rn.getfield (pc1 := 190)  dX2_takeOrder_187 rfl fX2_22 (by first | assumption | exact mset_same | exact mget_ne (by omega) (by assumption)) rfl ?_
        refine Rn.cV_i (pc1 := 193) (eX2_takeSign_y F ho (by omega) rfl) dX2_takeOrder_190 rfl qX2_48 oX2_takeSign (by first | assumption | exact mset_same | exact mget_ne (by omega) (by assumption)) rfl rfl rfl rfl (Nat.le_of_ble_eq_true rfl) (by decide) (by decide) (fun v190 μ190 h190 => ?_)
        obtain ⟨rfl, F1, z1⟩ := h190
        have O1 := F1.1
        refine Rn.if_eq (pc1 := 196) 231 dX2_takeOrder_193 rfl (by decide) (fun c193 => ?_) (fun c193 => ?_)
        · exact absurd c193 (by decide)
        · refine Rn.aload_n (pc1 := 197)  dX2_takeOrder_196 rfl rfl rfl ?_
          refine Rn.aload_n (pc1 := 198)  dX2_takeOrder_197 rfl rfl rfl ?_
          refine Rn.cV_i (pc1 := 201) (eX2_takeNumber_y F1 ho (by omega) hn) dX2_takeOrder_198 rfl qX2_56 oX2_takeNumber (by first | assumption | exact mset_same | exact mget_ne (by omega) (by assumption)) rfl rfl rfl rfl (Nat.le_of_ble_eq_true rfl) (by decide) (by decide) (fun v198 μ198 h198 => ?_)
          obtain ⟨rfl, F2, z2⟩ := h198
          have O2 := F2.1
          refine Rn.cV_i (pc1 := 204) (eX2_takeFirst F2) dX2_takeOrder_201 rfl qX2_59 oX2_takeFirst (by first | assumption | exact mset_same | exact mget_ne (by omega) (by assumption)) rfl rfl rfl rfl (Nat.le_of_ble_eq_true rfl) (by decide) (by decide) (fun v201 μ201 h201 => ?_)
          obtain ⟨rfl, F3, z3⟩ := h201
          rw [nI_dec (by omega)]
          have O3 := F3.1
          refine Rn.if_eq (pc1 := 207) 231 dX2_takeOrder_204 rfl (by decide) (fun c204 => ?_) (fun c204 => ?_)
          · exact absurd c204 (by decide)
          · refine Rn.aload_n (pc1 := 208)  dX2_takeOrder_207 rfl rfl rfl ?_
            refine Rn.bipush (pc1 := 210) (v := nI 61) dX2_takeOrder_208 rfl (by decide) ?_
            refine Rn.cV_i (pc1 := 213) (eX2_takeSign_y F3 ho (by omega) hs) dX2_takeOrder_210 rfl qX2_48 oX2_takeSign (by first | assumption | exact mset_same | exact mget_ne (by omega) (by assumption)) rfl rfl rfl rfl (Nat.le_of_ble_eq_true rfl) (by decide) (by decide) (fun v210 μ210 h210 => ?_)
            obtain ⟨rfl, F4, z4⟩ := h210
            have O4 := F4.1
            refine Rn.if_eq (pc1 := 216) 231 dX2_takeOrder_213 rfl (by decide) (fun c213 => ?_) (fun c213 => ?_)
            · exact absurd c213 (by decide)
            · refine Rn.aload_n (pc1 := 217)  dX2_takeOrder_216 rfl rfl rfl ?_
              refine Rn.aload_n (pc1 := 218)  dX2_takeOrder_217 rfl rfl rfl ?_
              refine Rn.cV_i (pc1 := 221) (eX2_takeNumber_y F4 ho (by omega) hm) dX2_takeOrder_218 rfl qX2_56 oX2_takeNumber (by first | assumption | exact mset_same | exact mget_ne (by omega) (by assumption)) rfl rfl rfl rfl (Nat.le_of_ble_eq_true rfl) (by decide) (by decide) (fun v218 μ218 h218 => ?_)
              obtain ⟨rfl, F5, z5⟩ := h218
              have O5 := F5.1
              refine Rn.cV_i (pc1 := 224) (eX2_takeSecond F5) dX2_takeOrder_221 rfl qX2_65 oX2_takeSecond (by first | assumption | exact mset_same | exact mget_ne (by omega) (by assumption)) rfl rfl rfl rfl (Nat.le_of_ble_eq_true rfl) (by decide) (by decide) (fun v221 μ221 h221 => ?_)
              obtain ⟨rfl, F6, z6⟩ := h221
              rw [nI_dec (by omega)]
              refine Rn.if_eq (pc1 := 227) 231 dX2_takeOrder_224 rfl (by decide) (fun c224 => ?_) (fun c224 => ?_)
              · exact absurd c224 (by decide)
              · refine Rn.iconst (pc1 := 228) (v := nI 1) dX2_takeOrder_227 rfl (by decide) ?_
                refine Rn.goto 232 dX2_takeOrder_228 (by decide) ?_
                exact Rn.ireturn dX2_takeOrder_232 rfl rfl (QO.of e rfl F6 ((((((h0.trans z1).trans z2).trans z3).trans z4).trans z5).trans z6) (fun _ => ⟨fun _ => rfl, fun _ => rfl⟩))
    · have e : ordV P len pl = (false, q, n, 0) := by unfold ordV; rw [hk]; simp only [hn]; rw [if_neg hs]
      refine Rn.aload_n (pc1 := 186)  dX2_takeOrder_185 rfl rfl rfl ?_
      refine Rn.aload_n (pc1 := 187)  dX2_takeOrder_186 rfl rfl rfl ?_
      refine Rn.getfield (pc1 := 190)  dX2_takeOrder_187 rfl fX2_22 (by first | assumption | exact mset_same | exact mget_ne (by omega) (by assumption)) rfl ?_
      refine Rn.cV_i (pc1 := 193) (eX2_takeSign_y F ho (by omega) rfl) dX2_takeOrder_190 rfl qX2_48 oX2_takeSign (by first | assumption | exact mset_same | exact mget_ne (by omega) (by assumption)) rfl rfl rfl rfl (Nat.le_of_ble_eq_true rfl) (by decide) (by decide) (fun v190 μ190 h190 => ?_)
      obtain ⟨rfl, F1, z1⟩ := h190
      have O1 := F1.1
      refine Rn.if_eq (pc1 := 196) 231 dX2_takeOrder_193 rfl (by decide) (fun c193 => ?_) (fun c193 => ?_)
      · exact absurd c193 (by decide)
      · refine Rn.aload_n (pc1 := 197)  dX2_takeOrder_196 rfl rfl rfl ?_
        refine Rn.aload_n (pc1 := 198)  dX2_takeOrder_197 rfl rfl rfl ?_
        refine Rn.cV_i (pc1 := 201) (eX2_takeNumber_y F1 ho (by omega) hn) dX2_takeOrder_198 rfl qX2_56 oX2_takeNumber (by first | assumption | exact mset_same | exact mget_ne (by omega) (by assumption)) rfl rfl rfl rfl (Nat.le_of_ble_eq_true rfl) (by decide) (by decide) (fun v198 μ198 h198 => ?_)
        obtain ⟨rfl, F2, z2⟩ := h198
        have O2 := F2.1
        refine Rn.cV_i (pc1 := 204) (eX2_takeFirst F2) dX2_takeOrder_201 rfl qX2_59 oX2_takeFirst (by first | assumption | exact mset_same | exact mget_ne (by omega) (by assumption)) rfl rfl rfl rfl (Nat.le_of_ble_eq_true rfl) (by decide) (by decide) (fun v201 μ201 h201 => ?_)
        obtain ⟨rfl, F3, z3⟩ := h201
        rw [nI_dec (by omega)]
        have O3 := F3.1
        refine Rn.if_eq (pc1 := 207) 231 dX2_takeOrder_204 rfl (by decide) (fun c204 => ?_) (fun c204 => ?_)
        · exact absurd c204 (by decide)
        · refine Rn.aload_n (pc1 := 208)  dX2_takeOrder_207 rfl rfl rfl ?_
          refine Rn.bipush (pc1 := 210) (v := nI 61) dX2_takeOrder_208 rfl (by decide) ?_
          refine Rn.cV_i (pc1 := 213) (eX2_takeSign_n F3 ho (by omega) (by omega) hs) dX2_takeOrder_210 rfl qX2_48 oX2_takeSign (by first | assumption | exact mset_same | exact mget_ne (by omega) (by assumption)) rfl rfl rfl rfl (Nat.le_of_ble_eq_true rfl) (by decide) (by decide) (fun v210 μ210 h210 => ?_)
          obtain ⟨rfl, rfl⟩ := h210
          refine Rn.if_eq (pc1 := 216) 231 dX2_takeOrder_213 rfl (by decide) (fun c213 => ?_) (fun c213 => ?_)
          · refine Rn.iconst (pc1 := 232) (v := nI 0) dX2_takeOrder_231 rfl (by decide) ?_
            exact Rn.ireturn dX2_takeOrder_232 rfl rfl (QO.of e rfl F3 (((h0.trans z1).trans z2).trans z3) (fun q => Bool.noConfusion q))
          · exact absurd rfl c213
theorem lT233 {μ0 : Mm} (F : PA μ z P len pl (nI (sgn P len pl)) fi se) (ho : PadOk P len) (hp : pl < len) (h0 : Fr z (z + 2) μ0 μ) (hk : kindF (sgn P len pl) = 5) : Rn G 4 kX2_takeOrder 233 [some (.ref z)] [] μ sz 0 0 (QO P len pl z μ0) := by
  have hO := F.1
  have hl := ho.1
  cases hn : digV P len (pl + 1) 5 with
  | none =>
    have e : ordV P len pl = (false, pl + 1, 0, 0) := by unfold ordV; rw [hk]; simp only [hn]
    refine Rn.aload_n (pc1 := 234)  dX2_takeOrder_233 rfl rfl rfl ?_
    refine Rn.aload_n (pc1 := 235)  dX2_takeOrder_234 rfl rfl rfl ?_
    refine Rn.getfield (pc1 := 238)  dX2_takeOrder_235 rfl fX2_22 (by first | assumption | exact mset_same | exact mget_ne (by omega) (by assumption)) rfl ?_
    refine Rn.cV_i (pc1 := 241) (eX2_takeSign_y F ho (by omega) rfl) dX2_takeOrder_238 rfl qX2_48 oX2_takeSign (by first | assumption | exact mset_same | exact mget_ne (by omega) (by assumption)) rfl rfl rfl rfl (Nat.le_of_ble_eq_true rfl) (by decide) (by decide) (fun v238 μ238 h238 => ?_)
    obtain ⟨rfl, F1, z1⟩ := h238
    have O1 := F1.1
    refine Rn.if_eq (pc1 := 244) 279 dX2_takeOrder_241 rfl (by decide) (fun c241 => ?_) (fun c241 => ?_)
    · exact absurd c241 (by decide)
    · refine Rn.aload_n (pc1 := 245)  dX2_takeOrder_244 rfl rfl rfl ?_
      refine Rn.aload_n (pc1 := 246)  dX2_takeOrder_245 rfl rfl rfl ?_
      refine Rn.cV_i (pc1 := 249) (eX2_takeReader_n F1 ho (by omega) hn) dX2_takeOrder_246 rfl qX2_62 oX2_takeReader (by first | assumption | exact mset_same | exact mget_ne (by omega) (by assumption)) rfl rfl rfl rfl (Nat.le_of_ble_eq_true rfl) (by decide) (by decide) (fun v246 μ246 h246 => ?_)
      obtain ⟨rfl, rfl⟩ := h246
      refine Rn.cV_i (pc1 := 252) (eX2_takeFirst F1) dX2_takeOrder_249 rfl qX2_59 oX2_takeFirst (by first | assumption | exact mset_same | exact mget_ne (by omega) (by assumption)) rfl rfl rfl rfl (Nat.le_of_ble_eq_true rfl) (by decide) (by decide) (fun v249 μ249 h249 => ?_)
      obtain ⟨rfl, F2, z2⟩ := h249
      refine Rn.if_eq (pc1 := 255) 279 dX2_takeOrder_252 rfl (by decide) (fun c252 => ?_) (fun c252 => ?_)
      · refine Rn.iconst (pc1 := 280) (v := nI 0) dX2_takeOrder_279 rfl (by decide) ?_
        exact Rn.ireturn dX2_takeOrder_280 rfl rfl (QO.of e rfl F2 ((h0.trans z1).trans z2) (fun q => Bool.noConfusion q))
      · exact absurd rfl c252
  | some n =>
    obtain ⟨h1, h2, h3⟩ := digV_lt hn
    by_cases hs : sgn P len (pl + 2) = 42
    · cases hm : numV P len (pl + 3) with
      | none =>
        have e : ordV P len pl = (false, pl + 3, n, 0) := by unfold ordV; rw [hk]; simp only [hn]; rw [if_pos hs]; simp only [hm]
        refine Rn.aload_n (pc1 := 234)  dX2_takeOrder_233 rfl rfl rfl ?_
        refine Rn.aload_n (pc1 := 235)  dX2_takeOrder_234 rfl rfl rfl ?_
        refine Rn.getfield (pc1 := 238)  dX2_takeOrder_235 rfl fX2_22 (by first | assumption | exact mset_same | exact mget_ne (by omega) (by assumption)) rfl ?_
        refine Rn.cV_i (pc1 := 241) (eX2_takeSign_y F ho (by omega) rfl) dX2_takeOrder_238 rfl qX2_48 oX2_takeSign (by first | assumption | exact mset_same | exact mget_ne (by omega) (by assumption)) rfl rfl rfl rfl (Nat.le_of_ble_eq_true rfl) (by decide) (by decide) (fun v238 μ238 h238 => ?_)
        obtain ⟨rfl, F1, z1⟩ := h238
        have O1 := F1.1
        refine Rn.if_eq (pc1 := 244) 279 dX2_takeOrder_241 rfl (by decide) (fun c241 => ?_) (fun c241 => ?_)
        · exact absurd c241 (by decide)
        · refine Rn.aload_n (pc1 := 245)  dX2_takeOrder_244 rfl rfl rfl ?_
          refine Rn.aload_n (pc1 := 246)  dX2_takeOrder_245 rfl rfl rfl ?_
          refine Rn.cV_i (pc1 := 249) (eX2_takeReader_y F1 ho (by omega) hn) dX2_takeOrder_246 rfl qX2_62 oX2_takeReader (by first | assumption | exact mset_same | exact mget_ne (by omega) (by assumption)) rfl rfl rfl rfl (Nat.le_of_ble_eq_true rfl) (by decide) (by decide) (fun v246 μ246 h246 => ?_)
          obtain ⟨rfl, F2, z2⟩ := h246
          have O2 := F2.1
          refine Rn.cV_i (pc1 := 252) (eX2_takeFirst F2) dX2_takeOrder_249 rfl qX2_59 oX2_takeFirst (by first | assumption | exact mset_same | exact mget_ne (by omega) (by assumption)) rfl rfl rfl rfl (Nat.le_of_ble_eq_true rfl) (by decide) (by decide) (fun v249 μ249 h249 => ?_)
          obtain ⟨rfl, F3, z3⟩ := h249
          rw [nI_dec (by omega)]
          have O3 := F3.1
          refine Rn.if_eq (pc1 := 255) 279 dX2_takeOrder_252 rfl (by decide) (fun c252 => ?_) (fun c252 => ?_)
          · exact absurd c252 (by decide)
          · refine Rn.aload_n (pc1 := 256)  dX2_takeOrder_255 rfl rfl rfl ?_
            refine Rn.bipush (pc1 := 258) (v := nI 42) dX2_takeOrder_256 rfl (by decide) ?_
            refine Rn.cV_i (pc1 := 261) (eX2_takeSign_y F3 ho (by omega) hs) dX2_takeOrder_258 rfl qX2_48 oX2_takeSign (by first | assumption | exact mset_same | exact mget_ne (by omega) (by assumption)) rfl rfl rfl rfl (Nat.le_of_ble_eq_true rfl) (by decide) (by decide) (fun v258 μ258 h258 => ?_)
            obtain ⟨rfl, F4, z4⟩ := h258
            have O4 := F4.1
            refine Rn.if_eq (pc1 := 264) 279 dX2_takeOrder_261 rfl (by decide) (fun c261 => ?_) (fun c261 => ?_)
            · exact absurd c261 (by decide)
            · refine Rn.aload_n (pc1 := 265)  dX2_takeOrder_264 rfl rfl rfl ?_
              refine Rn.aload_n (pc1 := 266)  dX2_takeOrder_265 rfl rfl rfl ?_
              refine Rn.cV_i (pc1 := 269) (eX2_takeNumber_n F4 ho (by omega) hm) dX2_takeOrder_266 rfl qX2_56 oX2_takeNumber (by first | assumption | exact mset_same | exact mget_ne (by omega) (by assumption)) rfl rfl rfl rfl (Nat.le_of_ble_eq_true rfl) (by decide) (by decide) (fun v266 μ266 h266 => ?_)
              obtain ⟨rfl, rfl⟩ := h266
              refine Rn.cV_i (pc1 := 272) (eX2_takeSecond F4) dX2_takeOrder_269 rfl qX2_65 oX2_takeSecond (by first | assumption | exact mset_same | exact mget_ne (by omega) (by assumption)) rfl rfl rfl rfl (Nat.le_of_ble_eq_true rfl) (by decide) (by decide) (fun v269 μ269 h269 => ?_)
              obtain ⟨rfl, F5, z5⟩ := h269
              refine Rn.if_eq (pc1 := 275) 279 dX2_takeOrder_272 rfl (by decide) (fun c272 => ?_) (fun c272 => ?_)
              · refine Rn.iconst (pc1 := 280) (v := nI 0) dX2_takeOrder_279 rfl (by decide) ?_
                exact Rn.ireturn dX2_takeOrder_280 rfl rfl (QO.of e rfl F5 (((((h0.trans z1).trans z2).trans z3).trans z4).trans z5) (fun q => Bool.noConfusion q))
              · exact absurd rfl c272
      | some w =>
        obtain ⟨n2, q2⟩ := w
        obtain ⟨k1, k2, k3, k4⟩ := numV_le hm
        have e : ordV P len pl = (true, q2, n, n2) := by unfold ordV; rw [hk]; simp only [hn]; rw [if_pos hs]; simp only [hm]
        refine Rn.aload_n (pc1 := 234)  dX2_takeOrder_233 rfl rfl rfl ?_
        refine Rn.aload_n (pc1 := 235)  dX2_takeOrder_234 rfl rfl rfl ?_
        refine Rn.getfield (pc1 := 238)  dX2_takeOrder_235 rfl fX2_22 (by first | assumption | exact mset_same | exact mget_ne (by omega) (by assumption)) rfl ?_
        refine Rn.cV_i (pc1 := 241) (eX2_takeSign_y F ho (by omega) rfl) dX2_takeOrder_238 rfl qX2_48 oX2_takeSign (by first | assumption | exact mset_same | exact mget_ne (by omega) (by assumption)) rfl rfl rfl rfl (Nat.le_of_ble_eq_true rfl) (by decide) (by decide) (fun v238 μ238 h238 => ?_)
        obtain ⟨rfl, F1, z1⟩ := h238
        have O1 := F1.1
        refine Rn.if_eq (pc1 := 244) 279 dX2_takeOrder_241 rfl (by decide) (fun c241 => ?_) (fun c241 => ?_)
        · exact absurd c241 (by decide)
        · refine Rn.aload_n (pc1 := 245)  dX2_takeOrder_244 rfl rfl rfl ?_
          refine Rn.aload_n (pc1 := 246)  dX2_takeOrder_245 rfl rfl rfl ?_
          refine Rn.cV_i (pc1 := 249) (eX2_takeReader_y F1 ho (by omega) hn) dX2_takeOrder_246 rfl qX2_62 oX2_takeReader (by first | assumption | exact mset_same | exact mget_ne (by omega) (by assumption)) rfl rfl rfl rfl (Nat.le_of_ble_eq_true rfl) (by decide) (by decide) (fun v246 μ246 h246 => ?_)
          obtain ⟨rfl, F2, z2⟩ := h246
          have O2 := F2.1
          refine Rn.cV_i (pc1 := 252) (eX2_takeFirst F2) dX2_takeOrder_249 rfl qX2_59 oX2_takeFirst (by first | assumption | exact mset_same | exact mget_ne (by omega) (by assumption)) rfl rfl rfl rfl (Nat.le_of_ble_eq_true rfl) (by decide) (by decide) (fun v249 μ249 h249 => ?_)
          obtain ⟨rfl, F3, z3⟩ := h249
          rw [nI_dec (by omega)]
          have O3 := F3.1
          refine Rn.if_eq (pc1 := 255) 279 dX2_takeOrder_252 rfl (by decide) (fun c252 => ?_) (fun c252 => ?_)
          · exact absurd c252 (by decide)
          · refine Rn.aload_n (pc1 := 256)  dX2_takeOrder_255 rfl rfl rfl ?_
            refine Rn.bipush (pc1 := 258) (v := nI 42) dX2_takeOrder_256 rfl (by decide) ?_
            refine Rn.cV_i (pc1 := 261) (eX2_takeSign_y F3 ho (by omega) hs) dX2_takeOrder_258 rfl qX2_48 oX2_takeSign (by first | assumption | exact mset_same | exact mget_ne (by omega) (by assumption)) rfl rfl rfl rfl (Nat.le_of_ble_eq_true rfl) (by decide) (by decide) (fun v258 μ258 h258 => ?_)
            obtain ⟨rfl, F4, z4⟩ := h258
            have O4 := F4.1
            refine Rn.if_eq (pc1 := 264) 279 dX2_takeOrder_261 rfl (by decide) (fun c261 => ?_) (fun c261 => ?_)
            · exact absurd c261 (by decide)
            · refine Rn.aload_n (pc1 := 265)  dX2_takeOrder_264 rfl rfl rfl ?_
              refine Rn.aload_n (pc1 := 266)  dX2_takeOrder_265 rfl rfl rfl ?_
              refine Rn.cV_i (pc1 := 269) (eX2_takeNumber_y F4 ho (by omega) hm) dX2_takeOrder_266 rfl qX2_56 oX2_takeNumber (by first | assumption | exact mset_same | exact mget_ne (by omega) (by assumption)) rfl rfl rfl rfl (Nat.le_of_ble_eq_true rfl) (by decide) (by decide) (fun v266 μ266 h266 => ?_)
              obtain ⟨rfl, F5, z5⟩ := h266
              have O5 := F5.1
              refine Rn.cV_i (pc1 := 272) (eX2_takeSecond F5) dX2_takeOrder_269 rfl qX2_65 oX2_takeSecond (by first | assumption | exact mset_same | exact mget_ne (by omega) (by assumption)) rfl rfl rfl rfl (Nat.le_of_ble_eq_true rfl) (by decide) (by decide) (fun v269 μ269 h269 => ?_)
              obtain ⟨rfl, F6, z6⟩ := h269
              rw [nI_dec (by omega)]
              refine Rn.if_eq (pc1 := 275) 279 dX2_takeOrder_272 rfl (by decide) (fun c272 => ?_) (fun c272 => ?_)
              · exact absurd c272 (by decide)
              · refine Rn.iconst (pc1 := 276) (v := nI 1) dX2_takeOrder_275 rfl (by decide) ?_
                refine Rn.goto 280 dX2_takeOrder_276 (by decide) ?_
                exact Rn.ireturn dX2_takeOrder_280 rfl rfl (QO.of e rfl F6 ((((((h0.trans z1).trans z2).trans z3).trans z4).trans z5).trans z6) (fun _ => ⟨fun _ => rfl, fun _ => rfl⟩))
    · have e : ordV P len pl = (false, pl + 2, n, 0) := by unfold ordV; rw [hk]; simp only [hn]; rw [if_neg hs]
      refine Rn.aload_n (pc1 := 234)  dX2_takeOrder_233 rfl rfl rfl ?_
      refine Rn.aload_n (pc1 := 235)  dX2_takeOrder_234 rfl rfl rfl ?_
      refine Rn.getfield (pc1 := 238)  dX2_takeOrder_235 rfl fX2_22 (by first | assumption | exact mset_same | exact mget_ne (by omega) (by assumption)) rfl ?_
      refine Rn.cV_i (pc1 := 241) (eX2_takeSign_y F ho (by omega) rfl) dX2_takeOrder_238 rfl qX2_48 oX2_takeSign (by first | assumption | exact mset_same | exact mget_ne (by omega) (by assumption)) rfl rfl rfl rfl (Nat.le_of_ble_eq_true rfl) (by decide) (by decide) (fun v238 μ238 h238 => ?_)
      obtain ⟨rfl, F1, z1⟩ := h238
      have O1 := F1.1
      refine Rn.if_eq (pc1 := 244) 279 dX2_takeOrder_241 rfl (by decide) (fun c241 => ?_) (fun c241 => ?_)
      · exact absurd c241 (by decide)
      · refine Rn.aload_n (pc1 := 245)  dX2_takeOrder_244 rfl rfl rfl ?_
        refine Rn.aload_n (pc1 := 246)  dX2_takeOrder_245 rfl rfl rfl ?_
        refine Rn.cV_i (pc1 := 249) (eX2_takeReader_y F1 ho (by omega) hn) dX2_takeOrder_246 rfl qX2_62 oX2_takeReader (by first | assumption | exact mset_same | exact mget_ne (by omega) (by assumption)) rfl rfl rfl rfl (Nat.le_of_ble_eq_true rfl) (by decide) (by decide) (fun v246 μ246 h246 => ?_)
        obtain ⟨rfl, F2, z2⟩ := h246
        have O2 := F2.1
        refine Rn.cV_i (pc1 := 252) (eX2_takeFirst F2) dX2_takeOrder_249 rfl qX2_59 oX2_takeFirst (by first | assumption | exact mset_same | exact mget_ne (by omega) (by assumption)) rfl rfl rfl rfl (Nat.le_of_ble_eq_true rfl) (by decide) (by decide) (fun v249 μ249 h249 => ?_)
        obtain ⟨rfl, F3, z3⟩ := h249
        rw [nI_dec (by omega)]
        have O3 := F3.1
        refine Rn.if_eq (pc1 := 255) 279 dX2_takeOrder_252 rfl (by decide) (fun c252 => ?_) (fun c252 => ?_)
        · exact absurd c252 (by decide)
        · refine Rn.aload_n (pc1 := 256)  dX2_takeOrder_255 rfl rfl rfl ?_
          refine Rn.bipush (pc1 := 258) (v := nI 42) dX2_takeOrder_256 rfl (by decide) ?_
          refine Rn.cV_i (pc1 := 261) (eX2_takeSign_n F3 ho (by omega) (by omega) hs) dX2_takeOrder_258 rfl qX2_48 oX2_takeSign (by first | assumption | exact mset_same | exact mget_ne (by omega) (by assumption)) rfl rfl rfl rfl (Nat.le_of_ble_eq_true rfl) (by decide) (by decide) (fun v258 μ258 h258 => ?_)
          obtain ⟨rfl, rfl⟩ := h258
          refine Rn.if_eq (pc1 := 264) 279 dX2_takeOrder_261 rfl (by decide) (fun c261 => ?_) (fun c261 => ?_)
          · refine Rn.iconst (pc1 := 280) (v := nI 0) dX2_takeOrder_279 rfl (by decide) ?_
            exact Rn.ireturn dX2_takeOrder_280 rfl rfl (QO.of e rfl F3 (((h0.trans z1).trans z2).trans z3) (fun q => Bool.noConfusion q))
          · exact absurd rfl c261
theorem lT281 {μ0 : Mm} (F : PA μ z P len pl (nI (sgn P len pl)) fi se) (ho : PadOk P len) (hp : pl < len) (h0 : Fr z (z + 2) μ0 μ) (hk : kindF (sgn P len pl) = 6) : Rn G 4 kX2_takeOrder 281 [some (.ref z)] [] μ sz 0 0 (QO P len pl z μ0) := by
  have hO := F.1
  have hl := ho.1
  cases hn : digV P len (pl + 1) 5 with
  | none =>
    have e : ordV P len pl = (false, pl + 1, 0, 0) := by unfold ordV; rw [hk]; simp only [hn]
    refine Rn.aload_n (pc1 := 282)  dX2_takeOrder_281 rfl rfl rfl ?_
    refine Rn.aload_n (pc1 := 283)  dX2_takeOrder_282 rfl rfl rfl ?_
    refine Rn.getfield (pc1 := 286)  dX2_takeOrder_283 rfl fX2_22 (by first | assumption | exact mset_same | exact mget_ne (by omega) (by assumption)) rfl ?_
    refine Rn.cV_i (pc1 := 289) (eX2_takeSign_y F ho (by omega) rfl) dX2_takeOrder_286 rfl qX2_48 oX2_takeSign (by first | assumption | exact mset_same | exact mget_ne (by omega) (by assumption)) rfl rfl rfl rfl (Nat.le_of_ble_eq_true rfl) (by decide) (by decide) (fun v286 μ286 h286 => ?_)
    obtain ⟨rfl, F1, z1⟩ := h286
    have O1 := F1.1
    refine Rn.if_eq (pc1 := 292) 329 dX2_takeOrder_289 rfl (by decide) (fun c289 => ?_) (fun c289 => ?_)
    · exact absurd c289 (by decide)
    · refine Rn.aload_n (pc1 := 293)  dX2_takeOrder_292 rfl rfl rfl ?_
      refine Rn.aload_n (pc1 := 294)  dX2_takeOrder_293 rfl rfl rfl ?_
      refine Rn.cV_i (pc1 := 297) (eX2_takeReader_n F1 ho (by omega) hn) dX2_takeOrder_294 rfl qX2_62 oX2_takeReader (by first | assumption | exact mset_same | exact mget_ne (by omega) (by assumption)) rfl rfl rfl rfl (Nat.le_of_ble_eq_true rfl) (by decide) (by decide) (fun v294 μ294 h294 => ?_)
      obtain ⟨rfl, rfl⟩ := h294
      refine Rn.cV_i (pc1 := 300) (eX2_takeFirst F1) dX2_takeOrder_297 rfl qX2_59 oX2_takeFirst (by first | assumption | exact mset_same | exact mget_ne (by omega) (by assumption)) rfl rfl rfl rfl (Nat.le_of_ble_eq_true rfl) (by decide) (by decide) (fun v297 μ297 h297 => ?_)
      obtain ⟨rfl, F2, z2⟩ := h297
      refine Rn.if_eq (pc1 := 303) 329 dX2_takeOrder_300 rfl (by decide) (fun c300 => ?_) (fun c300 => ?_)
      · refine Rn.iconst (pc1 := 330) (v := nI 0) dX2_takeOrder_329 rfl (by decide) ?_
        exact Rn.ireturn dX2_takeOrder_330 rfl rfl (QO.of e rfl F2 ((h0.trans z1).trans z2) (fun q => Bool.noConfusion q))
      · exact absurd rfl c300
  | some n =>
    obtain ⟨h1, h2, h3⟩ := digV_lt hn
    by_cases hs : sgn P len (pl + 2) = 64
    · cases hm : digV P len (pl + 3) 9 with
      | none =>
        have e : ordV P len pl = (false, pl + 3, n, 0) := by unfold ordV; rw [hk]; simp only [hn]; rw [if_pos hs]; simp only [hm]
        refine Rn.aload_n (pc1 := 282)  dX2_takeOrder_281 rfl rfl rfl ?_
        refine Rn.aload_n (pc1 := 283)  dX2_takeOrder_282 rfl rfl rfl ?_
        refine Rn.getfield (pc1 := 286)  dX2_takeOrder_283 rfl fX2_22 (by first | assumption | exact mset_same | exact mget_ne (by omega) (by assumption)) rfl ?_
        refine Rn.cV_i (pc1 := 289) (eX2_takeSign_y F ho (by omega) rfl) dX2_takeOrder_286 rfl qX2_48 oX2_takeSign (by first | assumption | exact mset_same | exact mget_ne (by omega) (by assumption)) rfl rfl rfl rfl (Nat.le_of_ble_eq_true rfl) (by decide) (by decide) (fun v286 μ286 h286 => ?_)
        obtain ⟨rfl, F1, z1⟩ := h286
        have O1 := F1.1
        refine Rn.if_eq (pc1 := 292) 329 dX2_takeOrder_289 rfl (by decide) (fun c289 => ?_) (fun c289 => ?_)
        · exact absurd c289 (by decide)
        · refine Rn.aload_n (pc1 := 293)  dX2_takeOrder_292 rfl rfl rfl ?_
          refine Rn.aload_n (pc1 := 294)  dX2_takeOrder_293 rfl rfl rfl ?_
          refine Rn.cV_i (pc1 := 297) (eX2_takeReader_y F1 ho (by omega) hn) dX2_takeOrder_294 rfl qX2_62 oX2_takeReader (by first | assumption | exact mset_same | exact mget_ne (by omega) (by assumption)) rfl rfl rfl rfl (Nat.le_of_ble_eq_true rfl) (by decide) (by decide) (fun v294 μ294 h294 => ?_)
          obtain ⟨rfl, F2, z2⟩ := h294
          have O2 := F2.1
          refine Rn.cV_i (pc1 := 300) (eX2_takeFirst F2) dX2_takeOrder_297 rfl qX2_59 oX2_takeFirst (by first | assumption | exact mset_same | exact mget_ne (by omega) (by assumption)) rfl rfl rfl rfl (Nat.le_of_ble_eq_true rfl) (by decide) (by decide) (fun v297 μ297 h297 => ?_)
          obtain ⟨rfl, F3, z3⟩ := h297
          rw [nI_dec (by omega)]
          have O3 := F3.1
          refine Rn.if_eq (pc1 := 303) 329 dX2_takeOrder_300 rfl (by decide) (fun c300 => ?_) (fun c300 => ?_)
          · exact absurd c300 (by decide)
          · refine Rn.aload_n (pc1 := 304)  dX2_takeOrder_303 rfl rfl rfl ?_
            refine Rn.bipush (pc1 := 306) (v := nI 64) dX2_takeOrder_304 rfl (by decide) ?_
            refine Rn.cV_i (pc1 := 309) (eX2_takeSign_y F3 ho (by omega) hs) dX2_takeOrder_306 rfl qX2_48 oX2_takeSign (by first | assumption | exact mset_same | exact mget_ne (by omega) (by assumption)) rfl rfl rfl rfl (Nat.le_of_ble_eq_true rfl) (by decide) (by decide) (fun v306 μ306 h306 => ?_)
            obtain ⟨rfl, F4, z4⟩ := h306
            have O4 := F4.1
            refine Rn.if_eq (pc1 := 312) 329 dX2_takeOrder_309 rfl (by decide) (fun c309 => ?_) (fun c309 => ?_)
            · exact absurd c309 (by decide)
            · refine Rn.aload_n (pc1 := 313)  dX2_takeOrder_312 rfl rfl rfl ?_
              refine Rn.aload_n (pc1 := 314)  dX2_takeOrder_313 rfl rfl rfl ?_
              refine Rn.bipush (pc1 := 316) (v := nI 9) dX2_takeOrder_314 rfl (by decide) ?_
              refine Rn.cV_i (pc1 := 319) (eX2_takeDigit_n F4 ho (by omega) (by omega) hm) dX2_takeOrder_316 rfl qX2_68 oX2_takeDigit (by first | assumption | exact mset_same | exact mget_ne (by omega) (by assumption)) rfl rfl rfl rfl (Nat.le_of_ble_eq_true rfl) (by decide) (by decide) (fun v316 μ316 h316 => ?_)
              obtain ⟨rfl, rfl⟩ := h316
              refine Rn.cV_i (pc1 := 322) (eX2_takeSecond F4) dX2_takeOrder_319 rfl qX2_65 oX2_takeSecond (by first | assumption | exact mset_same | exact mget_ne (by omega) (by assumption)) rfl rfl rfl rfl (Nat.le_of_ble_eq_true rfl) (by decide) (by decide) (fun v319 μ319 h319 => ?_)
              obtain ⟨rfl, F5, z5⟩ := h319
              refine Rn.if_eq (pc1 := 325) 329 dX2_takeOrder_322 rfl (by decide) (fun c322 => ?_) (fun c322 => ?_)
              · refine Rn.iconst (pc1 := 330) (v := nI 0) dX2_takeOrder_329 rfl (by decide) ?_
                exact Rn.ireturn dX2_takeOrder_330 rfl rfl (QO.of e rfl F5 (((((h0.trans z1).trans z2).trans z3).trans z4).trans z5) (fun q => Bool.noConfusion q))
              · exact absurd rfl c322
      | some n2 =>
        obtain ⟨k1, k2, k3⟩ := digV_lt hm
        have e : ordV P len pl = (true, pl + 4, n, n2) := by unfold ordV; rw [hk]; simp only [hn]; rw [if_pos hs]; simp only [hm]
        refine Rn.aload_n (pc1 := 282)  dX2_takeOrder_281 rfl rfl rfl ?_
        refine Rn.aload_n (pc1 := 283)  dX2_takeOrder_282 rfl rfl rfl ?_
        refine Rn.getfield (pc1 := 286)  dX2_takeOrder_283 rfl fX2_22 (by first | assumption | exact mset_same | exact mget_ne (by omega) (by assumption)) rfl ?_
        refine Rn.cV_i (pc1 := 289) (eX2_takeSign_y F ho (by omega) rfl) dX2_takeOrder_286 rfl qX2_48 oX2_takeSign (by first | assumption | exact mset_same | exact mget_ne (by omega) (by assumption)) rfl rfl rfl rfl (Nat.le_of_ble_eq_true rfl) (by decide) (by decide) (fun v286 μ286 h286 => ?_)
        obtain ⟨rfl, F1, z1⟩ := h286
        have O1 := F1.1
        refine Rn.if_eq (pc1 := 292) 329 dX2_takeOrder_289 rfl (by decide) (fun c289 => ?_) (fun c289 => ?_)
        · exact absurd c289 (by decide)
        · refine Rn.aload_n (pc1 := 293)  dX2_takeOrder_292 rfl rfl rfl ?_
          refine Rn.aload_n (pc1 := 294)  dX2_takeOrder_293 rfl rfl rfl ?_
          refine Rn.cV_i (pc1 := 297) (eX2_takeReader_y F1 ho (by omega) hn) dX2_takeOrder_294 rfl qX2_62 oX2_takeReader (by first | assumption | exact mset_same | exact mget_ne (by omega) (by assumption)) rfl rfl rfl rfl (Nat.le_of_ble_eq_true rfl) (by decide) (by decide) (fun v294 μ294 h294 => ?_)
          obtain ⟨rfl, F2, z2⟩ := h294
          have O2 := F2.1
          refine Rn.cV_i (pc1 := 300) (eX2_takeFirst F2) dX2_takeOrder_297 rfl qX2_59 oX2_takeFirst (by first | assumption | exact mset_same | exact mget_ne (by omega) (by assumption)) rfl rfl rfl rfl (Nat.le_of_ble_eq_true rfl) (by decide) (by decide) (fun v297 μ297 h297 => ?_)
          obtain ⟨rfl, F3, z3⟩ := h297
          rw [nI_dec (by omega)]
          have O3 := F3.1
          refine Rn.if_eq (pc1 := 303) 329 dX2_takeOrder_300 rfl (by decide) (fun c300 => ?_) (fun c300 => ?_)
          · exact absurd c300 (by decide)
          · refine Rn.aload_n (pc1 := 304)  dX2_takeOrder_303 rfl rfl rfl ?_
            refine Rn.bipush (pc1 := 306) (v := nI 64) dX2_takeOrder_304 rfl (by decide) ?_
            refine Rn.cV_i (pc1 := 309) (eX2_takeSign_y F3 ho (by omega) hs) dX2_takeOrder_306 rfl qX2_48 oX2_takeSign (by first | assumption | exact mset_same | exact mget_ne (by omega) (by assumption)) rfl rfl rfl rfl (Nat.le_of_ble_eq_true rfl) (by decide) (by decide) (fun v306 μ306 h306 => ?_)
            obtain ⟨rfl, F4, z4⟩ := h306
            have O4 := F4.1
            refine Rn.if_eq (pc1 := 312) 329 dX2_takeOrder_309 rfl (by decide) (fun c309 => ?_) (fun c309 => ?_)
            · exact absurd c309 (by decide)
            · refine Rn.aload_n (pc1 := 313)  dX2_takeOrder_312 rfl rfl rfl ?_
              refine Rn.aload_n (pc1 := 314)  dX2_takeOrder_313 rfl rfl rfl ?_
              refine Rn.bipush (pc1 := 316) (v := nI 9) dX2_takeOrder_314 rfl (by decide) ?_
              refine Rn.cV_i (pc1 := 319) (eX2_takeDigit_y F4 ho (by omega) (by omega) hm) dX2_takeOrder_316 rfl qX2_68 oX2_takeDigit (by first | assumption | exact mset_same | exact mget_ne (by omega) (by assumption)) rfl rfl rfl rfl (Nat.le_of_ble_eq_true rfl) (by decide) (by decide) (fun v316 μ316 h316 => ?_)
              obtain ⟨rfl, F5, z5⟩ := h316
              have O5 := F5.1
              refine Rn.cV_i (pc1 := 322) (eX2_takeSecond F5) dX2_takeOrder_319 rfl qX2_65 oX2_takeSecond (by first | assumption | exact mset_same | exact mget_ne (by omega) (by assumption)) rfl rfl rfl rfl (Nat.le_of_ble_eq_true rfl) (by decide) (by decide) (fun v319 μ319 h319 => ?_)
              obtain ⟨rfl, F6, z6⟩ := h319
              rw [nI_dec (by omega)]
              refine Rn.if_eq (pc1 := 325) 329 dX2_takeOrder_322 rfl (by decide) (fun c322 => ?_) (fun c322 => ?_)
              · exact absurd c322 (by decide)
              · refine Rn.iconst (pc1 := 326) (v := nI 1) dX2_takeOrder_325 rfl (by decide) ?_
                refine Rn.goto 330 dX2_takeOrder_326 (by decide) ?_
                exact Rn.ireturn dX2_takeOrder_330 rfl rfl (QO.of e rfl F6 ((((((h0.trans z1).trans z2).trans z3).trans z4).trans z5).trans z6) (fun _ => ⟨fun _ => rfl, fun _ => rfl⟩))
    · have e : ordV P len pl = (false, pl + 2, n, 0) := by unfold ordV; rw [hk]; simp only [hn]; rw [if_neg hs]
      refine Rn.aload_n (pc1 := 282)  dX2_takeOrder_281 rfl rfl rfl ?_
      refine Rn.aload_n (pc1 := 283)  dX2_takeOrder_282 rfl rfl rfl ?_
      refine Rn.getfield (pc1 := 286)  dX2_takeOrder_283 rfl fX2_22 (by first | assumption | exact mset_same | exact mget_ne (by omega) (by assumption)) rfl ?_
      refine Rn.cV_i (pc1 := 289) (eX2_takeSign_y F ho (by omega) rfl) dX2_takeOrder_286 rfl qX2_48 oX2_takeSign (by first | assumption | exact mset_same | exact mget_ne (by omega) (by assumption)) rfl rfl rfl rfl (Nat.le_of_ble_eq_true rfl) (by decide) (by decide) (fun v286 μ286 h286 => ?_)
      obtain ⟨rfl, F1, z1⟩ := h286
      have O1 := F1.1
      refine Rn.if_eq (pc1 := 292) 329 dX2_takeOrder_289 rfl (by decide) (fun c289 => ?_) (fun c289 => ?_)
      · exact absurd c289 (by decide)
      · refine Rn.aload_n (pc1 := 293)  dX2_takeOrder_292 rfl rfl rfl ?_
        refine Rn.aload_n (pc1 := 294)  dX2_takeOrder_293 rfl rfl rfl ?_
        refine Rn.cV_i (pc1 := 297) (eX2_takeReader_y F1 ho (by omega) hn) dX2_takeOrder_294 rfl qX2_62 oX2_takeReader (by first | assumption | exact mset_same | exact mget_ne (by omega) (by assumption)) rfl rfl rfl rfl (Nat.le_of_ble_eq_true rfl) (by decide) (by decide) (fun v294 μ294 h294 => ?_)
        obtain ⟨rfl, F2, z2⟩ := h294
        have O2 := F2.1
        refine Rn.cV_i (pc1 := 300) (eX2_takeFirst F2) dX2_takeOrder_297 rfl qX2_59 oX2_takeFirst (by first | assumption | exact mset_same | exact mget_ne (by omega) (by assumption)) rfl rfl rfl rfl (Nat.le_of_ble_eq_true rfl) (by decide) (by decide) (fun v297 μ297 h297 => ?_)
        obtain ⟨rfl, F3, z3⟩ := h297
        rw [nI_dec (by omega)]
        have O3 := F3.1
        refine Rn.if_eq (pc1 := 303) 329 dX2_takeOrder_300 rfl (by decide) (fun c300 => ?_) (fun c300 => ?_)
        · exact absurd c300 (by decide)
        · refine Rn.aload_n (pc1 := 304)  dX2_takeOrder_303 rfl rfl rfl ?_
          refine Rn.bipush (pc1 := 306) (v := nI 64) dX2_takeOrder_304 rfl (by decide) ?_
          refine Rn.cV_i (pc1 := 309) (eX2_takeSign_n F3 ho (by omega) (by omega) hs) dX2_takeOrder_306 rfl qX2_48 oX2_takeSign (by first | assumption | exact mset_same | exact mget_ne (by omega) (by assumption)) rfl rfl rfl rfl (Nat.le_of_ble_eq_true rfl) (by decide) (by decide) (fun v306 μ306 h306 => ?_)
          obtain ⟨rfl, rfl⟩ := h306
          refine Rn.if_eq (pc1 := 312) 329 dX2_takeOrder_309 rfl (by decide) (fun c309 => ?_) (fun c309 => ?_)
          · refine Rn.iconst (pc1 := 330) (v := nI 0) dX2_takeOrder_329 rfl (by decide) ?_
            exact Rn.ireturn dX2_takeOrder_330 rfl rfl (QO.of e rfl F3 (((h0.trans z1).trans z2).trans z3) (fun q => Bool.noConfusion q))
          · exact absurd rfl c309
theorem kind_cases (c : Nat) : (c = 98 ∨ c = 99) ∧ kindF c = 3 ∨ (c = 104 ∨ c = 110 ∨ c = 115) ∧ kindF c = 1 ∨ (c = 116 ∨ c = 120) ∧ kindF c = 2 ∨ c = 112 ∧ kindF c = 4 ∨ c = 114 ∧ kindF c = 5 ∨ c = 108 ∧ kindF c = 6 ∨ kindF c = 0 ∧ c ≠ 98 ∧ c ≠ 99 ∧ c ≠ 104 ∧ c ≠ 108 ∧ c ≠ 110 ∧ c ≠ 112 ∧ c ≠ 114 ∧ c ≠ 115 ∧ c ≠ 116 ∧ c ≠ 120 := by
  by_cases h1 : c = 98
  · subst h1; exact Or.inl ⟨Or.inl rfl, rfl⟩
  by_cases h2 : c = 99
  · subst h2; exact Or.inl ⟨Or.inr rfl, rfl⟩
  by_cases h3 : c = 104
  · subst h3; exact Or.inr (Or.inl ⟨Or.inl rfl, rfl⟩)
  by_cases h4 : c = 110
  · subst h4; exact Or.inr (Or.inl ⟨Or.inr (Or.inl rfl), rfl⟩)
  by_cases h5 : c = 115
  · subst h5; exact Or.inr (Or.inl ⟨Or.inr (Or.inr rfl), rfl⟩)
  by_cases h6 : c = 116
  · subst h6; exact Or.inr (Or.inr (Or.inl ⟨Or.inl rfl, rfl⟩))
  by_cases h7 : c = 120
  · subst h7; exact Or.inr (Or.inr (Or.inl ⟨Or.inr rfl, rfl⟩))
  by_cases h8 : c = 112
  · subst h8; exact Or.inr (Or.inr (Or.inr (Or.inl ⟨rfl, rfl⟩)))
  by_cases h9 : c = 114
  · subst h9; exact Or.inr (Or.inr (Or.inr (Or.inr (Or.inl ⟨rfl, rfl⟩))))
  by_cases h10 : c = 108
  · subst h10; exact Or.inr (Or.inr (Or.inr (Or.inr (Or.inr (Or.inl ⟨rfl, rfl⟩)))))
  refine Or.inr (Or.inr (Or.inr (Or.inr (Or.inr (Or.inr ⟨?_, h1, h2, h3, h10, h4, h8, h9, h5, h6, h7⟩)))))
  unfold kindF
  rw [if_neg (by omega), if_neg (by omega), if_neg (by omega), if_neg h8, if_neg h9, if_neg h10]
theorem sw_in {c : Nat} (h1 : 98 ≤ c) (h2 : c ≤ 120) : ¬ (nI c).toInt < 98 ∧ ¬ (120 : Int) < (nI c).toInt ∧ ((nI c).toInt - 98).toNat = c - 98 := by
  rw [nI_toInt (by omega)]
  omega
theorem eX2_takeOrder (F : PA μ z P len pl lt fi se) (ho : PadOk P len) (hp : pl < 2 ^ 30) : EvA G 4 kX2_takeOrder [.ref z] μ sz 0 0 (QO P len pl z μ) := by
  have hO := F.1
  have hle := sgn_le (i := pl) ho
  refine EvA.of (L := [some (.ref z)]) (by decide +kernel) (Nat.le_of_ble_eq_true rfl) rfl ?_
  refine Rn.aload_n (pc1 := 1)  dX2_takeOrder_0 rfl rfl rfl ?_
  refine Rn.aload_n (pc1 := 2)  dX2_takeOrder_1 rfl rfl rfl ?_
  refine Rn.cV_i (pc1 := 5) (eX2_signHere F ho (by omega)) dX2_takeOrder_2 rfl qX2_52 oX2_signHere (by first | assumption | exact mset_same | exact mget_ne (by omega) (by assumption)) rfl rfl rfl rfl (Nat.le_of_ble_eq_true rfl) (by decide) (by decide) (fun v2 μ2 h2 => ?_)
  obtain ⟨rfl, rfl⟩ := h2
  refine Rn.putfield (pc1 := 8)  dX2_takeOrder_5 rfl pX2_22 (fun h => Bool.noConfusion h) (by first | assumption | exact mset_same | exact mget_ne (by omega) (by assumption)) (Nat.le_of_ble_eq_true rfl) rfl rfl rfl ?_
  have F1 := F.setO len pl (nI (sgn P len pl)) fi se rfl
  have z1 : Fr z (z + 2) μ2 (mset μ2 z (obj 2 [.ref (z + 1), .int (nI len), .int (nI pl), .int (nI (sgn P len pl)), .int fi, .int se])) := Fr.set (by omega) (by omega)
  show Rn G 4 kX2_takeOrder 8 _ _ (mset μ2 z (obj 2 [.ref (z + 1), .int (nI len), .int (nI pl), .int (nI (sgn P len pl)), .int fi, .int se])) _ _ _ _
  generalize (mset μ2 z (obj 2 [.ref (z + 1), .int (nI len), .int (nI pl), .int (nI (sgn P len pl)), .int fi, .int se])) = μ1 at F1 z1 ⊢
  have O1 := F1.1
  refine Rn.aload_n (pc1 := 9)  dX2_takeOrder_8 rfl rfl rfl ?_
  refine Rn.getfield (pc1 := 12)  dX2_takeOrder_9 rfl fX2_22 (by first | assumption | exact mset_same | exact mget_ne (by omega) (by assumption)) rfl ?_
  generalize hc : sgn P len pl = c at hle ⊢
  have K := kind_cases c
  have T0 : 0 < c → pl < len := fun q => sgn_lt (P := P) (by rw [hc]; omega)
  rw [← hc] at K
  rcases K with ⟨K, k⟩ | ⟨K, k⟩ | ⟨K, k⟩ | ⟨K, k⟩ | ⟨K, k⟩ | ⟨K, k⟩ | ⟨k, K⟩
  · obtain ⟨s1, s2, s3⟩ := sw_in (c := c) (by omega) (by omega)
    refine Rn.tableIn (off := 145) 157 dX2_takeOrder_12 s1 s2 (by rw [s3]; rcases K with q | q <;> (rw [hc] at q; subst q; rfl)) (by decide) ?_
    exact lT157 F1 ho (T0 (by omega)) z1 k
  · obtain ⟨s1, s2, s3⟩ := sw_in (c := c) (by omega) (by omega)
    refine Rn.tableIn (off := 108) 120 dX2_takeOrder_12 s1 s2 (by rw [s3]; rcases K with q | q | q <;> (rw [hc] at q; subst q; rfl)) (by decide) ?_
    exact lT120 F1 ho (T0 (by omega)) z1 k
  · obtain ⟨s1, s2, s3⟩ := sw_in (c := c) (by omega) (by omega)
    refine Rn.tableIn (off := 117) 129 dX2_takeOrder_12 s1 s2 (by rw [s3]; rcases K with q | q <;> (rw [hc] at q; subst q; rfl)) (by decide) ?_
    exact lT129 F1 ho (T0 (by omega)) z1 k
  · obtain ⟨s1, s2, s3⟩ := sw_in (c := c) (by omega) (by omega)
    refine Rn.tableIn (off := 173) 185 dX2_takeOrder_12 s1 s2 (by rw [s3]; (rw [hc] at K; subst K; rfl)) (by decide) ?_
    exact lT185 F1 ho (T0 (by omega)) z1 k
  · obtain ⟨s1, s2, s3⟩ := sw_in (c := c) (by omega) (by omega)
    refine Rn.tableIn (off := 221) 233 dX2_takeOrder_12 s1 s2 (by rw [s3]; (rw [hc] at K; subst K; rfl)) (by decide) ?_
    exact lT233 F1 ho (T0 (by omega)) z1 k
  · obtain ⟨s1, s2, s3⟩ := sw_in (c := c) (by omega) (by omega)
    refine Rn.tableIn (off := 269) 281 dX2_takeOrder_12 s1 s2 (by rw [s3]; (rw [hc] at K; subst K; rfl)) (by decide) ?_
    exact lT281 F1 ho (T0 (by omega)) z1 k
  · by_cases hr : 98 ≤ c ∧ c ≤ 120
    · obtain ⟨s1, s2, s3⟩ := sw_in hr.1 hr.2
      refine Rn.tableIn (off := 319) 331 dX2_takeOrder_12 s1 s2 ?_ (by decide) ?_
      · rw [s3]
        have key : (List.range 121).all (fun c => decide (c < 98) || c == 98 || c == 99 || c == 104 || c == 108 || c == 110 || c == 112 || c == 114 || c == 115 || c == 116 || c == 120 || ((#[(145 : Int), 145, 319, 319, 319, 319, 108, 319, 319, 319, 269, 319, 108, 319, 173, 319, 221, 108, 117, 319, 319, 319, 117])[c - 98]? == some 319)) = true := by decide
        have k2 := List.all_eq_true.mp key c (List.mem_range.mpr (by omega))
        rw [hc] at K
        simp only [Bool.or_eq_true, decide_eq_true_eq, beq_iff_eq] at k2
        rcases k2 with ((((((((((k2 | k2) | k2) | k2) | k2) | k2) | k2) | k2) | k2) | k2) | k2) | k2
        all_goals first | exact k2 | (exfalso; omega)
      · exact lT331 F1 z1 k
    · refine Rn.tableOut 331 dX2_takeOrder_12 (by rw [nI_toInt (by omega)]; omega) (by decide) ?_
      exact lT331 F1 z1 k
end ORDER
