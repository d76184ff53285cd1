/-! ===== the reference: an order of its text ===== -/
section M10
variable {G : GG} {μ : Mm} {sz m kept padded at_ ordered : Nat} {f f2 p sl pd od : Nat → Int32} {u : Nat → Bool}
theorem lO144 {μ1 : Mm} {od1 : Nat → Int32} {o1 : Option Value} (F1 : MR μ1 m f f2 p kept sl u pd padded at_ od1 ordered) (z1 : Fr m (m + 8) μ μ1) (h4 : at_ < 2 ^ 20) (k : kindF (sgn pd padded at_) = 1) (q0 : od1 (3 * ordered) = nI (sgn pd padded at_)) (q1 : ∀ j, j < 3 * ordered → od1 j = od j) : Rn G 3 kX9_isOrder 144 [some (.ref m), o1] [] μ1 sz 0 0 (QO9 m f f2 p kept sl u pd padded at_ od ordered μ) := by
  have e : ordV pd padded at_ = (true, at_ + 1, 0, 0) := by unfold ordV; rw [k]; rfl
  have hO := F1.1
  refine Rn.aload_n (pc1 := 145)  dX9_isOrder_144 rfl rfl rfl ?_
  refine Rn.dup (pc1 := 146)  dX9_isOrder_145 rfl rfl ?_
  refine Rn.getfield (pc1 := 149)  dX9_isOrder_146 rfl fX9_156 (by first | assumption | exact mset_same | exact mget_ne (by omega) (by assumption)) rfl ?_
  refine Rn.iconst (pc1 := 150) (v := nI 1) dX9_isOrder_149 rfl (by decide) ?_
  refine Rn.iadd (pc1 := 151)  dX9_isOrder_150 rfl (nI_add at_ 1) ?_
  refine Rn.putfield (pc1 := 154)  dX9_isOrder_151 rfl pX9_156 (fun h => Bool.noConfusion h) (by first | assumption | exact mset_same | exact mget_ne (by omega) (by assumption)) (Nat.le_of_ble_eq_true rfl) rfl rfl rfl ?_
  refine Rn.iconst (pc1 := 155) (v := nI 1) dX9_isOrder_154 rfl (by decide) ?_
  exact Rn.ireturn dX9_isOrder_155 rfl rfl ⟨_, rfl, by rw [e]; rfl, ⟨od1, by rw [e]; exact F1.setO kept padded (at_ + 1) ordered rfl, q1, fun _ => ⟨q0, fun q => absurd q (by omega), fun q => absurd q (by omega)⟩⟩, z1.set_ (by omega) (by omega)⟩
theorem lO197 {μ1 : Mm} {od1 : Nat → Int32} {o1 : Option Value} (ho : PadOk pd padded) (hr : ordered ≤ 40) (F1 : MR μ1 m f f2 p kept sl u pd padded at_ od1 ordered) (z1 : Fr m (m + 8) μ μ1) (h4 : at_ < 2 ^ 20) (k : kindF (sgn pd padded at_) = 2) (q0 : od1 (3 * ordered) = nI (sgn pd padded at_)) (q1 : ∀ j, j < 3 * ordered → od1 j = od j) : Rn G 3 kX9_isOrder 197 [some (.ref m), o1] [] μ1 sz 0 0 (QO9 m f f2 p kept sl u pd padded at_ od ordered μ) := by
  have e : ordV pd padded at_ = (match numV pd padded (at_ + 1) with
    | none => (false, at_ + 1, 0, 0)
    | some (v, q) => (true, q, v, 0)) := by unfold ordV; rw [k]; rfl
  have hO := F1.1
  refine Rn.aload_n (pc1 := 198)  dX9_isOrder_197 rfl rfl rfl ?_
  refine Rn.dup (pc1 := 199)  dX9_isOrder_198 rfl rfl ?_
  refine Rn.getfield (pc1 := 202)  dX9_isOrder_199 rfl fX9_156 (by first | assumption | exact mset_same | exact mget_ne (by omega) (by assumption)) rfl ?_
  refine Rn.iconst (pc1 := 203) (v := nI 1) dX9_isOrder_202 rfl (by decide) ?_
  refine Rn.iadd (pc1 := 204)  dX9_isOrder_203 rfl (nI_add at_ 1) ?_
  refine Rn.putfield (pc1 := 207)  dX9_isOrder_204 rfl pX9_156 (fun h => Bool.noConfusion h) (by first | assumption | exact mset_same | exact mget_ne (by omega) (by assumption)) (Nat.le_of_ble_eq_true rfl) rfl rfl rfl ?_
  have F2 := F1.setO kept padded (at_ + 1) ordered rfl
  have z2 := z1.set_ (q := m) (c := obj 9 [.ref (m + 1), .ref (m + 2), .ref (m + 3), .int (nI kept), .ref (m + 4), .ref (m + 5), .ref (m + 6), .int (nI padded), .int (nI (at_ + 1)), .ref (m + 7), .int (nI ordered)]) (by omega) (by omega)
  have hO2 := F2.1
  refine Rn.aload_n (pc1 := 208)  dX9_isOrder_207 rfl rfl rfl ?_
  refine Rn.iconst (pc1 := 209) (v := nI 1) dX9_isOrder_208 rfl (by decide) ?_
  refine Rn.cV_i (pc1 := 212) (eX9_isNumber F2 ho (by omega) hr (by omega)) dX9_isOrder_209 rfl qX9_166 oX9_isNumber (by first | assumption | exact mset_same | exact mget_ne (by omega) (by assumption)) rfl rfl rfl rfl (Nat.le_of_ble_eq_true rfl) (by decide) (by decide) (fun v209 μ209 h209 => ?_)
  obtain ⟨h3, z3⟩ := h209
  rcases h3 with ⟨n1, rfl, F3⟩ | ⟨x, q, n1, rfl, F3⟩
  · rw [n1] at e
    exact Rn.ireturn dX9_isOrder_212 rfl rfl ⟨_, rfl, by rw [e]; rfl, ⟨od1, by rw [e]; exact F3, q1, fun q => by rw [e] at q; cases q⟩, z2.trans z3⟩
  · rw [n1] at e
    exact Rn.ireturn dX9_isOrder_212 rfl rfl ⟨_, rfl, by rw [e]; rfl, ⟨_, by rw [e]; exact F3, fun j hj => by rw [upd_ne (by omega)]; exact q1 j hj, fun _ => ⟨by rw [upd_ne (by omega)]; exact q0, fun _ => by rw [e, upd_at rfl], fun q => absurd q (by omega)⟩⟩, z2.trans z3⟩
theorem lO256 {μ1 : Mm} {od1 : Nat → Int32} {o1 : Option Value} (ho : PadOk pd padded) (hr : ordered ≤ 40) (F1 : MR μ1 m f f2 p kept sl u pd padded at_ od1 ordered) (z1 : Fr m (m + 8) μ μ1) (h4 : at_ < 2 ^ 20) (k : kindF (sgn pd padded at_) = 3) (q0 : od1 (3 * ordered) = nI (sgn pd padded at_)) (q1 : ∀ j, j < 3 * ordered → od1 j = od j) : Rn G 3 kX9_isOrder 256 [some (.ref m), o1] [] μ1 sz 0 0 (QO9 m f f2 p kept sl u pd padded at_ od ordered μ) := by
  have e : ordV pd padded at_ = (match digV pd padded (at_ + 1) 5 with
    | none => (false, at_ + 1, 0, 0)
    | some d => (true, at_ + 2, d, 0)) := by unfold ordV; rw [k]; rfl
  have hO := F1.1
  refine Rn.aload_n (pc1 := 257)  dX9_isOrder_256 rfl rfl rfl ?_
  refine Rn.dup (pc1 := 258)  dX9_isOrder_257 rfl rfl ?_
  refine Rn.getfield (pc1 := 261)  dX9_isOrder_258 rfl fX9_156 (by first | assumption | exact mset_same | exact mget_ne (by omega) (by assumption)) rfl ?_
  refine Rn.iconst (pc1 := 262) (v := nI 1) dX9_isOrder_261 rfl (by decide) ?_
  refine Rn.iadd (pc1 := 263)  dX9_isOrder_262 rfl (nI_add at_ 1) ?_
  refine Rn.putfield (pc1 := 266)  dX9_isOrder_263 rfl pX9_156 (fun h => Bool.noConfusion h) (by first | assumption | exact mset_same | exact mget_ne (by omega) (by assumption)) (Nat.le_of_ble_eq_true rfl) rfl rfl rfl ?_
  have F2 := F1.setO kept padded (at_ + 1) ordered rfl
  have z2 := z1.set_ (q := m) (c := obj 9 [.ref (m + 1), .ref (m + 2), .ref (m + 3), .int (nI kept), .ref (m + 4), .ref (m + 5), .ref (m + 6), .int (nI padded), .int (nI (at_ + 1)), .ref (m + 7), .int (nI ordered)]) (by omega) (by omega)
  have hO2 := F2.1
  refine Rn.aload_n (pc1 := 267)  dX9_isOrder_266 rfl rfl rfl ?_
  refine Rn.iconst (pc1 := 268) (v := nI 1) dX9_isOrder_267 rfl (by decide) ?_
  refine Rn.bipush (pc1 := 270) (v := nI 53) dX9_isOrder_268 rfl (by decide) ?_
  refine Rn.cV_i (pc1 := 273) (eX9_isDigit (k := 5) F2 ho (by omega) (by omega) hr (by omega)) dX9_isOrder_270 rfl qX9_172 oX9_isDigit (by first | assumption | exact mset_same | exact mget_ne (by omega) (by assumption)) rfl rfl rfl rfl (Nat.le_of_ble_eq_true rfl) (by decide) (by decide) (fun v270 μ270 h270 => ?_)
  obtain ⟨h3, z3⟩ := h270
  rcases h3 with ⟨n1, rfl, F3⟩ | ⟨x, n1, rfl, F3⟩
  · rw [n1] at e
    exact Rn.ireturn dX9_isOrder_273 rfl rfl ⟨_, rfl, by rw [e]; rfl, ⟨od1, by rw [e]; exact F3, q1, fun q => by rw [e] at q; cases q⟩, z2.trans z3⟩
  · rw [n1] at e
    exact Rn.ireturn dX9_isOrder_273 rfl rfl ⟨_, rfl, by rw [e]; rfl, ⟨_, by rw [e]; exact F3, fun j hj => by rw [upd_ne (by omega)]; exact q1 j hj, fun _ => ⟨by rw [upd_ne (by omega)]; exact q0, fun _ => by rw [e, upd_at rfl], fun q => absurd q (by omega)⟩⟩, z2.trans z3⟩
theorem lO156 {μ1 : Mm} {od1 : Nat → Int32} {o1 : Option Value} (ho : PadOk pd padded) (hr : ordered ≤ 40) (F1 : MR μ1 m f f2 p kept sl u pd padded at_ od1 ordered) (z1 : Fr m (m + 8) μ μ1) (h4 : at_ < 2 ^ 20) (k : kindF (sgn pd padded at_) = 4) (q0 : od1 (3 * ordered) = nI (sgn pd padded at_)) (q1 : ∀ j, j < 3 * ordered → od1 j = od j) : Rn G 3 kX9_isOrder 156 [some (.ref m), o1] [] μ1 sz 0 0 (QO9 m f f2 p kept sl u pd padded at_ od ordered μ) := by
  have e : ordV pd padded at_ = (match numV pd padded (at_ + 1) with
    | none => (false, at_ + 1, 0, 0)
    | some (v, q) => if sgn pd padded q = 61 then (match numV pd padded (q + 1) with
      | none => (false, q + 1, v, 0)
      | some (w, q2) => (true, q2, v, w)) else (false, q, v, 0)) := by unfold ordV; rw [k]; rfl
  have hO := F1.1
  refine Rn.aload_n (pc1 := 157)  dX9_isOrder_156 rfl rfl rfl ?_
  refine Rn.dup (pc1 := 158)  dX9_isOrder_157 rfl rfl ?_
  refine Rn.getfield (pc1 := 161)  dX9_isOrder_158 rfl fX9_156 (by first | assumption | exact mset_same | exact mget_ne (by omega) (by assumption)) rfl ?_
  refine Rn.iconst (pc1 := 162) (v := nI 1) dX9_isOrder_161 rfl (by decide) ?_
  refine Rn.iadd (pc1 := 163)  dX9_isOrder_162 rfl (nI_add at_ 1) ?_
  refine Rn.putfield (pc1 := 166)  dX9_isOrder_163 rfl pX9_156 (fun h => Bool.noConfusion h) (by first | assumption | exact mset_same | exact mget_ne (by omega) (by assumption)) (Nat.le_of_ble_eq_true rfl) rfl rfl rfl ?_
  have F2 := F1.setO kept padded (at_ + 1) ordered rfl
  have z2 := z1.set_ (q := m) (c := obj 9 [.ref (m + 1), .ref (m + 2), .ref (m + 3), .int (nI kept), .ref (m + 4), .ref (m + 5), .ref (m + 6), .int (nI padded), .int (nI (at_ + 1)), .ref (m + 7), .int (nI ordered)]) (by omega) (by omega)
  have hO2 := F2.1
  refine Rn.aload_n (pc1 := 167)  dX9_isOrder_166 rfl rfl rfl ?_
  refine Rn.iconst (pc1 := 168) (v := nI 1) dX9_isOrder_167 rfl (by decide) ?_
  refine Rn.cV_i (pc1 := 171) (eX9_isNumber F2 ho (by omega) hr (by omega)) dX9_isOrder_168 rfl qX9_166 oX9_isNumber (by first | assumption | exact mset_same | exact mget_ne (by omega) (by assumption)) rfl rfl rfl rfl (Nat.le_of_ble_eq_true rfl) (by decide) (by decide) (fun v168 μ168 h168 => ?_)
  obtain ⟨h3, z3⟩ := h168
  have z23 := z2.trans z3
  refine Rn.if_eq (pc1 := 174) 195 dX9_isOrder_171 rfl (by decide) (fun c171 => ?_) (fun c171 => ?_)
  · obtain ⟨n1, F3⟩ : numV pd padded (at_ + 1) = none ∧ MR μ168 m f f2 p kept sl u pd padded (at_ + 1) od1 ordered := by
      rcases h3 with ⟨n1, n2, F3⟩ | ⟨x, q, n1, n2, F3⟩
      · exact ⟨n1, F3⟩
      · rw [n2] at c171; exact absurd c171 (by decide)
    rw [n1] at e
    refine Rn.iconst (pc1 := 196) (v := nI 0) dX9_isOrder_195 rfl (by decide) ?_
    first | exact Rn.ireturn dX9_isOrder_196 rfl rfl ⟨_, rfl, by rw [e]; rfl, ⟨_, by rw [e]; exact F3, q1, fun q => by rw [e] at q; cases q⟩, z23⟩ | exact Rn.ireturn dX9_isOrder_196 rfl rfl ⟨_, rfl, by rw [e]; rfl, ⟨_, by rw [e]; exact F4, fun j hj => by rw [upd_ne (by omega)]; exact q1 j hj, fun q => by rw [e] at q; cases q⟩, z24⟩ | exact Rn.ireturn dX9_isOrder_196 rfl rfl ⟨_, rfl, by rw [e]; rfl, ⟨_, by rw [e]; exact F5, fun j hj => by rw [upd_ne (by omega)]; exact q1 j hj, fun q => by rw [e] at q; cases q⟩, z25⟩ | exact Rn.ireturn dX9_isOrder_196 rfl rfl ⟨_, rfl, by rw [e]; rfl, ⟨_, by rw [e]; exact F5, fun j hj => by rw [upd_ne (by omega), upd_ne (by omega)]; exact q1 j hj, fun _ => ⟨by rw [upd_ne (by omega), upd_ne (by omega)]; exact q0, fun _ => by rw [e, upd_ne (by omega), upd_at rfl], fun _ => by rw [e, upd_at rfl]⟩⟩, z25⟩
  · obtain ⟨x, q, n1, F3⟩ : ∃ x q, numV pd padded (at_ + 1) = some (x, q) ∧ MR μ168 m f f2 p kept sl u pd padded q (upd od1 (3 * ordered + 1) (nI x)) ordered := by
      rcases h3 with ⟨n1, n2, F3⟩ | ⟨x, q, n1, n2, F3⟩
      · exact absurd n2 c171
      · exact ⟨x, q, n1, F3⟩
    have nle := numV_le n1
    have hO3 := F3.1
    simp only [n1] at e
    refine Rn.aload_n (pc1 := 175)  dX9_isOrder_174 rfl rfl rfl ?_
    refine Rn.bipush (pc1 := 177) (v := nI 61) dX9_isOrder_175 rfl (by decide) ?_
    refine Rn.cV_i (pc1 := 180) (eX9_isSign (c := 61) F3 ho (by omega) (by omega) (by have := ho.1; omega)) dX9_isOrder_177 rfl qX9_169 oX9_isSign (by first | assumption | exact mset_same | exact mget_ne (by omega) (by assumption)) rfl rfl rfl rfl (Nat.le_of_ble_eq_true rfl) (by decide) (by decide) (fun v177 μ177 h177 => ?_)
    obtain ⟨h4, z4⟩ := h177
    have z24 := z23.trans z4
    refine Rn.if_eq (pc1 := 183) 195 dX9_isOrder_180 rfl (by decide) (fun c180 => ?_) (fun c180 => ?_)
    · obtain ⟨n2, F4⟩ : ¬ sgn pd padded q = 61 ∧ MR μ177 m f f2 p kept sl u pd padded q (upd od1 (3 * ordered + 1) (nI x)) ordered := by
        rcases h4 with ⟨n1, n2, F3⟩ | ⟨n1, n2, F3⟩
        · rw [n2] at c180; exact absurd c180 (by decide)
        · exact ⟨n1, F3⟩
      rw [if_neg n2] at e
      refine Rn.iconst (pc1 := 196) (v := nI 0) dX9_isOrder_195 rfl (by decide) ?_
      first | exact Rn.ireturn dX9_isOrder_196 rfl rfl ⟨_, rfl, by rw [e]; rfl, ⟨_, by rw [e]; exact F3, q1, fun q => by rw [e] at q; cases q⟩, z23⟩ | exact Rn.ireturn dX9_isOrder_196 rfl rfl ⟨_, rfl, by rw [e]; rfl, ⟨_, by rw [e]; exact F4, fun j hj => by rw [upd_ne (by omega)]; exact q1 j hj, fun q => by rw [e] at q; cases q⟩, z24⟩ | exact Rn.ireturn dX9_isOrder_196 rfl rfl ⟨_, rfl, by rw [e]; rfl, ⟨_, by rw [e]; exact F5, fun j hj => by rw [upd_ne (by omega)]; exact q1 j hj, fun q => by rw [e] at q; cases q⟩, z25⟩ | exact Rn.ireturn dX9_isOrder_196 rfl rfl ⟨_, rfl, by rw [e]; rfl, ⟨_, by rw [e]; exact F5, fun j hj => by rw [upd_ne (by omega), upd_ne (by omega)]; exact q1 j hj, fun _ => ⟨by rw [upd_ne (by omega), upd_ne (by omega)]; exact q0, fun _ => by rw [e, upd_ne (by omega), upd_at rfl], fun _ => by rw [e, upd_at rfl]⟩⟩, z25⟩
    · obtain ⟨n2, F4⟩ : sgn pd padded q = 61 ∧ MR μ177 m f f2 p kept sl u pd padded (q + 1) (upd od1 (3 * ordered + 1) (nI x)) ordered := by
        rcases h4 with ⟨n1, n2, F3⟩ | ⟨n1, n2, F3⟩
        · exact ⟨n1, F3⟩
        · exact absurd n2 c180
      rw [if_pos n2] at e
      have hO4 := F4.1
      refine Rn.aload_n (pc1 := 184)  dX9_isOrder_183 rfl rfl rfl ?_
      refine Rn.iconst (pc1 := 185) (v := nI 2) dX9_isOrder_184 rfl (by decide) ?_
      refine Rn.cV_i (pc1 := 188) (eX9_isNumber F4 ho (by omega) hr (by have := ho.1; omega)) dX9_isOrder_185 rfl qX9_166 oX9_isNumber (by first | assumption | exact mset_same | exact mget_ne (by omega) (by assumption)) rfl rfl rfl rfl (Nat.le_of_ble_eq_true rfl) (by decide) (by decide) (fun v185 μ185 h185 => ?_)
      obtain ⟨h5, z5⟩ := h185
      have z25 := z24.trans z5
      refine Rn.if_eq (pc1 := 191) 195 dX9_isOrder_188 rfl (by decide) (fun c188 => ?_) (fun c188 => ?_)
      · obtain ⟨n3, F5⟩ : numV pd padded (q + 1) = none ∧ MR μ185 m f f2 p kept sl u pd padded (q + 1) (upd od1 (3 * ordered + 1) (nI x)) ordered := by
          rcases h5 with ⟨n1, n2, F3⟩ | ⟨y, q', n1, n2, F3⟩
          · exact ⟨n1, F3⟩
          · rw [n2] at c188; exact absurd c188 (by decide)
        simp only [n3] at e
        refine Rn.iconst (pc1 := 196) (v := nI 0) dX9_isOrder_195 rfl (by decide) ?_
        first | exact Rn.ireturn dX9_isOrder_196 rfl rfl ⟨_, rfl, by rw [e]; rfl, ⟨_, by rw [e]; exact F3, q1, fun q => by rw [e] at q; cases q⟩, z23⟩ | exact Rn.ireturn dX9_isOrder_196 rfl rfl ⟨_, rfl, by rw [e]; rfl, ⟨_, by rw [e]; exact F4, fun j hj => by rw [upd_ne (by omega)]; exact q1 j hj, fun q => by rw [e] at q; cases q⟩, z24⟩ | exact Rn.ireturn dX9_isOrder_196 rfl rfl ⟨_, rfl, by rw [e]; rfl, ⟨_, by rw [e]; exact F5, fun j hj => by rw [upd_ne (by omega)]; exact q1 j hj, fun q => by rw [e] at q; cases q⟩, z25⟩ | exact Rn.ireturn dX9_isOrder_196 rfl rfl ⟨_, rfl, by rw [e]; rfl, ⟨_, by rw [e]; exact F5, fun j hj => by rw [upd_ne (by omega), upd_ne (by omega)]; exact q1 j hj, fun _ => ⟨by rw [upd_ne (by omega), upd_ne (by omega)]; exact q0, fun _ => by rw [e, upd_ne (by omega), upd_at rfl], fun _ => by rw [e, upd_at rfl]⟩⟩, z25⟩
      · obtain ⟨y, q2, n3, F5⟩ : ∃ y q2, numV pd padded (q + 1) = some (y, q2) ∧ MR μ185 m f f2 p kept sl u pd padded q2 (upd (upd od1 (3 * ordered + 1) (nI x)) (3 * ordered + 2) (nI y)) ordered := by
          rcases h5 with ⟨n1, n2, F3⟩ | ⟨y, q', n1, n2, F3⟩
          · exact absurd n2 c188
          · exact ⟨y, q', n1, F3⟩
        simp only [n3] at e
        refine Rn.iconst (pc1 := 192) (v := nI 1) dX9_isOrder_191 rfl (by decide) ?_
        refine Rn.goto 196 dX9_isOrder_192 (by decide) ?_
        first | exact Rn.ireturn dX9_isOrder_196 rfl rfl ⟨_, rfl, by rw [e]; rfl, ⟨_, by rw [e]; exact F3, q1, fun q => by rw [e] at q; cases q⟩, z23⟩ | exact Rn.ireturn dX9_isOrder_196 rfl rfl ⟨_, rfl, by rw [e]; rfl, ⟨_, by rw [e]; exact F4, fun j hj => by rw [upd_ne (by omega)]; exact q1 j hj, fun q => by rw [e] at q; cases q⟩, z24⟩ | exact Rn.ireturn dX9_isOrder_196 rfl rfl ⟨_, rfl, by rw [e]; rfl, ⟨_, by rw [e]; exact F5, fun j hj => by rw [upd_ne (by omega)]; exact q1 j hj, fun q => by rw [e] at q; cases q⟩, z25⟩ | exact Rn.ireturn dX9_isOrder_196 rfl rfl ⟨_, rfl, by rw [e]; rfl, ⟨_, by rw [e]; exact F5, fun j hj => by rw [upd_ne (by omega), upd_ne (by omega)]; exact q1 j hj, fun _ => ⟨by rw [upd_ne (by omega), upd_ne (by omega)]; exact q0, fun _ => by rw [e, upd_ne (by omega), upd_at rfl], fun _ => by rw [e, upd_at rfl]⟩⟩, z25⟩
theorem lO213 {μ1 : Mm} {od1 : Nat → Int32} {o1 : Option Value} (ho : PadOk pd padded) (hr : ordered ≤ 40) (F1 : MR μ1 m f f2 p kept sl u pd padded at_ od1 ordered) (z1 : Fr m (m + 8) μ μ1) (h4 : at_ < 2 ^ 20) (k : kindF (sgn pd padded at_) = 5) (q0 : od1 (3 * ordered) = nI (sgn pd padded at_)) (q1 : ∀ j, j < 3 * ordered → od1 j = od j) : Rn G 3 kX9_isOrder 213 [some (.ref m), o1] [] μ1 sz 0 0 (QO9 m f f2 p kept sl u pd padded at_ od ordered μ) := by
  have e : ordV pd padded at_ = (match digV pd padded (at_ + 1) 5 with
    | none => (false, at_ + 1, 0, 0)
    | some d => if sgn pd padded (at_ + 2) = 42 then (match numV pd padded (at_ + 3) with
      | none => (false, at_ + 3, d, 0)
      | some (w, q2) => (true, q2, d, w)) else (false, at_ + 2, d, 0)) := by unfold ordV; rw [k]; rfl
  have hO := F1.1
  refine Rn.aload_n (pc1 := 214)  dX9_isOrder_213 rfl rfl rfl ?_
  refine Rn.dup (pc1 := 215)  dX9_isOrder_214 rfl rfl ?_
  refine Rn.getfield (pc1 := 218)  dX9_isOrder_215 rfl fX9_156 (by first | assumption | exact mset_same | exact mget_ne (by omega) (by assumption)) rfl ?_
  refine Rn.iconst (pc1 := 219) (v := nI 1) dX9_isOrder_218 rfl (by decide) ?_
  refine Rn.iadd (pc1 := 220)  dX9_isOrder_219 rfl (nI_add at_ 1) ?_
  refine Rn.putfield (pc1 := 223)  dX9_isOrder_220 rfl pX9_156 (fun h => Bool.noConfusion h) (by first | assumption | exact mset_same | exact mget_ne (by omega) (by assumption)) (Nat.le_of_ble_eq_true rfl) rfl rfl rfl ?_
  have F2 := F1.setO kept padded (at_ + 1) ordered rfl
  have z2 := z1.set_ (q := m) (c := obj 9 [.ref (m + 1), .ref (m + 2), .ref (m + 3), .int (nI kept), .ref (m + 4), .ref (m + 5), .ref (m + 6), .int (nI padded), .int (nI (at_ + 1)), .ref (m + 7), .int (nI ordered)]) (by omega) (by omega)
  have hO2 := F2.1
  refine Rn.aload_n (pc1 := 224)  dX9_isOrder_223 rfl rfl rfl ?_
  refine Rn.iconst (pc1 := 225) (v := nI 1) dX9_isOrder_224 rfl (by decide) ?_
  refine Rn.bipush (pc1 := 227) (v := nI 53) dX9_isOrder_225 rfl (by decide) ?_
  refine Rn.cV_i (pc1 := 230) (eX9_isDigit (k := 5) F2 ho (by omega) (by omega) hr (by omega)) dX9_isOrder_227 rfl qX9_172 oX9_isDigit (by first | assumption | exact mset_same | exact mget_ne (by omega) (by assumption)) rfl rfl rfl rfl (Nat.le_of_ble_eq_true rfl) (by decide) (by decide) (fun v227 μ227 h227 => ?_)
  obtain ⟨h3, z3⟩ := h227
  have z23 := z2.trans z3
  refine Rn.if_eq (pc1 := 233) 254 dX9_isOrder_230 rfl (by decide) (fun c230 => ?_) (fun c230 => ?_)
  · obtain ⟨n1, F3⟩ : digV pd padded (at_ + 1) 5 = none ∧ MR μ227 m f f2 p kept sl u pd padded (at_ + 1) od1 ordered := by
      rcases h3 with ⟨n1, n2, F3⟩ | ⟨x, n1, n2, F3⟩
      · exact ⟨n1, F3⟩
      · rw [n2] at c230; exact absurd c230 (by decide)
    rw [n1] at e
    refine Rn.iconst (pc1 := 255) (v := nI 0) dX9_isOrder_254 rfl (by decide) ?_
    first | exact Rn.ireturn dX9_isOrder_255 rfl rfl ⟨_, rfl, by rw [e]; rfl, ⟨_, by rw [e]; exact F3, q1, fun q => by rw [e] at q; cases q⟩, z23⟩ | exact Rn.ireturn dX9_isOrder_255 rfl rfl ⟨_, rfl, by rw [e]; rfl, ⟨_, by rw [e]; exact F4, fun j hj => by rw [upd_ne (by omega)]; exact q1 j hj, fun q => by rw [e] at q; cases q⟩, z24⟩ | exact Rn.ireturn dX9_isOrder_255 rfl rfl ⟨_, rfl, by rw [e]; rfl, ⟨_, by rw [e]; exact F5, fun j hj => by rw [upd_ne (by omega)]; exact q1 j hj, fun q => by rw [e] at q; cases q⟩, z25⟩ | exact Rn.ireturn dX9_isOrder_255 rfl rfl ⟨_, rfl, by rw [e]; rfl, ⟨_, by rw [e]; exact F5, fun j hj => by rw [upd_ne (by omega), upd_ne (by omega)]; exact q1 j hj, fun _ => ⟨by rw [upd_ne (by omega), upd_ne (by omega)]; exact q0, fun _ => by rw [e, upd_ne (by omega), upd_at rfl], fun _ => by rw [e, upd_at rfl]⟩⟩, z25⟩
  · obtain ⟨x, n1, F3⟩ : ∃ x, digV pd padded (at_ + 1) 5 = some x ∧ MR μ227 m f f2 p kept sl u pd padded (at_ + 2) (upd od1 (3 * ordered + 1) (nI x)) ordered := by
      rcases h3 with ⟨n1, n2, F3⟩ | ⟨x, n1, n2, F3⟩
      · exact absurd n2 c230
      · exact ⟨x, n1, F3⟩
    have hO3 := F3.1
    simp only [n1] at e
    refine Rn.aload_n (pc1 := 234)  dX9_isOrder_233 rfl rfl rfl ?_
    refine Rn.bipush (pc1 := 236) (v := nI 42) dX9_isOrder_234 rfl (by decide) ?_
    refine Rn.cV_i (pc1 := 239) (eX9_isSign (c := 42) F3 ho (by omega) (by omega) (by omega)) dX9_isOrder_236 rfl qX9_169 oX9_isSign (by first | assumption | exact mset_same | exact mget_ne (by omega) (by assumption)) rfl rfl rfl rfl (Nat.le_of_ble_eq_true rfl) (by decide) (by decide) (fun v236 μ236 h236 => ?_)
    obtain ⟨h4, z4⟩ := h236
    have z24 := z23.trans z4
    refine Rn.if_eq (pc1 := 242) 254 dX9_isOrder_239 rfl (by decide) (fun c239 => ?_) (fun c239 => ?_)
    · obtain ⟨n2, F4⟩ : ¬ sgn pd padded (at_ + 2) = 42 ∧ MR μ236 m f f2 p kept sl u pd padded (at_ + 2) (upd od1 (3 * ordered + 1) (nI x)) ordered := by
        rcases h4 with ⟨n1, n2, F3⟩ | ⟨n1, n2, F3⟩
        · rw [n2] at c239; exact absurd c239 (by decide)
        · exact ⟨n1, F3⟩
      rw [if_neg n2] at e
      refine Rn.iconst (pc1 := 255) (v := nI 0) dX9_isOrder_254 rfl (by decide) ?_
      first | exact Rn.ireturn dX9_isOrder_255 rfl rfl ⟨_, rfl, by rw [e]; rfl, ⟨_, by rw [e]; exact F3, q1, fun q => by rw [e] at q; cases q⟩, z23⟩ | exact Rn.ireturn dX9_isOrder_255 rfl rfl ⟨_, rfl, by rw [e]; rfl, ⟨_, by rw [e]; exact F4, fun j hj => by rw [upd_ne (by omega)]; exact q1 j hj, fun q => by rw [e] at q; cases q⟩, z24⟩ | exact Rn.ireturn dX9_isOrder_255 rfl rfl ⟨_, rfl, by rw [e]; rfl, ⟨_, by rw [e]; exact F5, fun j hj => by rw [upd_ne (by omega)]; exact q1 j hj, fun q => by rw [e] at q; cases q⟩, z25⟩ | exact Rn.ireturn dX9_isOrder_255 rfl rfl ⟨_, rfl, by rw [e]; rfl, ⟨_, by rw [e]; exact F5, fun j hj => by rw [upd_ne (by omega), upd_ne (by omega)]; exact q1 j hj, fun _ => ⟨by rw [upd_ne (by omega), upd_ne (by omega)]; exact q0, fun _ => by rw [e, upd_ne (by omega), upd_at rfl], fun _ => by rw [e, upd_at rfl]⟩⟩, z25⟩
    · obtain ⟨n2, F4⟩ : sgn pd padded (at_ + 2) = 42 ∧ MR μ236 m f f2 p kept sl u pd padded (at_ + 3) (upd od1 (3 * ordered + 1) (nI x)) ordered := by
        rcases h4 with ⟨n1, n2, F3⟩ | ⟨n1, n2, F3⟩
        · exact ⟨n1, F3⟩
        · exact absurd n2 c239
      rw [if_pos n2] at e
      have hO4 := F4.1
      refine Rn.aload_n (pc1 := 243)  dX9_isOrder_242 rfl rfl rfl ?_
      refine Rn.iconst (pc1 := 244) (v := nI 2) dX9_isOrder_243 rfl (by decide) ?_
      refine Rn.cV_i (pc1 := 247) (eX9_isNumber F4 ho (by omega) hr (by omega)) dX9_isOrder_244 rfl qX9_166 oX9_isNumber (by first | assumption | exact mset_same | exact mget_ne (by omega) (by assumption)) rfl rfl rfl rfl (Nat.le_of_ble_eq_true rfl) (by decide) (by decide) (fun v244 μ244 h244 => ?_)
      obtain ⟨h5, z5⟩ := h244
      have z25 := z24.trans z5
      refine Rn.if_eq (pc1 := 250) 254 dX9_isOrder_247 rfl (by decide) (fun c247 => ?_) (fun c247 => ?_)
      · obtain ⟨n3, F5⟩ : numV pd padded (at_ + 3) = none ∧ MR μ244 m f f2 p kept sl u pd padded (at_ + 3) (upd od1 (3 * ordered + 1) (nI x)) ordered := by
          rcases h5 with ⟨n1, n2, F3⟩ | ⟨y, q', n1, n2, F3⟩
          · exact ⟨n1, F3⟩
          · rw [n2] at c247; exact absurd c247 (by decide)
        simp only [n3] at e
        refine Rn.iconst (pc1 := 255) (v := nI 0) dX9_isOrder_254 rfl (by decide) ?_
        first | exact Rn.ireturn dX9_isOrder_255 rfl rfl ⟨_, rfl, by rw [e]; rfl, ⟨_, by rw [e]; exact F3, q1, fun q => by rw [e] at q; cases q⟩, z23⟩ | exact Rn.ireturn dX9_isOrder_255 rfl rfl ⟨_, rfl, by rw [e]; rfl, ⟨_, by rw [e]; exact F4, fun j hj => by rw [upd_ne (by omega)]; exact q1 j hj, fun q => by rw [e] at q; cases q⟩, z24⟩ | exact Rn.ireturn dX9_isOrder_255 rfl rfl ⟨_, rfl, by rw [e]; rfl, ⟨_, by rw [e]; exact F5, fun j hj => by rw [upd_ne (by omega)]; exact q1 j hj, fun q => by rw [e] at q; cases q⟩, z25⟩ | exact Rn.ireturn dX9_isOrder_255 rfl rfl ⟨_, rfl, by rw [e]; rfl, ⟨_, by rw [e]; exact F5, fun j hj => by rw [upd_ne (by omega), upd_ne (by omega)]; exact q1 j hj, fun _ => ⟨by rw [upd_ne (by omega), upd_ne (by omega)]; exact q0, fun _ => by rw [e, upd_ne (by omega), upd_at rfl], fun _ => by rw [e, upd_at rfl]⟩⟩, z25⟩
      · obtain ⟨y, q2, n3, F5⟩ : ∃ y q2, numV pd padded (at_ + 3) = some (y, q2) ∧ MR μ244 m f f2 p kept sl u pd padded q2 (upd (upd od1 (3 * ordered + 1) (nI x)) (3 * ordered + 2) (nI y)) ordered := by
          rcases h5 with ⟨n1, n2, F3⟩ | ⟨y, q', n1, n2, F3⟩
          · exact absurd n2 c247
          · exact ⟨y, q', n1, F3⟩
        simp only [n3] at e
        refine Rn.iconst (pc1 := 251) (v := nI 1) dX9_isOrder_250 rfl (by decide) ?_
        refine Rn.goto 255 dX9_isOrder_251 (by decide) ?_
        first | exact Rn.ireturn dX9_isOrder_255 rfl rfl ⟨_, rfl, by rw [e]; rfl, ⟨_, by rw [e]; exact F3, q1, fun q => by rw [e] at q; cases q⟩, z23⟩ | exact Rn.ireturn dX9_isOrder_255 rfl rfl ⟨_, rfl, by rw [e]; rfl, ⟨_, by rw [e]; exact F4, fun j hj => by rw [upd_ne (by omega)]; exact q1 j hj, fun q => by rw [e] at q; cases q⟩, z24⟩ | exact Rn.ireturn dX9_isOrder_255 rfl rfl ⟨_, rfl, by rw [e]; rfl, ⟨_, by rw [e]; exact F5, fun j hj => by rw [upd_ne (by omega)]; exact q1 j hj, fun q => by rw [e] at q; cases q⟩, z25⟩ | exact Rn.ireturn dX9_isOrder_255 rfl rfl ⟨_, rfl, by rw [e]; rfl, ⟨_, by rw [e]; exact F5, fun j hj => by rw [upd_ne (by omega), upd_ne (by omega)]; exact q1 j hj, fun _ => ⟨by rw [upd_ne (by omega), upd_ne (by omega)]; exact q0, fun _ => by rw [e, upd_ne (by omega), upd_at rfl], fun _ => by rw [e, upd_at rfl]⟩⟩, z25⟩
theorem lO274 {μ1 : Mm} {od1 : Nat → Int32} {o1 : Option Value} (ho : PadOk pd padded) (hr : ordered ≤ 40) (F1 : MR μ1 m f f2 p kept sl u pd padded at_ od1 ordered) (z1 : Fr m (m + 8) μ μ1) (h4 : at_ < 2 ^ 20) (k : kindF (sgn pd padded at_) = 6) (q0 : od1 (3 * ordered) = nI (sgn pd padded at_)) (q1 : ∀ j, j < 3 * ordered → od1 j = od j) : Rn G 3 kX9_isOrder 274 [some (.ref m), o1] [] μ1 sz 0 0 (QO9 m f f2 p kept sl u pd padded at_ od ordered μ) := by
  have e : ordV pd padded at_ = (match digV pd padded (at_ + 1) 5 with
    | none => (false, at_ + 1, 0, 0)
    | some d => if sgn pd padded (at_ + 2) = 64 then (match digV pd padded (at_ + 3) 9 with
      | none => (false, at_ + 3, d, 0)
      | some e => (true, at_ + 4, d, e)) else (false, at_ + 2, d, 0)) := by unfold ordV; rw [k]; rfl
  have hO := F1.1
  refine Rn.aload_n (pc1 := 275)  dX9_isOrder_274 rfl rfl rfl ?_
  refine Rn.dup (pc1 := 276)  dX9_isOrder_275 rfl rfl ?_
  refine Rn.getfield (pc1 := 279)  dX9_isOrder_276 rfl fX9_156 (by first | assumption | exact mset_same | exact mget_ne (by omega) (by assumption)) rfl ?_
  refine Rn.iconst (pc1 := 280) (v := nI 1) dX9_isOrder_279 rfl (by decide) ?_
  refine Rn.iadd (pc1 := 281)  dX9_isOrder_280 rfl (nI_add at_ 1) ?_
  refine Rn.putfield (pc1 := 284)  dX9_isOrder_281 rfl pX9_156 (fun h => Bool.noConfusion h) (by first | assumption | exact mset_same | exact mget_ne (by omega) (by assumption)) (Nat.le_of_ble_eq_true rfl) rfl rfl rfl ?_
  have F2 := F1.setO kept padded (at_ + 1) ordered rfl
  have z2 := z1.set_ (q := m) (c := obj 9 [.ref (m + 1), .ref (m + 2), .ref (m + 3), .int (nI kept), .ref (m + 4), .ref (m + 5), .ref (m + 6), .int (nI padded), .int (nI (at_ + 1)), .ref (m + 7), .int (nI ordered)]) (by omega) (by omega)
  have hO2 := F2.1
  refine Rn.aload_n (pc1 := 285)  dX9_isOrder_284 rfl rfl rfl ?_
  refine Rn.iconst (pc1 := 286) (v := nI 1) dX9_isOrder_285 rfl (by decide) ?_
  refine Rn.bipush (pc1 := 288) (v := nI 53) dX9_isOrder_286 rfl (by decide) ?_
  refine Rn.cV_i (pc1 := 291) (eX9_isDigit (k := 5) F2 ho (by omega) (by omega) hr (by omega)) dX9_isOrder_288 rfl qX9_172 oX9_isDigit (by first | assumption | exact mset_same | exact mget_ne (by omega) (by assumption)) rfl rfl rfl rfl (Nat.le_of_ble_eq_true rfl) (by decide) (by decide) (fun v288 μ288 h288 => ?_)
  obtain ⟨h3, z3⟩ := h288
  have z23 := z2.trans z3
  refine Rn.if_eq (pc1 := 294) 317 dX9_isOrder_291 rfl (by decide) (fun c291 => ?_) (fun c291 => ?_)
  · obtain ⟨n1, F3⟩ : digV pd padded (at_ + 1) 5 = none ∧ MR μ288 m f f2 p kept sl u pd padded (at_ + 1) od1 ordered := by
      rcases h3 with ⟨n1, n2, F3⟩ | ⟨x, n1, n2, F3⟩
      · exact ⟨n1, F3⟩
      · rw [n2] at c291; exact absurd c291 (by decide)
    rw [n1] at e
    refine Rn.iconst (pc1 := 318) (v := nI 0) dX9_isOrder_317 rfl (by decide) ?_
    first | exact Rn.ireturn dX9_isOrder_318 rfl rfl ⟨_, rfl, by rw [e]; rfl, ⟨_, by rw [e]; exact F3, q1, fun q => by rw [e] at q; cases q⟩, z23⟩ | exact Rn.ireturn dX9_isOrder_318 rfl rfl ⟨_, rfl, by rw [e]; rfl, ⟨_, by rw [e]; exact F4, fun j hj => by rw [upd_ne (by omega)]; exact q1 j hj, fun q => by rw [e] at q; cases q⟩, z24⟩ | exact Rn.ireturn dX9_isOrder_318 rfl rfl ⟨_, rfl, by rw [e]; rfl, ⟨_, by rw [e]; exact F5, fun j hj => by rw [upd_ne (by omega)]; exact q1 j hj, fun q => by rw [e] at q; cases q⟩, z25⟩ | exact Rn.ireturn dX9_isOrder_318 rfl rfl ⟨_, rfl, by rw [e]; rfl, ⟨_, by rw [e]; exact F5, fun j hj => by rw [upd_ne (by omega), upd_ne (by omega)]; exact q1 j hj, fun _ => ⟨by rw [upd_ne (by omega), upd_ne (by omega)]; exact q0, fun _ => by rw [e, upd_ne (by omega), upd_at rfl], fun _ => by rw [e, upd_at rfl]⟩⟩, z25⟩
  · obtain ⟨x, n1, F3⟩ : ∃ x, digV pd padded (at_ + 1) 5 = some x ∧ MR μ288 m f f2 p kept sl u pd padded (at_ + 2) (upd od1 (3 * ordered + 1) (nI x)) ordered := by
      rcases h3 with ⟨n1, n2, F3⟩ | ⟨x, n1, n2, F3⟩
      · exact absurd n2 c291
      · exact ⟨x, n1, F3⟩
    have hO3 := F3.1
    simp only [n1] at e
    refine Rn.aload_n (pc1 := 295)  dX9_isOrder_294 rfl rfl rfl ?_
    refine Rn.bipush (pc1 := 297) (v := nI 64) dX9_isOrder_295 rfl (by decide) ?_
    refine Rn.cV_i (pc1 := 300) (eX9_isSign (c := 64) F3 ho (by omega) (by omega) (by omega)) dX9_isOrder_297 rfl qX9_169 oX9_isSign (by first | assumption | exact mset_same | exact mget_ne (by omega) (by assumption)) rfl rfl rfl rfl (Nat.le_of_ble_eq_true rfl) (by decide) (by decide) (fun v297 μ297 h297 => ?_)
    obtain ⟨h4, z4⟩ := h297
    have z24 := z23.trans z4
    refine Rn.if_eq (pc1 := 303) 317 dX9_isOrder_300 rfl (by decide) (fun c300 => ?_) (fun c300 => ?_)
    · obtain ⟨n2, F4⟩ : ¬ sgn pd padded (at_ + 2) = 64 ∧ MR μ297 m f f2 p kept sl u pd padded (at_ + 2) (upd od1 (3 * ordered + 1) (nI x)) ordered := by
        rcases h4 with ⟨n1, n2, F3⟩ | ⟨n1, n2, F3⟩
        · rw [n2] at c300; exact absurd c300 (by decide)
        · exact ⟨n1, F3⟩
      rw [if_neg n2] at e
      refine Rn.iconst (pc1 := 318) (v := nI 0) dX9_isOrder_317 rfl (by decide) ?_
      first | exact Rn.ireturn dX9_isOrder_318 rfl rfl ⟨_, rfl, by rw [e]; rfl, ⟨_, by rw [e]; exact F3, q1, fun q => by rw [e] at q; cases q⟩, z23⟩ | exact Rn.ireturn dX9_isOrder_318 rfl rfl ⟨_, rfl, by rw [e]; rfl, ⟨_, by rw [e]; exact F4, fun j hj => by rw [upd_ne (by omega)]; exact q1 j hj, fun q => by rw [e] at q; cases q⟩, z24⟩ | exact Rn.ireturn dX9_isOrder_318 rfl rfl ⟨_, rfl, by rw [e]; rfl, ⟨_, by rw [e]; exact F5, fun j hj => by rw [upd_ne (by omega)]; exact q1 j hj, fun q => by rw [e] at q; cases q⟩, z25⟩ | exact Rn.ireturn dX9_isOrder_318 rfl rfl ⟨_, rfl, by rw [e]; rfl, ⟨_, by rw [e]; exact F5, fun j hj => by rw [upd_ne (by omega), upd_ne (by omega)]; exact q1 j hj, fun _ => ⟨by rw [upd_ne (by omega), upd_ne (by omega)]; exact q0, fun _ => by rw [e, upd_ne (by omega), upd_at rfl], fun _ => by rw [e, upd_at rfl]⟩⟩, z25⟩
    · obtain ⟨n2, F4⟩ : sgn pd padded (at_ + 2) = 64 ∧ MR μ297 m f f2 p kept sl u pd padded (at_ + 3) (upd od1 (3 * ordered + 1) (nI x)) ordered := by
        rcases h4 with ⟨n1, n2, F3⟩ | ⟨n1, n2, F3⟩
        · exact ⟨n1, F3⟩
        · exact absurd n2 c300
      rw [if_pos n2] at e
      have hO4 := F4.1
      refine Rn.aload_n (pc1 := 304)  dX9_isOrder_303 rfl rfl rfl ?_
      refine Rn.iconst (pc1 := 305) (v := nI 2) dX9_isOrder_304 rfl (by decide) ?_
      refine Rn.bipush (pc1 := 307) (v := nI 57) dX9_isOrder_305 rfl (by decide) ?_
      refine Rn.cV_i (pc1 := 310) (eX9_isDigit (k := 9) F4 ho (by omega) (by omega) hr (by omega)) dX9_isOrder_307 rfl qX9_172 oX9_isDigit (by first | assumption | exact mset_same | exact mget_ne (by omega) (by assumption)) rfl rfl rfl rfl (Nat.le_of_ble_eq_true rfl) (by decide) (by decide) (fun v307 μ307 h307 => ?_)
      obtain ⟨h5, z5⟩ := h307
      have z25 := z24.trans z5
      refine Rn.if_eq (pc1 := 313) 317 dX9_isOrder_310 rfl (by decide) (fun c310 => ?_) (fun c310 => ?_)
      · obtain ⟨n3, F5⟩ : digV pd padded (at_ + 3) 9 = none ∧ MR μ307 m f f2 p kept sl u pd padded (at_ + 3) (upd od1 (3 * ordered + 1) (nI x)) ordered := by
          rcases h5 with ⟨n1, n2, F3⟩ | ⟨y, n1, n2, F3⟩
          · exact ⟨n1, F3⟩
          · rw [n2] at c310; exact absurd c310 (by decide)
        simp only [n3] at e
        refine Rn.iconst (pc1 := 318) (v := nI 0) dX9_isOrder_317 rfl (by decide) ?_
        first | exact Rn.ireturn dX9_isOrder_318 rfl rfl ⟨_, rfl, by rw [e]; rfl, ⟨_, by rw [e]; exact F3, q1, fun q => by rw [e] at q; cases q⟩, z23⟩ | exact Rn.ireturn dX9_isOrder_318 rfl rfl ⟨_, rfl, by rw [e]; rfl, ⟨_, by rw [e]; exact F4, fun j hj => by rw [upd_ne (by omega)]; exact q1 j hj, fun q => by rw [e] at q; cases q⟩, z24⟩ | exact Rn.ireturn dX9_isOrder_318 rfl rfl ⟨_, rfl, by rw [e]; rfl, ⟨_, by rw [e]; exact F5, fun j hj => by rw [upd_ne (by omega)]; exact q1 j hj, fun q => by rw [e] at q; cases q⟩, z25⟩ | exact Rn.ireturn dX9_isOrder_318 rfl rfl ⟨_, rfl, by rw [e]; rfl, ⟨_, by rw [e]; exact F5, fun j hj => by rw [upd_ne (by omega), upd_ne (by omega)]; exact q1 j hj, fun _ => ⟨by rw [upd_ne (by omega), upd_ne (by omega)]; exact q0, fun _ => by rw [e, upd_ne (by omega), upd_at rfl], fun _ => by rw [e, upd_at rfl]⟩⟩, z25⟩
      · obtain ⟨y, n3, F5⟩ : ∃ y, digV pd padded (at_ + 3) 9 = some y ∧ MR μ307 m f f2 p kept sl u pd padded (at_ + 4) (upd (upd od1 (3 * ordered + 1) (nI x)) (3 * ordered + 2) (nI y)) ordered := by
          rcases h5 with ⟨n1, n2, F3⟩ | ⟨y, n1, n2, F3⟩
          · exact absurd n2 c310
          · exact ⟨y, n1, F3⟩
        simp only [n3] at e
        refine Rn.iconst (pc1 := 314) (v := nI 1) dX9_isOrder_313 rfl (by decide) ?_
        refine Rn.goto 318 dX9_isOrder_314 (by decide) ?_
        first | exact Rn.ireturn dX9_isOrder_318 rfl rfl ⟨_, rfl, by rw [e]; rfl, ⟨_, by rw [e]; exact F3, q1, fun q => by rw [e] at q; cases q⟩, z23⟩ | exact Rn.ireturn dX9_isOrder_318 rfl rfl ⟨_, rfl, by rw [e]; rfl, ⟨_, by rw [e]; exact F4, fun j hj => by rw [upd_ne (by omega)]; exact q1 j hj, fun q => by rw [e] at q; cases q⟩, z24⟩ | exact Rn.ireturn dX9_isOrder_318 rfl rfl ⟨_, rfl, by rw [e]; rfl, ⟨_, by rw [e]; exact F5, fun j hj => by rw [upd_ne (by omega)]; exact q1 j hj, fun q => by rw [e] at q; cases q⟩, z25⟩ | exact Rn.ireturn dX9_isOrder_318 rfl rfl ⟨_, rfl, by rw [e]; rfl, ⟨_, by rw [e]; exact F5, fun j hj => by rw [upd_ne (by omega), upd_ne (by omega)]; exact q1 j hj, fun _ => ⟨by rw [upd_ne (by omega), upd_ne (by omega)]; exact q0, fun _ => by rw [e, upd_ne (by omega), upd_at rfl], fun _ => by rw [e, upd_at rfl]⟩⟩, z25⟩
theorem lO319 {μ1 : Mm} {od1 : Nat → Int32} {o1 : Option Value} (F1 : MR μ1 m f f2 p kept sl u pd padded at_ od1 ordered) (z1 : Fr m (m + 8) μ μ1) (k : kindF (sgn pd padded at_) = 0) (q1 : ∀ j, j < 3 * ordered → od1 j = od j) : Rn G 3 kX9_isOrder 319 [some (.ref m), o1] [] μ1 sz 0 0 (QO9 m f f2 p kept sl u pd padded at_ od ordered μ) := by
  have e : ordV pd padded at_ = (false, at_, 0, 0) := by unfold ordV; rw [k]; rfl
  refine Rn.iconst (pc1 := 320) (v := nI 0) dX9_isOrder_319 rfl (by decide) ?_
  exact Rn.ireturn dX9_isOrder_320 rfl rfl ⟨_, rfl, by rw [e]; rfl, ⟨od1, by rw [e]; exact F1, q1, fun q => by rw [e] at q; cases q⟩, z1⟩
theorem eX9_isOrder (F : MR μ m f f2 p kept sl u pd padded at_ od ordered) (ho : PadOk pd padded) (hr : ordered ≤ 40) (h4 : at_ < 2 ^ 20) : EvA G 3 kX9_isOrder [.ref m] μ sz 0 0 (QO9 m f f2 p kept sl u pd padded at_ od ordered μ) := by
  have hO := F.1
  have hp := F.2.2.2.2.2.2.1
  have hle := sgn_le (i := at_) ho
  have hpl := ho.1
  have J24 : Rn G 3 kX9_isOrder 24 [some (.ref m), none] [.int (nI (sgn pd padded at_))] μ sz 0 0 (QO9 m f f2 p kept sl u pd padded at_ od ordered μ) := by
    refine Rn.istore_n (pc1 := 25)  dX9_isOrder_24 rfl rfl (by decide) rfl rfl ?_
    refine Rn.aload_n (pc1 := 26)  dX9_isOrder_25 rfl rfl rfl ?_
    refine Rn.getfield (pc1 := 29)  dX9_isOrder_26 rfl fX9_29 (by first | assumption | exact mset_same | exact mget_ne (by omega) (by assumption)) rfl ?_
    refine Rn.iconst (pc1 := 30) (v := nI 3) dX9_isOrder_29 rfl (by decide) ?_
    refine Rn.aload_n (pc1 := 31)  dX9_isOrder_30 rfl rfl rfl ?_
    refine Rn.getfield (pc1 := 34)  dX9_isOrder_31 rfl fX9_163 (by first | assumption | exact mset_same | exact mget_ne (by omega) (by assumption)) rfl ?_
    refine Rn.imul (pc1 := 35)  dX9_isOrder_34 rfl (nI_mul 3 ordered) ?_
    refine Rn.iload_n (pc1 := 36)  dX9_isOrder_35 rfl rfl rfl ?_
    refine Rn.iastore (pc1 := 37)  dX9_isOrder_36 rfl F.2.2.2.2.2.2.2 (vp_nI (j := 3 * ordered) rfl (by omega) (by decide)) (updI (j := 3 * ordered) rfl (by omega)) ?_
    have F1 := F.set7 (upd od (3 * ordered) (nI (sgn pd padded at_)))
    have z1 : Fr m (m + 8) μ (mset μ (m + 7) (ints 123 (upd od (3 * ordered) (nI (sgn pd padded at_))))) := Fr.set (by omega) (by omega)
    have q0 : upd od (3 * ordered) (nI (sgn pd padded at_)) (3 * ordered) = nI (sgn pd padded at_) := upd_at rfl
    have q1 : ∀ j, j < 3 * ordered → upd od (3 * ordered) (nI (sgn pd padded at_)) j = od j := fun j hj => upd_ne (by omega)
    refine Rn.iload_n (pc1 := 38)  dX9_isOrder_37 rfl rfl rfl ?_
    have hle2 := hle
    have K := kind_cases (sgn pd padded at_)
    rcases K with ⟨K, k⟩ | ⟨K, k⟩ | ⟨K, k⟩ | ⟨K, k⟩ | ⟨K, k⟩ | ⟨K, k⟩ | ⟨k, K⟩
    · obtain ⟨s1, s2, s3⟩ := sw_in (c := sgn pd padded at_) (by omega) (by omega)
      refine Rn.tableIn (off := 218) 256 dX9_isOrder_38 s1 s2 (by rw [s3]; rcases K with q | q <;> (rw [q]; rfl)) (by decide) ?_
      exact lO256 ho hr F1 z1 h4 k q0 q1
    · obtain ⟨s1, s2, s3⟩ := sw_in (c := sgn pd padded at_) (by omega) (by omega)
      refine Rn.tableIn (off := 106) 144 dX9_isOrder_38 s1 s2 (by rw [s3]; rcases K with q | q | q <;> (rw [q]; rfl)) (by decide) ?_
      exact lO144 F1 z1 h4 k q0 q1
    · obtain ⟨s1, s2, s3⟩ := sw_in (c := sgn pd padded at_) (by omega) (by omega)
      refine Rn.tableIn (off := 159) 197 dX9_isOrder_38 s1 s2 (by rw [s3]; rcases K with q | q <;> (rw [q]; rfl)) (by decide) ?_
      exact lO197 ho hr F1 z1 h4 k q0 q1
    · obtain ⟨s1, s2, s3⟩ := sw_in (c := sgn pd padded at_) (by omega) (by omega)
      refine Rn.tableIn (off := 118) 156 dX9_isOrder_38 s1 s2 (by rw [s3, K]; rfl) (by decide) ?_
      exact lO156 ho hr F1 z1 h4 k q0 q1
    · obtain ⟨s1, s2, s3⟩ := sw_in (c := sgn pd padded at_) (by omega) (by omega)
      refine Rn.tableIn (off := 175) 213 dX9_isOrder_38 s1 s2 (by rw [s3, K]; rfl) (by decide) ?_
      exact lO213 ho hr F1 z1 h4 k q0 q1
    · obtain ⟨s1, s2, s3⟩ := sw_in (c := sgn pd padded at_) (by omega) (by omega)
      refine Rn.tableIn (off := 236) 274 dX9_isOrder_38 s1 s2 (by rw [s3, K]; rfl) (by decide) ?_
      exact lO274 ho hr F1 z1 h4 k q0 q1
    · by_cases hr : 98 ≤ sgn pd padded at_ ∧ sgn pd padded at_ ≤ 120
      · obtain ⟨s1, s2, s3⟩ := sw_in hr.1 hr.2
        refine Rn.tableIn (off := 281) 319 dX9_isOrder_38 s1 s2 ?_ (by decide) ?_
        · rw [s3]
          have key : (List.range 121).all (fun c => decide (c < 98) || c == 98 || c == 99 || c == 104 || c == 108 || c == 110 || c == 112 || c == 114 || c == 115 || c == 116 || c == 120 || ((#[(218 : Int), 218, 281, 281, 281, 281, 106, 281, 281, 281, 236, 281, 106, 281, 118, 281, 175, 106, 159, 281, 281, 281, 159])[c - 98]? == some 281)) = true := by decide
          have k2 := List.all_eq_true.mp key (sgn pd padded at_) (List.mem_range.mpr (by omega))
          simp only [Bool.or_eq_true, decide_eq_true_eq, beq_iff_eq] at k2
          rcases k2 with ((((((((((k2 | k2) | k2) | k2) | k2) | k2) | k2) | k2) | k2) | k2) | k2) | k2
          all_goals first | exact k2 | (exfalso; omega)
        · exact lO319 F1 z1 k q1
      · refine Rn.tableOut 319 dX9_isOrder_38 (by rw [nI_toInt (by omega)]; omega) (by decide) ?_
        exact lO319 F1 z1 k q1
  refine EvA.of (L := [some (.ref m), none]) (by decide +kernel) (Nat.le_of_ble_eq_true rfl) rfl ?_
  refine Rn.aload_n (pc1 := 1)  dX9_isOrder_0 rfl rfl rfl ?_
  refine Rn.getfield (pc1 := 4)  dX9_isOrder_1 rfl fX9_156 (by first | assumption | exact mset_same | exact mget_ne (by omega) (by assumption)) rfl ?_
  refine Rn.aload_n (pc1 := 5)  dX9_isOrder_4 rfl rfl rfl ?_
  refine Rn.getfield (pc1 := 8)  dX9_isOrder_5 rfl fX9_139 (by first | assumption | exact mset_same | exact mget_ne (by omega) (by assumption)) rfl ?_
  refine Rn.icmp_ge (pc1 := 11) 23 dX9_isOrder_8 rfl (by decide) (fun c8 => ?_) (fun c8 => ?_)
  · have e0 : nI 0 = nI (sgn pd padded at_) := by rw [sgn_out ((nI_leI (by omega) (by omega)).mp c8)]
    refine Rn.iconst (pc1 := 24) (v := nI 0) dX9_isOrder_23 rfl (by decide) ?_
    first | exact J24 | (rw [e0]; exact J24)
  · have hlt : at_ < padded := by
      rcases Nat.lt_or_ge at_ padded with z | z
      · exact z
      · exact absurd (nI_le z (by omega)) c8
    obtain ⟨s1, s2, s3⟩ := sgn_in ho hlt
    refine Rn.aload_n (pc1 := 12)  dX9_isOrder_11 rfl rfl rfl ?_
    refine Rn.getfield (pc1 := 15)  dX9_isOrder_12 rfl fX9_26 (by first | assumption | exact mset_same | exact mget_ne (by omega) (by assumption)) rfl ?_
    refine Rn.aload_n (pc1 := 16)  dX9_isOrder_15 rfl rfl rfl ?_
    refine Rn.getfield (pc1 := 19)  dX9_isOrder_16 rfl fX9_156 (by first | assumption | exact mset_same | exact mget_ne (by omega) (by assumption)) rfl ?_
    refine Rn.iaload (pc1 := 20) (v := nI (sgn pd padded at_))  dX9_isOrder_19 rfl (by assumption) (vp_nI (j := at_) rfl (by omega) (by decide)) ((gI rfl (by omega)).trans s3) ?_
    refine Rn.goto 24 dX9_isOrder_20 (by decide) ?_
    first | exact J24 | (rw [e0]; exact J24)
end M10
