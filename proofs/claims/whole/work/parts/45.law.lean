/-! ===== the law: each kind of call answers alike ===== -/
section LAW
variable {G : GG} {μ : Mm} {x m B k n sz : Nat} {sv : Nat → Int32} {Q : Option Value → Mm → Prop}
theorem lC_turn (J : JI μ x m B) (hB : B < 2 ^ 27) (hd : x + 528 ≤ m) (hk : k + 2 < n) (hn : (gS G).slots.size = n) (hn2 : n ≤ 1536) (hs : ∀ i, i < n → (gS G).slots[i]? = some (.int (sv i))) (N : ∀ μ2, JI μ2 x m (B + 100) → Rn G 9 kL_law 871 [some (.ref (gB G)), some (.ref x), some (.ref m), some (.int (nI k))] [] μ2 sz 0 0 Q) : Rn G 9 kL_law 164 [some (.ref (gB G)), some (.ref x), some (.ref m), some (.int (nI k))] [] μ sz 0 0 Q := by
  obtain ⟨f, held, p, Pp, len, u, sl, f2, at_, od, ordered, C, F⟩ := J
  have hk6 := C.held
  obtain ⟨h, rc, sc, A, I0⟩ := C.2.1
  have I : IV f (hF f) (rF f) (sF f) B := by obtain ⟨i1, i2, i3⟩ := I0.h; rw [i1, i2, i3]; exact I0
  have hOx : _ = _ := C.1
  have hOm := F.1
  refine Rn.aload_n (pc1 := 165)  dL_law_164 rfl rfl rfl ?_
  refine Rn.aload_n (pc1 := 166)  dL_law_165 rfl rfl rfl ?_
  refine Rn.iload_n (pc1 := 167)  dL_law_166 rfl rfl rfl ?_
  refine Rn.iconst (pc1 := 168) (v := nI 1) dL_law_167 rfl (by decide) ?_
  refine Rn.iadd (pc1 := 169)  dL_law_168 rfl (nI_add k 1) ?_
  refine Rn.sld (pc1 := 170) (v := sv (k + 1))  dL_law_169 rfl (vp_nI (j := k + 1) rfl (by omega) (by omega)) (by rw [nI_clamp (by omega)]; exact hs _ (by omega)) ?_
  refine Rn.aload_n (pc1 := 171)  dL_law_170 rfl rfl rfl ?_
  refine Rn.iload_n (pc1 := 172)  dL_law_171 rfl rfl rfl ?_
  refine Rn.iconst (pc1 := 173) (v := nI 2) dL_law_172 rfl (by decide) ?_
  refine Rn.iadd (pc1 := 174)  dL_law_173 rfl (nI_add k 2) ?_
  refine Rn.sld (pc1 := 175) (v := sv (k + 2))  dL_law_174 rfl (vp_nI (j := k + 2) rfl (by omega) (by omega)) (by rw [nI_clamp (by omega)]; exact hs _ (by omega)) ?_
  refine Rn.cV_i (pc1 := 178) (eX8_turn C) dL_law_175 rfl qL_13 oX8_turn (by first | assumption | exact mset_same | exact mget_ne (by omega) (by assumption)) rfl rfl rfl rfl (Nat.le_of_ble_eq_true rfl) (by decide) (by decide) (fun v175 μ175 h175 => ?_)
  have z1 := h175.2
  have F1 := F.fr z1 (by omega)
  have hOm1 := F1.1
  refine Rn.aload_n (pc1 := 179)  dL_law_178 rfl rfl rfl ?_
  refine Rn.aload_n (pc1 := 180)  dL_law_179 rfl rfl rfl ?_
  refine Rn.iload_n (pc1 := 181)  dL_law_180 rfl rfl rfl ?_
  refine Rn.iconst (pc1 := 182) (v := nI 1) dL_law_181 rfl (by decide) ?_
  refine Rn.iadd (pc1 := 183)  dL_law_182 rfl (nI_add k 1) ?_
  refine Rn.sld (pc1 := 184) (v := sv (k + 1))  dL_law_183 rfl (vp_nI (j := k + 1) rfl (by omega) (by omega)) (by rw [nI_clamp (by omega)]; exact hs _ (by omega)) ?_
  refine Rn.aload_n (pc1 := 185)  dL_law_184 rfl rfl rfl ?_
  refine Rn.iload_n (pc1 := 186)  dL_law_185 rfl rfl rfl ?_
  refine Rn.iconst (pc1 := 187) (v := nI 2) dL_law_186 rfl (by decide) ?_
  refine Rn.iadd (pc1 := 188)  dL_law_187 rfl (nI_add k 2) ?_
  refine Rn.sld (pc1 := 189) (v := sv (k + 2))  dL_law_188 rfl (vp_nI (j := k + 2) rfl (by omega) (by omega)) (by rw [nI_clamp (by omega)]; exact hs _ (by omega)) ?_
  refine Rn.cV_i (pc1 := 192) (eX9_turnS F1 hk6) dL_law_189 rfl qL_17 oX9_turn (by first | assumption | exact mset_same | exact mget_ne (by omega) (by assumption)) rfl rfl rfl rfl (Nat.le_of_ble_eq_true rfl) (by decide) (by decide) (fun v189 μ189 h189 => ?_)
  obtain ⟨ev, J2⟩ := join hd hk6 h175 (Or.inl LQ.rf) h189
  refine Rn.icmp_eq (pc1 := 195) 871 dL_law_192 rfl (by decide) (fun c192 => ?_) (fun c192 => ?_)
  · exact N _ J2
  · exact absurd ev c192
theorem lC_set (J : JI μ x m B) (hB : B < 2 ^ 27) (hd : x + 528 ≤ m) (hk : k + 2 < n) (hn : (gS G).slots.size = n) (hn2 : n ≤ 1536) (hs : ∀ i, i < n → (gS G).slots[i]? = some (.int (sv i))) (N : ∀ μ2, JI μ2 x m (B + 100) → Rn G 9 kL_law 871 [some (.ref (gB G)), some (.ref x), some (.ref m), some (.int (nI k))] [] μ2 sz 0 0 Q) : Rn G 9 kL_law 197 [some (.ref (gB G)), some (.ref x), some (.ref m), some (.int (nI k))] [] μ sz 0 0 Q := by
  obtain ⟨f, held, p, Pp, len, u, sl, f2, at_, od, ordered, C, F⟩ := J
  have hk6 := C.held
  obtain ⟨h, rc, sc, A, I0⟩ := C.2.1
  have I : IV f (hF f) (rF f) (sF f) B := by obtain ⟨i1, i2, i3⟩ := I0.h; rw [i1, i2, i3]; exact I0
  have hOx : _ = _ := C.1
  have hOm := F.1
  refine Rn.aload_n (pc1 := 198)  dL_law_197 rfl rfl rfl ?_
  refine Rn.aload_n (pc1 := 199)  dL_law_198 rfl rfl rfl ?_
  refine Rn.iload_n (pc1 := 200)  dL_law_199 rfl rfl rfl ?_
  refine Rn.iconst (pc1 := 201) (v := nI 1) dL_law_200 rfl (by decide) ?_
  refine Rn.iadd (pc1 := 202)  dL_law_201 rfl (nI_add k 1) ?_
  refine Rn.sld (pc1 := 203) (v := sv (k + 1))  dL_law_202 rfl (vp_nI (j := k + 1) rfl (by omega) (by omega)) (by rw [nI_clamp (by omega)]; exact hs _ (by omega)) ?_
  refine Rn.aload_n (pc1 := 204)  dL_law_203 rfl rfl rfl ?_
  refine Rn.iload_n (pc1 := 205)  dL_law_204 rfl rfl rfl ?_
  refine Rn.iconst (pc1 := 206) (v := nI 2) dL_law_205 rfl (by decide) ?_
  refine Rn.iadd (pc1 := 207)  dL_law_206 rfl (nI_add k 2) ?_
  refine Rn.sld (pc1 := 208) (v := sv (k + 2))  dL_law_207 rfl (vp_nI (j := k + 2) rfl (by omega) (by omega)) (by rw [nI_clamp (by omega)]; exact hs _ (by omega)) ?_
  refine Rn.cV_i (pc1 := 211) (eX8_set (by omega) C) dL_law_208 rfl qL_18 oX8_set (by first | assumption | exact mset_same | exact mget_ne (by omega) (by assumption)) rfl rfl rfl rfl (Nat.le_of_ble_eq_true rfl) (by decide) (by decide) (fun v208 μ208 h208 => ?_)
  have z1 := h208.2
  have F1 := F.fr z1 (by omega)
  have hOm1 := F1.1
  refine Rn.aload_n (pc1 := 212)  dL_law_211 rfl rfl rfl ?_
  refine Rn.aload_n (pc1 := 213)  dL_law_212 rfl rfl rfl ?_
  refine Rn.iload_n (pc1 := 214)  dL_law_213 rfl rfl rfl ?_
  refine Rn.iconst (pc1 := 215) (v := nI 1) dL_law_214 rfl (by decide) ?_
  refine Rn.iadd (pc1 := 216)  dL_law_215 rfl (nI_add k 1) ?_
  refine Rn.sld (pc1 := 217) (v := sv (k + 1))  dL_law_216 rfl (vp_nI (j := k + 1) rfl (by omega) (by omega)) (by rw [nI_clamp (by omega)]; exact hs _ (by omega)) ?_
  refine Rn.aload_n (pc1 := 218)  dL_law_217 rfl rfl rfl ?_
  refine Rn.iload_n (pc1 := 219)  dL_law_218 rfl rfl rfl ?_
  refine Rn.iconst (pc1 := 220) (v := nI 2) dL_law_219 rfl (by decide) ?_
  refine Rn.iadd (pc1 := 221)  dL_law_220 rfl (nI_add k 2) ?_
  refine Rn.sld (pc1 := 222) (v := sv (k + 2))  dL_law_221 rfl (vp_nI (j := k + 2) rfl (by omega) (by omega)) (by rw [nI_clamp (by omega)]; exact hs _ (by omega)) ?_
  refine Rn.cV_i (pc1 := 225) (eX9_set F1 I hk6) dL_law_222 rfl qL_21 oX9_set (by first | assumption | exact mset_same | exact mget_ne (by omega) (by assumption)) rfl rfl rfl rfl (Nat.le_of_ble_eq_true rfl) (by decide) (by decide) (fun v222 μ222 h222 => ?_)
  obtain ⟨ev, J2⟩ := join hd hk6 h208 (Or.inl LQ.rf) h222
  refine Rn.icmp_eq (pc1 := 228) 871 dL_law_225 rfl (by decide) (fun c225 => ?_) (fun c225 => ?_)
  · exact N _ J2
  · exact absurd ev c225
theorem lC_remove (J : JI μ x m B) (hB : B < 2 ^ 27) (hd : x + 528 ≤ m) (hk : k + 2 < n) (hn : (gS G).slots.size = n) (hn2 : n ≤ 1536) (hs : ∀ i, i < n → (gS G).slots[i]? = some (.int (sv i))) (N : ∀ μ2, JI μ2 x m (B + 100) → Rn G 9 kL_law 871 [some (.ref (gB G)), some (.ref x), some (.ref m), some (.int (nI k))] [] μ2 sz 0 0 Q) : Rn G 9 kL_law 230 [some (.ref (gB G)), some (.ref x), some (.ref m), some (.int (nI k))] [] μ sz 0 0 Q := by
  obtain ⟨f, held, p, Pp, len, u, sl, f2, at_, od, ordered, C, F⟩ := J
  have hk6 := C.held
  obtain ⟨h, rc, sc, A, I0⟩ := C.2.1
  have I : IV f (hF f) (rF f) (sF f) B := by obtain ⟨i1, i2, i3⟩ := I0.h; rw [i1, i2, i3]; exact I0
  have hOx : _ = _ := C.1
  have hOm := F.1
  refine Rn.aload_n (pc1 := 231)  dL_law_230 rfl rfl rfl ?_
  refine Rn.aload_n (pc1 := 232)  dL_law_231 rfl rfl rfl ?_
  refine Rn.iload_n (pc1 := 233)  dL_law_232 rfl rfl rfl ?_
  refine Rn.iconst (pc1 := 234) (v := nI 1) dL_law_233 rfl (by decide) ?_
  refine Rn.iadd (pc1 := 235)  dL_law_234 rfl (nI_add k 1) ?_
  refine Rn.sld (pc1 := 236) (v := sv (k + 1))  dL_law_235 rfl (vp_nI (j := k + 1) rfl (by omega) (by omega)) (by rw [nI_clamp (by omega)]; exact hs _ (by omega)) ?_
  refine Rn.cV_i (pc1 := 239) (eX8_remove (by omega) C) dL_law_236 rfl qL_22 oX8_remove (by first | assumption | exact mset_same | exact mget_ne (by omega) (by assumption)) rfl rfl rfl rfl (Nat.le_of_ble_eq_true rfl) (by decide) (by decide) (fun v236 μ236 h236 => ?_)
  have z1 := h236.2
  have F1 := F.fr z1 (by omega)
  have hOm1 := F1.1
  refine Rn.aload_n (pc1 := 240)  dL_law_239 rfl rfl rfl ?_
  refine Rn.aload_n (pc1 := 241)  dL_law_240 rfl rfl rfl ?_
  refine Rn.iload_n (pc1 := 242)  dL_law_241 rfl rfl rfl ?_
  refine Rn.iconst (pc1 := 243) (v := nI 1) dL_law_242 rfl (by decide) ?_
  refine Rn.iadd (pc1 := 244)  dL_law_243 rfl (nI_add k 1) ?_
  refine Rn.sld (pc1 := 245) (v := sv (k + 1))  dL_law_244 rfl (vp_nI (j := k + 1) rfl (by omega) (by omega)) (by rw [nI_clamp (by omega)]; exact hs _ (by omega)) ?_
  refine Rn.cV_i (pc1 := 248) (eX9_remove F1 I hk6) dL_law_245 rfl qL_26 oX9_remove (by first | assumption | exact mset_same | exact mget_ne (by omega) (by assumption)) rfl rfl rfl rfl (Nat.le_of_ble_eq_true rfl) (by decide) (by decide) (fun v245 μ245 h245 => ?_)
  obtain ⟨ev, J2⟩ := join hd hk6 h236 (Or.inl LQ.rf) h245
  refine Rn.icmp_eq (pc1 := 251) 871 dL_law_248 rfl (by decide) (fun c248 => ?_) (fun c248 => ?_)
  · exact N _ J2
  · exact absurd ev c248
theorem lC_pass (J : JI μ x m B) (hB : B < 2 ^ 27) (hd : x + 528 ≤ m) (hk : k + 2 < n) (hn : (gS G).slots.size = n) (hn2 : n ≤ 1536) (hs : ∀ i, i < n → (gS G).slots[i]? = some (.int (sv i))) (N : ∀ μ2, JI μ2 x m (B + 100) → Rn G 9 kL_law 871 [some (.ref (gB G)), some (.ref x), some (.ref m), some (.int (nI k))] [] μ2 sz 0 0 Q) : Rn G 9 kL_law 253 [some (.ref (gB G)), some (.ref x), some (.ref m), some (.int (nI k))] [] μ sz 0 0 Q := by
  obtain ⟨f, held, p, Pp, len, u, sl, f2, at_, od, ordered, C, F⟩ := J
  have hk6 := C.held
  obtain ⟨h, rc, sc, A, I0⟩ := C.2.1
  have I : IV f (hF f) (rF f) (sF f) B := by obtain ⟨i1, i2, i3⟩ := I0.h; rw [i1, i2, i3]; exact I0
  have hOx : _ = _ := C.1
  have hOm := F.1
  refine Rn.aload_n (pc1 := 254)  dL_law_253 rfl rfl rfl ?_
  refine Rn.aload_n (pc1 := 255)  dL_law_254 rfl rfl rfl ?_
  refine Rn.iload_n (pc1 := 256)  dL_law_255 rfl rfl rfl ?_
  refine Rn.iconst (pc1 := 257) (v := nI 1) dL_law_256 rfl (by decide) ?_
  refine Rn.iadd (pc1 := 258)  dL_law_257 rfl (nI_add k 1) ?_
  refine Rn.sld (pc1 := 259) (v := sv (k + 1))  dL_law_258 rfl (vp_nI (j := k + 1) rfl (by omega) (by omega)) (by rw [nI_clamp (by omega)]; exact hs _ (by omega)) ?_
  refine Rn.cV_i (pc1 := 262) (eX8_pass C) dL_law_259 rfl qL_27 oX8_pass (by first | assumption | exact mset_same | exact mget_ne (by omega) (by assumption)) rfl rfl rfl rfl (Nat.le_of_ble_eq_true rfl) (by decide) (by decide) (fun v259 μ259 h259 => ?_)
  have z1 := h259.2
  have F1 := F.fr z1 (by omega)
  have hOm1 := F1.1
  refine Rn.aload_n (pc1 := 263)  dL_law_262 rfl rfl rfl ?_
  refine Rn.aload_n (pc1 := 264)  dL_law_263 rfl rfl rfl ?_
  refine Rn.iload_n (pc1 := 265)  dL_law_264 rfl rfl rfl ?_
  refine Rn.iconst (pc1 := 266) (v := nI 1) dL_law_265 rfl (by decide) ?_
  refine Rn.iadd (pc1 := 267)  dL_law_266 rfl (nI_add k 1) ?_
  refine Rn.sld (pc1 := 268) (v := sv (k + 1))  dL_law_267 rfl (vp_nI (j := k + 1) rfl (by omega) (by omega)) (by rw [nI_clamp (by omega)]; exact hs _ (by omega)) ?_
  refine Rn.cV_i (pc1 := 271) (eX9_pass F1 hk6) dL_law_268 rfl qL_30 oX9_pass (by first | assumption | exact mset_same | exact mget_ne (by omega) (by assumption)) rfl rfl rfl rfl (Nat.le_of_ble_eq_true rfl) (by decide) (by decide) (fun v268 μ268 h268 => ?_)
  obtain ⟨ev, J2⟩ := join hd hk6 h259 (Or.inl LQ.rf) h268
  refine Rn.icmp_eq (pc1 := 274) 871 dL_law_271 rfl (by decide) (fun c271 => ?_) (fun c271 => ?_)
  · exact N _ J2
  · exact absurd ev c271
theorem lC_thin (J : JI μ x m B) (hB : B < 2 ^ 27) (hd : x + 528 ≤ m) (hk : k + 2 < n) (hn : (gS G).slots.size = n) (hn2 : n ≤ 1536) (hs : ∀ i, i < n → (gS G).slots[i]? = some (.int (sv i))) (N : ∀ μ2, JI μ2 x m (B + 100) → Rn G 9 kL_law 871 [some (.ref (gB G)), some (.ref x), some (.ref m), some (.int (nI k))] [] μ2 sz 0 0 Q) : Rn G 9 kL_law 276 [some (.ref (gB G)), some (.ref x), some (.ref m), some (.int (nI k))] [] μ sz 0 0 Q := by
  obtain ⟨f, held, p, Pp, len, u, sl, f2, at_, od, ordered, C, F⟩ := J
  have hk6 := C.held
  obtain ⟨h, rc, sc, A, I0⟩ := C.2.1
  have I : IV f (hF f) (rF f) (sF f) B := by obtain ⟨i1, i2, i3⟩ := I0.h; rw [i1, i2, i3]; exact I0
  have hOx : _ = _ := C.1
  have hOm := F.1
  refine Rn.aload_n (pc1 := 277)  dL_law_276 rfl rfl rfl ?_
  refine Rn.cV_i (pc1 := 280) (eX8_thin C) dL_law_277 rfl qL_31 oX8_thin (by first | assumption | exact mset_same | exact mget_ne (by omega) (by assumption)) rfl rfl rfl rfl (Nat.le_of_ble_eq_true rfl) (by decide) (by decide) (fun v277 μ277 h277 => ?_)
  have z1 := h277.2
  have F1 := F.fr z1 (by omega)
  have hOm1 := F1.1
  refine Rn.aload_n (pc1 := 281)  dL_law_280 rfl rfl rfl ?_
  refine Rn.cV_i (pc1 := 284) (eX9_thin F1 I hk6) dL_law_281 rfl qL_35 oX9_thin (by first | assumption | exact mset_same | exact mget_ne (by omega) (by assumption)) rfl rfl rfl rfl (Nat.le_of_ble_eq_true rfl) (by decide) (by decide) (fun v281 μ281 h281 => ?_)
  obtain ⟨e1, ⟨g, Fg, eg⟩, z2⟩ := h281
  have e6 := (I.thin (s := f 0) (mi := f 2)).h.1
  obtain ⟨ev, J2⟩ := join hd hk6 h277 (Or.inl (fun j hj => eg j (by rw [e6] at hj; omega))) ⟨Or.inr ⟨rfl, e1, Fg⟩, z2⟩
  refine Rn.icmp_eq (pc1 := 287) 871 dL_law_284 rfl (by decide) (fun c284 => ?_) (fun c284 => ?_)
  · exact N _ J2
  · exact absurd ev c284
theorem lC_snapshot (J : JI μ x m B) (hB : B < 2 ^ 27) (hd : x + 528 ≤ m) (hk : k + 2 < n) (hn : (gS G).slots.size = n) (hn2 : n ≤ 1536) (hs : ∀ i, i < n → (gS G).slots[i]? = some (.int (sv i))) (N : ∀ μ2, JI μ2 x m (B + 100) → Rn G 9 kL_law 871 [some (.ref (gB G)), some (.ref x), some (.ref m), some (.int (nI k))] [] μ2 sz 0 0 Q) : Rn G 9 kL_law 289 [some (.ref (gB G)), some (.ref x), some (.ref m), some (.int (nI k))] [] μ sz 0 0 Q := by
  obtain ⟨f, held, p, Pp, len, u, sl, f2, at_, od, ordered, C, F⟩ := J
  have hk6 := C.held
  obtain ⟨h, rc, sc, A, I0⟩ := C.2.1
  have I : IV f (hF f) (rF f) (sF f) B := by obtain ⟨i1, i2, i3⟩ := I0.h; rw [i1, i2, i3]; exact I0
  have hOx : _ = _ := C.1
  have hOm := F.1
  refine Rn.aload_n (pc1 := 290)  dL_law_289 rfl rfl rfl ?_
  refine Rn.cV_i (pc1 := 293) (eX8_snapshot (by omega) C) dL_law_290 rfl qL_36 oX8_snapshot (by first | assumption | exact mset_same | exact mget_ne (by omega) (by assumption)) rfl rfl rfl rfl (Nat.le_of_ble_eq_true rfl) (by decide) (by decide) (fun v290 μ290 h290 => ?_)
  have z1 := h290.2
  have F1 := F.fr z1 (by omega)
  have hOm1 := F1.1
  refine Rn.aload_n (pc1 := 294)  dL_law_293 rfl rfl rfl ?_
  refine Rn.cV_i (pc1 := 297) (eX9_snapshot F1 I hk6) dL_law_294 rfl qL_39 oX9_snapshot (by first | assumption | exact mset_same | exact mget_ne (by omega) (by assumption)) rfl rfl rfl rfl (Nat.le_of_ble_eq_true rfl) (by decide) (by decide) (fun v294 μ294 h294 => ?_)
  obtain ⟨ev, J2⟩ := join hd hk6 h290 (Or.inl LQ.rf) h294
  refine Rn.icmp_eq (pc1 := 300) 871 dL_law_297 rfl (by decide) (fun c297 => ?_) (fun c297 => ?_)
  · exact N _ J2
  · exact absurd ev c297
theorem lC_reader (J : JI μ x m B) (hB : B < 2 ^ 27) (hd : x + 528 ≤ m) (hk : k + 2 < n) (hn : (gS G).slots.size = n) (hn2 : n ≤ 1536) (hs : ∀ i, i < n → (gS G).slots[i]? = some (.int (sv i))) (N : ∀ μ2, JI μ2 x m (B + 100) → Rn G 9 kL_law 871 [some (.ref (gB G)), some (.ref x), some (.ref m), some (.int (nI k))] [] μ2 sz 0 0 Q) : Rn G 9 kL_law 302 [some (.ref (gB G)), some (.ref x), some (.ref m), some (.int (nI k))] [] μ sz 0 0 Q := by
  obtain ⟨f, held, p, Pp, len, u, sl, f2, at_, od, ordered, C, F⟩ := J
  have hk6 := C.held
  obtain ⟨h, rc, sc, A, I0⟩ := C.2.1
  have I : IV f (hF f) (rF f) (sF f) B := by obtain ⟨i1, i2, i3⟩ := I0.h; rw [i1, i2, i3]; exact I0
  have hOx : _ = _ := C.1
  have hOm := F.1
  refine Rn.aload_n (pc1 := 303)  dL_law_302 rfl rfl rfl ?_
  refine Rn.cV_i (pc1 := 306) (eX8_reader C) dL_law_303 rfl qL_40 oX8_reader (by first | assumption | exact mset_same | exact mget_ne (by omega) (by assumption)) rfl rfl rfl rfl (Nat.le_of_ble_eq_true rfl) (by decide) (by decide) (fun v303 μ303 h303 => ?_)
  have z1 := h303.2
  have F1 := F.fr z1 (by omega)
  have hOm1 := F1.1
  refine Rn.aload_n (pc1 := 307)  dL_law_306 rfl rfl rfl ?_
  refine Rn.cV_i (pc1 := 310) (eX9_reader F1 I hk6) dL_law_307 rfl qL_43 oX9_reader (by first | assumption | exact mset_same | exact mget_ne (by omega) (by assumption)) rfl rfl rfl rfl (Nat.le_of_ble_eq_true rfl) (by decide) (by decide) (fun v307 μ307 h307 => ?_)
  obtain ⟨ev, J2⟩ := join hd hk6 h303 (Or.inl LQ.rf) h307
  refine Rn.icmp_eq (pc1 := 313) 871 dL_law_310 rfl (by decide) (fun c310 => ?_) (fun c310 => ?_)
  · exact N _ J2
  · exact absurd ev c310
theorem lC_read (J : JI μ x m B) (hB : B < 2 ^ 27) (hd : x + 528 ≤ m) (hk : k + 2 < n) (hn : (gS G).slots.size = n) (hn2 : n ≤ 1536) (hs : ∀ i, i < n → (gS G).slots[i]? = some (.int (sv i))) (N : ∀ μ2, JI μ2 x m (B + 100) → Rn G 9 kL_law 871 [some (.ref (gB G)), some (.ref x), some (.ref m), some (.int (nI k))] [] μ2 sz 0 0 Q) : Rn G 9 kL_law 315 [some (.ref (gB G)), some (.ref x), some (.ref m), some (.int (nI k))] [] μ sz 0 0 Q := by
  obtain ⟨f, held, p, Pp, len, u, sl, f2, at_, od, ordered, C, F⟩ := J
  have hk6 := C.held
  obtain ⟨h, rc, sc, A, I0⟩ := C.2.1
  have I : IV f (hF f) (rF f) (sF f) B := by obtain ⟨i1, i2, i3⟩ := I0.h; rw [i1, i2, i3]; exact I0
  have hOx : _ = _ := C.1
  have hOm := F.1
  refine Rn.aload_n (pc1 := 316)  dL_law_315 rfl rfl rfl ?_
  refine Rn.aload_n (pc1 := 317)  dL_law_316 rfl rfl rfl ?_
  refine Rn.iload_n (pc1 := 318)  dL_law_317 rfl rfl rfl ?_
  refine Rn.iconst (pc1 := 319) (v := nI 1) dL_law_318 rfl (by decide) ?_
  refine Rn.iadd (pc1 := 320)  dL_law_319 rfl (nI_add k 1) ?_
  refine Rn.sld (pc1 := 321) (v := sv (k + 1))  dL_law_320 rfl (vp_nI (j := k + 1) rfl (by omega) (by omega)) (by rw [nI_clamp (by omega)]; exact hs _ (by omega)) ?_
  refine Rn.aload_n (pc1 := 322)  dL_law_321 rfl rfl rfl ?_
  refine Rn.iload_n (pc1 := 323)  dL_law_322 rfl rfl rfl ?_
  refine Rn.iconst (pc1 := 324) (v := nI 2) dL_law_323 rfl (by decide) ?_
  refine Rn.iadd (pc1 := 325)  dL_law_324 rfl (nI_add k 2) ?_
  refine Rn.sld (pc1 := 326) (v := sv (k + 2))  dL_law_325 rfl (vp_nI (j := k + 2) rfl (by omega) (by omega)) (by rw [nI_clamp (by omega)]; exact hs _ (by omega)) ?_
  refine Rn.cV_i (pc1 := 329) (eX8_read (by omega) C) dL_law_326 rfl qL_44 oX8_read (by first | assumption | exact mset_same | exact mget_ne (by omega) (by assumption)) rfl rfl rfl rfl (Nat.le_of_ble_eq_true rfl) (by decide) (by decide) (fun v326 μ326 h326 => ?_)
  have z1 := h326.2
  have F1 := F.fr z1 (by omega)
  have hOm1 := F1.1
  refine Rn.aload_n (pc1 := 330)  dL_law_329 rfl rfl rfl ?_
  refine Rn.aload_n (pc1 := 331)  dL_law_330 rfl rfl rfl ?_
  refine Rn.iload_n (pc1 := 332)  dL_law_331 rfl rfl rfl ?_
  refine Rn.iconst (pc1 := 333) (v := nI 1) dL_law_332 rfl (by decide) ?_
  refine Rn.iadd (pc1 := 334)  dL_law_333 rfl (nI_add k 1) ?_
  refine Rn.sld (pc1 := 335) (v := sv (k + 1))  dL_law_334 rfl (vp_nI (j := k + 1) rfl (by omega) (by omega)) (by rw [nI_clamp (by omega)]; exact hs _ (by omega)) ?_
  refine Rn.aload_n (pc1 := 336)  dL_law_335 rfl rfl rfl ?_
  refine Rn.iload_n (pc1 := 337)  dL_law_336 rfl rfl rfl ?_
  refine Rn.iconst (pc1 := 338) (v := nI 2) dL_law_337 rfl (by decide) ?_
  refine Rn.iadd (pc1 := 339)  dL_law_338 rfl (nI_add k 2) ?_
  refine Rn.sld (pc1 := 340) (v := sv (k + 2))  dL_law_339 rfl (vp_nI (j := k + 2) rfl (by omega) (by omega)) (by rw [nI_clamp (by omega)]; exact hs _ (by omega)) ?_
  refine Rn.cV_i (pc1 := 343) (eX9_read F1 I (by omega) hk6) dL_law_340 rfl qL_47 oX9_read (by first | assumption | exact mset_same | exact mget_ne (by omega) (by assumption)) rfl rfl rfl rfl (Nat.le_of_ble_eq_true rfl) (by decide) (by decide) (fun v340 μ340 h340 => ?_)
  obtain ⟨ev, J2⟩ := join hd hk6 h326 (Or.inl LQ.rf) h340
  refine Rn.icmp_eq (pc1 := 346) 871 dL_law_343 rfl (by decide) (fun c343 => ?_) (fun c343 => ?_)
  · exact N _ J2
  · exact absurd ev c343
theorem lC_confirm (J : JI μ x m B) (hB : B < 2 ^ 27) (hd : x + 528 ≤ m) (hk : k + 2 < n) (hn : (gS G).slots.size = n) (hn2 : n ≤ 1536) (hs : ∀ i, i < n → (gS G).slots[i]? = some (.int (sv i))) (N : ∀ μ2, JI μ2 x m (B + 100) → Rn G 9 kL_law 871 [some (.ref (gB G)), some (.ref x), some (.ref m), some (.int (nI k))] [] μ2 sz 0 0 Q) : Rn G 9 kL_law 348 [some (.ref (gB G)), some (.ref x), some (.ref m), some (.int (nI k))] [] μ sz 0 0 Q := by
  obtain ⟨f, held, p, Pp, len, u, sl, f2, at_, od, ordered, C, F⟩ := J
  have hk6 := C.held
  obtain ⟨h, rc, sc, A, I0⟩ := C.2.1
  have I : IV f (hF f) (rF f) (sF f) B := by obtain ⟨i1, i2, i3⟩ := I0.h; rw [i1, i2, i3]; exact I0
  have hOx : _ = _ := C.1
  have hOm := F.1
  refine Rn.aload_n (pc1 := 349)  dL_law_348 rfl rfl rfl ?_
  refine Rn.aload_n (pc1 := 350)  dL_law_349 rfl rfl rfl ?_
  refine Rn.iload_n (pc1 := 351)  dL_law_350 rfl rfl rfl ?_
  refine Rn.iconst (pc1 := 352) (v := nI 1) dL_law_351 rfl (by decide) ?_
  refine Rn.iadd (pc1 := 353)  dL_law_352 rfl (nI_add k 1) ?_
  refine Rn.sld (pc1 := 354) (v := sv (k + 1))  dL_law_353 rfl (vp_nI (j := k + 1) rfl (by omega) (by omega)) (by rw [nI_clamp (by omega)]; exact hs _ (by omega)) ?_
  refine Rn.cV_i (pc1 := 357) (eX8_confirm C) dL_law_354 rfl qL_48 oX8_confirm (by first | assumption | exact mset_same | exact mget_ne (by omega) (by assumption)) rfl rfl rfl rfl (Nat.le_of_ble_eq_true rfl) (by decide) (by decide) (fun v354 μ354 h354 => ?_)
  have z1 := h354.2
  have F1 := F.fr z1 (by omega)
  have hOm1 := F1.1
  refine Rn.aload_n (pc1 := 358)  dL_law_357 rfl rfl rfl ?_
  refine Rn.aload_n (pc1 := 359)  dL_law_358 rfl rfl rfl ?_
  refine Rn.iload_n (pc1 := 360)  dL_law_359 rfl rfl rfl ?_
  refine Rn.iconst (pc1 := 361) (v := nI 1) dL_law_360 rfl (by decide) ?_
  refine Rn.iadd (pc1 := 362)  dL_law_361 rfl (nI_add k 1) ?_
  refine Rn.sld (pc1 := 363) (v := sv (k + 1))  dL_law_362 rfl (vp_nI (j := k + 1) rfl (by omega) (by omega)) (by rw [nI_clamp (by omega)]; exact hs _ (by omega)) ?_
  refine Rn.cV_i (pc1 := 366) (eX9_confirm F1 I hk6) dL_law_363 rfl qL_51 oX9_confirm (by first | assumption | exact mset_same | exact mget_ne (by omega) (by assumption)) rfl rfl rfl rfl (Nat.le_of_ble_eq_true rfl) (by decide) (by decide) (fun v363 μ363 h363 => ?_)
  obtain ⟨ev, J2⟩ := join hd hk6 h354 (Or.inl LQ.rf) h363
  refine Rn.icmp_eq (pc1 := 369) 871 dL_law_366 rfl (by decide) (fun c366 => ?_) (fun c366 => ?_)
  · exact N _ J2
  · exact absurd ev c366
theorem lC_goBack (J : JI μ x m B) (hB : B < 2 ^ 27) (hd : x + 528 ≤ m) (hk : k + 2 < n) (hn : (gS G).slots.size = n) (hn2 : n ≤ 1536) (hs : ∀ i, i < n → (gS G).slots[i]? = some (.int (sv i))) (N : ∀ μ2, JI μ2 x m (B + 100) → Rn G 9 kL_law 871 [some (.ref (gB G)), some (.ref x), some (.ref m), some (.int (nI k))] [] μ2 sz 0 0 Q) : Rn G 9 kL_law 371 [some (.ref (gB G)), some (.ref x), some (.ref m), some (.int (nI k))] [] μ sz 0 0 Q := by
  obtain ⟨f, held, p, Pp, len, u, sl, f2, at_, od, ordered, C, F⟩ := J
  have hk6 := C.held
  obtain ⟨h, rc, sc, A, I0⟩ := C.2.1
  have I : IV f (hF f) (rF f) (sF f) B := by obtain ⟨i1, i2, i3⟩ := I0.h; rw [i1, i2, i3]; exact I0
  have hOx : _ = _ := C.1
  have hOm := F.1
  refine Rn.aload_n (pc1 := 372)  dL_law_371 rfl rfl rfl ?_
  refine Rn.aload_n (pc1 := 373)  dL_law_372 rfl rfl rfl ?_
  refine Rn.iload_n (pc1 := 374)  dL_law_373 rfl rfl rfl ?_
  refine Rn.iconst (pc1 := 375) (v := nI 1) dL_law_374 rfl (by decide) ?_
  refine Rn.iadd (pc1 := 376)  dL_law_375 rfl (nI_add k 1) ?_
  refine Rn.sld (pc1 := 377) (v := sv (k + 1))  dL_law_376 rfl (vp_nI (j := k + 1) rfl (by omega) (by omega)) (by rw [nI_clamp (by omega)]; exact hs _ (by omega)) ?_
  refine Rn.cV_i (pc1 := 380) (eX8_goBack C) dL_law_377 rfl qL_52 oX8_goBack (by first | assumption | exact mset_same | exact mget_ne (by omega) (by assumption)) rfl rfl rfl rfl (Nat.le_of_ble_eq_true rfl) (by decide) (by decide) (fun v377 μ377 h377 => ?_)
  have z1 := h377.2
  have F1 := F.fr z1 (by omega)
  have hOm1 := F1.1
  refine Rn.aload_n (pc1 := 381)  dL_law_380 rfl rfl rfl ?_
  refine Rn.aload_n (pc1 := 382)  dL_law_381 rfl rfl rfl ?_
  refine Rn.iload_n (pc1 := 383)  dL_law_382 rfl rfl rfl ?_
  refine Rn.iconst (pc1 := 384) (v := nI 1) dL_law_383 rfl (by decide) ?_
  refine Rn.iadd (pc1 := 385)  dL_law_384 rfl (nI_add k 1) ?_
  refine Rn.sld (pc1 := 386) (v := sv (k + 1))  dL_law_385 rfl (vp_nI (j := k + 1) rfl (by omega) (by omega)) (by rw [nI_clamp (by omega)]; exact hs _ (by omega)) ?_
  refine Rn.cV_i (pc1 := 389) (eX9_goBack F1 I hk6) dL_law_386 rfl qL_55 oX9_goBack (by first | assumption | exact mset_same | exact mget_ne (by omega) (by assumption)) rfl rfl rfl rfl (Nat.le_of_ble_eq_true rfl) (by decide) (by decide) (fun v386 μ386 h386 => ?_)
  obtain ⟨ev, J2⟩ := join hd hk6 h377 (Or.inl LQ.rf) h386
  refine Rn.icmp_eq (pc1 := 392) 871 dL_law_389 rfl (by decide) (fun c389 => ?_) (fun c389 => ?_)
  · exact N _ J2
  · exact absurd ev c389
theorem lC_beginAnew (J : JI μ x m B) (hB : B < 2 ^ 27) (hd : x + 528 ≤ m) (hk : k + 2 < n) (hn : (gS G).slots.size = n) (hn2 : n ≤ 1536) (hs : ∀ i, i < n → (gS G).slots[i]? = some (.int (sv i))) (N : ∀ μ2, JI μ2 x m (B + 100) → Rn G 9 kL_law 871 [some (.ref (gB G)), some (.ref x), some (.ref m), some (.int (nI k))] [] μ2 sz 0 0 Q) : Rn G 9 kL_law 394 [some (.ref (gB G)), some (.ref x), some (.ref m), some (.int (nI k))] [] μ sz 0 0 Q := by
  obtain ⟨f, held, p, Pp, len, u, sl, f2, at_, od, ordered, C, F⟩ := J
  have hk6 := C.held
  obtain ⟨h, rc, sc, A, I0⟩ := C.2.1
  have I : IV f (hF f) (rF f) (sF f) B := by obtain ⟨i1, i2, i3⟩ := I0.h; rw [i1, i2, i3]; exact I0
  have hOx : _ = _ := C.1
  have hOm := F.1
  refine Rn.aload_n (pc1 := 395)  dL_law_394 rfl rfl rfl ?_
  refine Rn.aload_n (pc1 := 396)  dL_law_395 rfl rfl rfl ?_
  refine Rn.iload_n (pc1 := 397)  dL_law_396 rfl rfl rfl ?_
  refine Rn.iconst (pc1 := 398) (v := nI 1) dL_law_397 rfl (by decide) ?_
  refine Rn.iadd (pc1 := 399)  dL_law_398 rfl (nI_add k 1) ?_
  refine Rn.sld (pc1 := 400) (v := sv (k + 1))  dL_law_399 rfl (vp_nI (j := k + 1) rfl (by omega) (by omega)) (by rw [nI_clamp (by omega)]; exact hs _ (by omega)) ?_
  refine Rn.cV_i (pc1 := 403) (eX8_beginAnew (by omega) C) dL_law_400 rfl qL_56 oX8_beginAnew (by first | assumption | exact mset_same | exact mget_ne (by omega) (by assumption)) rfl rfl rfl rfl (Nat.le_of_ble_eq_true rfl) (by decide) (by decide) (fun v400 μ400 h400 => ?_)
  have z1 := h400.2
  have F1 := F.fr z1 (by omega)
  have hOm1 := F1.1
  refine Rn.aload_n (pc1 := 404)  dL_law_403 rfl rfl rfl ?_
  refine Rn.aload_n (pc1 := 405)  dL_law_404 rfl rfl rfl ?_
  refine Rn.iload_n (pc1 := 406)  dL_law_405 rfl rfl rfl ?_
  refine Rn.iconst (pc1 := 407) (v := nI 1) dL_law_406 rfl (by decide) ?_
  refine Rn.iadd (pc1 := 408)  dL_law_407 rfl (nI_add k 1) ?_
  refine Rn.sld (pc1 := 409) (v := sv (k + 1))  dL_law_408 rfl (vp_nI (j := k + 1) rfl (by omega) (by omega)) (by rw [nI_clamp (by omega)]; exact hs _ (by omega)) ?_
  refine Rn.cV_i (pc1 := 412) (eX9_beginAnew F1 I hk6) dL_law_409 rfl qL_59 oX9_beginAnew (by first | assumption | exact mset_same | exact mget_ne (by omega) (by assumption)) rfl rfl rfl rfl (Nat.le_of_ble_eq_true rfl) (by decide) (by decide) (fun v409 μ409 h409 => ?_)
  obtain ⟨ev, J2⟩ := join hd hk6 h400 (Or.inl LQ.rf) h409
  refine Rn.icmp_eq (pc1 := 415) 871 dL_law_412 rfl (by decide) (fun c412 => ?_) (fun c412 => ?_)
  · exact N _ J2
  · exact absurd ev c412
theorem lC_load (J : JI μ x m B) (hB : B < 2 ^ 27) (hd : x + 528 ≤ m) (hk : k + 2 < n) (hn : (gS G).slots.size = n) (hn2 : n ≤ 1536) (hs : ∀ i, i < n → (gS G).slots[i]? = some (.int (sv i))) (N : ∀ μ2, JI μ2 x m (B + 100) → Rn G 9 kL_law 871 [some (.ref (gB G)), some (.ref x), some (.ref m), some (.int (nI k))] [] μ2 sz 0 0 Q) : Rn G 9 kL_law 417 [some (.ref (gB G)), some (.ref x), some (.ref m), some (.int (nI k))] [] μ sz 0 0 Q := by
  obtain ⟨f, held, p, Pp, len, u, sl, f2, at_, od, ordered, C, F⟩ := J
  have hk6 := C.held
  obtain ⟨h, rc, sc, A, I0⟩ := C.2.1
  have I : IV f (hF f) (rF f) (sF f) B := by obtain ⟨i1, i2, i3⟩ := I0.h; rw [i1, i2, i3]; exact I0
  have hOx : _ = _ := C.1
  have hOm := F.1
  refine Rn.aload_n (pc1 := 418)  dL_law_417 rfl rfl rfl ?_
  refine Rn.aload_n (pc1 := 419)  dL_law_418 rfl rfl rfl ?_
  refine Rn.iload_n (pc1 := 420)  dL_law_419 rfl rfl rfl ?_
  refine Rn.iconst (pc1 := 421) (v := nI 1) dL_law_420 rfl (by decide) ?_
  refine Rn.iadd (pc1 := 422)  dL_law_421 rfl (nI_add k 1) ?_
  refine Rn.sld (pc1 := 423) (v := sv (k + 1))  dL_law_422 rfl (vp_nI (j := k + 1) rfl (by omega) (by omega)) (by rw [nI_clamp (by omega)]; exact hs _ (by omega)) ?_
  refine Rn.aload_n (pc1 := 424)  dL_law_423 rfl rfl rfl ?_
  refine Rn.iload_n (pc1 := 425)  dL_law_424 rfl rfl rfl ?_
  refine Rn.iconst (pc1 := 426) (v := nI 2) dL_law_425 rfl (by decide) ?_
  refine Rn.iadd (pc1 := 427)  dL_law_426 rfl (nI_add k 2) ?_
  refine Rn.sld (pc1 := 428) (v := sv (k + 2))  dL_law_427 rfl (vp_nI (j := k + 2) rfl (by omega) (by omega)) (by rw [nI_clamp (by omega)]; exact hs _ (by omega)) ?_
  refine Rn.cV_i (pc1 := 431) (eX8_load C) dL_law_428 rfl qL_60 oX8_load (by first | assumption | exact mset_same | exact mget_ne (by omega) (by assumption)) rfl rfl rfl rfl (Nat.le_of_ble_eq_true rfl) (by decide) (by decide) (fun v428 μ428 h428 => ?_)
  have z1 := h428.2
  have F1 := F.fr z1 (by omega)
  have hOm1 := F1.1
  refine Rn.aload_n (pc1 := 432)  dL_law_431 rfl rfl rfl ?_
  refine Rn.aload_n (pc1 := 433)  dL_law_432 rfl rfl rfl ?_
  refine Rn.iload_n (pc1 := 434)  dL_law_433 rfl rfl rfl ?_
  refine Rn.iconst (pc1 := 435) (v := nI 1) dL_law_434 rfl (by decide) ?_
  refine Rn.iadd (pc1 := 436)  dL_law_435 rfl (nI_add k 1) ?_
  refine Rn.sld (pc1 := 437) (v := sv (k + 1))  dL_law_436 rfl (vp_nI (j := k + 1) rfl (by omega) (by omega)) (by rw [nI_clamp (by omega)]; exact hs _ (by omega)) ?_
  refine Rn.aload_n (pc1 := 438)  dL_law_437 rfl rfl rfl ?_
  refine Rn.iload_n (pc1 := 439)  dL_law_438 rfl rfl rfl ?_
  refine Rn.iconst (pc1 := 440) (v := nI 2) dL_law_439 rfl (by decide) ?_
  refine Rn.iadd (pc1 := 441)  dL_law_440 rfl (nI_add k 2) ?_
  refine Rn.sld (pc1 := 442) (v := sv (k + 2))  dL_law_441 rfl (vp_nI (j := k + 2) rfl (by omega) (by omega)) (by rw [nI_clamp (by omega)]; exact hs _ (by omega)) ?_
  refine Rn.cV_i (pc1 := 445) (eX9_load F1 I hk6) dL_law_442 rfl qL_63 oX9_load (by first | assumption | exact mset_same | exact mget_ne (by omega) (by assumption)) rfl rfl rfl rfl (Nat.le_of_ble_eq_true rfl) (by decide) (by decide) (fun v442 μ442 h442 => ?_)
  obtain ⟨ev, J2⟩ := join hd hk6 h428 (Or.inl LQ.rf) h442
  refine Rn.icmp_eq (pc1 := 448) 871 dL_law_445 rfl (by decide) (fun c445 => ?_) (fun c445 => ?_)
  · exact N _ J2
  · exact absurd ev c445
theorem lC_table (J : JI μ x m B) (hB : B < 2 ^ 27) (hd : x + 528 ≤ m) (hk : k + 2 < n) (hn : (gS G).slots.size = n) (hn2 : n ≤ 1536) (hs : ∀ i, i < n → (gS G).slots[i]? = some (.int (sv i))) (N : ∀ μ2, JI μ2 x m (B + 100) → Rn G 9 kL_law 871 [some (.ref (gB G)), some (.ref x), some (.ref m), some (.int (nI k))] [] μ2 sz 0 0 Q) : Rn G 9 kL_law 450 [some (.ref (gB G)), some (.ref x), some (.ref m), some (.int (nI k))] [] μ sz 0 0 Q := by
  obtain ⟨f, held, p, Pp, len, u, sl, f2, at_, od, ordered, C, F⟩ := J
  have hk6 := C.held
  obtain ⟨h, rc, sc, A, I0⟩ := C.2.1
  have I : IV f (hF f) (rF f) (sF f) B := by obtain ⟨i1, i2, i3⟩ := I0.h; rw [i1, i2, i3]; exact I0
  have hOx : _ = _ := C.1
  have hOm := F.1
  refine Rn.aload_n (pc1 := 451)  dL_law_450 rfl rfl rfl ?_
  refine Rn.aload_n (pc1 := 452)  dL_law_451 rfl rfl rfl ?_
  refine Rn.iload_n (pc1 := 453)  dL_law_452 rfl rfl rfl ?_
  refine Rn.iconst (pc1 := 454) (v := nI 1) dL_law_453 rfl (by decide) ?_
  refine Rn.iadd (pc1 := 455)  dL_law_454 rfl (nI_add k 1) ?_
  refine Rn.sld (pc1 := 456) (v := sv (k + 1))  dL_law_455 rfl (vp_nI (j := k + 1) rfl (by omega) (by omega)) (by rw [nI_clamp (by omega)]; exact hs _ (by omega)) ?_
  refine Rn.cV_i (pc1 := 459) (eX8_table C) dL_law_456 rfl qL_64 oX8_table (by first | assumption | exact mset_same | exact mget_ne (by omega) (by assumption)) rfl rfl rfl rfl (Nat.le_of_ble_eq_true rfl) (by decide) (by decide) (fun v456 μ456 h456 => ?_)
  obtain ⟨rfl, rfl⟩ := h456
  refine Rn.aload_n (pc1 := 460)  dL_law_459 rfl rfl rfl ?_
  refine Rn.aload_n (pc1 := 461)  dL_law_460 rfl rfl rfl ?_
  refine Rn.iload_n (pc1 := 462)  dL_law_461 rfl rfl rfl ?_
  refine Rn.iconst (pc1 := 463) (v := nI 1) dL_law_462 rfl (by decide) ?_
  refine Rn.iadd (pc1 := 464)  dL_law_463 rfl (nI_add k 1) ?_
  refine Rn.sld (pc1 := 465) (v := sv (k + 1))  dL_law_464 rfl (vp_nI (j := k + 1) rfl (by omega) (by omega)) (by rw [nI_clamp (by omega)]; exact hs _ (by omega)) ?_
  refine Rn.cV_i (pc1 := 468) (eX9_table F) dL_law_465 rfl qL_67 oX9_table (by first | assumption | exact mset_same | exact mget_ne (by omega) (by assumption)) rfl rfl rfl rfl (Nat.le_of_ble_eq_true rfl) (by decide) (by decide) (fun v465 μ465 h465 => ?_)
  obtain ⟨rfl, rfl⟩ := h465
  refine Rn.icmp_eq (pc1 := 471) 871 dL_law_468 rfl (by decide) (fun c468 => ?_) (fun c468 => ?_)
  · exact N _ (same hd C Fr.rf F)
  · exact absurd rfl c468
theorem lC_view (J : JI μ x m B) (hB : B < 2 ^ 27) (hd : x + 528 ≤ m) (hk : k + 2 < n) (hn : (gS G).slots.size = n) (hn2 : n ≤ 1536) (hs : ∀ i, i < n → (gS G).slots[i]? = some (.int (sv i))) (N : ∀ μ2, JI μ2 x m (B + 100) → Rn G 9 kL_law 871 [some (.ref (gB G)), some (.ref x), some (.ref m), some (.int (nI k))] [] μ2 sz 0 0 Q) : Rn G 9 kL_law 473 [some (.ref (gB G)), some (.ref x), some (.ref m), some (.int (nI k))] [] μ sz 0 0 Q := by
  obtain ⟨f, held, p, Pp, len, u, sl, f2, at_, od, ordered, C, F⟩ := J
  have hk6 := C.held
  obtain ⟨h, rc, sc, A, I0⟩ := C.2.1
  have I : IV f (hF f) (rF f) (sF f) B := by obtain ⟨i1, i2, i3⟩ := I0.h; rw [i1, i2, i3]; exact I0
  have hOx : _ = _ := C.1
  have hOm := F.1
  refine Rn.aload_n (pc1 := 474)  dL_law_473 rfl rfl rfl ?_
  refine Rn.aload_n (pc1 := 475)  dL_law_474 rfl rfl rfl ?_
  refine Rn.iload_n (pc1 := 476)  dL_law_475 rfl rfl rfl ?_
  refine Rn.iconst (pc1 := 477) (v := nI 1) dL_law_476 rfl (by decide) ?_
  refine Rn.iadd (pc1 := 478)  dL_law_477 rfl (nI_add k 1) ?_
  refine Rn.sld (pc1 := 479) (v := sv (k + 1))  dL_law_478 rfl (vp_nI (j := k + 1) rfl (by omega) (by omega)) (by rw [nI_clamp (by omega)]; exact hs _ (by omega)) ?_
  refine Rn.aload_n (pc1 := 480)  dL_law_479 rfl rfl rfl ?_
  refine Rn.iload_n (pc1 := 481)  dL_law_480 rfl rfl rfl ?_
  refine Rn.iconst (pc1 := 482) (v := nI 2) dL_law_481 rfl (by decide) ?_
  refine Rn.iadd (pc1 := 483)  dL_law_482 rfl (nI_add k 2) ?_
  refine Rn.sld (pc1 := 484) (v := sv (k + 2))  dL_law_483 rfl (vp_nI (j := k + 2) rfl (by omega) (by omega)) (by rw [nI_clamp (by omega)]; exact hs _ (by omega)) ?_
  refine Rn.cV_i (pc1 := 487) (eX8_view C) dL_law_484 rfl qL_68 oX8_view (by first | assumption | exact mset_same | exact mget_ne (by omega) (by assumption)) rfl rfl rfl rfl (Nat.le_of_ble_eq_true rfl) (by decide) (by decide) (fun v484 μ484 h484 => ?_)
  obtain ⟨rfl, rfl⟩ := h484
  refine Rn.aload_n (pc1 := 488)  dL_law_487 rfl rfl rfl ?_
  refine Rn.aload_n (pc1 := 489)  dL_law_488 rfl rfl rfl ?_
  refine Rn.iload_n (pc1 := 490)  dL_law_489 rfl rfl rfl ?_
  refine Rn.iconst (pc1 := 491) (v := nI 1) dL_law_490 rfl (by decide) ?_
  refine Rn.iadd (pc1 := 492)  dL_law_491 rfl (nI_add k 1) ?_
  refine Rn.sld (pc1 := 493) (v := sv (k + 1))  dL_law_492 rfl (vp_nI (j := k + 1) rfl (by omega) (by omega)) (by rw [nI_clamp (by omega)]; exact hs _ (by omega)) ?_
  refine Rn.aload_n (pc1 := 494)  dL_law_493 rfl rfl rfl ?_
  refine Rn.iload_n (pc1 := 495)  dL_law_494 rfl rfl rfl ?_
  refine Rn.iconst (pc1 := 496) (v := nI 2) dL_law_495 rfl (by decide) ?_
  refine Rn.iadd (pc1 := 497)  dL_law_496 rfl (nI_add k 2) ?_
  refine Rn.sld (pc1 := 498) (v := sv (k + 2))  dL_law_497 rfl (vp_nI (j := k + 2) rfl (by omega) (by omega)) (by rw [nI_clamp (by omega)]; exact hs _ (by omega)) ?_
  refine Rn.cV_i (pc1 := 501) (eX9_view F I) dL_law_498 rfl qL_71 oX9_view (by first | assumption | exact mset_same | exact mget_ne (by omega) (by assumption)) rfl rfl rfl rfl (Nat.le_of_ble_eq_true rfl) (by decide) (by decide) (fun v498 μ498 h498 => ?_)
  obtain ⟨rfl, rfl⟩ := h498
  refine Rn.icmp_eq (pc1 := 504) 871 dL_law_501 rfl (by decide) (fun c501 => ?_) (fun c501 => ?_)
  · exact N _ (same hd C Fr.rf F)
  · exact absurd rfl c501
theorem lC_entry (J : JI μ x m B) (hB : B < 2 ^ 27) (hd : x + 528 ≤ m) (hk : k + 2 < n) (hn : (gS G).slots.size = n) (hn2 : n ≤ 1536) (hs : ∀ i, i < n → (gS G).slots[i]? = some (.int (sv i))) (N : ∀ μ2, JI μ2 x m (B + 100) → Rn G 9 kL_law 871 [some (.ref (gB G)), some (.ref x), some (.ref m), some (.int (nI k))] [] μ2 sz 0 0 Q) : Rn G 9 kL_law 506 [some (.ref (gB G)), some (.ref x), some (.ref m), some (.int (nI k))] [] μ sz 0 0 Q := by
  obtain ⟨f, held, p, Pp, len, u, sl, f2, at_, od, ordered, C, F⟩ := J
  have hk6 := C.held
  obtain ⟨h, rc, sc, A, I0⟩ := C.2.1
  have I : IV f (hF f) (rF f) (sF f) B := by obtain ⟨i1, i2, i3⟩ := I0.h; rw [i1, i2, i3]; exact I0
  have hOx : _ = _ := C.1
  have hOm := F.1
  refine Rn.aload_n (pc1 := 507)  dL_law_506 rfl rfl rfl ?_
  refine Rn.aload_n (pc1 := 508)  dL_law_507 rfl rfl rfl ?_
  refine Rn.iload_n (pc1 := 509)  dL_law_508 rfl rfl rfl ?_
  refine Rn.iconst (pc1 := 510) (v := nI 1) dL_law_509 rfl (by decide) ?_
  refine Rn.iadd (pc1 := 511)  dL_law_510 rfl (nI_add k 1) ?_
  refine Rn.sld (pc1 := 512) (v := sv (k + 1))  dL_law_511 rfl (vp_nI (j := k + 1) rfl (by omega) (by omega)) (by rw [nI_clamp (by omega)]; exact hs _ (by omega)) ?_
  refine Rn.aload_n (pc1 := 513)  dL_law_512 rfl rfl rfl ?_
  refine Rn.iload_n (pc1 := 514)  dL_law_513 rfl rfl rfl ?_
  refine Rn.iconst (pc1 := 515) (v := nI 2) dL_law_514 rfl (by decide) ?_
  refine Rn.iadd (pc1 := 516)  dL_law_515 rfl (nI_add k 2) ?_
  refine Rn.sld (pc1 := 517) (v := sv (k + 2))  dL_law_516 rfl (vp_nI (j := k + 2) rfl (by omega) (by omega)) (by rw [nI_clamp (by omega)]; exact hs _ (by omega)) ?_
  refine Rn.cV_i (pc1 := 520) (eX8_entry C) dL_law_517 rfl qL_72 oX8_entry (by first | assumption | exact mset_same | exact mget_ne (by omega) (by assumption)) rfl rfl rfl rfl (Nat.le_of_ble_eq_true rfl) (by decide) (by decide) (fun v517 μ517 h517 => ?_)
  obtain ⟨rfl, rfl⟩ := h517
  refine Rn.aload_n (pc1 := 521)  dL_law_520 rfl rfl rfl ?_
  refine Rn.aload_n (pc1 := 522)  dL_law_521 rfl rfl rfl ?_
  refine Rn.iload_n (pc1 := 523)  dL_law_522 rfl rfl rfl ?_
  refine Rn.iconst (pc1 := 524) (v := nI 1) dL_law_523 rfl (by decide) ?_
  refine Rn.iadd (pc1 := 525)  dL_law_524 rfl (nI_add k 1) ?_
  refine Rn.sld (pc1 := 526) (v := sv (k + 1))  dL_law_525 rfl (vp_nI (j := k + 1) rfl (by omega) (by omega)) (by rw [nI_clamp (by omega)]; exact hs _ (by omega)) ?_
  refine Rn.aload_n (pc1 := 527)  dL_law_526 rfl rfl rfl ?_
  refine Rn.iload_n (pc1 := 528)  dL_law_527 rfl rfl rfl ?_
  refine Rn.iconst (pc1 := 529) (v := nI 2) dL_law_528 rfl (by decide) ?_
  refine Rn.iadd (pc1 := 530)  dL_law_529 rfl (nI_add k 2) ?_
  refine Rn.sld (pc1 := 531) (v := sv (k + 2))  dL_law_530 rfl (vp_nI (j := k + 2) rfl (by omega) (by omega)) (by rw [nI_clamp (by omega)]; exact hs _ (by omega)) ?_
  refine Rn.cV_i (pc1 := 534) (eX9_entry F I) dL_law_531 rfl qL_75 oX9_entry (by first | assumption | exact mset_same | exact mget_ne (by omega) (by assumption)) rfl rfl rfl rfl (Nat.le_of_ble_eq_true rfl) (by decide) (by decide) (fun v531 μ531 h531 => ?_)
  obtain ⟨rfl, rfl⟩ := h531
  refine Rn.icmp_eq (pc1 := 537) 871 dL_law_534 rfl (by decide) (fun c534 => ?_) (fun c534 => ?_)
  · exact N _ (same hd C Fr.rf F)
  · exact absurd rfl c534
theorem lC_ofReader (J : JI μ x m B) (hB : B < 2 ^ 27) (hd : x + 528 ≤ m) (hk : k + 2 < n) (hn : (gS G).slots.size = n) (hn2 : n ≤ 1536) (hs : ∀ i, i < n → (gS G).slots[i]? = some (.int (sv i))) (N : ∀ μ2, JI μ2 x m (B + 100) → Rn G 9 kL_law 871 [some (.ref (gB G)), some (.ref x), some (.ref m), some (.int (nI k))] [] μ2 sz 0 0 Q) : Rn G 9 kL_law 539 [some (.ref (gB G)), some (.ref x), some (.ref m), some (.int (nI k))] [] μ sz 0 0 Q := by
  obtain ⟨f, held, p, Pp, len, u, sl, f2, at_, od, ordered, C, F⟩ := J
  have hk6 := C.held
  obtain ⟨h, rc, sc, A, I0⟩ := C.2.1
  have I : IV f (hF f) (rF f) (sF f) B := by obtain ⟨i1, i2, i3⟩ := I0.h; rw [i1, i2, i3]; exact I0
  have hOx : _ = _ := C.1
  have hOm := F.1
  refine Rn.aload_n (pc1 := 540)  dL_law_539 rfl rfl rfl ?_
  refine Rn.aload_n (pc1 := 541)  dL_law_540 rfl rfl rfl ?_
  refine Rn.iload_n (pc1 := 542)  dL_law_541 rfl rfl rfl ?_
  refine Rn.iconst (pc1 := 543) (v := nI 1) dL_law_542 rfl (by decide) ?_
  refine Rn.iadd (pc1 := 544)  dL_law_543 rfl (nI_add k 1) ?_
  refine Rn.sld (pc1 := 545) (v := sv (k + 1))  dL_law_544 rfl (vp_nI (j := k + 1) rfl (by omega) (by omega)) (by rw [nI_clamp (by omega)]; exact hs _ (by omega)) ?_
  refine Rn.aload_n (pc1 := 546)  dL_law_545 rfl rfl rfl ?_
  refine Rn.iload_n (pc1 := 547)  dL_law_546 rfl rfl rfl ?_
  refine Rn.iconst (pc1 := 548) (v := nI 2) dL_law_547 rfl (by decide) ?_
  refine Rn.iadd (pc1 := 549)  dL_law_548 rfl (nI_add k 2) ?_
  refine Rn.sld (pc1 := 550) (v := sv (k + 2))  dL_law_549 rfl (vp_nI (j := k + 2) rfl (by omega) (by omega)) (by rw [nI_clamp (by omega)]; exact hs _ (by omega)) ?_
  refine Rn.cV_i (pc1 := 553) (eX8_ofReader (by omega) C) dL_law_550 rfl qL_76 oX8_ofReader (by first | assumption | exact mset_same | exact mget_ne (by omega) (by assumption)) rfl rfl rfl rfl (Nat.le_of_ble_eq_true rfl) (by decide) (by decide) (fun v550 μ550 h550 => ?_)
  obtain ⟨rfl, rfl⟩ := h550
  refine Rn.aload_n (pc1 := 554)  dL_law_553 rfl rfl rfl ?_
  refine Rn.aload_n (pc1 := 555)  dL_law_554 rfl rfl rfl ?_
  refine Rn.iload_n (pc1 := 556)  dL_law_555 rfl rfl rfl ?_
  refine Rn.iconst (pc1 := 557) (v := nI 1) dL_law_556 rfl (by decide) ?_
  refine Rn.iadd (pc1 := 558)  dL_law_557 rfl (nI_add k 1) ?_
  refine Rn.sld (pc1 := 559) (v := sv (k + 1))  dL_law_558 rfl (vp_nI (j := k + 1) rfl (by omega) (by omega)) (by rw [nI_clamp (by omega)]; exact hs _ (by omega)) ?_
  refine Rn.aload_n (pc1 := 560)  dL_law_559 rfl rfl rfl ?_
  refine Rn.iload_n (pc1 := 561)  dL_law_560 rfl rfl rfl ?_
  refine Rn.iconst (pc1 := 562) (v := nI 2) dL_law_561 rfl (by decide) ?_
  refine Rn.iadd (pc1 := 563)  dL_law_562 rfl (nI_add k 2) ?_
  refine Rn.sld (pc1 := 564) (v := sv (k + 2))  dL_law_563 rfl (vp_nI (j := k + 2) rfl (by omega) (by omega)) (by rw [nI_clamp (by omega)]; exact hs _ (by omega)) ?_
  refine Rn.cV_i (pc1 := 567) (eX9_ofReader F I) dL_law_564 rfl qL_79 oX9_ofReader (by first | assumption | exact mset_same | exact mget_ne (by omega) (by assumption)) rfl rfl rfl rfl (Nat.le_of_ble_eq_true rfl) (by decide) (by decide) (fun v564 μ564 h564 => ?_)
  obtain ⟨rfl, rfl⟩ := h564
  refine Rn.icmp_eq (pc1 := 570) 871 dL_law_567 rfl (by decide) (fun c567 => ?_) (fun c567 => ?_)
  · exact N _ (same hd C Fr.rf F)
  · exact absurd rfl c567
theorem lC_ofSnapshot (J : JI μ x m B) (hB : B < 2 ^ 27) (hd : x + 528 ≤ m) (hk : k + 2 < n) (hn : (gS G).slots.size = n) (hn2 : n ≤ 1536) (hs : ∀ i, i < n → (gS G).slots[i]? = some (.int (sv i))) (N : ∀ μ2, JI μ2 x m (B + 100) → Rn G 9 kL_law 871 [some (.ref (gB G)), some (.ref x), some (.ref m), some (.int (nI k))] [] μ2 sz 0 0 Q) : Rn G 9 kL_law 572 [some (.ref (gB G)), some (.ref x), some (.ref m), some (.int (nI k))] [] μ sz 0 0 Q := by
  obtain ⟨f, held, p, Pp, len, u, sl, f2, at_, od, ordered, C, F⟩ := J
  have hk6 := C.held
  obtain ⟨h, rc, sc, A, I0⟩ := C.2.1
  have I : IV f (hF f) (rF f) (sF f) B := by obtain ⟨i1, i2, i3⟩ := I0.h; rw [i1, i2, i3]; exact I0
  have hOx : _ = _ := C.1
  have hOm := F.1
  refine Rn.aload_n (pc1 := 573)  dL_law_572 rfl rfl rfl ?_
  refine Rn.aload_n (pc1 := 574)  dL_law_573 rfl rfl rfl ?_
  refine Rn.iload_n (pc1 := 575)  dL_law_574 rfl rfl rfl ?_
  refine Rn.iconst (pc1 := 576) (v := nI 1) dL_law_575 rfl (by decide) ?_
  refine Rn.iadd (pc1 := 577)  dL_law_576 rfl (nI_add k 1) ?_
  refine Rn.sld (pc1 := 578) (v := sv (k + 1))  dL_law_577 rfl (vp_nI (j := k + 1) rfl (by omega) (by omega)) (by rw [nI_clamp (by omega)]; exact hs _ (by omega)) ?_
  refine Rn.aload_n (pc1 := 579)  dL_law_578 rfl rfl rfl ?_
  refine Rn.iload_n (pc1 := 580)  dL_law_579 rfl rfl rfl ?_
  refine Rn.iconst (pc1 := 581) (v := nI 2) dL_law_580 rfl (by decide) ?_
  refine Rn.iadd (pc1 := 582)  dL_law_581 rfl (nI_add k 2) ?_
  refine Rn.sld (pc1 := 583) (v := sv (k + 2))  dL_law_582 rfl (vp_nI (j := k + 2) rfl (by omega) (by omega)) (by rw [nI_clamp (by omega)]; exact hs _ (by omega)) ?_
  refine Rn.cV_i (pc1 := 586) (eX8_ofSnapshot (by omega) C) dL_law_583 rfl qL_80 oX8_ofSnapshot (by first | assumption | exact mset_same | exact mget_ne (by omega) (by assumption)) rfl rfl rfl rfl (Nat.le_of_ble_eq_true rfl) (by decide) (by decide) (fun v583 μ583 h583 => ?_)
  obtain ⟨rfl, rfl⟩ := h583
  refine Rn.aload_n (pc1 := 587)  dL_law_586 rfl rfl rfl ?_
  refine Rn.aload_n (pc1 := 588)  dL_law_587 rfl rfl rfl ?_
  refine Rn.iload_n (pc1 := 589)  dL_law_588 rfl rfl rfl ?_
  refine Rn.iconst (pc1 := 590) (v := nI 1) dL_law_589 rfl (by decide) ?_
  refine Rn.iadd (pc1 := 591)  dL_law_590 rfl (nI_add k 1) ?_
  refine Rn.sld (pc1 := 592) (v := sv (k + 1))  dL_law_591 rfl (vp_nI (j := k + 1) rfl (by omega) (by omega)) (by rw [nI_clamp (by omega)]; exact hs _ (by omega)) ?_
  refine Rn.aload_n (pc1 := 593)  dL_law_592 rfl rfl rfl ?_
  refine Rn.iload_n (pc1 := 594)  dL_law_593 rfl rfl rfl ?_
  refine Rn.iconst (pc1 := 595) (v := nI 2) dL_law_594 rfl (by decide) ?_
  refine Rn.iadd (pc1 := 596)  dL_law_595 rfl (nI_add k 2) ?_
  refine Rn.sld (pc1 := 597) (v := sv (k + 2))  dL_law_596 rfl (vp_nI (j := k + 2) rfl (by omega) (by omega)) (by rw [nI_clamp (by omega)]; exact hs _ (by omega)) ?_
  refine Rn.cV_i (pc1 := 600) (eX9_ofSnapshot F I) dL_law_597 rfl qL_83 oX9_ofSnapshot (by first | assumption | exact mset_same | exact mget_ne (by omega) (by assumption)) rfl rfl rfl rfl (Nat.le_of_ble_eq_true rfl) (by decide) (by decide) (fun v597 μ597 h597 => ?_)
  obtain ⟨rfl, rfl⟩ := h597
  refine Rn.icmp_eq (pc1 := 603) 871 dL_law_600 rfl (by decide) (fun c600 => ?_) (fun c600 => ?_)
  · exact N _ (same hd C Fr.rf F)
  · exact absurd rfl c600
theorem lC_count (J : JI μ x m B) (hB : B < 2 ^ 27) (hd : x + 528 ≤ m) (hk : k + 2 < n) (hn : (gS G).slots.size = n) (hn2 : n ≤ 1536) (hs : ∀ i, i < n → (gS G).slots[i]? = some (.int (sv i))) (N : ∀ μ2, JI μ2 x m (B + 100) → Rn G 9 kL_law 871 [some (.ref (gB G)), some (.ref x), some (.ref m), some (.int (nI k))] [] μ2 sz 0 0 Q) : Rn G 9 kL_law 605 [some (.ref (gB G)), some (.ref x), some (.ref m), some (.int (nI k))] [] μ sz 0 0 Q := by
  obtain ⟨f, held, p, Pp, len, u, sl, f2, at_, od, ordered, C, F⟩ := J
  have hk6 := C.held
  obtain ⟨h, rc, sc, A, I0⟩ := C.2.1
  have I : IV f (hF f) (rF f) (sF f) B := by obtain ⟨i1, i2, i3⟩ := I0.h; rw [i1, i2, i3]; exact I0
  have hOx : _ = _ := C.1
  have hOm := F.1
  refine Rn.aload_n (pc1 := 606)  dL_law_605 rfl rfl rfl ?_
  refine Rn.aload_n (pc1 := 607)  dL_law_606 rfl rfl rfl ?_
  refine Rn.iload_n (pc1 := 608)  dL_law_607 rfl rfl rfl ?_
  refine Rn.iconst (pc1 := 609) (v := nI 1) dL_law_608 rfl (by decide) ?_
  refine Rn.iadd (pc1 := 610)  dL_law_609 rfl (nI_add k 1) ?_
  refine Rn.sld (pc1 := 611) (v := sv (k + 1))  dL_law_610 rfl (vp_nI (j := k + 1) rfl (by omega) (by omega)) (by rw [nI_clamp (by omega)]; exact hs _ (by omega)) ?_
  refine Rn.cV_i (pc1 := 614) (eX8_count C) dL_law_611 rfl qL_84 oX8_count (by first | assumption | exact mset_same | exact mget_ne (by omega) (by assumption)) rfl rfl rfl rfl (Nat.le_of_ble_eq_true rfl) (by decide) (by decide) (fun v611 μ611 h611 => ?_)
  obtain ⟨rfl, rfl⟩ := h611
  refine Rn.aload_n (pc1 := 615)  dL_law_614 rfl rfl rfl ?_
  refine Rn.aload_n (pc1 := 616)  dL_law_615 rfl rfl rfl ?_
  refine Rn.iload_n (pc1 := 617)  dL_law_616 rfl rfl rfl ?_
  refine Rn.iconst (pc1 := 618) (v := nI 1) dL_law_617 rfl (by decide) ?_
  refine Rn.iadd (pc1 := 619)  dL_law_618 rfl (nI_add k 1) ?_
  refine Rn.sld (pc1 := 620) (v := sv (k + 1))  dL_law_619 rfl (vp_nI (j := k + 1) rfl (by omega) (by omega)) (by rw [nI_clamp (by omega)]; exact hs _ (by omega)) ?_
  refine Rn.cV_i (pc1 := 623) (eX9_count F I) dL_law_620 rfl qL_87 oX9_count (by first | assumption | exact mset_same | exact mget_ne (by omega) (by assumption)) rfl rfl rfl rfl (Nat.le_of_ble_eq_true rfl) (by decide) (by decide) (fun v620 μ620 h620 => ?_)
  obtain ⟨rfl, rfl⟩ := h620
  refine Rn.icmp_eq (pc1 := 626) 871 dL_law_623 rfl (by decide) (fun c623 => ?_) (fun c623 => ?_)
  · exact N _ (same hd C Fr.rf F)
  · exact absurd rfl c623
theorem lC_leftIn (J : JI μ x m B) (hB : B < 2 ^ 27) (hd : x + 528 ≤ m) (hk : k + 2 < n) (hn : (gS G).slots.size = n) (hn2 : n ≤ 1536) (hs : ∀ i, i < n → (gS G).slots[i]? = some (.int (sv i))) (N : ∀ μ2, JI μ2 x m (B + 100) → Rn G 9 kL_law 871 [some (.ref (gB G)), some (.ref x), some (.ref m), some (.int (nI k))] [] μ2 sz 0 0 Q) : Rn G 9 kL_law 628 [some (.ref (gB G)), some (.ref x), some (.ref m), some (.int (nI k))] [] μ sz 0 0 Q := by
  obtain ⟨f, held, p, Pp, len, u, sl, f2, at_, od, ordered, C, F⟩ := J
  have hk6 := C.held
  obtain ⟨h, rc, sc, A, I0⟩ := C.2.1
  have I : IV f (hF f) (rF f) (sF f) B := by obtain ⟨i1, i2, i3⟩ := I0.h; rw [i1, i2, i3]; exact I0
  have hOx : _ = _ := C.1
  have hOm := F.1
  refine Rn.aload_n (pc1 := 629)  dL_law_628 rfl rfl rfl ?_
  refine Rn.aload_n (pc1 := 630)  dL_law_629 rfl rfl rfl ?_
  refine Rn.iload_n (pc1 := 631)  dL_law_630 rfl rfl rfl ?_
  refine Rn.iconst (pc1 := 632) (v := nI 1) dL_law_631 rfl (by decide) ?_
  refine Rn.iadd (pc1 := 633)  dL_law_632 rfl (nI_add k 1) ?_
  refine Rn.sld (pc1 := 634) (v := sv (k + 1))  dL_law_633 rfl (vp_nI (j := k + 1) rfl (by omega) (by omega)) (by rw [nI_clamp (by omega)]; exact hs _ (by omega)) ?_
  refine Rn.cV_i (pc1 := 637) (eX8_leftIn C) dL_law_634 rfl qL_88 oX8_leftIn (by first | assumption | exact mset_same | exact mget_ne (by omega) (by assumption)) rfl rfl rfl rfl (Nat.le_of_ble_eq_true rfl) (by decide) (by decide) (fun v634 μ634 h634 => ?_)
  obtain ⟨rfl, rfl⟩ := h634
  refine Rn.aload_n (pc1 := 638)  dL_law_637 rfl rfl rfl ?_
  refine Rn.aload_n (pc1 := 639)  dL_law_638 rfl rfl rfl ?_
  refine Rn.iload_n (pc1 := 640)  dL_law_639 rfl rfl rfl ?_
  refine Rn.iconst (pc1 := 641) (v := nI 1) dL_law_640 rfl (by decide) ?_
  refine Rn.iadd (pc1 := 642)  dL_law_641 rfl (nI_add k 1) ?_
  refine Rn.sld (pc1 := 643) (v := sv (k + 1))  dL_law_642 rfl (vp_nI (j := k + 1) rfl (by omega) (by omega)) (by rw [nI_clamp (by omega)]; exact hs _ (by omega)) ?_
  refine Rn.cV_i (pc1 := 646) (eX9_leftIn F I) dL_law_643 rfl qL_91 oX9_leftIn (by first | assumption | exact mset_same | exact mget_ne (by omega) (by assumption)) rfl rfl rfl rfl (Nat.le_of_ble_eq_true rfl) (by decide) (by decide) (fun v643 μ643 h643 => ?_)
  obtain ⟨rfl, ⟨g, Fg⟩, z2⟩ := h643
  refine Rn.icmp_eq (pc1 := 649) 871 dL_law_646 rfl (by decide) (fun c646 => ?_) (fun c646 => ?_)
  · exact N _ (same hd C z2 Fg)
  · exact absurd rfl c646
theorem lC_lateIn (J : JI μ x m B) (hB : B < 2 ^ 27) (hd : x + 528 ≤ m) (hk : k + 2 < n) (hn : (gS G).slots.size = n) (hn2 : n ≤ 1536) (hs : ∀ i, i < n → (gS G).slots[i]? = some (.int (sv i))) (N : ∀ μ2, JI μ2 x m (B + 100) → Rn G 9 kL_law 871 [some (.ref (gB G)), some (.ref x), some (.ref m), some (.int (nI k))] [] μ2 sz 0 0 Q) : Rn G 9 kL_law 651 [some (.ref (gB G)), some (.ref x), some (.ref m), some (.int (nI k))] [] μ sz 0 0 Q := by
  obtain ⟨f, held, p, Pp, len, u, sl, f2, at_, od, ordered, C, F⟩ := J
  have hk6 := C.held
  obtain ⟨h, rc, sc, A, I0⟩ := C.2.1
  have I : IV f (hF f) (rF f) (sF f) B := by obtain ⟨i1, i2, i3⟩ := I0.h; rw [i1, i2, i3]; exact I0
  have hOx : _ = _ := C.1
  have hOm := F.1
  refine Rn.aload_n (pc1 := 652)  dL_law_651 rfl rfl rfl ?_
  refine Rn.aload_n (pc1 := 653)  dL_law_652 rfl rfl rfl ?_
  refine Rn.iload_n (pc1 := 654)  dL_law_653 rfl rfl rfl ?_
  refine Rn.iconst (pc1 := 655) (v := nI 1) dL_law_654 rfl (by decide) ?_
  refine Rn.iadd (pc1 := 656)  dL_law_655 rfl (nI_add k 1) ?_
  refine Rn.sld (pc1 := 657) (v := sv (k + 1))  dL_law_656 rfl (vp_nI (j := k + 1) rfl (by omega) (by omega)) (by rw [nI_clamp (by omega)]; exact hs _ (by omega)) ?_
  refine Rn.cV_i (pc1 := 660) (eX8_lateIn C) dL_law_657 rfl qL_92 oX8_lateIn (by first | assumption | exact mset_same | exact mget_ne (by omega) (by assumption)) rfl rfl rfl rfl (Nat.le_of_ble_eq_true rfl) (by decide) (by decide) (fun v657 μ657 h657 => ?_)
  obtain ⟨rfl, rfl⟩ := h657
  refine Rn.aload_n (pc1 := 661)  dL_law_660 rfl rfl rfl ?_
  refine Rn.aload_n (pc1 := 662)  dL_law_661 rfl rfl rfl ?_
  refine Rn.iload_n (pc1 := 663)  dL_law_662 rfl rfl rfl ?_
  refine Rn.iconst (pc1 := 664) (v := nI 1) dL_law_663 rfl (by decide) ?_
  refine Rn.iadd (pc1 := 665)  dL_law_664 rfl (nI_add k 1) ?_
  refine Rn.sld (pc1 := 666) (v := sv (k + 1))  dL_law_665 rfl (vp_nI (j := k + 1) rfl (by omega) (by omega)) (by rw [nI_clamp (by omega)]; exact hs _ (by omega)) ?_
  refine Rn.cV_i (pc1 := 669) (eX9_lateIn F I) dL_law_666 rfl qL_95 oX9_lateIn (by first | assumption | exact mset_same | exact mget_ne (by omega) (by assumption)) rfl rfl rfl rfl (Nat.le_of_ble_eq_true rfl) (by decide) (by decide) (fun v666 μ666 h666 => ?_)
  obtain ⟨rfl, ⟨g, Fg⟩, z2⟩ := h666
  refine Rn.icmp_eq (pc1 := 672) 871 dL_law_669 rfl (by decide) (fun c669 => ?_) (fun c669 => ?_)
  · exact N _ (same hd C z2 Fg)
  · exact absurd rfl c669
theorem lC_shortest (J : JI μ x m B) (hB : B < 2 ^ 27) (hd : x + 528 ≤ m) (hk : k + 2 < n) (hn : (gS G).slots.size = n) (hn2 : n ≤ 1536) (hs : ∀ i, i < n → (gS G).slots[i]? = some (.int (sv i))) (N : ∀ μ2, JI μ2 x m (B + 100) → Rn G 9 kL_law 871 [some (.ref (gB G)), some (.ref x), some (.ref m), some (.int (nI k))] [] μ2 sz 0 0 Q) : Rn G 9 kL_law 674 [some (.ref (gB G)), some (.ref x), some (.ref m), some (.int (nI k))] [] μ sz 0 0 Q := by
  obtain ⟨f, held, p, Pp, len, u, sl, f2, at_, od, ordered, C, F⟩ := J
  have hk6 := C.held
  obtain ⟨h, rc, sc, A, I0⟩ := C.2.1
  have I : IV f (hF f) (rF f) (sF f) B := by obtain ⟨i1, i2, i3⟩ := I0.h; rw [i1, i2, i3]; exact I0
  have hOx : _ = _ := C.1
  have hOm := F.1
  refine Rn.aload_n (pc1 := 675)  dL_law_674 rfl rfl rfl ?_
  refine Rn.aload_n (pc1 := 676)  dL_law_675 rfl rfl rfl ?_
  refine Rn.iload_n (pc1 := 677)  dL_law_676 rfl rfl rfl ?_
  refine Rn.iconst (pc1 := 678) (v := nI 1) dL_law_677 rfl (by decide) ?_
  refine Rn.iadd (pc1 := 679)  dL_law_678 rfl (nI_add k 1) ?_
  refine Rn.sld (pc1 := 680) (v := sv (k + 1))  dL_law_679 rfl (vp_nI (j := k + 1) rfl (by omega) (by omega)) (by rw [nI_clamp (by omega)]; exact hs _ (by omega)) ?_
  refine Rn.aload_n (pc1 := 681)  dL_law_680 rfl rfl rfl ?_
  refine Rn.iload_n (pc1 := 682)  dL_law_681 rfl rfl rfl ?_
  refine Rn.iconst (pc1 := 683) (v := nI 2) dL_law_682 rfl (by decide) ?_
  refine Rn.iadd (pc1 := 684)  dL_law_683 rfl (nI_add k 2) ?_
  refine Rn.sld (pc1 := 685) (v := sv (k + 2))  dL_law_684 rfl (vp_nI (j := k + 2) rfl (by omega) (by omega)) (by rw [nI_clamp (by omega)]; exact hs _ (by omega)) ?_
  refine Rn.cV_i (pc1 := 688) (eX8_shortest (by omega) C) dL_law_685 rfl qL_96 oX8_shortest (by first | assumption | exact mset_same | exact mget_ne (by omega) (by assumption)) rfl rfl rfl rfl (Nat.le_of_ble_eq_true rfl) (by decide) (by decide) (fun v685 μ685 h685 => ?_)
  obtain ⟨rfl, rfl⟩ := h685
  refine Rn.aload_n (pc1 := 689)  dL_law_688 rfl rfl rfl ?_
  refine Rn.aload_n (pc1 := 690)  dL_law_689 rfl rfl rfl ?_
  refine Rn.iload_n (pc1 := 691)  dL_law_690 rfl rfl rfl ?_
  refine Rn.iconst (pc1 := 692) (v := nI 1) dL_law_691 rfl (by decide) ?_
  refine Rn.iadd (pc1 := 693)  dL_law_692 rfl (nI_add k 1) ?_
  refine Rn.sld (pc1 := 694) (v := sv (k + 1))  dL_law_693 rfl (vp_nI (j := k + 1) rfl (by omega) (by omega)) (by rw [nI_clamp (by omega)]; exact hs _ (by omega)) ?_
  refine Rn.aload_n (pc1 := 695)  dL_law_694 rfl rfl rfl ?_
  refine Rn.iload_n (pc1 := 696)  dL_law_695 rfl rfl rfl ?_
  refine Rn.iconst (pc1 := 697) (v := nI 2) dL_law_696 rfl (by decide) ?_
  refine Rn.iadd (pc1 := 698)  dL_law_697 rfl (nI_add k 2) ?_
  refine Rn.sld (pc1 := 699) (v := sv (k + 2))  dL_law_698 rfl (vp_nI (j := k + 2) rfl (by omega) (by omega)) (by rw [nI_clamp (by omega)]; exact hs _ (by omega)) ?_
  refine Rn.cV_i (pc1 := 702) (eX9_shortest F I) dL_law_699 rfl qL_99 oX9_shortest (by first | assumption | exact mset_same | exact mget_ne (by omega) (by assumption)) rfl rfl rfl rfl (Nat.le_of_ble_eq_true rfl) (by decide) (by decide) (fun v699 μ699 h699 => ?_)
  obtain ⟨rfl, rfl⟩ := h699
  refine Rn.icmp_eq (pc1 := 705) 871 dL_law_702 rfl (by decide) (fun c702 => ?_) (fun c702 => ?_)
  · exact N _ (same hd C Fr.rf F)
  · exact absurd rfl c702
theorem lC_gentlest (J : JI μ x m B) (hB : B < 2 ^ 27) (hd : x + 528 ≤ m) (hk : k + 2 < n) (hn : (gS G).slots.size = n) (hn2 : n ≤ 1536) (hs : ∀ i, i < n → (gS G).slots[i]? = some (.int (sv i))) (N : ∀ μ2, JI μ2 x m (B + 100) → Rn G 9 kL_law 871 [some (.ref (gB G)), some (.ref x), some (.ref m), some (.int (nI k))] [] μ2 sz 0 0 Q) : Rn G 9 kL_law 707 [some (.ref (gB G)), some (.ref x), some (.ref m), some (.int (nI k))] [] μ sz 0 0 Q := by
  obtain ⟨f, held, p, Pp, len, u, sl, f2, at_, od, ordered, C, F⟩ := J
  have hk6 := C.held
  obtain ⟨h, rc, sc, A, I0⟩ := C.2.1
  have I : IV f (hF f) (rF f) (sF f) B := by obtain ⟨i1, i2, i3⟩ := I0.h; rw [i1, i2, i3]; exact I0
  have hOx : _ = _ := C.1
  have hOm := F.1
  refine Rn.aload_n (pc1 := 708)  dL_law_707 rfl rfl rfl ?_
  refine Rn.cV_i (pc1 := 711) (eX8_gentlest C) dL_law_708 rfl qL_100 oX8_gentlest (by first | assumption | exact mset_same | exact mget_ne (by omega) (by assumption)) rfl rfl rfl rfl (Nat.le_of_ble_eq_true rfl) (by decide) (by decide) (fun v708 μ708 h708 => ?_)
  obtain ⟨rfl, rfl⟩ := h708
  refine Rn.aload_n (pc1 := 712)  dL_law_711 rfl rfl rfl ?_
  refine Rn.cV_i (pc1 := 715) (eX9_gentlest F I) dL_law_712 rfl qL_103 oX9_gentlest (by first | assumption | exact mset_same | exact mget_ne (by omega) (by assumption)) rfl rfl rfl rfl (Nat.le_of_ble_eq_true rfl) (by decide) (by decide) (fun v712 μ712 h712 => ?_)
  obtain ⟨rfl, ⟨g, Fg⟩, z2⟩ := h712
  refine Rn.icmp_eq (pc1 := 718) 871 dL_law_715 rfl (by decide) (fun c715 => ?_) (fun c715 => ?_)
  · exact N _ (same hd C z2 Fg)
  · exact absurd rfl c715
theorem lC_put (J : JI μ x m B) (hB : B < 2 ^ 27) (hd : x + 528 ≤ m) (hk : k + 2 < n) (hn : (gS G).slots.size = n) (hn2 : n ≤ 1536) (hs : ∀ i, i < n → (gS G).slots[i]? = some (.int (sv i))) (N : ∀ μ2, JI μ2 x m (B + 100) → Rn G 9 kL_law 871 [some (.ref (gB G)), some (.ref x), some (.ref m), some (.int (nI k))] [] μ2 sz 0 0 Q) : Rn G 9 kL_law 720 [some (.ref (gB G)), some (.ref x), some (.ref m), some (.int (nI k))] [] μ sz 0 0 Q := by
  obtain ⟨f, held, p, Pp, len, u, sl, f2, at_, od, ordered, C, F⟩ := J
  have hk6 := C.held
  obtain ⟨h, rc, sc, A, I0⟩ := C.2.1
  have I : IV f (hF f) (rF f) (sF f) B := by obtain ⟨i1, i2, i3⟩ := I0.h; rw [i1, i2, i3]; exact I0
  have hOx : _ = _ := C.1
  have hOm := F.1
  refine Rn.aload_n (pc1 := 721)  dL_law_720 rfl rfl rfl ?_
  refine Rn.aload_n (pc1 := 722)  dL_law_721 rfl rfl rfl ?_
  refine Rn.iload_n (pc1 := 723)  dL_law_722 rfl rfl rfl ?_
  refine Rn.iconst (pc1 := 724) (v := nI 1) dL_law_723 rfl (by decide) ?_
  refine Rn.iadd (pc1 := 725)  dL_law_724 rfl (nI_add k 1) ?_
  refine Rn.sld (pc1 := 726) (v := sv (k + 1))  dL_law_725 rfl (vp_nI (j := k + 1) rfl (by omega) (by omega)) (by rw [nI_clamp (by omega)]; exact hs _ (by omega)) ?_
  refine Rn.i2l (pc1 := 727)  dL_law_726 rfl rfl ?_
  refine Rn.bipush (pc1 := 729) (v := nI 32) dL_law_727 rfl (by decide) ?_
  refine Rn.lshl (pc1 := 730)  dL_law_729 rfl rfl ?_
  refine Rn.aload_n (pc1 := 731)  dL_law_730 rfl rfl rfl ?_
  refine Rn.iload_n (pc1 := 732)  dL_law_731 rfl rfl rfl ?_
  refine Rn.iconst (pc1 := 733) (v := nI 2) dL_law_732 rfl (by decide) ?_
  refine Rn.iadd (pc1 := 734)  dL_law_733 rfl (nI_add k 2) ?_
  refine Rn.sld (pc1 := 735) (v := sv (k + 2))  dL_law_734 rfl (vp_nI (j := k + 2) rfl (by omega) (by omega)) (by rw [nI_clamp (by omega)]; exact hs _ (by omega)) ?_
  refine Rn.i2l (pc1 := 736)  dL_law_735 rfl rfl ?_
  refine Rn.ldc2 (pc1 := 739) dL_law_736 rfl qL_104 ?_
  refine Rn.land (pc1 := 740)  dL_law_739 rfl rfl ?_
  refine Rn.lor (pc1 := 741)  dL_law_740 rfl rfl ?_
  refine Rn.cV_i (pc1 := 744) (eX8_put C) dL_law_741 rfl qL_106 oX8_put (by first | assumption | exact mset_same | exact mget_ne (by omega) (by assumption)) rfl rfl rfl rfl (Nat.le_of_ble_eq_true rfl) (by decide) (by decide) (fun v741 μ741 h741 => ?_)
  obtain ⟨hc, z1⟩ := h741
  have F1 := F.fr z1 (by omega)
  have hOm1 := F1.1
  refine Rn.aload_n (pc1 := 745)  dL_law_744 rfl rfl rfl ?_
  refine Rn.aload_n (pc1 := 746)  dL_law_745 rfl rfl rfl ?_
  refine Rn.iload_n (pc1 := 747)  dL_law_746 rfl rfl rfl ?_
  refine Rn.iconst (pc1 := 748) (v := nI 1) dL_law_747 rfl (by decide) ?_
  refine Rn.iadd (pc1 := 749)  dL_law_748 rfl (nI_add k 1) ?_
  refine Rn.sld (pc1 := 750) (v := sv (k + 1))  dL_law_749 rfl (vp_nI (j := k + 1) rfl (by omega) (by omega)) (by rw [nI_clamp (by omega)]; exact hs _ (by omega)) ?_
  refine Rn.i2l (pc1 := 751)  dL_law_750 rfl rfl ?_
  refine Rn.bipush (pc1 := 753) (v := nI 32) dL_law_751 rfl (by decide) ?_
  refine Rn.lshl (pc1 := 754)  dL_law_753 rfl rfl ?_
  refine Rn.aload_n (pc1 := 755)  dL_law_754 rfl rfl rfl ?_
  refine Rn.iload_n (pc1 := 756)  dL_law_755 rfl rfl rfl ?_
  refine Rn.iconst (pc1 := 757) (v := nI 2) dL_law_756 rfl (by decide) ?_
  refine Rn.iadd (pc1 := 758)  dL_law_757 rfl (nI_add k 2) ?_
  refine Rn.sld (pc1 := 759) (v := sv (k + 2))  dL_law_758 rfl (vp_nI (j := k + 2) rfl (by omega) (by omega)) (by rw [nI_clamp (by omega)]; exact hs _ (by omega)) ?_
  refine Rn.i2l (pc1 := 760)  dL_law_759 rfl rfl ?_
  refine Rn.ldc2 (pc1 := 763) dL_law_760 rfl qL_104 ?_
  refine Rn.land (pc1 := 764)  dL_law_763 rfl rfl ?_
  refine Rn.lor (pc1 := 765)  dL_law_764 rfl rfl ?_
  refine Rn.cV_i (pc1 := 768) (eX9_put F1 C.2.2.2.1.1) dL_law_765 rfl qL_110 oX9_put (by first | assumption | exact mset_same | exact mget_ne (by omega) (by assumption)) rfl rfl rfl rfl (Nat.le_of_ble_eq_true rfl) (by decide) (by decide) (fun v765 μ765 h765 => ?_)
  obtain ⟨hr, z2⟩ := h765
  obtain ⟨ev, J2⟩ := join_put hd hk6 C hc hr z2
  refine Rn.icmp_eq (pc1 := 771) 871 dL_law_768 rfl (by decide) (fun c768 => ?_) (fun c768 => ?_)
  · exact N _ J2
  · exact absurd ev c768
theorem lC_wipe (J : JI μ x m B) (hB : B < 2 ^ 27) (hd : x + 528 ≤ m) (hk : k + 2 < n) (hn : (gS G).slots.size = n) (hn2 : n ≤ 1536) (hs : ∀ i, i < n → (gS G).slots[i]? = some (.int (sv i))) (N : ∀ μ2, JI μ2 x m (B + 100) → Rn G 9 kL_law 871 [some (.ref (gB G)), some (.ref x), some (.ref m), some (.int (nI k))] [] μ2 sz 0 0 Q) : Rn G 9 kL_law 773 [some (.ref (gB G)), some (.ref x), some (.ref m), some (.int (nI k))] [] μ sz 0 0 Q := by
  obtain ⟨f, held, p, Pp, len, u, sl, f2, at_, od, ordered, C, F⟩ := J
  have hk6 := C.held
  obtain ⟨h, rc, sc, A, I0⟩ := C.2.1
  have I : IV f (hF f) (rF f) (sF f) B := by obtain ⟨i1, i2, i3⟩ := I0.h; rw [i1, i2, i3]; exact I0
  have hOx : _ = _ := C.1
  have hOm := F.1
  refine Rn.aload_n (pc1 := 774)  dL_law_773 rfl rfl rfl ?_
  refine Rn.cV_i (pc1 := 777) (eX8_wipe C) dL_law_774 rfl qL_111 oX8_wipe (by first | assumption | exact mset_same | exact mget_ne (by omega) (by assumption)) rfl rfl rfl rfl (Nat.le_of_ble_eq_true rfl) (by decide) (by decide) (fun v774 μ774 h774 => ?_)
  obtain ⟨hc, z1⟩ := h774
  have F1 := F.fr z1 (by omega)
  have hOm1 := F1.1
  refine Rn.aload_n (pc1 := 778)  dL_law_777 rfl rfl rfl ?_
  refine Rn.cV_i (pc1 := 781) (eX9_wipe F1) dL_law_778 rfl qL_114 oX9_wipe (by first | assumption | exact mset_same | exact mget_ne (by omega) (by assumption)) rfl rfl rfl rfl (Nat.le_of_ble_eq_true rfl) (by decide) (by decide) (fun v778 μ778 h778 => ?_)
  obtain ⟨rfl, F2, z2⟩ := h778
  obtain ⟨rfl, C2⟩ := hc
  refine Rn.icmp_eq (pc1 := 784) 871 dL_law_781 rfl (by decide) (fun c781 => ?_) (fun c781 => ?_)
  · exact N _ (same hd C2 z2 F2)
  · exact absurd rfl c781
theorem lC_fault (J : JI μ x m B) (hB : B < 2 ^ 27) (hd : x + 528 ≤ m) (hk : k + 2 < n) (hn : (gS G).slots.size = n) (hn2 : n ≤ 1536) (hs : ∀ i, i < n → (gS G).slots[i]? = some (.int (sv i))) (N : ∀ μ2, JI μ2 x m (B + 100) → Rn G 9 kL_law 871 [some (.ref (gB G)), some (.ref x), some (.ref m), some (.int (nI k))] [] μ2 sz 0 0 Q) : Rn G 9 kL_law 786 [some (.ref (gB G)), some (.ref x), some (.ref m), some (.int (nI k))] [] μ sz 0 0 Q := by
  obtain ⟨f, held, p, Pp, len, u, sl, f2, at_, od, ordered, C, F⟩ := J
  have hk6 := C.held
  obtain ⟨h, rc, sc, A, I0⟩ := C.2.1
  have I : IV f (hF f) (rF f) (sF f) B := by obtain ⟨i1, i2, i3⟩ := I0.h; rw [i1, i2, i3]; exact I0
  have hOx : _ = _ := C.1
  have hOm := F.1
  refine Rn.aload_n (pc1 := 787)  dL_law_786 rfl rfl rfl ?_
  refine Rn.cV_i (pc1 := 790) (eX8_fault C) dL_law_787 rfl qL_115 oX8_fault (by first | assumption | exact mset_same | exact mget_ne (by omega) (by assumption)) rfl rfl rfl rfl (Nat.le_of_ble_eq_true rfl) (by decide) (by decide) (fun v787 μ787 h787 => ?_)
  obtain ⟨hc, z1⟩ := h787
  have F1 := F.fr z1 (by omega)
  have hOm1 := F1.1
  refine Rn.aload_n (pc1 := 791)  dL_law_790 rfl rfl rfl ?_
  refine Rn.cV_i (pc1 := 794) (eX9_fault F1 C.2.2.2.1.1) dL_law_791 rfl qL_118 oX9_fault (by first | assumption | exact mset_same | exact mget_ne (by omega) (by assumption)) rfl rfl rfl rfl (Nat.le_of_ble_eq_true rfl) (by decide) (by decide) (fun v791 μ791 h791 => ?_)
  obtain ⟨rfl, ⟨od', n', at', F2⟩, z2⟩ := h791
  obtain ⟨rfl, C2⟩ := hc
  refine Rn.icmp_eq (pc1 := 797) 871 dL_law_794 rfl (by decide) (fun c794 => ?_) (fun c794 => ?_)
  · exact N _ (same hd C2 z2 F2)
  · exact absurd rfl c794
theorem lC_carryOut (J : JI μ x m B) (hB : B < 2 ^ 27) (hd : x + 528 ≤ m) (hk : k + 2 < n) (hn : (gS G).slots.size = n) (hn2 : n ≤ 1536) (hs : ∀ i, i < n → (gS G).slots[i]? = some (.int (sv i))) (N : ∀ μ2, JI μ2 x m (B + 100) → Rn G 9 kL_law 871 [some (.ref (gB G)), some (.ref x), some (.ref m), some (.int (nI k))] [] μ2 sz 0 0 Q) : Rn G 9 kL_law 799 [some (.ref (gB G)), some (.ref x), some (.ref m), some (.int (nI k))] [] μ sz 0 0 Q := by
  obtain ⟨f, held, p, Pp, len, u, sl, f2, at_, od, ordered, C, F⟩ := J
  have hk6 := C.held
  obtain ⟨h, rc, sc, A, I0⟩ := C.2.1
  have I : IV f (hF f) (rF f) (sF f) B := by obtain ⟨i1, i2, i3⟩ := I0.h; rw [i1, i2, i3]; exact I0
  have hOx : _ = _ := C.1
  have hOm := F.1
  refine Rn.aload_n (pc1 := 800)  dL_law_799 rfl rfl rfl ?_
  refine Rn.cV_i (pc1 := 803) (eX8_carryOut (by omega) C) dL_law_800 rfl qL_119 oX8_carryOut (by first | assumption | exact mset_same | exact mget_ne (by omega) (by assumption)) rfl rfl rfl rfl (Nat.le_of_ble_eq_true rfl) (by decide) (by decide) (fun v800 μ800 h800 => ?_)
  obtain ⟨hc, z1⟩ := h800
  have F1 := F.fr z1 (by omega)
  have hOm1 := F1.1
  refine Rn.aload_n (pc1 := 804)  dL_law_803 rfl rfl rfl ?_
  refine Rn.cV_i (pc1 := 807) (eX9_carryOut F1 I (by omega) C.2.2.2.1.1 hk6) dL_law_804 rfl qL_122 oX9_carryOut (by first | assumption | exact mset_same | exact mget_ne (by omega) (by assumption)) rfl rfl rfl rfl (Nat.le_of_ble_eq_true rfl) (by decide) (by decide) (fun v804 μ804 h804 => ?_)
  obtain ⟨hr, z2⟩ := h804
  obtain ⟨ev, J2⟩ := join_carryOut hd hk6 C hc hr z2
  refine Rn.icmp_eq (pc1 := 810) 871 dL_law_807 rfl (by decide) (fun c807 => ?_) (fun c807 => ?_)
  · exact N _ J2
  · exact absurd ev c807
theorem lC_undo (J : JI μ x m B) (hB : B < 2 ^ 27) (hd : x + 528 ≤ m) (hk : k + 2 < n) (hn : (gS G).slots.size = n) (hn2 : n ≤ 1536) (hs : ∀ i, i < n → (gS G).slots[i]? = some (.int (sv i))) (N : ∀ μ2, JI μ2 x m (B + 100) → Rn G 9 kL_law 871 [some (.ref (gB G)), some (.ref x), some (.ref m), some (.int (nI k))] [] μ2 sz 0 0 Q) : Rn G 9 kL_law 812 [some (.ref (gB G)), some (.ref x), some (.ref m), some (.int (nI k))] [] μ sz 0 0 Q := by
  obtain ⟨f, held, p, Pp, len, u, sl, f2, at_, od, ordered, C, F⟩ := J
  have hk6 := C.held
  obtain ⟨h, rc, sc, A, I0⟩ := C.2.1
  have I : IV f (hF f) (rF f) (sF f) B := by obtain ⟨i1, i2, i3⟩ := I0.h; rw [i1, i2, i3]; exact I0
  have hOx : _ = _ := C.1
  have hOm := F.1
  refine Rn.aload_n (pc1 := 813)  dL_law_812 rfl rfl rfl ?_
  refine Rn.cV_i (pc1 := 816) (eX8_undo C) dL_law_813 rfl qL_123 oX8_undo (by first | assumption | exact mset_same | exact mget_ne (by omega) (by assumption)) rfl rfl rfl rfl (Nat.le_of_ble_eq_true rfl) (by decide) (by decide) (fun v813 μ813 h813 => ?_)
  obtain ⟨hc, z1⟩ := h813
  have F1 := F.fr z1 (by omega)
  have hOm1 := F1.1
  refine Rn.aload_n (pc1 := 817)  dL_law_816 rfl rfl rfl ?_
  refine Rn.cV_i (pc1 := 820) (eX9_undo F1 hk6) dL_law_817 rfl qL_126 oX9_undo (by first | assumption | exact mset_same | exact mget_ne (by omega) (by assumption)) rfl rfl rfl rfl (Nat.le_of_ble_eq_true rfl) (by decide) (by decide) (fun v817 μ817 h817 => ?_)
  obtain ⟨hr, z2⟩ := h817
  obtain ⟨ev, J2⟩ := join_undo hd hk6 C hc hr z2
  refine Rn.icmp_eq (pc1 := 823) 871 dL_law_820 rfl (by decide) (fun c820 => ?_) (fun c820 => ?_)
  · exact N _ J2
  · exact absurd ev c820
theorem lC_save (J : JI μ x m B) (hB : B < 2 ^ 27) (hd : x + 528 ≤ m) (hk : k + 2 < n) (hn : (gS G).slots.size = n) (hn2 : n ≤ 1536) (hs : ∀ i, i < n → (gS G).slots[i]? = some (.int (sv i))) (N : ∀ μ2, JI μ2 x m (B + 100) → Rn G 9 kL_law 871 [some (.ref (gB G)), some (.ref x), some (.ref m), some (.int (nI k))] [] μ2 sz 0 0 Q) : Rn G 9 kL_law 825 [some (.ref (gB G)), some (.ref x), some (.ref m), some (.int (nI k))] [] μ sz 0 0 Q := by
  obtain ⟨f, held, p, Pp, len, u, sl, f2, at_, od, ordered, C, F⟩ := J
  have hk6 := C.held
  obtain ⟨h, rc, sc, A, I0⟩ := C.2.1
  have I : IV f (hF f) (rF f) (sF f) B := by obtain ⟨i1, i2, i3⟩ := I0.h; rw [i1, i2, i3]; exact I0
  have hOx : _ = _ := C.1
  have hOm := F.1
  refine Rn.aload_n (pc1 := 826)  dL_law_825 rfl rfl rfl ?_
  refine Rn.aload_n (pc1 := 827)  dL_law_826 rfl rfl rfl ?_
  refine Rn.iload_n (pc1 := 828)  dL_law_827 rfl rfl rfl ?_
  refine Rn.iconst (pc1 := 829) (v := nI 1) dL_law_828 rfl (by decide) ?_
  refine Rn.iadd (pc1 := 830)  dL_law_829 rfl (nI_add k 1) ?_
  refine Rn.sld (pc1 := 831) (v := sv (k + 1))  dL_law_830 rfl (vp_nI (j := k + 1) rfl (by omega) (by omega)) (by rw [nI_clamp (by omega)]; exact hs _ (by omega)) ?_
  refine Rn.cV_i (pc1 := 834) (eX8_save C) dL_law_831 rfl qL_127 oX8_save (by first | assumption | exact mset_same | exact mget_ne (by omega) (by assumption)) rfl rfl rfl rfl (Nat.le_of_ble_eq_true rfl) (by decide) (by decide) (fun v831 μ831 h831 => ?_)
  obtain ⟨hc, z1⟩ := h831
  have F1 := F.fr z1 (by omega)
  have hOm1 := F1.1
  refine Rn.aload_n (pc1 := 835)  dL_law_834 rfl rfl rfl ?_
  refine Rn.aload_n (pc1 := 836)  dL_law_835 rfl rfl rfl ?_
  refine Rn.iload_n (pc1 := 837)  dL_law_836 rfl rfl rfl ?_
  refine Rn.iconst (pc1 := 838) (v := nI 1) dL_law_837 rfl (by decide) ?_
  refine Rn.iadd (pc1 := 839)  dL_law_838 rfl (nI_add k 1) ?_
  refine Rn.sld (pc1 := 840) (v := sv (k + 1))  dL_law_839 rfl (vp_nI (j := k + 1) rfl (by omega) (by omega)) (by rw [nI_clamp (by omega)]; exact hs _ (by omega)) ?_
  refine Rn.cV_i (pc1 := 843) (eX9_save F1) dL_law_840 rfl qL_130 oX9_save (by first | assumption | exact mset_same | exact mget_ne (by omega) (by assumption)) rfl rfl rfl rfl (Nat.le_of_ble_eq_true rfl) (by decide) (by decide) (fun v840 μ840 h840 => ?_)
  obtain ⟨hr, z2⟩ := h840
  obtain ⟨ev, J2⟩ := join_save hd hk6 C hc hr z2
  refine Rn.icmp_eq (pc1 := 846) 871 dL_law_843 rfl (by decide) (fun c843 => ?_) (fun c843 => ?_)
  · exact N _ J2
  · exact absurd ev c843
theorem lC_restore (J : JI μ x m B) (hB : B < 2 ^ 27) (hd : x + 528 ≤ m) (hk : k + 2 < n) (hn : (gS G).slots.size = n) (hn2 : n ≤ 1536) (hs : ∀ i, i < n → (gS G).slots[i]? = some (.int (sv i))) (N : ∀ μ2, JI μ2 x m (B + 100) → Rn G 9 kL_law 871 [some (.ref (gB G)), some (.ref x), some (.ref m), some (.int (nI k))] [] μ2 sz 0 0 Q) : Rn G 9 kL_law 848 [some (.ref (gB G)), some (.ref x), some (.ref m), some (.int (nI k))] [] μ sz 0 0 Q := by
  obtain ⟨f, held, p, Pp, len, u, sl, f2, at_, od, ordered, C, F⟩ := J
  have hk6 := C.held
  obtain ⟨h, rc, sc, A, I0⟩ := C.2.1
  have I : IV f (hF f) (rF f) (sF f) B := by obtain ⟨i1, i2, i3⟩ := I0.h; rw [i1, i2, i3]; exact I0
  have hOx : _ = _ := C.1
  have hOm := F.1
  refine Rn.aload_n (pc1 := 849)  dL_law_848 rfl rfl rfl ?_
  refine Rn.aload_n (pc1 := 850)  dL_law_849 rfl rfl rfl ?_
  refine Rn.iload_n (pc1 := 851)  dL_law_850 rfl rfl rfl ?_
  refine Rn.iconst (pc1 := 852) (v := nI 1) dL_law_851 rfl (by decide) ?_
  refine Rn.iadd (pc1 := 853)  dL_law_852 rfl (nI_add k 1) ?_
  refine Rn.sld (pc1 := 854) (v := sv (k + 1))  dL_law_853 rfl (vp_nI (j := k + 1) rfl (by omega) (by omega)) (by rw [nI_clamp (by omega)]; exact hs _ (by omega)) ?_
  refine Rn.cV_i (pc1 := 857) (eX8_restore C) dL_law_854 rfl qL_131 oX8_restore (by first | assumption | exact mset_same | exact mget_ne (by omega) (by assumption)) rfl rfl rfl rfl (Nat.le_of_ble_eq_true rfl) (by decide) (by decide) (fun v854 μ854 h854 => ?_)
  have z1 := h854.2
  have F1 := F.fr z1 (by omega)
  have hOm1 := F1.1
  refine Rn.aload_n (pc1 := 858)  dL_law_857 rfl rfl rfl ?_
  refine Rn.aload_n (pc1 := 859)  dL_law_858 rfl rfl rfl ?_
  refine Rn.iload_n (pc1 := 860)  dL_law_859 rfl rfl rfl ?_
  refine Rn.iconst (pc1 := 861) (v := nI 1) dL_law_860 rfl (by decide) ?_
  refine Rn.iadd (pc1 := 862)  dL_law_861 rfl (nI_add k 1) ?_
  refine Rn.sld (pc1 := 863) (v := sv (k + 1))  dL_law_862 rfl (vp_nI (j := k + 1) rfl (by omega) (by omega)) (by rw [nI_clamp (by omega)]; exact hs _ (by omega)) ?_
  refine Rn.cV_i (pc1 := 866) (eX9_restore F1 hk6) dL_law_863 rfl qL_134 oX9_restore (by first | assumption | exact mset_same | exact mget_ne (by omega) (by assumption)) rfl rfl rfl rfl (Nat.le_of_ble_eq_true rfl) (by decide) (by decide) (fun v863 μ863 h863 => ?_)
  obtain ⟨ev, J2⟩ := join hd hk6 h854 (Or.inr (fun j hj => blk_in (q := j) (by omega) hj)) h863
  refine Rn.icmp_eq (pc1 := 869) 871 dL_law_866 rfl (by decide) (fun c866 => ?_) (fun c866 => ?_)
  · exact N _ J2
  · exact absurd ev c866
end LAW
