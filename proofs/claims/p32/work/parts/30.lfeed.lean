/-! ===== the law's feed ===== -/
-- LOOK2
def tolB (ky : Nat → Int32) (k : Nat) : Nat → Bool
  | 0 => false
  | n + 1 => tolB ky k n || decide (ky n = nI k)
theorem tolB_f {ky : Nat → Int32} {k : Nat} : ∀ {n : Nat}, tolB ky k n = false → ∀ j, j < n → ¬ ky j = nI k
  | 0, _, j, hj => absurd hj (Nat.not_lt_zero j)
  | n + 1, h, j, hj => by
    have h' : (tolB ky k n || decide (ky n = nI k)) = false := h
    rw [Bool.or_eq_false_iff] at h'
    by_cases e : j = n
    · subst e; exact of_decide_eq_false h'.2
    · exact tolB_f h'.1 j (by omega)
theorem m1_nI {a : Nat} (h : a < 2 ^ 31) : (-1 : Int32) < nI a := by
  rw [Int32.lt_iff_toInt_lt, nI_toInt h]
  have : (-1 : Int32).toInt = -1 := by decide
  omega
abbrev QT (μ : Mm) : Option Value → Mm → Prop := rI fun v μ' => v = nI 1 ∧ μ' = μ
section LAWF
variable {G : GG} {μ : Mm} {sz x held len B : Nat} {f : Nat → Int32} {P : Nat → Nat → Int32} {Pp : Nat → Int32} {u : Nat → Bool} {S : Nat → Nat → Int32} {h rc sc N g fl m : Nat} {n t : Nat → Nat}
theorem FA.le (A : FA f h rc sc B N n t g fl m) : (h ≤ 60 ∧ rc ≤ 6 ∧ sc ≤ 4) ∧ B < 2 ^ 30 ∧ N ≤ B ∧ fl ≤ N ∧ m ≤ 99999 ∧ h + g = N ∧ ∀ j, j < h → n j < N ∧ t j ≤ m := by
  obtain ⟨⟨b1, b2, b3, b4⟩, -, -, ⟨⟨a1, a2, a3, a4, a5, a6, a7⟩, -, c⟩, -⟩ := A
  exact ⟨⟨b1, b2, b3⟩, b4, a1, c.2.2.2.2.2.2, a7, a4, c.1⟩
theorem FA.c0 (A : FA f h rc sc B N n t g fl m) : countW f len held 0 = nI h := A.2.2.1.1
theorem FA.c1 (A : FA f h rc sc B N n t g fl m) : countW f len held 1 = nI N := A.2.2.2.1.1.2.1
theorem FA.c3 (A : FA f h rc sc B N n t g fl m) : countW f len held 3 = nI m := A.2.2.2.1.1.2.2.2.2.2.1
theorem FA.c4 (A : FA f h rc sc B N n t g fl m) : countW f len held 4 = nI fl := A.2.2.2.1.1.2.2.2.2.1
theorem FA.c5 (A : FA f h rc sc B N n t g fl m) : countW f len held 5 = nI g := A.2.2.2.1.1.2.2.1
theorem FA.c6 (A : FA f h rc sc B N n t g fl m) : countW f len held 6 = nI rc := A.2.2.1.2.1
theorem FA.c8 (A : FA f h rc sc B N n t g fl m) : countW f len held 8 = nI sc := A.2.2.1.2.2
theorem FA.n0 {e : Nat} (A : FA f h rc sc B N n t g fl m) (he : e < h) : entryW f (hF f) e 0 = nI (n e) := (A.2.2.2.1.2.1 e he).1
theorem FA.n3 {e : Nat} (A : FA f h rc sc B N n t g fl m) (he : e < h) : entryW f (hF f) e 3 = nI (t e) := (A.2.2.2.1.2.1 e he).2
theorem FA.n4 {e : Nat} (A : FA f h rc sc B N n t g fl m) : entryW f (hF f) e 4 = bI (lastB (e1 f) e h) := by
  show bI (lastB (e1 f) e (hF f)) = _
  rw [A.2.1.1]
theorem FA.hh (A : FA f h rc sc B N n t g fl m) : hF f ≤ 60 := by rw [A.2.1.1]; exact A.1.1
theorem FA.he {e : Nat} (A : FA f h rc sc B N n t g fl m) (he : e < h) : e < hF f := by rw [A.2.1.1]; exact he
theorem lF_218 (C : CW μ x f held P Pp len u S B) (A : FA f h rc sc B N n t g fl m) {bf tm va : Int32} {k : Nat} (hk : k < 12) (K : Rn G 7 kL_feed 258 [some (.ref x), some (.int bf), some (.int tm), some (.int va), some (.int (nI 1)), some (.int (nI k)), some (.int (bI (tolB (e1 f) k h))), some (.int (nI h))] [] μ sz 0 0 (QT μ)) : ∀ (r e : Nat), e + r = h → Rn G 7 kL_feed 218 [some (.ref x), some (.int bf), some (.int tm), some (.int va), some (.int (nI 1)), some (.int (nI k)), some (.int (bI (tolB (e1 f) k e))), some (.int (nI e))] [] μ sz 0 0 (QT μ) := by
  have hO := C.1
  have hl := A.le
  intro r
  induction r with
  | zero =>
    intro e he
    obtain rfl : e = h := by omega
    refine Rn.iload (pc1 := 220)  dL_feed_218 rfl rfl ?_
    refine Rn.aload_n (pc1 := 221)  dL_feed_220 rfl rfl rfl ?_
    refine Rn.iconst (pc1 := 222) (v := nI 0) dL_feed_221 rfl (by decide) ?_
    refine Rn.cV_i (pc1 := 225) (k_cnt C (w := 0) (by omega) A.c0) dL_feed_222 rfl qL_59 oX8_count (by first | assumption | exact mset_same | exact mget_ne (by omega) (by assumption) | exact mget_ne (by omega) mset_same) rfl rfl rfl rfl (Nat.le_of_ble_eq_true rfl) (by decide) (by decide) (fun v222 μ222 h222 => ?_)
    obtain ⟨rfl, rfl⟩ := h222
    refine Rn.icmp_ge (pc1 := 228) 258 dL_feed_225 rfl (by decide) (fun c225 => ?_) (fun c225 => ?_)
    · exact K
    · exact absurd (nI_le (Nat.le_refl _) (by omega)) c225
  | succ r ih =>
    intro e he
    have he2 : e < h := by omega
    refine Rn.iload (pc1 := 220)  dL_feed_218 rfl rfl ?_
    refine Rn.aload_n (pc1 := 221)  dL_feed_220 rfl rfl rfl ?_
    refine Rn.iconst (pc1 := 222) (v := nI 0) dL_feed_221 rfl (by decide) ?_
    refine Rn.cV_i (pc1 := 225) (k_cnt C (w := 0) (by omega) A.c0) dL_feed_222 rfl qL_59 oX8_count (by first | assumption | exact mset_same | exact mget_ne (by omega) (by assumption) | exact mget_ne (by omega) mset_same) rfl rfl rfl rfl (Nat.le_of_ble_eq_true rfl) (by decide) (by decide) (fun v222 μ222 h222 => ?_)
    obtain ⟨rfl, rfl⟩ := h222
    refine Rn.icmp_ge (pc1 := 228) 258 dL_feed_225 rfl (by decide) (fun c225 => ?_) (fun c225 => ?_)
    · exact absurd c225 (nI_ge he2 (by omega))
    · refine Rn.iload (pc1 := 230)  dL_feed_228 rfl rfl ?_
      refine Rn.if_ne (pc1 := 233) 245 dL_feed_230 rfl (by decide) (fun c230 => ?_) (fun c230 => ?_)
      · have ee : bI (tolB (e1 f) k (e + 1)) = nI 1 := by show bI (tolB (e1 f) k e || _) = _; rw [bI_n c230]; rfl
        refine Rn.iconst (pc1 := 246) (v := nI 1) dL_feed_245 rfl (by decide) ?_
        refine Rn.goto 250 dL_feed_246 (by decide) ?_
        refine Rn.istore (pc1 := 252)  dL_feed_250 rfl (by decide) rfl rfl ?_
        refine Rn.iinc (pc1 := 255)  dL_feed_252 rfl rfl (nI_1 e) (by decide) rfl rfl ?_
        refine Rn.goto 218 dL_feed_255 (by decide) ?_
        have := ih (e + 1) (by omega); rw [ee] at this; exact this
      · refine Rn.aload_n (pc1 := 234)  dL_feed_233 rfl rfl rfl ?_
        refine Rn.iload (pc1 := 236)  dL_feed_234 rfl rfl ?_
        refine Rn.iconst (pc1 := 237) (v := nI 1) dL_feed_236 rfl (by decide) ?_
        refine Rn.cV_i (pc1 := 240) (k_ent C A.hh (A.he he2) (w := 1) (y := e1 f e) (by omega) rfl) dL_feed_237 rfl qL_62 oX8_entry (by first | assumption | exact mset_same | exact mget_ne (by omega) (by assumption) | exact mget_ne (by omega) mset_same) rfl rfl rfl rfl (Nat.le_of_ble_eq_true rfl) (by decide) (by decide) (fun v237 μ237 h237 => ?_)
        obtain ⟨rfl, rfl⟩ := h237
        refine Rn.iload (pc1 := 242)  dL_feed_240 rfl rfl ?_
        refine Rn.icmp_ne (pc1 := 245) 249 dL_feed_242 rfl (by decide) (fun c242 => ?_) (fun c242 => ?_)
        · have ee : bI (tolB (e1 f) k (e + 1)) = nI 0 := by show bI (tolB (e1 f) k e || decide (e1 f e = nI k)) = _; rw [bI_0 c230, decide_eq_false c242]; rfl
          refine Rn.iconst (pc1 := 250) (v := nI 0) dL_feed_249 rfl (by decide) ?_
          refine Rn.istore (pc1 := 252)  dL_feed_250 rfl (by decide) rfl rfl ?_
          refine Rn.iinc (pc1 := 255)  dL_feed_252 rfl rfl (nI_1 e) (by decide) rfl rfl ?_
          refine Rn.goto 218 dL_feed_255 (by decide) ?_
          have := ih (e + 1) (by omega); rw [ee] at this; exact this
        · have ee : bI (tolB (e1 f) k (e + 1)) = nI 1 := by show bI (tolB (e1 f) k e || decide (e1 f e = nI k)) = _; rw [decide_eq_true c242, Bool.or_true]; rfl
          refine Rn.iconst (pc1 := 246) (v := nI 1) dL_feed_245 rfl (by decide) ?_
          refine Rn.goto 250 dL_feed_246 (by decide) ?_
          refine Rn.istore (pc1 := 252)  dL_feed_250 rfl (by decide) rfl rfl ?_
          refine Rn.iinc (pc1 := 255)  dL_feed_252 rfl rfl (nI_1 e) (by decide) rfl rfl ?_
          refine Rn.goto 218 dL_feed_255 (by decide) ?_
          have := ih (e + 1) (by omega); rw [ee] at this; exact this
theorem FA.val (A : FA f h rc sc B N n t g fl m) {k : Nat} (hk : k < 12) : f (9 + k) = -6 ∨ nI 0 ≤ f (9 + k) := A.2.2.2.1.2.2.2.2.2.1 k hk
theorem lF_200 (C : CW μ x f held P Pp len u S B) (A : FA f h rc sc B N n t g fl m) {bf tm : Int32} : ∀ (r k : Nat), k + r = 12 → ∀ (o6 o7 : Option Value), Rn G 7 kL_feed 200 [some (.ref x), some (.int bf), some (.int tm), some (.int (nI (cntN (fun q => f (9 + q)) k))), some (.int (nI 1)), some (.int (nI k)), o6, o7] [] μ sz 0 0 (QT μ) := by
  have hO := C.1
  have hl := A.le
  intro r
  induction r with
  | zero =>
    intro k hk o6 o7
    obtain rfl : k = 12 := by omega
    refine Rn.iload (pc1 := 202)  dL_feed_200 rfl rfl ?_
    refine Rn.bipush (pc1 := 204) (v := nI 12) dL_feed_202 rfl (by decide) ?_
    refine Rn.icmp_ge (pc1 := 207) 304 dL_feed_204 rfl (by decide) (fun c204 => ?_) (fun c204 => ?_)
    · refine Rn.iload (pc1 := 306)  dL_feed_304 rfl rfl ?_
      refine Rn.if_eq (pc1 := 309) 322 dL_feed_306 rfl (by decide) (fun c306 => ?_) (fun c306 => ?_)
      · exact absurd c306 (by decide)
      · refine Rn.aload_n (pc1 := 310)  dL_feed_309 rfl rfl rfl ?_
        refine Rn.iconst (pc1 := 311) (v := nI 2) dL_feed_310 rfl (by decide) ?_
        refine Rn.cV_i (pc1 := 314) (k_cnt C (w := 2) (by omega) rfl) dL_feed_311 rfl qL_59 oX8_count (by first | assumption | exact mset_same | exact mget_ne (by omega) (by assumption) | exact mget_ne (by omega) mset_same) rfl rfl rfl rfl (Nat.le_of_ble_eq_true rfl) (by decide) (by decide) (fun v311 μ311 h311 => ?_)
        obtain ⟨rfl, rfl⟩ := h311
        refine Rn.iload_n (pc1 := 315)  dL_feed_314 rfl rfl rfl ?_
        refine Rn.icmp_ne (pc1 := 318) 322 dL_feed_315 rfl (by decide) (fun c315 => ?_) (fun c315 => ?_)
        · exact absurd rfl c315
        · refine Rn.iconst (pc1 := 319) (v := nI 1) dL_feed_318 rfl (by decide) ?_
          refine Rn.goto 323 dL_feed_319 (by decide) ?_
          exact Rn.ireturn dL_feed_323 rfl rfl ⟨_, rfl, rfl, rfl⟩
    · exact absurd (nI_le (Nat.le_refl _) (by omega)) c204
  | succ r ih =>
    intro k hk o6 o7
    have hk2 : k < 12 := by omega
    have KK : Rn G 7 kL_feed 258 [some (.ref x), some (.int bf), some (.int tm), some (.int (nI (cntN (fun q => f (9 + q)) k))), some (.int (nI 1)), some (.int (nI k)), some (.int (bI (tolB (e1 f) k h))), some (.int (nI h))] [] μ sz 0 0 (QT μ) := by
      refine Rn.iload_n (pc1 := 259)  dL_feed_258 rfl rfl rfl ?_
      refine Rn.aload_n (pc1 := 260)  dL_feed_259 rfl rfl rfl ?_
      refine Rn.iload (pc1 := 262)  dL_feed_260 rfl rfl ?_
      refine Rn.cV_i (pc1 := 265) (k_tab C hk2 rfl) dL_feed_262 rfl qL_65 oX8_table (by first | assumption | exact mset_same | exact mget_ne (by omega) (by assumption) | exact mget_ne (by omega) mset_same) rfl rfl rfl rfl (Nat.le_of_ble_eq_true rfl) (by decide) (by decide) (fun v262 μ262 h262 => ?_)
      obtain ⟨rfl, rfl⟩ := h262
      refine Rn.if_lt (pc1 := 268) 272 dL_feed_265 rfl (by decide) (fun c265 => ?_) (fun c265 => ?_)
      · have ee : cntN (fun q => f (9 + q)) (k + 1) = cntN (fun q => f (9 + q)) k + 0 := by show _ + (if f (9 + k) = -6 then 0 else 1) = _; rw [if_pos ((A.val hk2).resolve_right (i32_nle.mpr c265))]
        refine Rn.iconst (pc1 := 273) (v := nI 0) dL_feed_272 rfl (by decide) ?_
        refine Rn.iadd (pc1 := 274)  dL_feed_273 rfl (nI_add _ _) ?_
        refine Rn.istore_n (pc1 := 275)  dL_feed_274 rfl rfl (by decide) rfl rfl ?_
        refine Rn.iload (pc1 := 277)  dL_feed_275 rfl rfl ?_
        refine Rn.if_ne (pc1 := 280) 291 dL_feed_277 rfl (by decide) (fun c277 => ?_) (fun c277 => ?_)
        · refine Rn.iconst (pc1 := 292) (v := nI 1) dL_feed_291 rfl (by decide) ?_
          refine Rn.goto 296 dL_feed_292 (by decide) ?_
          refine Rn.istore (pc1 := 298)  dL_feed_296 rfl (by decide) rfl rfl ?_
          refine Rn.iinc (pc1 := 301)  dL_feed_298 rfl rfl (nI_1 k) (by decide) rfl rfl ?_
          refine Rn.goto 200 dL_feed_301 (by decide) ?_
          have := ih (k + 1) (by omega); rw [ee] at this; exact this _ _
        · refine Rn.aload_n (pc1 := 281)  dL_feed_280 rfl rfl rfl ?_
          refine Rn.iload (pc1 := 283)  dL_feed_281 rfl rfl ?_
          refine Rn.cV_i (pc1 := 286) (k_tab C hk2 rfl) dL_feed_283 rfl qL_65 oX8_table (by first | assumption | exact mset_same | exact mget_ne (by omega) (by assumption) | exact mget_ne (by omega) mset_same) rfl rfl rfl rfl (Nat.le_of_ble_eq_true rfl) (by decide) (by decide) (fun v283 μ283 h283 => ?_)
          obtain ⟨rfl, rfl⟩ := h283
          refine Rn.bipush (pc1 := 288) (v := (-6)) dL_feed_286 rfl (by decide) ?_
          refine Rn.icmp_ne (pc1 := 291) 295 dL_feed_288 rfl (by decide) (fun c288 => ?_) (fun c288 => ?_)
          · exact absurd (A.2.2.2.1.2.2.2.2.2.2.2.1 k hk2 (tolB_f (bI_0 c277))) c288
          · refine Rn.iconst (pc1 := 292) (v := nI 1) dL_feed_291 rfl (by decide) ?_
            refine Rn.goto 296 dL_feed_292 (by decide) ?_
            refine Rn.istore (pc1 := 298)  dL_feed_296 rfl (by decide) rfl rfl ?_
            refine Rn.iinc (pc1 := 301)  dL_feed_298 rfl rfl (nI_1 k) (by decide) rfl rfl ?_
            refine Rn.goto 200 dL_feed_301 (by decide) ?_
            have := ih (k + 1) (by omega); rw [ee] at this; exact this _ _
      · have ee : cntN (fun q => f (9 + q)) (k + 1) = cntN (fun q => f (9 + q)) k + 1 := by show _ + (if f (9 + k) = -6 then 0 else 1) = _; rw [if_neg (fun z => c265 (by rw [z]; decide))]
        refine Rn.iconst (pc1 := 269) (v := nI 1) dL_feed_268 rfl (by decide) ?_
        refine Rn.goto 273 dL_feed_269 (by decide) ?_
        refine Rn.iadd (pc1 := 274)  dL_feed_273 rfl (nI_add _ _) ?_
        refine Rn.istore_n (pc1 := 275)  dL_feed_274 rfl rfl (by decide) rfl rfl ?_
        refine Rn.iload (pc1 := 277)  dL_feed_275 rfl rfl ?_
        refine Rn.if_ne (pc1 := 280) 291 dL_feed_277 rfl (by decide) (fun c277 => ?_) (fun c277 => ?_)
        · refine Rn.iconst (pc1 := 292) (v := nI 1) dL_feed_291 rfl (by decide) ?_
          refine Rn.goto 296 dL_feed_292 (by decide) ?_
          refine Rn.istore (pc1 := 298)  dL_feed_296 rfl (by decide) rfl rfl ?_
          refine Rn.iinc (pc1 := 301)  dL_feed_298 rfl rfl (nI_1 k) (by decide) rfl rfl ?_
          refine Rn.goto 200 dL_feed_301 (by decide) ?_
          have := ih (k + 1) (by omega); rw [ee] at this; exact this _ _
        · refine Rn.aload_n (pc1 := 281)  dL_feed_280 rfl rfl rfl ?_
          refine Rn.iload (pc1 := 283)  dL_feed_281 rfl rfl ?_
          refine Rn.cV_i (pc1 := 286) (k_tab C hk2 rfl) dL_feed_283 rfl qL_65 oX8_table (by first | assumption | exact mset_same | exact mget_ne (by omega) (by assumption) | exact mget_ne (by omega) mset_same) rfl rfl rfl rfl (Nat.le_of_ble_eq_true rfl) (by decide) (by decide) (fun v283 μ283 h283 => ?_)
          obtain ⟨rfl, rfl⟩ := h283
          refine Rn.bipush (pc1 := 288) (v := (-6)) dL_feed_286 rfl (by decide) ?_
          refine Rn.icmp_ne (pc1 := 291) 295 dL_feed_288 rfl (by decide) (fun c288 => ?_) (fun c288 => ?_)
          · exact absurd (A.2.2.2.1.2.2.2.2.2.2.2.1 k hk2 (tolB_f (bI_0 c277))) c288
          · refine Rn.iconst (pc1 := 292) (v := nI 1) dL_feed_291 rfl (by decide) ?_
            refine Rn.goto 296 dL_feed_292 (by decide) ?_
            refine Rn.istore (pc1 := 298)  dL_feed_296 rfl (by decide) rfl rfl ?_
            refine Rn.iinc (pc1 := 301)  dL_feed_298 rfl rfl (nI_1 k) (by decide) rfl rfl ?_
            refine Rn.goto 200 dL_feed_301 (by decide) ?_
            have := ih (k + 1) (by omega); rw [ee] at this; exact this _ _
    refine Rn.iload (pc1 := 202)  dL_feed_200 rfl rfl ?_
    refine Rn.bipush (pc1 := 204) (v := nI 12) dL_feed_202 rfl (by decide) ?_
    refine Rn.icmp_ge (pc1 := 207) 304 dL_feed_204 rfl (by decide) (fun c204 => ?_) (fun c204 => ?_)
    · exact absurd c204 (nI_ge hk2 (by omega))
    · refine Rn.iload (pc1 := 209)  dL_feed_207 rfl rfl ?_
      refine Rn.if_eq (pc1 := 212) 304 dL_feed_209 rfl (by decide) (fun c209 => ?_) (fun c209 => ?_)
      · exact absurd c209 (by decide)
      · refine Rn.iconst (pc1 := 213) (v := nI 0) dL_feed_212 rfl (by decide) ?_
        refine Rn.istore (pc1 := 215)  dL_feed_213 rfl (by decide) rfl rfl ?_
        refine Rn.iconst (pc1 := 216) (v := nI 0) dL_feed_215 rfl (by decide) ?_
        refine Rn.istore (pc1 := 218)  dL_feed_216 rfl (by decide) rfl rfl ?_
        exact lF_218 C A hk2 KK h 0 (by omega)
theorem lF_58 (C : CW μ x f held P Pp len u S B) (A : FA f h rc sc B N n t g fl m) : ∀ (r e : Nat), e + r = h → ∀ (bf tm : Int32), (e < h → bf < nI (n e)) → (e < h → tm ≤ nI (t e)) → Rn G 7 kL_feed 58 [some (.ref x), some (.int bf), some (.int tm), some (.int (nI 0)), some (.int (nI 1)), some (.int (nI e)), none, none] [] μ sz 0 0 (QT μ) := by
  have hO := C.1
  have hl := A.le
  intro r
  induction r with
  | zero =>
    intro e he bf tm hb ht
    obtain rfl : e = h := by omega
    refine Rn.iload (pc1 := 60)  dL_feed_58 rfl rfl ?_
    refine Rn.aload_n (pc1 := 61)  dL_feed_60 rfl rfl rfl ?_
    refine Rn.iconst (pc1 := 62) (v := nI 0) dL_feed_61 rfl (by decide) ?_
    refine Rn.cV_i (pc1 := 65) (k_cnt C (w := 0) (by omega) A.c0) dL_feed_62 rfl qL_59 oX8_count (by first | assumption | exact mset_same | exact mget_ne (by omega) (by assumption) | exact mget_ne (by omega) mset_same) rfl rfl rfl rfl (Nat.le_of_ble_eq_true rfl) (by decide) (by decide) (fun v62 μ62 h62 => ?_)
    obtain ⟨rfl, rfl⟩ := h62
    refine Rn.icmp_ge (pc1 := 68) 197 dL_feed_65 rfl (by decide) (fun c65 => ?_) (fun c65 => ?_)
    · refine Rn.iconst (pc1 := 198) (v := nI 0) dL_feed_197 rfl (by decide) ?_
      refine Rn.istore (pc1 := 200)  dL_feed_198 rfl (by decide) rfl rfl ?_
      exact lF_200 C A 12 0 (by omega) _ _
    · exact absurd (nI_le (Nat.le_refl _) (by omega)) c65
  | succ r ih =>
    intro e he bf tm hb ht
    have he2 : e < h := by omega
    have hnt := hl.2.2.2.2.2.2 e he2
    obtain ⟨k, hk, ek⟩ := A.2.2.2.1.2.2.2.2.1 e he2
    have mono := A.2.2.2.1.2.2.2.1
    refine Rn.iload (pc1 := 60)  dL_feed_58 rfl rfl ?_
    refine Rn.aload_n (pc1 := 61)  dL_feed_60 rfl rfl rfl ?_
    refine Rn.iconst (pc1 := 62) (v := nI 0) dL_feed_61 rfl (by decide) ?_
    refine Rn.cV_i (pc1 := 65) (k_cnt C (w := 0) (by omega) A.c0) dL_feed_62 rfl qL_59 oX8_count (by first | assumption | exact mset_same | exact mget_ne (by omega) (by assumption) | exact mget_ne (by omega) mset_same) rfl rfl rfl rfl (Nat.le_of_ble_eq_true rfl) (by decide) (by decide) (fun v62 μ62 h62 => ?_)
    obtain ⟨rfl, rfl⟩ := h62
    refine Rn.icmp_ge (pc1 := 68) 197 dL_feed_65 rfl (by decide) (fun c65 => ?_) (fun c65 => ?_)
    · exact absurd c65 (nI_ge he2 (by omega))
    · refine Rn.iload (pc1 := 70)  dL_feed_68 rfl rfl ?_
      refine Rn.if_eq (pc1 := 73) 197 dL_feed_70 rfl (by decide) (fun c70 => ?_) (fun c70 => ?_)
      · exact absurd c70 (by decide)
      · refine Rn.aload_n (pc1 := 74)  dL_feed_73 rfl rfl rfl ?_
        refine Rn.iload (pc1 := 76)  dL_feed_74 rfl rfl ?_
        refine Rn.iconst (pc1 := 77) (v := nI 0) dL_feed_76 rfl (by decide) ?_
        refine Rn.cV_i (pc1 := 80) (k_ent C A.hh (A.he he2) (w := 0) (by omega) (A.n0 he2)) dL_feed_77 rfl qL_62 oX8_entry (by first | assumption | exact mset_same | exact mget_ne (by omega) (by assumption) | exact mget_ne (by omega) mset_same) rfl rfl rfl rfl (Nat.le_of_ble_eq_true rfl) (by decide) (by decide) (fun v77 μ77 h77 => ?_)
        obtain ⟨rfl, rfl⟩ := h77
        refine Rn.iload_n (pc1 := 81)  dL_feed_80 rfl rfl rfl ?_
        refine Rn.icmp_le (pc1 := 84) 129 dL_feed_81 rfl (by decide) (fun c81 => ?_) (fun c81 => ?_)
        · exact absurd c81 (i32_nle.mpr (hb he2))
        · refine Rn.aload_n (pc1 := 85)  dL_feed_84 rfl rfl rfl ?_
          refine Rn.iload (pc1 := 87)  dL_feed_85 rfl rfl ?_
          refine Rn.iconst (pc1 := 88) (v := nI 0) dL_feed_87 rfl (by decide) ?_
          refine Rn.cV_i (pc1 := 91) (k_ent C A.hh (A.he he2) (w := 0) (by omega) (A.n0 he2)) dL_feed_88 rfl qL_62 oX8_entry (by first | assumption | exact mset_same | exact mget_ne (by omega) (by assumption) | exact mget_ne (by omega) mset_same) rfl rfl rfl rfl (Nat.le_of_ble_eq_true rfl) (by decide) (by decide) (fun v88 μ88 h88 => ?_)
          obtain ⟨rfl, rfl⟩ := h88
          refine Rn.aload_n (pc1 := 92)  dL_feed_91 rfl rfl rfl ?_
          refine Rn.iconst (pc1 := 93) (v := nI 1) dL_feed_92 rfl (by decide) ?_
          refine Rn.cV_i (pc1 := 96) (k_cnt C (w := 1) (by omega) A.c1) dL_feed_93 rfl qL_59 oX8_count (by first | assumption | exact mset_same | exact mget_ne (by omega) (by assumption) | exact mget_ne (by omega) mset_same) rfl rfl rfl rfl (Nat.le_of_ble_eq_true rfl) (by decide) (by decide) (fun v93 μ93 h93 => ?_)
          obtain ⟨rfl, rfl⟩ := h93
          refine Rn.icmp_ge (pc1 := 99) 129 dL_feed_96 rfl (by decide) (fun c96 => ?_) (fun c96 => ?_)
          · exact absurd c96 (nI_ge hnt.1 (by omega))
          · refine Rn.aload_n (pc1 := 100)  dL_feed_99 rfl rfl rfl ?_
            refine Rn.iload (pc1 := 102)  dL_feed_100 rfl rfl ?_
            refine Rn.iconst (pc1 := 103) (v := nI 3) dL_feed_102 rfl (by decide) ?_
            refine Rn.cV_i (pc1 := 106) (k_ent C A.hh (A.he he2) (w := 3) (by omega) (A.n3 he2)) dL_feed_103 rfl qL_62 oX8_entry (by first | assumption | exact mset_same | exact mget_ne (by omega) (by assumption) | exact mget_ne (by omega) mset_same) rfl rfl rfl rfl (Nat.le_of_ble_eq_true rfl) (by decide) (by decide) (fun v103 μ103 h103 => ?_)
            obtain ⟨rfl, rfl⟩ := h103
            refine Rn.iload_n (pc1 := 107)  dL_feed_106 rfl rfl rfl ?_
            refine Rn.icmp_lt (pc1 := 110) 129 dL_feed_107 rfl (by decide) (fun c107 => ?_) (fun c107 => ?_)
            · exact absurd c107 (i32_nlt.mpr (ht he2))
            · refine Rn.aload_n (pc1 := 111)  dL_feed_110 rfl rfl rfl ?_
              refine Rn.iload (pc1 := 113)  dL_feed_111 rfl rfl ?_
              refine Rn.iconst (pc1 := 114) (v := nI 3) dL_feed_113 rfl (by decide) ?_
              refine Rn.cV_i (pc1 := 117) (k_ent C A.hh (A.he he2) (w := 3) (by omega) (A.n3 he2)) dL_feed_114 rfl qL_62 oX8_entry (by first | assumption | exact mset_same | exact mget_ne (by omega) (by assumption) | exact mget_ne (by omega) mset_same) rfl rfl rfl rfl (Nat.le_of_ble_eq_true rfl) (by decide) (by decide) (fun v114 μ114 h114 => ?_)
              obtain ⟨rfl, rfl⟩ := h114
              refine Rn.aload_n (pc1 := 118)  dL_feed_117 rfl rfl rfl ?_
              refine Rn.iconst (pc1 := 119) (v := nI 3) dL_feed_118 rfl (by decide) ?_
              refine Rn.cV_i (pc1 := 122) (k_cnt C (w := 3) (by omega) A.c3) dL_feed_119 rfl qL_59 oX8_count (by first | assumption | exact mset_same | exact mget_ne (by omega) (by assumption) | exact mget_ne (by omega) mset_same) rfl rfl rfl rfl (Nat.le_of_ble_eq_true rfl) (by decide) (by decide) (fun v119 μ119 h119 => ?_)
              obtain ⟨rfl, rfl⟩ := h119
              refine Rn.icmp_gt (pc1 := 125) 129 dL_feed_122 rfl (by decide) (fun c122 => ?_) (fun c122 => ?_)
              · exact absurd c122 (nI_nlt hnt.2 (by omega))
              · refine Rn.iconst (pc1 := 126) (v := nI 1) dL_feed_125 rfl (by decide) ?_
                refine Rn.goto 130 dL_feed_126 (by decide) ?_
                refine Rn.istore (pc1 := 132)  dL_feed_130 rfl (by decide) rfl rfl ?_
                refine Rn.iload (pc1 := 134)  dL_feed_132 rfl rfl ?_
                refine Rn.if_eq (pc1 := 137) 172 dL_feed_134 rfl (by decide) (fun c134 => ?_) (fun c134 => ?_)
                · exact absurd c134 (by decide)
                · refine Rn.aload_n (pc1 := 138)  dL_feed_137 rfl rfl rfl ?_
                  refine Rn.iload (pc1 := 140)  dL_feed_138 rfl rfl ?_
                  refine Rn.iconst (pc1 := 141) (v := nI 4) dL_feed_140 rfl (by decide) ?_
                  refine Rn.cV_i (pc1 := 144) (k_ent C A.hh (A.he he2) (w := 4) (by omega) A.n4) dL_feed_141 rfl qL_62 oX8_entry (by first | assumption | exact mset_same | exact mget_ne (by omega) (by assumption) | exact mget_ne (by omega) mset_same) rfl rfl rfl rfl (Nat.le_of_ble_eq_true rfl) (by decide) (by decide) (fun v141 μ141 h141 => ?_)
                  obtain ⟨rfl, rfl⟩ := h141
                  refine Rn.if_eq (pc1 := 147) 168 dL_feed_144 rfl (by decide) (fun c144 => ?_) (fun c144 => ?_)
                  · refine Rn.iconst (pc1 := 169) (v := nI 1) dL_feed_168 rfl (by decide) ?_
                    refine Rn.goto 173 dL_feed_169 (by decide) ?_
                    refine Rn.istore (pc1 := 175)  dL_feed_173 rfl (by decide) rfl rfl ?_
                    refine Rn.aload_n (pc1 := 176)  dL_feed_175 rfl rfl rfl ?_
                    refine Rn.iload (pc1 := 178)  dL_feed_176 rfl rfl ?_
                    refine Rn.iconst (pc1 := 179) (v := nI 0) dL_feed_178 rfl (by decide) ?_
                    refine Rn.cV_i (pc1 := 182) (k_ent C A.hh (A.he he2) (w := 0) (by omega) (A.n0 he2)) dL_feed_179 rfl qL_62 oX8_entry (by first | assumption | exact mset_same | exact mget_ne (by omega) (by assumption) | exact mget_ne (by omega) mset_same) rfl rfl rfl rfl (Nat.le_of_ble_eq_true rfl) (by decide) (by decide) (fun v179 μ179 h179 => ?_)
                    obtain ⟨rfl, rfl⟩ := h179
                    refine Rn.istore_n (pc1 := 183)  dL_feed_182 rfl rfl (by decide) rfl rfl ?_
                    refine Rn.aload_n (pc1 := 184)  dL_feed_183 rfl rfl rfl ?_
                    refine Rn.iload (pc1 := 186)  dL_feed_184 rfl rfl ?_
                    refine Rn.iconst (pc1 := 187) (v := nI 3) dL_feed_186 rfl (by decide) ?_
                    refine Rn.cV_i (pc1 := 190) (k_ent C A.hh (A.he he2) (w := 3) (by omega) (A.n3 he2)) dL_feed_187 rfl qL_62 oX8_entry (by first | assumption | exact mset_same | exact mget_ne (by omega) (by assumption) | exact mget_ne (by omega) mset_same) rfl rfl rfl rfl (Nat.le_of_ble_eq_true rfl) (by decide) (by decide) (fun v187 μ187 h187 => ?_)
                    obtain ⟨rfl, rfl⟩ := h187
                    refine Rn.istore_n (pc1 := 191)  dL_feed_190 rfl rfl (by decide) rfl rfl ?_
                    refine Rn.iinc (pc1 := 194)  dL_feed_191 rfl rfl (nI_1 e) (by decide) rfl rfl ?_
                    refine Rn.goto 58 dL_feed_194 (by decide) ?_
                    exact ih (e + 1) (by omega) _ _ (fun q => nI_lt (mono e (e + 1) (by omega) q).1 (by have := hl.2.2.2.2.2.2 (e + 1) q; omega)) (fun q => nI_le (mono e (e + 1) (by omega) q).2 (by have := hl.2.2.2.2.2.2 (e + 1) q; omega))
                  · refine Rn.aload_n (pc1 := 148)  dL_feed_147 rfl rfl rfl ?_
                    refine Rn.aload_n (pc1 := 149)  dL_feed_148 rfl rfl rfl ?_
                    refine Rn.iload (pc1 := 151)  dL_feed_149 rfl rfl ?_
                    refine Rn.iconst (pc1 := 152) (v := nI 1) dL_feed_151 rfl (by decide) ?_
                    refine Rn.cV_i (pc1 := 155) (k_ent C A.hh (A.he he2) (w := 1) (by omega) ek) dL_feed_152 rfl qL_62 oX8_entry (by first | assumption | exact mset_same | exact mget_ne (by omega) (by assumption) | exact mget_ne (by omega) mset_same) rfl rfl rfl rfl (Nat.le_of_ble_eq_true rfl) (by decide) (by decide) (fun v152 μ152 h152 => ?_)
                    obtain ⟨rfl, rfl⟩ := h152
                    refine Rn.cV_i (pc1 := 158) (k_tab C hk rfl) dL_feed_155 rfl qL_65 oX8_table (by first | assumption | exact mset_same | exact mget_ne (by omega) (by assumption) | exact mget_ne (by omega) mset_same) rfl rfl rfl rfl (Nat.le_of_ble_eq_true rfl) (by decide) (by decide) (fun v155 μ155 h155 => ?_)
                    obtain ⟨rfl, rfl⟩ := h155
                    refine Rn.aload_n (pc1 := 159)  dL_feed_158 rfl rfl rfl ?_
                    refine Rn.iload (pc1 := 161)  dL_feed_159 rfl rfl ?_
                    refine Rn.iconst (pc1 := 162) (v := nI 2) dL_feed_161 rfl (by decide) ?_
                    refine Rn.cV_i (pc1 := 165) (k_ent C A.hh (A.he he2) (w := 2) (y := e2 f e) (by omega) rfl) dL_feed_162 rfl qL_62 oX8_entry (by first | assumption | exact mset_same | exact mget_ne (by omega) (by assumption) | exact mget_ne (by omega) mset_same) rfl rfl rfl rfl (Nat.le_of_ble_eq_true rfl) (by decide) (by decide) (fun v162 μ162 h162 => ?_)
                    obtain ⟨rfl, rfl⟩ := h162
                    refine Rn.icmp_ne (pc1 := 168) 172 dL_feed_165 rfl (by decide) (fun c165 => ?_) (fun c165 => ?_)
                    · exact absurd (A.2.2.2.1.2.2.2.2.2.2.1 e k he2 hk ek (lastB_iff.mp (bI_n c144))) c165
                    · refine Rn.iconst (pc1 := 169) (v := nI 1) dL_feed_168 rfl (by decide) ?_
                      refine Rn.goto 173 dL_feed_169 (by decide) ?_
                      refine Rn.istore (pc1 := 175)  dL_feed_173 rfl (by decide) rfl rfl ?_
                      refine Rn.aload_n (pc1 := 176)  dL_feed_175 rfl rfl rfl ?_
                      refine Rn.iload (pc1 := 178)  dL_feed_176 rfl rfl ?_
                      refine Rn.iconst (pc1 := 179) (v := nI 0) dL_feed_178 rfl (by decide) ?_
                      refine Rn.cV_i (pc1 := 182) (k_ent C A.hh (A.he he2) (w := 0) (by omega) (A.n0 he2)) dL_feed_179 rfl qL_62 oX8_entry (by first | assumption | exact mset_same | exact mget_ne (by omega) (by assumption) | exact mget_ne (by omega) mset_same) rfl rfl rfl rfl (Nat.le_of_ble_eq_true rfl) (by decide) (by decide) (fun v179 μ179 h179 => ?_)
                      obtain ⟨rfl, rfl⟩ := h179
                      refine Rn.istore_n (pc1 := 183)  dL_feed_182 rfl rfl (by decide) rfl rfl ?_
                      refine Rn.aload_n (pc1 := 184)  dL_feed_183 rfl rfl rfl ?_
                      refine Rn.iload (pc1 := 186)  dL_feed_184 rfl rfl ?_
                      refine Rn.iconst (pc1 := 187) (v := nI 3) dL_feed_186 rfl (by decide) ?_
                      refine Rn.cV_i (pc1 := 190) (k_ent C A.hh (A.he he2) (w := 3) (by omega) (A.n3 he2)) dL_feed_187 rfl qL_62 oX8_entry (by first | assumption | exact mset_same | exact mget_ne (by omega) (by assumption) | exact mget_ne (by omega) mset_same) rfl rfl rfl rfl (Nat.le_of_ble_eq_true rfl) (by decide) (by decide) (fun v187 μ187 h187 => ?_)
                      obtain ⟨rfl, rfl⟩ := h187
                      refine Rn.istore_n (pc1 := 191)  dL_feed_190 rfl rfl (by decide) rfl rfl ?_
                      refine Rn.iinc (pc1 := 194)  dL_feed_191 rfl rfl (nI_1 e) (by decide) rfl rfl ?_
                      refine Rn.goto 58 dL_feed_194 (by decide) ?_
                      exact ih (e + 1) (by omega) _ _ (fun q => nI_lt (mono e (e + 1) (by omega) q).1 (by have := hl.2.2.2.2.2.2 (e + 1) q; omega)) (fun q => nI_le (mono e (e + 1) (by omega) q).2 (by have := hl.2.2.2.2.2.2 (e + 1) q; omega))
theorem eL_feed (C : CW μ x f held P Pp len u S B) (A : FA f h rc sc B N n t g fl m) : EvA G 7 kL_feed [.ref x] μ sz 0 0 (QT μ) := by
  have hO := C.1
  have hl := A.le
  refine EvA.of (L := [some (.ref x), none, none, none, none, none, none, none]) (by decide +kernel) (Nat.le_of_ble_eq_true rfl) rfl ?_
  refine Rn.iconst (pc1 := 1) (v := (-1)) dL_feed_0 rfl (by decide) ?_
  refine Rn.istore_n (pc1 := 2)  dL_feed_1 rfl rfl (by decide) rfl rfl ?_
  refine Rn.iconst (pc1 := 3) (v := nI 0) dL_feed_2 rfl (by decide) ?_
  refine Rn.istore_n (pc1 := 4)  dL_feed_3 rfl rfl (by decide) rfl rfl ?_
  refine Rn.iconst (pc1 := 5) (v := nI 0) dL_feed_4 rfl (by decide) ?_
  refine Rn.istore_n (pc1 := 6)  dL_feed_5 rfl rfl (by decide) rfl rfl ?_
  refine Rn.aload_n (pc1 := 7)  dL_feed_6 rfl rfl rfl ?_
  refine Rn.iconst (pc1 := 8) (v := nI 0) dL_feed_7 rfl (by decide) ?_
  refine Rn.cV_i (pc1 := 11) (k_cnt C (w := 0) (by omega) A.c0) dL_feed_8 rfl qL_59 oX8_count (by first | assumption | exact mset_same | exact mget_ne (by omega) (by assumption) | exact mget_ne (by omega) mset_same) rfl rfl rfl rfl (Nat.le_of_ble_eq_true rfl) (by decide) (by decide) (fun v8 μ8 h8 => ?_)
  obtain ⟨rfl, rfl⟩ := h8
  refine Rn.bipush (pc1 := 13) (v := nI 60) dL_feed_11 rfl (by decide) ?_
  refine Rn.icmp_gt (pc1 := 16) 52 dL_feed_13 rfl (by decide) (fun c13 => ?_) (fun c13 => ?_)
  · exact absurd c13 (nI_nlt hl.1.1 (by omega))
  · refine Rn.aload_n (pc1 := 17)  dL_feed_16 rfl rfl rfl ?_
    refine Rn.iconst (pc1 := 18) (v := nI 0) dL_feed_17 rfl (by decide) ?_
    refine Rn.cV_i (pc1 := 21) (k_cnt C (w := 0) (by omega) A.c0) dL_feed_18 rfl qL_59 oX8_count (by first | assumption | exact mset_same | exact mget_ne (by omega) (by assumption) | exact mget_ne (by omega) mset_same) rfl rfl rfl rfl (Nat.le_of_ble_eq_true rfl) (by decide) (by decide) (fun v18 μ18 h18 => ?_)
    obtain ⟨rfl, rfl⟩ := h18
    refine Rn.aload_n (pc1 := 22)  dL_feed_21 rfl rfl rfl ?_
    refine Rn.iconst (pc1 := 23) (v := nI 5) dL_feed_22 rfl (by decide) ?_
    refine Rn.cV_i (pc1 := 26) (k_cnt C (w := 5) (by omega) A.c5) dL_feed_23 rfl qL_59 oX8_count (by first | assumption | exact mset_same | exact mget_ne (by omega) (by assumption) | exact mget_ne (by omega) mset_same) rfl rfl rfl rfl (Nat.le_of_ble_eq_true rfl) (by decide) (by decide) (fun v23 μ23 h23 => ?_)
    obtain ⟨rfl, rfl⟩ := h23
    refine Rn.iadd (pc1 := 27)  dL_feed_26 rfl (nI_add _ _) ?_
    refine Rn.aload_n (pc1 := 28)  dL_feed_27 rfl rfl rfl ?_
    refine Rn.iconst (pc1 := 29) (v := nI 1) dL_feed_28 rfl (by decide) ?_
    refine Rn.cV_i (pc1 := 32) (k_cnt C (w := 1) (by omega) A.c1) dL_feed_29 rfl qL_59 oX8_count (by first | assumption | exact mset_same | exact mget_ne (by omega) (by assumption) | exact mget_ne (by omega) mset_same) rfl rfl rfl rfl (Nat.le_of_ble_eq_true rfl) (by decide) (by decide) (fun v29 μ29 h29 => ?_)
    obtain ⟨rfl, rfl⟩ := h29
    refine Rn.icmp_ne (pc1 := 35) 52 dL_feed_32 rfl (by decide) (fun c32 => ?_) (fun c32 => ?_)
    · exact absurd (by rw [hl.2.2.2.2.2.1]) c32
    · refine Rn.aload_n (pc1 := 36)  dL_feed_35 rfl rfl rfl ?_
      refine Rn.iconst (pc1 := 37) (v := nI 4) dL_feed_36 rfl (by decide) ?_
      refine Rn.cV_i (pc1 := 40) (k_cnt C (w := 4) (by omega) A.c4) dL_feed_37 rfl qL_59 oX8_count (by first | assumption | exact mset_same | exact mget_ne (by omega) (by assumption) | exact mget_ne (by omega) mset_same) rfl rfl rfl rfl (Nat.le_of_ble_eq_true rfl) (by decide) (by decide) (fun v37 μ37 h37 => ?_)
      obtain ⟨rfl, rfl⟩ := h37
      refine Rn.aload_n (pc1 := 41)  dL_feed_40 rfl rfl rfl ?_
      refine Rn.iconst (pc1 := 42) (v := nI 1) dL_feed_41 rfl (by decide) ?_
      refine Rn.cV_i (pc1 := 45) (k_cnt C (w := 1) (by omega) A.c1) dL_feed_42 rfl qL_59 oX8_count (by first | assumption | exact mset_same | exact mget_ne (by omega) (by assumption) | exact mget_ne (by omega) mset_same) rfl rfl rfl rfl (Nat.le_of_ble_eq_true rfl) (by decide) (by decide) (fun v42 μ42 h42 => ?_)
      obtain ⟨rfl, rfl⟩ := h42
      refine Rn.icmp_gt (pc1 := 48) 52 dL_feed_45 rfl (by decide) (fun c45 => ?_) (fun c45 => ?_)
      · exact absurd c45 (nI_nlt hl.2.2.2.1 (by omega))
      · refine Rn.iconst (pc1 := 49) (v := nI 1) dL_feed_48 rfl (by decide) ?_
        refine Rn.goto 53 dL_feed_49 (by decide) ?_
        refine Rn.istore (pc1 := 55)  dL_feed_53 rfl (by decide) rfl rfl ?_
        refine Rn.iconst (pc1 := 56) (v := nI 0) dL_feed_55 rfl (by decide) ?_
        refine Rn.istore (pc1 := 58)  dL_feed_56 rfl (by decide) rfl rfl ?_
        exact lF_58 C A h 0 (by omega) _ _ (fun q => m1_nI (by have := hl.2.2.2.2.2.2 0 q; omega)) (fun q => nI_le (Nat.zero_le _) (by have := hl.2.2.2.2.2.2 0 q; omega))
end LAWF
