/-! ===== the reference: carrying out its text ===== -/
section M14
variable {G : GG} {μ : Mm} {sz m kept padded at_ ordered h rc sc B : Nat} {f f2 p sl pd od : Nat → Int32} {u : Nat → Bool}
theorem eX9_does {i c a b : Nat} (F : MR μ m f f2 p kept sl u pd padded at_ od ordered) (I : IV f h rc sc B) (hB : B < 2 ^ 30) (hi : i ≤ 40) (kc : kindF c ≠ 0) (ha : a ≤ 999) (hb : b ≤ 999) (hE : OE od i c a b) : EvA G 4 kX9_does [.ref m, .int (nI i)] μ sz 0 0 (QDo m f f2 p kept sl u pd padded at_ od ordered (ordMay f c a b) (ordNew f c a b) μ) := by
  have hO := F.1
  have hD := F.2.2.2.2.2.2.2
  have hh := I.2.1.1
  have hrc := I.2.1.2.1
  have hsc := I.2.1.2.2
  obtain ⟨i1, i2, i3⟩ := I.h
  obtain ⟨d0, d1, d2⟩ := hE
  have ic : ∀ {x y : Nat}, x ≤ 999 → y ≤ 999 → nI x = nI y → x = y := fun h1 h2 h3 => (nI_eq (by omega) (by omega)).mp h3
  have c1 : ∀ n : Nat, n ≤ 2 → (3 * i + n) < 123 := fun n hn => by omega
  generalize hx : od (3 * i + 1) = x at d1
  generalize hy : od (3 * i + 2) = y at d2
  refine EvA.of (L := [some (.ref m), some (.int (nI i)), none, none, none]) (by decide +kernel) (Nat.le_of_ble_eq_true rfl) rfl ?_
  refine Rn.aload_n (pc1 := 1)  dX9_does_0 rfl rfl rfl ?_
  refine Rn.getfield (pc1 := 4)  dX9_does_1 rfl fX9_29 (by first | assumption | exact mset_same | exact mget_ne (by omega) (by assumption)) rfl ?_
  refine Rn.iconst (pc1 := 5) (v := nI 3) dX9_does_4 rfl (by decide) ?_
  refine Rn.iload_n (pc1 := 6)  dX9_does_5 rfl rfl rfl ?_
  refine Rn.imul (pc1 := 7)  dX9_does_6 rfl (nI_mul 3 i) ?_
  refine Rn.iaload (pc1 := 8) (v := nI c)  dX9_does_7 rfl (by assumption) (vp_nI (j := 3 * i) rfl (by omega) (by decide)) ((gI rfl (by omega)).trans d0) ?_
  refine Rn.istore_n (pc1 := 9)  dX9_does_8 rfl rfl (by decide) rfl rfl ?_
  refine Rn.aload_n (pc1 := 10)  dX9_does_9 rfl rfl rfl ?_
  refine Rn.getfield (pc1 := 13)  dX9_does_10 rfl fX9_29 (by first | assumption | exact mset_same | exact mget_ne (by omega) (by assumption)) rfl ?_
  refine Rn.iconst (pc1 := 14) (v := nI 3) dX9_does_13 rfl (by decide) ?_
  refine Rn.iload_n (pc1 := 15)  dX9_does_14 rfl rfl rfl ?_
  refine Rn.imul (pc1 := 16)  dX9_does_15 rfl (nI_mul 3 i) ?_
  refine Rn.iconst (pc1 := 17) (v := nI 1) dX9_does_16 rfl (by decide) ?_
  refine Rn.iadd (pc1 := 18)  dX9_does_17 rfl (nI_add (3 * i) 1) ?_
  refine Rn.iaload (pc1 := 19) (v := x)  dX9_does_18 rfl (by assumption) (vp_nI (j := 3 * i + 1) rfl (by omega) (by decide)) ((gI rfl (by omega)).trans hx) ?_
  refine Rn.istore_n (pc1 := 20)  dX9_does_19 rfl rfl (by decide) rfl rfl ?_
  refine Rn.aload_n (pc1 := 21)  dX9_does_20 rfl rfl rfl ?_
  refine Rn.getfield (pc1 := 24)  dX9_does_21 rfl fX9_29 (by first | assumption | exact mset_same | exact mget_ne (by omega) (by assumption)) rfl ?_
  refine Rn.iconst (pc1 := 25) (v := nI 3) dX9_does_24 rfl (by decide) ?_
  refine Rn.iload_n (pc1 := 26)  dX9_does_25 rfl rfl rfl ?_
  refine Rn.imul (pc1 := 27)  dX9_does_26 rfl (nI_mul 3 i) ?_
  refine Rn.iconst (pc1 := 28) (v := nI 2) dX9_does_27 rfl (by decide) ?_
  refine Rn.iadd (pc1 := 29)  dX9_does_28 rfl (nI_add (3 * i) 2) ?_
  refine Rn.iaload (pc1 := 30) (v := y)  dX9_does_29 rfl (by assumption) (vp_nI (j := 3 * i + 2) rfl (by omega) (by decide)) ((gI rfl (by omega)).trans hy) ?_
  refine Rn.istore (pc1 := 32)  dX9_does_30 rfl (by decide) rfl rfl ?_
  refine Rn.aload_n (pc1 := 33)  dX9_does_32 rfl rfl rfl ?_
  refine Rn.iload_n (pc1 := 34)  dX9_does_33 rfl rfl rfl ?_
  refine Rn.iload_n (pc1 := 35)  dX9_does_34 rfl rfl rfl ?_
  refine Rn.iload (pc1 := 37)  dX9_does_35 rfl rfl ?_
  refine Rn.cV_i (pc1 := 40) (eX9_mayDo F I kc d1 d2) dX9_does_37 rfl qX9_182 oX9_mayDo (by first | assumption | exact mset_same | exact mget_ne (by omega) (by assumption)) rfl rfl rfl rfl (Nat.le_of_ble_eq_true rfl) (by decide) (by decide) (fun v37 μ37 h37 => ?_)
  obtain ⟨rfl, rfl⟩ := h37
  refine Rn.if_eq (pc1 := 43) 45 dX9_does_40 rfl (by decide) (fun c40 => ?_) (fun c40 => ?_)
  · have hm : ordMay f c a b = nI 0 := c40
    refine Rn.iload_n (pc1 := 46)  dX9_does_45 rfl rfl rfl ?_
    refine Rn.imp (Q' := Yes m f2 p kept sl u pd padded at_ od ordered (ordNew f c a b) _) ?_ (fun r μ' hr => by obtain ⟨v, rfl, rfl, w1, w2⟩ := hr; exact ⟨_, rfl, Or.inr ⟨hm, rfl, w1⟩, w2⟩)
    have K := kind_cases c
    rcases K with ⟨K, k⟩ | ⟨K, k⟩ | ⟨K, k⟩ | ⟨K, k⟩ | ⟨K, k⟩ | ⟨K, k⟩ | ⟨k, K⟩
    · obtain ⟨s1, s2, s3⟩ := sw_in (c := c) (by omega) (by omega)
      rw [oM98 K, i2] at hm
      obtain ⟨w, w1, w2⟩ := mayIs_t hm hrc
      have w3 := ic ha (by omega) w2
      subst w3
      rw [d1 (by omega)]
      refine Rn.tableIn (off := 171) 217 dX9_does_46 s1 s2 (by rw [s3]; rcases K with q | q <;> (rw [q]; rfl)) (by decide) ?_
      rcases K with z | z
      · subst z; rw [oN98 rfl]; exact lD217b F (by omega)
      · subst z; rw [oN99 rfl]; exact lD217a F (by omega)
    · obtain ⟨s1, s2, s3⟩ := sw_in (c := c) (by omega) (by omega)
      rcases K with z | z | z
      · refine Rn.tableIn (off := 141) 187 dX9_does_46 s1 s2 (by rw [s3, z]; rfl) (by decide) ?_
        rw [oN104 z, i1]
        exact lD187 F I
      · rw [oM110 z, i2] at hm
        refine Rn.tableIn (off := 152) 198 dX9_does_46 s1 s2 (by rw [s3, z]; rfl) (by decide) ?_
        rw [oN110 z, i2]
        exact lD198 F I (mayCome_t hm hrc)
      · refine Rn.tableIn (off := 191) 237 dX9_does_46 s1 s2 (by rw [s3, z]; rfl) (by decide) ?_
        rw [oN115 z, i3]
        exact lD237 F I
    · obtain ⟨s1, s2, s3⟩ := sw_in (c := c) (by omega) (by omega)
      rcases K with z | z
      · refine Rn.tableIn (off := 128) 174 dX9_does_46 s1 s2 (by rw [s3, z]; rfl) (by decide) ?_
        rw [oN116 z, ← d1 (by omega)]
        exact lD174 F
      · rw [oM120 z, i1] at hm
        obtain ⟨w, w1, w2, w3⟩ := mayRemove_t hm hh
        have w4 := ic ha (by omega) w2
        subst w4
        refine Rn.tableIn (off := 117) 163 dX9_does_46 s1 s2 (by rw [s3, z]; rfl) (by decide) ?_
        rw [oN120 z, i1, d1 (by omega)]
        exact lD163 F I w1 w3
    · obtain ⟨s1, s2, s3⟩ := sw_in (c := c) (by omega) (by omega)
      rw [oM112 K, i1] at hm
      obtain ⟨w, w1, w2, w3⟩ := maySet_t hm hh
      have w4 := ic ha (by omega) w2
      subst w4
      refine Rn.tableIn (off := 106) 152 dX9_does_46 s1 s2 (by rw [s3, K]; rfl) (by decide) ?_
      rw [oN112 K, i1, d1 (by omega), d2 (by omega)]
      exact lD152 F I w1 w3
    · obtain ⟨s1, s2, s3⟩ := sw_in (c := c) (by omega) (by omega)
      rw [oM114 K, i2] at hm
      obtain ⟨w, M, w1, w2, w3, w4⟩ := mayRead_t hm hrc
      have w5 := ic ha (by omega) w3
      have w6 := ic hb (by omega) w4
      subst w5
      subst w6
      refine Rn.tableIn (off := 160) 206 dX9_does_46 s1 s2 (by rw [s3, K]; rfl) (by decide) ?_
      rw [oN114 K, i1, d1 (by omega), d2 (by omega)]
      exact lD206 F I hB (by omega) w2
    · obtain ⟨s1, s2, s3⟩ := sw_in (c := c) (by omega) (by omega)
      rw [oM108 K, i2, i3] at hm
      obtain ⟨w, y', w1, w2, w3, w4⟩ := mayLoad_t hm hrc hsc
      have w5 := ic ha (by omega) w3
      have w6 := ic hb (by omega) w4
      subst w5
      subst w6
      refine Rn.tableIn (off := 199) 245 dX9_does_46 s1 s2 (by rw [s3, K]; rfl) (by decide) ?_
      rw [oN108 K, d1 (by omega), d2 (by omega)]
      exact lD245 F (by omega) (by omega)
    · exact absurd k kc
  · refine Rn.iconst (pc1 := 44) (v := nI 0) dX9_does_43 rfl (by decide) ?_
    exact Rn.ireturn dX9_does_44 rfl rfl ⟨_, rfl, Or.inl ⟨c40, rfl, F⟩, Fr.rf⟩
abbrev QCr (m : Nat) (f f2 p : Nat → Int32) (kept : Nat) (sl : Nat → Int32) (u : Nat → Bool) (pd : Nat → Int32) (padded : Nat) (μ : Mm) : Option Value → Mm → Prop := rI fun v μ' => ((faultN pd padded 80 0 ≠ none ∧ v = -3 ∧ ∃ at' od' n, MR μ' m f f2 p kept sl u pd padded at' od' n) ∨ (faultN pd padded 80 0 = none ∧ v = nI (runN pd padded 80 0 f).1 ∧ ∃ g at' od' n, MR μ' m g f2 (pushM p kept f) (keep1 kept) sl u pd 0 at' od' n ∧ LQ (runN pd padded 80 0 f).2 g (hF (runN pd padded 80 0 f).2))) ∧ Fr m (m + 8) μ μ'
theorem eX9_carryOut (F : MR μ m f f2 p kept sl u pd padded at_ od ordered) (I : IV f h rc sc B) (hB : B < 2 ^ 28) (ho : PadOk pd padded) (hk : kept ≤ 6) : EvA G 5 kX9_carryOut [.ref m] μ sz 0 0 (QCr m f f2 p kept sl u pd padded μ) := by
  have loop : ∀ (r t i q : Nat) (fC g : Nat → Int32) (at' : Nat) (od : Nat → Int32) (μ1 : Mm) (h rc sc : Nat), i + t = 80 → i + r ≤ 41 → faultN pd padded 80 0 = none → runN pd padded 80 0 f = (i + (runN pd padded t q fC).1, (runN pd padded t q fC).2) → IV fC h rc sc (B + i) → LQ fC g h → Rec pd padded od r q i → MR μ1 m g f2 (pushM p kept f) (keep1 kept) sl u pd 0 at' od (i + r) → Fr m (m + 8) μ μ1 → Rn G 5 kX9_carryOut 21 [some (.ref m), some (.int (nI i))] [] μ1 sz 0 0 (QCr m f f2 p kept sl u pd padded μ) := by
    intro r
    induction r with
    | zero =>
      intro t i q fC g at' od μ1 h rc sc h1 h2 hf hr I L R F1 z1
      have hO := F1.1
      have er : runN pd padded t q fC = (0, fC) := by
        cases t with
        | zero => rfl
        | succ t => unfold runN; rw [if_neg (fun z => by rw [show (ordV pd padded q).1 = false from R] at z; cases z.1)]
      rw [er] at hr
      refine Rn.iload_n (pc1 := 22)  dX9_carryOut_21 rfl rfl rfl ?_
      refine Rn.aload_n (pc1 := 23)  dX9_carryOut_22 rfl rfl rfl ?_
      refine Rn.getfield (pc1 := 26)  dX9_carryOut_23 rfl fX9_163 (by first | assumption | exact mset_same | exact mget_ne (by omega) (by assumption)) rfl ?_
      refine Rn.icmp_ge (pc1 := 29) 43 dX9_carryOut_26 rfl (by decide) (fun c26 => ?_) (fun c26 => ?_)
      · refine Rn.iload_n (pc1 := 44)  dX9_carryOut_43 rfl rfl rfl ?_
        exact Rn.ireturn dX9_carryOut_44 rfl rfl ⟨_, rfl, Or.inr ⟨hf, by rw [hr]; rfl, g, at', od, _, F1, by rw [hr]; show LQ fC g (hF fC); rw [I.h.1]; exact L⟩, z1⟩
      · exact absurd (nI_le (show i + 0 ≤ i by omega) (by omega)) c26
    | succ r ih =>
      intro t i q fC g at' od μ1 h rc sc h1 h2 hf hr I L R F1 z1
      have hO := F1.1
      obtain ⟨t, rfl⟩ : ∃ t', t = t' + 1 := ⟨t - 1, by omega⟩
      obtain ⟨R1, R2, R3⟩ := R
      obtain ⟨A1, A2, A3⟩ := ordV_args R1
      obtain ⟨S1, S2⟩ := ord_step I L (by omega) A3 A1 A2
      have er : runN pd padded (t + 1) q fC = if (ordV pd padded q).1 = true ∧ ordMay fC (sgn pd padded q) (ordV pd padded q).2.2.1 (ordV pd padded q).2.2.2 = nI 0 then ((runN pd padded t (nxt pd padded q) (ordNew fC (sgn pd padded q) (ordV pd padded q).2.2.1 (ordV pd padded q).2.2.2)).1 + 1, (runN pd padded t (nxt pd padded q) (ordNew fC (sgn pd padded q) (ordV pd padded q).2.2.1 (ordV pd padded q).2.2.2)).2) else (0, fC) := rfl
      refine Rn.iload_n (pc1 := 22)  dX9_carryOut_21 rfl rfl rfl ?_
      refine Rn.aload_n (pc1 := 23)  dX9_carryOut_22 rfl rfl rfl ?_
      refine Rn.getfield (pc1 := 26)  dX9_carryOut_23 rfl fX9_163 (by first | assumption | exact mset_same | exact mget_ne (by omega) (by assumption)) rfl ?_
      refine Rn.icmp_ge (pc1 := 29) 43 dX9_carryOut_26 rfl (by decide) (fun c26 => ?_) (fun c26 => ?_)
      · exact absurd c26 (nI_ge (show i < i + (r + 1) by omega) (by omega))
      · refine Rn.aload_n (pc1 := 30)  dX9_carryOut_29 rfl rfl rfl ?_
        refine Rn.iload_n (pc1 := 31)  dX9_carryOut_30 rfl rfl rfl ?_
        refine Rn.cV_i (pc1 := 34) (eX9_does F1 (L.iv I) (by omega) (by omega) A3 A1 A2 R2) dX9_carryOut_31 rfl qX9_185 oX9_does (by first | assumption | exact mset_same | exact mget_ne (by omega) (by assumption)) rfl rfl rfl rfl (Nat.le_of_ble_eq_true rfl) (by decide) (by decide) (fun v31 μ31 h31 => ?_)
        obtain ⟨h3, z3⟩ := h31
        refine Rn.if_eq (pc1 := 37) 43 dX9_carryOut_34 rfl (by decide) (fun c34 => ?_) (fun c34 => ?_)
        · obtain ⟨hm, F2⟩ : ¬ ordMay g (sgn pd padded q) (ordV pd padded q).2.2.1 (ordV pd padded q).2.2.2 = nI 0 ∧ MR μ31 m g f2 (pushM p kept f) (keep1 kept) sl u pd 0 at' od (i + (r + 1)) := by
            rcases h3 with ⟨w1, w2, w3⟩ | ⟨w1, w2, w3⟩
            · exact ⟨w1, w3⟩
            · rw [w2] at c34; exact absurd c34 (by decide)
          rw [S1] at hm
          rw [if_neg (fun z => hm z.2)] at er
          rw [er] at hr
          refine Rn.iload_n (pc1 := 44)  dX9_carryOut_43 rfl rfl rfl ?_
          exact Rn.ireturn dX9_carryOut_44 rfl rfl ⟨_, rfl, Or.inr ⟨hf, by rw [hr]; rfl, g, at', od, _, F2, by rw [hr]; show LQ fC g (hF fC); rw [I.h.1]; exact L⟩, z1.trans z3⟩
        · obtain ⟨hm, g', F2, L2⟩ : ordMay g (sgn pd padded q) (ordV pd padded q).2.2.1 (ordV pd padded q).2.2.2 = nI 0 ∧ ∃ g', MR μ31 m g' f2 (pushM p kept f) (keep1 kept) sl u pd 0 at' od (i + (r + 1)) ∧ LQ (ordNew g (sgn pd padded q) (ordV pd padded q).2.2.1 (ordV pd padded q).2.2.2) g' (hF (ordNew g (sgn pd padded q) (ordV pd padded q).2.2.1 (ordV pd padded q).2.2.2)) := by
            rcases h3 with ⟨w1, w2, w3⟩ | ⟨w1, w2, w3⟩
            · exact absurd w2 c34
            · exact ⟨w1, w3⟩
          rw [S1] at hm
          obtain ⟨h', rc', sc', I2, L3⟩ := S2 hm
          rw [(L3.iv I2).h.1] at L2
          rw [if_pos ⟨R1, hm⟩] at er
          rw [er] at hr
          refine Rn.iinc (pc1 := 40)  dX9_carryOut_37 rfl rfl (nI_1 i) (by decide) rfl rfl ?_
          refine Rn.goto 21 dX9_carryOut_40 (by decide) ?_
          exact ih t (i + 1) (nxt pd padded q) _ g' at' od _ h' rc' sc' (by omega) (by omega) hf (by rw [hr]; simp only; rw [show i + 1 + (runN pd padded t (nxt pd padded q) (ordNew fC (sgn pd padded q) (ordV pd padded q).2.2.1 (ordV pd padded q).2.2.2)).1 = i + ((runN pd padded t (nxt pd padded q) (ordNew fC (sgn pd padded q) (ordV pd padded q).2.2.1 (ordV pd padded q).2.2.2)).1 + 1) by omega]) (by rw [show B + (i + 1) = B + i + 1 by omega]; exact I2) (L3.trans L2) R3 (by rw [show i + 1 + r = i + (r + 1) by omega]; exact F2) (z1.trans z3)
  have hO := F.1
  refine EvA.of (L := [some (.ref m), none]) (by decide +kernel) (Nat.le_of_ble_eq_true rfl) rfl ?_
  refine Rn.aload_n (pc1 := 1)  dX9_carryOut_0 rfl rfl rfl ?_
  refine Rn.cV_i (pc1 := 4) (eX9_isText F ho) dX9_carryOut_1 rfl qX9_179 oX9_isText (by first | assumption | exact mset_same | exact mget_ne (by omega) (by assumption)) rfl rfl rfl rfl (Nat.le_of_ble_eq_true rfl) (by decide) (by decide) (fun v1 μ1 h1 => ?_)
  obtain ⟨h1, z1⟩ := h1
  refine Rn.if_ne (pc1 := 7) 10 dX9_carryOut_4 rfl (by decide) (fun c4 => ?_) (fun c4 => ?_)
  · obtain ⟨e, od', n, at', hn, F1, R⟩ : faultN pd padded 80 0 = none ∧ ∃ od' n at', n ≤ 41 ∧ MR μ1 m f f2 p kept sl u pd padded at' od' n ∧ Rec pd padded od' n 0 0 := by
      rcases h1 with ⟨e1, e2, e3⟩ | ⟨q, od', n, e0, e1, e2, e3⟩
      · exact ⟨e1, e3⟩
      · exact absurd e2 c4
    have hO1 := F1.1
    refine Rn.aload_n (pc1 := 11)  dX9_carryOut_10 rfl rfl rfl ?_
    refine Rn.cV_v (pc1 := 14) (eX9_records F1 hk) dX9_carryOut_11 rfl qX9_44 oX9_records (by first | assumption | exact mset_same | exact mget_ne (by omega) (by assumption)) rfl rfl rfl rfl (Nat.le_of_ble_eq_true rfl) (by decide) (by decide) (fun μ11 h11 => ?_)
    obtain ⟨F2, z2⟩ := h11
    have hO2 := F2.1
    refine Rn.aload_n (pc1 := 15)  dX9_carryOut_14 rfl rfl rfl ?_
    refine Rn.iconst (pc1 := 16) (v := nI 0) dX9_carryOut_15 rfl (by decide) ?_
    refine Rn.putfield (pc1 := 19)  dX9_carryOut_16 rfl pX9_139 (fun h => Bool.noConfusion h) (by first | assumption | exact mset_same | exact mget_ne (by omega) (by assumption)) (Nat.le_of_ble_eq_true rfl) rfl rfl rfl ?_
    refine Rn.iconst (pc1 := 20) (v := nI 0) dX9_carryOut_19 rfl (by decide) ?_
    refine Rn.istore_n (pc1 := 21)  dX9_carryOut_20 rfl rfl (by decide) rfl rfl ?_
    exact loop n 80 0 0 f f at' od' _ h rc sc (by omega) (by omega) e (by rw [Nat.zero_add]) I LQ.rf R (by rw [Nat.zero_add]; exact F2.setO (keep1 kept) 0 at' n rfl) ((z1.trans z2).set_ (by omega) (by omega))
  · obtain ⟨q, od', n, e, F1⟩ : ∃ q od' n, faultN pd padded 80 0 = some q ∧ MR μ1 m f f2 p kept sl u pd padded q od' n := by
      rcases h1 with ⟨_, e2, _⟩ | ⟨q, od', n, e0, e1, e2, e3⟩
      · rw [e2] at c4; exact absurd c4 (by decide)
      · exact ⟨q, od', n, e1, e3⟩
    refine Rn.bipush (pc1 := 9) (v := (-3)) dX9_carryOut_7 rfl (by decide) ?_
    exact Rn.ireturn dX9_carryOut_9 rfl rfl ⟨_, rfl, Or.inl ⟨by rw [e]; exact Option.some_ne_none q, rfl, q, od', n, F1⟩, z1⟩
end M14
