/-! ===== the text as a whole; putting signs ===== -/
theorem ordV_end {P : Nat → Int32} {len p : Nat} (h : (ordV P len p).1 = true) : p < (ordV P len p).2.1 ∧ (ordV P len p).2.1 ≤ len ∧ p < len := by
  have K := kind_cases (sgn P len p)
  have hp : kindF (sgn P len p) ≠ 0 → p < len := fun q => by
    refine sgn_lt (P := P) (fun e => q ?_)
    rw [e]; rfl
  unfold ordV at h ⊢
  generalize kindF (sgn P len p) = k at K hp h ⊢
  match k, hp, h with
  | 0, hp, h => cases h
  | 1, hp, h => have := hp (by decide); simp only at h ⊢; omega
  | 2, hp, h =>
    have := hp (by decide)
    simp only at h ⊢
    cases hn : numV P len (p + 1) with
    | none => rw [hn] at h; cases h
    | some w => obtain ⟨a, b, c, d⟩ := numV_le (n := w.1) (q := w.2) hn; simp only; omega
  | 3, hp, h =>
    have := hp (by decide)
    simp only at h ⊢
    cases hn : digV P len (p + 1) 5 with
    | none => rw [hn] at h; cases h
    | some w => obtain ⟨a, b, c⟩ := digV_lt hn; simp only; omega
  | 4, hp, h =>
    have := hp (by decide)
    simp only at h ⊢
    cases hn : numV P len (p + 1) with
    | none => rw [hn] at h; cases h
    | some w =>
      obtain ⟨a, b, c, d⟩ := numV_le (n := w.1) (q := w.2) hn
      rw [hn] at h
      simp only at h ⊢
      by_cases hs : sgn P len w.2 = 61
      · rw [if_pos hs] at h ⊢
        cases hm : numV P len (w.2 + 1) with
        | none => rw [hm] at h; cases h
        | some u => obtain ⟨a, b, c, d⟩ := numV_le (n := u.1) (q := u.2) hm; simp only; omega
      · rw [if_neg hs] at h; cases h
  | 5, hp, h =>
    have := hp (by decide)
    simp only at h ⊢
    cases hn : digV P len (p + 1) 5 with
    | none => rw [hn] at h; cases h
    | some w =>
      obtain ⟨a, b, c⟩ := digV_lt hn
      rw [hn] at h
      simp only at h ⊢
      by_cases hs : sgn P len (p + 2) = 42
      · rw [if_pos hs] at h ⊢
        cases hm : numV P len (p + 3) with
        | none => rw [hm] at h; cases h
        | some u => obtain ⟨a, b, c, d⟩ := numV_le (n := u.1) (q := u.2) hm; simp only; omega
      · rw [if_neg hs] at h; cases h
  | k + 6, hp, h =>
    have := hp (by omega)
    simp only at h ⊢
    cases hn : digV P len (p + 1) 5 with
    | none => rw [hn] at h; cases h
    | some w =>
      obtain ⟨a, b, c⟩ := digV_lt hn
      rw [hn] at h
      simp only at h ⊢
      by_cases hs : sgn P len (p + 2) = 64
      · rw [if_pos hs] at h ⊢
        cases hm : digV P len (p + 3) 9 with
        | none => rw [hm] at h; cases h
        | some u => obtain ⟨a, b, c⟩ := digV_lt hm; simp only; omega
      · rw [if_neg hs] at h; cases h
theorem ordV_le {P : Nat → Int32} {len p : Nat} : (ordV P len p).2.1 ≤ max p len + 4 := by
  unfold ordV
  split
  · simp only; omega
  · simp only; omega
  · cases hn : numV P len (p + 1) with
    | none => simp only; omega
    | some w => obtain ⟨a, b, c, d⟩ := numV_le (n := w.1) (q := w.2) hn; simp only; omega
  · cases hn : digV P len (p + 1) 5 with
    | none => simp only; omega
    | some w => simp only; omega
  · cases hn : numV P len (p + 1) with
    | none => simp only; omega
    | some w =>
      obtain ⟨a, b, c, d⟩ := numV_le (n := w.1) (q := w.2) hn
      simp only
      split
      · cases hm : numV P len (w.2 + 1) with
        | none => simp only; omega
        | some u => obtain ⟨a, b, c, d⟩ := numV_le (n := u.1) (q := u.2) hm; simp only; omega
      · simp only; omega
  · cases hn : digV P len (p + 1) 5 with
    | none => simp only; omega
    | some w =>
      simp only
      split
      · cases hm : numV P len (p + 3) with
        | none => simp only; omega
        | some u => obtain ⟨a, b, c, d⟩ := numV_le (n := u.1) (q := u.2) hm; simp only; omega
      · simp only; omega
  · cases hn : digV P len (p + 1) 5 with
    | none => simp only; omega
    | some w =>
      simp only
      split
      · cases hm : digV P len (p + 3) 9 with
        | none => simp only; omega
        | some u => simp only; omega
      · simp only; omega
/-- the fault, looked for from a place on -/
def faultN (P : Nat → Int32) (len : Nat) : Nat → Nat → Option Nat
  | 0, p => some p
  | n + 1, p => if (ordV P len p).1 = true then (if len ≤ (ordV P len p).2.1 then none else if sgn P len (ordV P len p).2.1 = 59 then faultN P len n ((ordV P len p).2.1 + 1) else some (ordV P len p).2.1) else some (ordV P len p).2.1
def faultI (o : Option Nat) : Int32 := match o with
  | none => -6
  | some q => nI q
section TEXT
variable {G : GG} {μ : Mm} {sz : Nat} {z len pl : Nat} {P : Nat → Int32} {lt fi se : Int32}
abbrev QF (P : Nat → Int32) (len z : Nat) (μ : Mm) (o : Option Nat) : Option Value → Mm → Prop := rI fun v μ' => v = faultI o ∧ ∃ pl' lt' fi' se', PA μ' z P len pl' lt' fi' se' ∧ Fr z (z + 2) μ μ'
theorem lX2_firstFault {μ0 : Mm} (ho : PadOk P len) : ∀ (m i p : Nat), i + m = 80 → p ≤ len → ∀ (μ1 : Mm) (lt fi se : Int32), PA μ1 z P len p lt fi se → Fr z (z + 2) μ0 μ1 → Rn G 5 kX2_firstFault 6 [some (.ref z), some (.int (nI i))] [] μ1 sz 0 0 (QF P len z μ0 (faultN P len m p)) := by
  have hl := ho.1
  intro m
  induction m with
  | zero =>
    intro i p hi hp μ1 lt fi se F1 z1
    obtain rfl : i = 80 := by omega
    have hO := F1.1
    refine Rn.iload_n (pc1 := 7)  dX2_firstFault_6 rfl rfl rfl ?_
    refine Rn.bipush (pc1 := 9) (v := nI 80) dX2_firstFault_7 rfl (by decide) ?_
    refine Rn.icmp_ge (pc1 := 12) 58 dX2_firstFault_9 rfl (by decide) (fun c9 => ?_) (fun c9 => ?_)
    · refine Rn.aload_n (pc1 := 59)  dX2_firstFault_58 rfl rfl rfl ?_
      refine Rn.getfield (pc1 := 62)  dX2_firstFault_59 rfl fX2_19 (by first | assumption | exact mset_same | exact mget_ne (by omega) (by assumption)) rfl ?_
      exact Rn.ireturn dX2_firstFault_62 rfl rfl ⟨_, rfl, rfl, _, _, _, _, F1, z1⟩
    · exact absurd (nI_le (Nat.le_refl 80) (by decide)) c9
  | succ m ih =>
    intro i p hi hp μ1 lt fi se F1 z1
    have hO := F1.1
    have hle := ordV_le (P := P) (len := len) (p := p)
    refine Rn.iload_n (pc1 := 7)  dX2_firstFault_6 rfl rfl rfl ?_
    refine Rn.bipush (pc1 := 9) (v := nI 80) dX2_firstFault_7 rfl (by decide) ?_
    refine Rn.icmp_ge (pc1 := 12) 58 dX2_firstFault_9 rfl (by decide) (fun c9 => ?_) (fun c9 => ?_)
    · exact absurd c9 (nI_ge (by omega) (by decide))
    · refine Rn.aload_n (pc1 := 13)  dX2_firstFault_12 rfl rfl rfl ?_
      refine Rn.cV_i (pc1 := 16) (eX2_takeOrder F1 ho (by omega)) dX2_firstFault_13 rfl qX2_44 oX2_takeOrder (by first | assumption | exact mset_same | exact mget_ne (by omega) (by assumption)) rfl rfl rfl rfl (Nat.le_of_ble_eq_true rfl) (by decide) (by decide) (fun v13 μ13 h13 => ?_)
      obtain ⟨rfl, fi', se', F2, z2, -⟩ := h13
      have O2 := F2.1
      refine Rn.if_ne (pc1 := 19) 24 dX2_firstFault_16 rfl (by decide) (fun c16 => ?_) (fun c16 => ?_)
      · have e0 := bI_n c16
        have hend := ordV_end e0
        refine Rn.aload_n (pc1 := 25)  dX2_firstFault_24 rfl rfl rfl ?_
        refine Rn.getfield (pc1 := 28)  dX2_firstFault_25 rfl fX2_19 (by first | assumption | exact mset_same | exact mget_ne (by omega) (by assumption)) rfl ?_
        refine Rn.aload_n (pc1 := 29)  dX2_firstFault_28 rfl rfl rfl ?_
        refine Rn.getfield (pc1 := 32)  dX2_firstFault_29 rfl fX2_15 (by first | assumption | exact mset_same | exact mget_ne (by omega) (by assumption)) rfl ?_
        refine Rn.icmp_lt (pc1 := 35) 38 dX2_firstFault_32 rfl (by decide) (fun c32 => ?_) (fun c32 => ?_)
        · have hlt := (nI_ltI (by omega) (by omega)).mp c32
          have e1 : faultN P len (m + 1) p = if sgn P len (ordV P len p).2.1 = 59 then faultN P len m ((ordV P len p).2.1 + 1) else some (ordV P len p).2.1 := by
            show (if _ then _ else _) = _
            rw [if_pos e0, if_neg (by omega)]
          by_cases hs : sgn P len (ordV P len p).2.1 = 59
          · rw [if_pos hs] at e1
            rw [e1]
            refine Rn.aload_n (pc1 := 39)  dX2_firstFault_38 rfl rfl rfl ?_
            refine Rn.bipush (pc1 := 41) (v := nI 59) dX2_firstFault_39 rfl (by decide) ?_
            refine Rn.cV_i (pc1 := 44) (eX2_takeSign_y F2 ho (by omega) hs) dX2_firstFault_41 rfl qX2_48 oX2_takeSign (by first | assumption | exact mset_same | exact mget_ne (by omega) (by assumption)) rfl rfl rfl rfl (Nat.le_of_ble_eq_true rfl) (by decide) (by decide) (fun v41 μ41 h41 => ?_)
            obtain ⟨rfl, F3, z3⟩ := h41
            refine Rn.if_ne (pc1 := 47) 52 dX2_firstFault_44 rfl (by decide) (fun c44 => ?_) (fun c44 => ?_)
            · refine Rn.iinc (pc1 := 55)  dX2_firstFault_52 rfl rfl (nI_1 i) (by decide) rfl rfl ?_
              refine Rn.goto 6 dX2_firstFault_55 (by decide) ?_
              exact ih (i + 1) _ (by omega) (by omega) _ _ _ _ F3 ((z1.trans z2).trans z3)
            · exact absurd c44 (by decide)
          · rw [if_neg hs] at e1
            rw [e1]
            refine Rn.aload_n (pc1 := 39)  dX2_firstFault_38 rfl rfl rfl ?_
            refine Rn.bipush (pc1 := 41) (v := nI 59) dX2_firstFault_39 rfl (by decide) ?_
            refine Rn.cV_i (pc1 := 44) (eX2_takeSign_n F2 ho (by omega) (by omega) hs) dX2_firstFault_41 rfl qX2_48 oX2_takeSign (by first | assumption | exact mset_same | exact mget_ne (by omega) (by assumption)) rfl rfl rfl rfl (Nat.le_of_ble_eq_true rfl) (by decide) (by decide) (fun v41 μ41 h41 => ?_)
            obtain ⟨rfl, rfl⟩ := h41
            refine Rn.if_ne (pc1 := 47) 52 dX2_firstFault_44 rfl (by decide) (fun c44 => ?_) (fun c44 => ?_)
            · exact absurd rfl c44
            · refine Rn.aload_n (pc1 := 48)  dX2_firstFault_47 rfl rfl rfl ?_
              refine Rn.getfield (pc1 := 51)  dX2_firstFault_48 rfl fX2_19 (by first | assumption | exact mset_same | exact mget_ne (by omega) (by assumption)) rfl ?_
              exact Rn.ireturn dX2_firstFault_51 rfl rfl ⟨_, rfl, rfl, _, _, _, _, F2, z1.trans z2⟩
        · have e : faultN P len (m + 1) p = none := by unfold faultN; rw [if_pos e0, if_pos ((nI_leI (by omega) (by omega)).mp (i32_nlt.mp c32))]
          refine Rn.bipush (pc1 := 37) (v := (-6)) dX2_firstFault_35 rfl (by decide) ?_
          exact Rn.ireturn dX2_firstFault_37 rfl rfl ⟨_, rfl, by rw [e]; rfl, _, _, _, _, F2, z1.trans z2⟩
      · have e : faultN P len (m + 1) p = some (ordV P len p).2.1 := by unfold faultN; rw [if_neg (by rw [bI_0 c16]; decide)]
        refine Rn.aload_n (pc1 := 20)  dX2_firstFault_19 rfl rfl rfl ?_
        refine Rn.getfield (pc1 := 23)  dX2_firstFault_20 rfl fX2_19 (by first | assumption | exact mset_same | exact mget_ne (by omega) (by assumption)) rfl ?_
        exact Rn.ireturn dX2_firstFault_23 rfl rfl ⟨_, rfl, by rw [e]; rfl, _, _, _, _, F2, z1.trans z2⟩
theorem eX2_firstFault (F : PA μ z P len pl lt fi se) (ho : PadOk P len) : EvA G 5 kX2_firstFault [.ref z] μ sz 0 0 (QF P len z μ (faultN P len 80 0)) := by
  have hO := F.1
  refine EvA.of (L := [some (.ref z), none]) (by decide +kernel) (Nat.le_of_ble_eq_true rfl) rfl ?_
  refine Rn.aload_n (pc1 := 1)  dX2_firstFault_0 rfl rfl rfl ?_
  refine Rn.cV_v (pc1 := 4) (eX2_goToStart F) dX2_firstFault_1 rfl qX2_41 oX2_goToStart (by first | assumption | exact mset_same | exact mget_ne (by omega) (by assumption)) rfl rfl rfl rfl (Nat.le_of_ble_eq_true rfl) (by decide) (by decide) (fun μ1 h1 => ?_)
  obtain ⟨F1, z1⟩ := h1
  refine Rn.iconst (pc1 := 5) (v := nI 0) dX2_firstFault_4 rfl (by decide) ?_
  refine Rn.istore_n (pc1 := 6)  dX2_firstFault_5 rfl rfl (by decide) rfl rfl ?_
  exact lX2_firstFault ho 80 0 0 (by omega) (Nat.zero_le _) _ _ _ _ F1 z1
def sgnE (c : Int64) (i : Nat) : Int32 := ((c.toUInt64 >>> ((nI 8 * nI i).toInt64.toUInt64 &&& Int64.toUInt64 63)).toInt64 &&& 255).toInt32
theorem eX2_signFromTheEnd {c : Int64} {i : Nat} : EvA G 0 kX2_signFromTheEnd [.long c, .int (nI i)] μ sz 0 0 (rI fun v μ' => v = sgnE c i ∧ μ' = μ) := by
  refine EvA.of (L := [some (.long c), none, some (.int (nI i))]) (by decide +kernel) (Nat.le_of_ble_eq_true rfl) rfl ?_
  refine Rn.lload_n (pc1 := 1)  dX2_signFromTheEnd_0 rfl rfl rfl ?_
  refine Rn.bipush (pc1 := 3) (v := nI 8) dX2_signFromTheEnd_1 rfl (by decide) ?_
  refine Rn.iload_n (pc1 := 4)  dX2_signFromTheEnd_3 rfl rfl rfl ?_
  refine Rn.imul (pc1 := 5)  dX2_signFromTheEnd_4 rfl rfl ?_
  refine Rn.lushr (pc1 := 6)  dX2_signFromTheEnd_5 rfl rfl ?_
  refine Rn.ldc2 (pc1 := 9) dX2_signFromTheEnd_6 rfl qX2_39 ?_
  refine Rn.land (pc1 := 10)  dX2_signFromTheEnd_9 rfl rfl ?_
  refine Rn.l2i (pc1 := 11)  dX2_signFromTheEnd_10 rfl rfl ?_
  exact Rn.ireturn dX2_signFromTheEnd_11 rfl rfl ⟨_, rfl, rfl, rfl⟩
/-- how many signs are told so far, and whether the end was seen -/
def appN (b : Nat → Int32) : Nat → Option (Nat × Bool)
  | 0 => some (0, false)
  | i + 1 => match appN b i with
    | none => none
    | some (m, e) => if b i = nI 0 then some (m, true) else if e = true ∨ b i < nI 33 ∨ nI 126 < b i then none else some (m + 1, false)
theorem appN_le {b : Nat → Int32} : ∀ {i m : Nat} {e : Bool}, appN b i = some (m, e) → m ≤ i ∧ (∀ j, j < m → nI 33 ≤ b j ∧ b j ≤ nI 126) ∧ (e = false → m = i)
  | 0, m, e, h => by cases h; exact ⟨Nat.le_refl 0, fun j hj => by omega, fun _ => rfl⟩
  | i + 1, m, e, h => by
    unfold appN at h
    cases hp : appN b i with
    | none => rw [hp] at h; cases h
    | some w =>
      obtain ⟨m0, e0⟩ := w
      obtain ⟨k1, k2, k3⟩ := appN_le hp
      rw [hp] at h
      simp only at h
      by_cases h0 : b i = nI 0
      · rw [if_pos h0] at h; cases h; exact ⟨by omega, k2, fun q => Bool.noConfusion q⟩
      · rw [if_neg h0] at h
        by_cases h1 : e0 = true ∨ b i < nI 33 ∨ nI 126 < b i
        · rw [if_pos h1] at h; cases h
        · rw [if_neg h1] at h
          cases h
          have e0f : e0 = false := by cases e0 <;> simp at h1 ⊢
          have hm := k3 e0f
          refine ⟨by omega, fun j hj => ?_, fun _ => by omega⟩
          by_cases e : j = m0
          · subst e; rw [hm]
            exact ⟨i32_nlt.mp (fun q => h1 (Or.inr (Or.inl q))), i32_nlt.mp (fun q => h1 (Or.inr (Or.inr q)))⟩
          · exact k2 j (by omega)
/-- the pad behind the putting of m signs, of which n still wait -/
def putN (P : Nat → Int32) (len : Nat) (b : Nat → Int32) (m : Nat) : Nat → (Nat → Int32)
  | 0 => P
  | q + 1 => upd (putN P len b m q) (len + q) (b (m - 1 - q))
theorem putN_get {P b : Nat → Int32} {len m : Nat} : ∀ {n j : Nat}, putN P len b m n j = if len ≤ j ∧ j < len + n then b (m - 1 - (j - len)) else P j
  | 0, j => by show P j = _; rw [if_neg (by omega)]
  | n + 1, j => by
    show upd _ _ _ j = _
    by_cases e : j = len + n
    · subst e; rw [upd_at rfl, if_pos (by omega), Nat.add_sub_cancel_left]
    · rw [upd_ne e, putN_get]
      by_cases e2 : len ≤ j ∧ j < len + n
      · rw [if_pos e2, if_pos (by omega)]
      · rw [if_neg e2, if_neg (by omega)]
theorem putN_ok {P b : Nat → Int32} {len m : Nat} (ho : PadOk P len) (hm : len + m ≤ 80) (hb : ∀ j, j < m → nI 33 ≤ b j ∧ b j ≤ nI 126) : PadOk (putN P len b m m) (len + m) := by
  refine ⟨hm, fun j hj => ?_⟩
  rw [putN_get]
  by_cases e : len ≤ j ∧ j < len + m
  · rw [if_pos e]
    obtain ⟨h1, h2⟩ := hb (m - 1 - (j - len)) (by omega)
    have h3 : ¬ b (m - 1 - (j - len)) < 0 := by
      intro q
      rw [Int32.le_iff_toInt_le, nI_toInt (by decide)] at h1
      rw [Int32.lt_iff_toInt_lt, Int32.toInt_zero] at q
      omega
    obtain ⟨c, hc, e3⟩ := nI_of h3
    rw [e3] at h1 h2 ⊢
    exact ⟨c, (nI_leI (by decide) hc).mp h1, (nI_leI hc (by decide)).mp h2, rfl⟩
  · rw [if_neg e]; exact ho.2 j (by omega)
/-- what put answers, but for the change -/
def mayPutF (b : Nat → Int32) (len : Nat) : Int32 := match appN b 8 with
  | none => -2
  | some (m, _) => if m = 0 then -2 else if len + m ≤ 80 then nI 0 else -4
abbrev QP (c : Int64) (P : Nat → Int32) (len z : Nat) (μ : Mm) : Option Value → Mm → Prop := rI fun v μ' => (mayPutF (sgnE c) len ≠ nI 0 ∧ v = mayPutF (sgnE c) len ∧ μ' = μ) ∨ (mayPutF (sgnE c) len = nI 0 ∧ ∃ m e pl lt fi se, appN (sgnE c) 8 = some (m, e) ∧ 1 ≤ m ∧ len + m ≤ 80 ∧ v = nI (len + m) ∧ PA μ' z (putN P len (sgnE c) m m) (len + m) pl lt fi se ∧ Fr z (z + 2) μ μ')
theorem lX2_append2 {c : Int64} {m : Nat} {μ0 : Mm} {e4 : Int32} {o6 : Option Value} (ho : PadOk P len) (hm : len + m ≤ 80) (hm8 : m ≤ 8) {Q : Option Value → Mm → Prop} (K : ∀ μ2, PA μ2 z (putN P len (sgnE c) m m) (len + m) pl lt fi se → Fr z (z + 2) μ0 μ2 → Q (some (.int (nI (len + m)))) μ2) : ∀ (n q : Nat), q + n = m → ∀ μ1, PA μ1 z (putN P len (sgnE c) m q) (len + q) pl lt fi se → Fr z (z + 2) μ0 μ1 → Rn G 1 kX2_append 91 [some (.ref z), some (.long c), none, some (.int (nI m)), some (.int e4), some (.int (nI n - nI 1)), o6] [] μ1 sz 0 0 Q := by
  intro n
  induction n with
  | zero =>
    intro q hq μ1 F1 z1
    obtain rfl : q = m := by omega
    have hO := F1.1
    refine Rn.iload (pc1 := 93)  dX2_append_91 rfl rfl ?_
    refine Rn.if_lt (pc1 := 96) 129 dX2_append_93 rfl (by decide) (fun c93 => ?_) (fun c93 => ?_)
    · refine Rn.aload_n (pc1 := 130)  dX2_append_129 rfl rfl rfl ?_
      refine Rn.getfield (pc1 := 133)  dX2_append_130 rfl fX2_15 (by first | assumption | exact mset_same | exact mget_ne (by omega) (by assumption)) rfl ?_
      exact Rn.ireturn dX2_append_133 rfl rfl (K μ1 F1 z1)
    · exact absurd (show nI 0 - nI 1 < nI 0 by decide) c93
  | succ n ih =>
    intro q hq μ1 F1 z1
    have hO := F1.1
    rw [nI_sub (show 1 ≤ n + 1 by omega), Nat.add_sub_cancel]
    refine Rn.iload (pc1 := 93)  dX2_append_91 rfl rfl ?_
    refine Rn.if_lt (pc1 := 96) 129 dX2_append_93 rfl (by decide) (fun c93 => ?_) (fun c93 => ?_)
    · exact absurd c93 (nI_nlt (Nat.zero_le _) (by omega))
    · refine Rn.aload_n (pc1 := 97)  dX2_append_96 rfl rfl rfl ?_
      refine Rn.getfield (pc1 := 100)  dX2_append_97 rfl fX2_9 (by first | assumption | exact mset_same | exact mget_ne (by omega) (by assumption)) rfl ?_
      refine Rn.aload_n (pc1 := 101)  dX2_append_100 rfl rfl rfl ?_
      refine Rn.getfield (pc1 := 104)  dX2_append_101 rfl fX2_15 (by first | assumption | exact mset_same | exact mget_ne (by omega) (by assumption)) rfl ?_
      refine Rn.lload_n (pc1 := 105)  dX2_append_104 rfl rfl rfl ?_
      refine Rn.iload (pc1 := 107)  dX2_append_105 rfl rfl ?_
      refine Rn.cS_i (pc1 := 110) (eX2_signFromTheEnd) dX2_append_107 rfl qX2_31 oX2_signFromTheEnd rfl rfl (Nat.le_of_ble_eq_true rfl) (by decide) (by decide) (fun v107 μ107 h107 => ?_)
      obtain ⟨rfl, rfl⟩ := h107
      refine Rn.cN_v (pc1 := 113) (eX8_layAt F1.2 rfl (show len + q < 80 by omega) (by decide)) dX2_append_110 rfl nX2_35 oX8_layAt rfl rfl (Nat.le_of_ble_eq_true rfl) (by decide) (by decide) (fun μ110 h110 => ?_)
      subst h110
      have F2 : PA (mset μ107 (z + 1) (ints 80 (upd (putN P len (sgnE c) m q) (len + q) (sgnE c n)))) z (upd (putN P len (sgnE c) m q) (len + q) (sgnE c n)) (len + q) pl lt fi se := ⟨mget_ne (by omega) F1.1, mset_same⟩
      have z2 := z1.set_ (q := z + 1) (c := ints 80 (upd (putN P len (sgnE c) m q) (len + q) (sgnE c n))) (by omega) (by omega)
      have O2 := F2.1
      refine Rn.aload_n (pc1 := 114)  dX2_append_113 rfl rfl rfl ?_
      refine Rn.dup (pc1 := 115)  dX2_append_114 rfl rfl ?_
      refine Rn.getfield (pc1 := 118)  dX2_append_115 rfl fX2_15 (by first | assumption | exact mset_same | exact mget_ne (by omega) (by assumption)) rfl ?_
      refine Rn.iconst (pc1 := 119) (v := nI 1) dX2_append_118 rfl (by decide) ?_
      refine Rn.iadd (pc1 := 120)  dX2_append_119 rfl (nI_add (len + q) 1) ?_
      refine Rn.putfield (pc1 := 123)  dX2_append_120 rfl pX2_15 (fun h => Bool.noConfusion h) (by first | assumption | exact mset_same | exact mget_ne (by omega) (by assumption)) (Nat.le_of_ble_eq_true rfl) rfl rfl rfl ?_
      refine Rn.iinc (pc1 := 126) (v := nI n - nI 1)  dX2_append_123 rfl rfl (by rw [show Int32.ofInt (-1) = - nI 1 from by decide, Int32.sub_eq_add_neg]) (by decide) rfl rfl ?_
      refine Rn.goto 91 dX2_append_126 (by decide) ?_
      have F3 := F2.setO (len + q + 1) pl lt fi se rfl
      rw [show sgnE c n = sgnE c (m - 1 - q) by rw [show m - 1 - q = n by omega]] at F3 ⊢
      exact ih (q + 1) (by omega) _ F3 (by rw [show sgnE c n = sgnE c (m - 1 - q) by rw [show m - 1 - q = n by omega]] at z2; exact z2.set_ (by omega) (by omega))
theorem eX2_append {c : Int64} (F : PA μ z P len pl lt fi se) (ho : PadOk P len) : EvA G 1 kX2_append [.ref z, .long c] μ sz 0 0 (QP c P len z μ) := by
  have hO := F.1
  have hl := ho.1
  have J : ∀ (m : Nat) (e : Bool) (o5 o6 : Option Value), appN (sgnE c) 8 = some (m, e) → Rn G 1 kX2_append 65 [some (.ref z), some (.long c), none, some (.int (nI m)), some (.int (bI e)), o5, o6] [] μ sz 0 0 (QP c P len z μ) := by
    intro m e o5 o6 ha
    obtain ⟨k1, k2, k3⟩ := appN_le ha
    refine Rn.iload_n (pc1 := 66)  dX2_append_65 rfl rfl rfl ?_
    refine Rn.if_ne (pc1 := 69) 72 dX2_append_66 rfl (by decide) (fun c66 => ?_) (fun c66 => ?_)
    · have hm0 : ¬ m = 0 := fun q => c66 (by rw [q])
      refine Rn.aload_n (pc1 := 73)  dX2_append_72 rfl rfl rfl ?_
      refine Rn.getfield (pc1 := 76)  dX2_append_73 rfl fX2_15 (by first | assumption | exact mset_same | exact mget_ne (by omega) (by assumption)) rfl ?_
      refine Rn.iload_n (pc1 := 77)  dX2_append_76 rfl rfl rfl ?_
      refine Rn.iadd (pc1 := 78)  dX2_append_77 rfl (nI_add len m) ?_
      refine Rn.bipush (pc1 := 80) (v := nI 80) dX2_append_78 rfl (by decide) ?_
      refine Rn.icmp_le (pc1 := 83) 86 dX2_append_80 rfl (by decide) (fun c80 => ?_) (fun c80 => ?_)
      · have hle := (nI_leI (by omega) (by decide)).mp c80
        have n0 : mayPutF (sgnE c) len = nI 0 := by unfold mayPutF; rw [ha]; simp only; rw [if_neg hm0, if_pos hle]
        refine Rn.iload_n (pc1 := 87)  dX2_append_86 rfl rfl rfl ?_
        refine Rn.iconst (pc1 := 88) (v := nI 1) dX2_append_87 rfl (by decide) ?_
        refine Rn.isub (pc1 := 89)  dX2_append_88 rfl rfl ?_
        refine Rn.istore (pc1 := 91)  dX2_append_89 rfl (by decide) rfl rfl ?_
        exact lX2_append2 (μ0 := μ) (P := P) (len := len) ho hle (by omega) (fun μ2 F2 z2 => ⟨_, rfl, Or.inr ⟨n0, m, e, _, _, _, _, ha, by omega, hle, rfl, F2, z2⟩⟩) m 0 (by omega) μ F Fr.rf
      · have n0 : mayPutF (sgnE c) len = -4 := by unfold mayPutF; rw [ha]; simp only; rw [if_neg hm0, if_neg (fun q => c80 (nI_le q (by omega)))]
        refine Rn.bipush (pc1 := 85) (v := (-4)) dX2_append_83 rfl (by decide) ?_
        exact Rn.ireturn dX2_append_85 rfl rfl ⟨_, rfl, Or.inl ⟨by rw [n0]; decide, n0.symm, rfl⟩⟩
    · have n0 : mayPutF (sgnE c) len = -2 := by unfold mayPutF; rw [ha]; simp only; rw [if_pos ((nI_eq (by omega) (by decide)).mp c66)]
      refine Rn.bipush (pc1 := 71) (v := (-2)) dX2_append_69 rfl (by decide) ?_
      exact Rn.ireturn dX2_append_71 rfl rfl ⟨_, rfl, Or.inl ⟨by rw [n0]; decide, n0.symm, rfl⟩⟩
  have loop : ∀ (n i m : Nat) (e : Bool) (o6 : Option Value), i + n = 8 → appN (sgnE c) i = some (m, e) → Rn G 1 kX2_append 8 [some (.ref z), some (.long c), none, some (.int (nI m)), some (.int (bI e)), some (.int (nI i)), o6] [] μ sz 0 0 (QP c P len z μ) := by
    intro n
    induction n with
    | zero =>
      intro i m e o6 hi ha
      obtain rfl : i = 8 := by omega
      refine Rn.iload (pc1 := 10)  dX2_append_8 rfl rfl ?_
      refine Rn.bipush (pc1 := 12) (v := nI 8) dX2_append_10 rfl (by decide) ?_
      refine Rn.icmp_ge (pc1 := 15) 65 dX2_append_12 rfl (by decide) (fun c12 => ?_) (fun c12 => ?_)
      · exact J m e _ _ ha
      · exact absurd (nI_le (Nat.le_refl 8) (by decide)) c12
    | succ n ih =>
      intro i m e o6 hi ha
      have hbad : (e = true ∨ sgnE c i < nI 33 ∨ nI 126 < sgnE c i) → ¬ sgnE c i = nI 0 → mayPutF (sgnE c) len = -2 := by
        intro h1 h2
        have hn : appN (sgnE c) (i + 1) = none := by unfold appN; rw [ha]; simp only; rw [if_neg h2, if_pos h1]
        have key : ∀ k, appN (sgnE c) (i + 1 + k) = none := fun k => by
          induction k with
          | zero => exact hn
          | succ k ihk => show appN (sgnE c) (i + 1 + k + 1) = none; unfold appN; rw [ihk]
        have := key (8 - (i + 1))
        rw [show i + 1 + (8 - (i + 1)) = 8 by omega] at this
        unfold mayPutF
        rw [this]
      refine Rn.iload (pc1 := 10)  dX2_append_8 rfl rfl ?_
      refine Rn.bipush (pc1 := 12) (v := nI 8) dX2_append_10 rfl (by decide) ?_
      refine Rn.icmp_ge (pc1 := 15) 65 dX2_append_12 rfl (by decide) (fun c12 => ?_) (fun c12 => ?_)
      · exact absurd c12 (nI_ge (by omega) (by decide))
      · refine Rn.lload_n (pc1 := 16)  dX2_append_15 rfl rfl rfl ?_
        refine Rn.iload (pc1 := 18)  dX2_append_16 rfl rfl ?_
        refine Rn.cS_i (pc1 := 21) (eX2_signFromTheEnd) dX2_append_18 rfl qX2_31 oX2_signFromTheEnd rfl rfl (Nat.le_of_ble_eq_true rfl) (by decide) (by decide) (fun v18 μ18 h18 => ?_)
        obtain ⟨rfl, rfl⟩ := h18
        refine Rn.istore (pc1 := 23)  dX2_append_21 rfl (by decide) rfl rfl ?_
        refine Rn.iload (pc1 := 25)  dX2_append_23 rfl rfl ?_
        refine Rn.if_ne (pc1 := 28) 34 dX2_append_25 rfl (by decide) (fun c25 => ?_) (fun c25 => ?_)
        · refine Rn.iload (pc1 := 36)  dX2_append_34 rfl rfl ?_
          refine Rn.if_ne (pc1 := 39) 53 dX2_append_36 rfl (by decide) (fun c36 => ?_) (fun c36 => ?_)
          · have n0 := hbad (Or.inl (bI_n c36)) c25
            refine Rn.bipush (pc1 := 55) (v := (-2)) dX2_append_53 rfl (by decide) ?_
            exact Rn.ireturn dX2_append_55 rfl rfl ⟨_, rfl, Or.inl ⟨by rw [n0]; decide, n0.symm, rfl⟩⟩
          · refine Rn.iload (pc1 := 41)  dX2_append_39 rfl rfl ?_
            refine Rn.bipush (pc1 := 43) (v := nI 33) dX2_append_41 rfl (by decide) ?_
            refine Rn.icmp_lt (pc1 := 46) 53 dX2_append_43 rfl (by decide) (fun c43 => ?_) (fun c43 => ?_)
            · have n0 := hbad (Or.inr (Or.inl c43)) c25
              refine Rn.bipush (pc1 := 55) (v := (-2)) dX2_append_53 rfl (by decide) ?_
              exact Rn.ireturn dX2_append_55 rfl rfl ⟨_, rfl, Or.inl ⟨by rw [n0]; decide, n0.symm, rfl⟩⟩
            · refine Rn.iload (pc1 := 48)  dX2_append_46 rfl rfl ?_
              refine Rn.bipush (pc1 := 50) (v := nI 126) dX2_append_48 rfl (by decide) ?_
              refine Rn.icmp_le (pc1 := 53) 56 dX2_append_50 rfl (by decide) (fun c50 => ?_) (fun c50 => ?_)
              · have ef := bI_0 c36
                subst ef
                have ha2 : appN (sgnE c) (i + 1) = some (m + 1, false) := by
                  show (match appN (sgnE c) i with | none => none | some (m, e) => if sgnE c i = nI 0 then some (m, true) else if e = true ∨ sgnE c i < nI 33 ∨ nI 126 < sgnE c i then none else some (m + 1, false)) = _
                  rw [ha]; simp only; rw [if_neg c25, if_neg (fun q => by rcases q with q | q | q; cases q; exact c43 q; exact i32_nlt.mpr c50 q)]
                refine Rn.iinc (pc1 := 59)  dX2_append_56 rfl rfl (nI_1 m) (by decide) rfl rfl ?_
                refine Rn.iinc (pc1 := 62)  dX2_append_59 rfl rfl (nI_1 i) (by decide) rfl rfl ?_
                refine Rn.goto 8 dX2_append_62 (by decide) ?_
                exact ih (i + 1) _ _ _ (by omega) ha2
              · have n0 := hbad (Or.inr (Or.inr (i32_nle.mp c50))) c25
                refine Rn.bipush (pc1 := 55) (v := (-2)) dX2_append_53 rfl (by decide) ?_
                exact Rn.ireturn dX2_append_55 rfl rfl ⟨_, rfl, Or.inl ⟨by rw [n0]; decide, n0.symm, rfl⟩⟩
        · have ha2 : appN (sgnE c) (i + 1) = some (m, true) := by
            show (match appN (sgnE c) i with | none => none | some (m, e) => if sgnE c i = nI 0 then some (m, true) else if e = true ∨ sgnE c i < nI 33 ∨ nI 126 < sgnE c i then none else some (m + 1, false)) = _
            rw [ha]; simp only; rw [if_pos c25]
          refine Rn.iconst (pc1 := 29) (v := nI 1) dX2_append_28 rfl (by decide) ?_
          refine Rn.istore (pc1 := 31)  dX2_append_29 rfl (by decide) rfl rfl ?_
          refine Rn.goto 59 dX2_append_31 (by decide) ?_
          refine Rn.iinc (pc1 := 62)  dX2_append_59 rfl rfl (nI_1 i) (by decide) rfl rfl ?_
          refine Rn.goto 8 dX2_append_62 (by decide) ?_
          exact ih (i + 1) _ _ _ (by omega) ha2
  refine EvA.of (L := [some (.ref z), some (.long c), none, none, none, none, none]) (by decide +kernel) (Nat.le_of_ble_eq_true rfl) rfl ?_
  refine Rn.iconst (pc1 := 1) (v := nI 0) dX2_append_0 rfl (by decide) ?_
  refine Rn.istore_n (pc1 := 2)  dX2_append_1 rfl rfl (by decide) rfl rfl ?_
  refine Rn.iconst (pc1 := 3) (v := nI 0) dX2_append_2 rfl (by decide) ?_
  refine Rn.istore (pc1 := 5)  dX2_append_3 rfl (by decide) rfl rfl ?_
  refine Rn.iconst (pc1 := 6) (v := nI 0) dX2_append_5 rfl (by decide) ?_
  refine Rn.istore (pc1 := 8)  dX2_append_6 rfl (by decide) rfl rfl ?_
  exact loop 8 0 0 false _ (by omega) rfl
end TEXT
