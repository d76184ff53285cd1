/-! ===== the reference: putting signs down ===== -/
def toldF (b : Nat → Int32) : Int32 := match appN b 8 with
  | none => -2
  | some (m, _) => if m = 0 then -2 else nI m
theorem appN_s {b : Nat → Int32} {i m : Nat} {e : Bool} (h : appN b i = some (m, e)) : appN b (i + 1) = if b i = nI 0 then some (m, true) else if e = true ∨ b i < nI 33 ∨ nI 126 < b i then none else some (m + 1, false) := by
  show (match appN b i with | none => none | some (m, e) => if b i = nI 0 then some (m, true) else if e = true ∨ b i < nI 33 ∨ nI 126 < b i then none else some (m + 1, false)) = _
  rw [h]
theorem appN_none {b : Nat → Int32} {i : Nat} (h : appN b i = none) (hi : i ≤ 8) : appN b 8 = none := by
  have key : ∀ k, appN b (i + k) = none := fun k => by
    induction k with
    | zero => exact h
    | succ k ihk => show appN b (i + k + 1) = none; unfold appN; rw [ihk]
  have := key (8 - i)
  rw [show i + (8 - i) = 8 by omega] at this
  exact this
section M12
variable {G : GG} {μ : Mm} {sz m kept padded at_ ordered : Nat} {f f2 p sl pd od : Nat → Int32} {u : Nat → Bool}
theorem eX9_toldBy {c : Int64} : EvA G 1 kX9_toldBy [.long c] μ sz 0 0 (rI fun v μ' => v = toldF (sgnE c) ∧ μ' = μ) := by
  have loop2 : ∀ (n q m : Nat) (e : Bool), q + n = 8 → m ≤ 8 → appN (sgnE c) q = some (m, e) → (e = true ∨ q = m ∧ (q = 8 ∨ sgnE c q = nI 0)) → Rn G 1 kX9_toldBy 42 [some (.long c), none, some (.int (nI m)), some (.int (nI q))] [] μ sz 0 0 (rI fun v μ' => v = toldF (sgnE c) ∧ μ' = μ) := by
    intro n
    induction n with
    | zero =>
      intro q m e hq hm ha he
      obtain rfl : q = 8 := by omega
      have et : toldF (sgnE c) = if m = 0 then -2 else nI m := by unfold toldF; rw [ha]
      rw [et]
      refine Rn.iload_n (pc1 := 43)  dX9_toldBy_42 rfl rfl rfl ?_
      refine Rn.bipush (pc1 := 45) (v := nI 8) dX9_toldBy_43 rfl (by decide) ?_
      refine Rn.icmp_ge (pc1 := 48) 65 dX9_toldBy_45 rfl (by decide) (fun c45 => ?_) (fun c45 => ?_)
      · refine Rn.iload_n (pc1 := 66)  dX9_toldBy_65 rfl rfl rfl ?_
        refine Rn.if_ne (pc1 := 69) 74 dX9_toldBy_66 rfl (by decide) (fun c66 => ?_) (fun c66 => ?_)
        · rw [if_neg (fun z => c66 (by rw [z]))]
          refine Rn.iload_n (pc1 := 75)  dX9_toldBy_74 rfl rfl rfl ?_
          exact Rn.ireturn dX9_toldBy_75 rfl rfl ⟨_, rfl, rfl, rfl⟩
        · rw [if_pos ((nI_eq (by omega) (by decide)).mp c66)]
          refine Rn.bipush (pc1 := 71) (v := (-2)) dX9_toldBy_69 rfl (by decide) ?_
          refine Rn.goto 75 dX9_toldBy_71 (by decide) ?_
          exact Rn.ireturn dX9_toldBy_75 rfl rfl ⟨_, rfl, rfl, rfl⟩
      · exact absurd (nI_le (Nat.le_refl _) (by decide)) c45
    | succ n ih =>
      intro q m e hq hm ha he
      refine Rn.iload_n (pc1 := 43)  dX9_toldBy_42 rfl rfl rfl ?_
      refine Rn.bipush (pc1 := 45) (v := nI 8) dX9_toldBy_43 rfl (by decide) ?_
      refine Rn.icmp_ge (pc1 := 48) 65 dX9_toldBy_45 rfl (by decide) (fun c45 => ?_) (fun c45 => ?_)
      · exact absurd c45 (nI_ge (by omega) (by decide))
      · refine Rn.lload_n (pc1 := 49)  dX9_toldBy_48 rfl rfl rfl ?_
        refine Rn.iload_n (pc1 := 50)  dX9_toldBy_49 rfl rfl rfl ?_
        refine Rn.cS_i (pc1 := 53) (eX9_byteOf (show q < 8 by omega)) dX9_toldBy_50 rfl qX9_148 oX9_byteOf rfl rfl (Nat.le_of_ble_eq_true rfl) (by decide) (by decide) (fun v50 μ50 h50 => ?_)
        obtain ⟨rfl, rfl⟩ := h50
        refine Rn.if_eq (pc1 := 56) 59 dX9_toldBy_53 rfl (by decide) (fun c53 => ?_) (fun c53 => ?_)
        · have ha2 : appN (sgnE c) (q + 1) = some (m, true) := (appN_s ha).trans (if_pos c53)
          refine Rn.iinc (pc1 := 62)  dX9_toldBy_59 rfl rfl (nI_1 q) (by decide) rfl rfl ?_
          refine Rn.goto 42 dX9_toldBy_62 (by decide) ?_
          exact ih (q + 1) m true (by omega) hm ha2 (Or.inl rfl)
        · have et : toldF (sgnE c) = -2 := by
            have he2 : e = true := by
              rcases he with z | ⟨_, z | z⟩
              · exact z
              · omega
              · exact absurd z c53
            have hn : appN (sgnE c) (q + 1) = none := (appN_s ha).trans ((if_neg c53).trans (if_pos (Or.inl he2)))
            unfold toldF
            rw [appN_none hn (by omega)]
          rw [et]
          refine Rn.bipush (pc1 := 58) (v := (-2)) dX9_toldBy_56 rfl (by decide) ?_
          exact Rn.ireturn dX9_toldBy_58 rfl rfl ⟨_, rfl, rfl, rfl⟩
  have J : ∀ (k : Nat) (o3 : Option Value), k ≤ 8 → appN (sgnE c) k = some (k, false) → (k = 8 ∨ sgnE c k = nI 0) → Rn G 1 kX9_toldBy 40 [some (.long c), none, some (.int (nI k)), o3] [] μ sz 0 0 (rI fun v μ' => v = toldF (sgnE c) ∧ μ' = μ) := by
    intro k o3 hk ha he
    refine Rn.iload_n (pc1 := 41)  dX9_toldBy_40 rfl rfl rfl ?_
    refine Rn.istore_n (pc1 := 42)  dX9_toldBy_41 rfl rfl (by decide) rfl rfl ?_
    exact loop2 (8 - k) k k false (by omega) hk ha (Or.inr ⟨rfl, he⟩)
  have loop1 : ∀ (n k : Nat), k + n = 8 → ∀ o3 : Option Value, appN (sgnE c) k = some (k, false) → Rn G 1 kX9_toldBy 2 [some (.long c), none, some (.int (nI k)), o3] [] μ sz 0 0 (rI fun v μ' => v = toldF (sgnE c) ∧ μ' = μ) := by
    intro n
    induction n with
    | zero =>
      intro k hk o3 ha
      obtain rfl : k = 8 := by omega
      refine Rn.iload_n (pc1 := 3)  dX9_toldBy_2 rfl rfl rfl ?_
      refine Rn.bipush (pc1 := 5) (v := nI 8) dX9_toldBy_3 rfl (by decide) ?_
      refine Rn.icmp_ge (pc1 := 8) 40 dX9_toldBy_5 rfl (by decide) (fun c5 => ?_) (fun c5 => ?_)
      · exact J 8 _ (Nat.le_refl _) ha (Or.inl rfl)
      · exact absurd (nI_le (Nat.le_refl _) (by decide)) c5
    | succ n ih =>
      intro k hk o3 ha
      refine Rn.iload_n (pc1 := 3)  dX9_toldBy_2 rfl rfl rfl ?_
      refine Rn.bipush (pc1 := 5) (v := nI 8) dX9_toldBy_3 rfl (by decide) ?_
      refine Rn.icmp_ge (pc1 := 8) 40 dX9_toldBy_5 rfl (by decide) (fun c5 => ?_) (fun c5 => ?_)
      · exact absurd c5 (nI_ge (by omega) (by decide))
      · refine Rn.lload_n (pc1 := 9)  dX9_toldBy_8 rfl rfl rfl ?_
        refine Rn.iload_n (pc1 := 10)  dX9_toldBy_9 rfl rfl rfl ?_
        refine Rn.cS_i (pc1 := 13) (eX9_byteOf (show k < 8 by omega)) dX9_toldBy_10 rfl qX9_148 oX9_byteOf rfl rfl (Nat.le_of_ble_eq_true rfl) (by decide) (by decide) (fun v10 μ10 h10 => ?_)
        obtain ⟨rfl, rfl⟩ := h10
        refine Rn.if_eq (pc1 := 16) 40 dX9_toldBy_13 rfl (by decide) (fun c13 => ?_) (fun c13 => ?_)
        · exact J k _ (by omega) ha (Or.inr c13)
        · refine Rn.lload_n (pc1 := 17)  dX9_toldBy_16 rfl rfl rfl ?_
          refine Rn.iload_n (pc1 := 18)  dX9_toldBy_17 rfl rfl rfl ?_
          refine Rn.cS_i (pc1 := 21) (eX9_byteOf (show k < 8 by omega)) dX9_toldBy_18 rfl qX9_148 oX9_byteOf rfl rfl (Nat.le_of_ble_eq_true rfl) (by decide) (by decide) (fun v18 μ18 h18 => ?_)
          obtain ⟨rfl, rfl⟩ := h18
          refine Rn.bipush (pc1 := 23) (v := nI 33) dX9_toldBy_21 rfl (by decide) ?_
          refine Rn.bipush (pc1 := 25) (v := nI 126) dX9_toldBy_23 rfl (by decide) ?_
          refine Rn.cS_i (pc1 := 28) (eX9_in) dX9_toldBy_25 rfl qX9_32 oX9_in rfl rfl (Nat.le_of_ble_eq_true rfl) (by decide) (by decide) (fun v25 μ25 h25 => ?_)
          obtain ⟨rfl, rfl⟩ := h25
          refine Rn.if_ne (pc1 := 31) 34 dX9_toldBy_28 rfl (by decide) (fun c28 => ?_) (fun c28 => ?_)
          · have b1 := bI_n c28
            unfold inB at b1
            rw [Bool.and_eq_true, decide_eq_true_eq, decide_eq_true_eq] at b1
            have ha2 : appN (sgnE c) (k + 1) = some (k + 1, false) := (appN_s ha).trans ((if_neg c13).trans (if_neg (fun z => by
              rcases z with z | z | z
              · cases z
              · exact i32_nlt.mpr b1.1 z
              · exact i32_nlt.mpr b1.2 z)))
            refine Rn.iinc (pc1 := 37)  dX9_toldBy_34 rfl rfl (nI_1 k) (by decide) rfl rfl ?_
            refine Rn.goto 2 dX9_toldBy_37 (by decide) ?_
            exact ih (k + 1) (by omega) _ ha2
          · have et : toldF (sgnE c) = -2 := by
              have b1 := bI_0 c28
              have hb : sgnE c k < nI 33 ∨ nI 126 < sgnE c k := by
                by_cases z : sgnE c k < nI 33
                · exact Or.inl z
                · refine Or.inr (i32_nle.mp (fun y => ?_))
                  unfold inB at b1
                  rw [decide_eq_true (i32_nlt.mp z), decide_eq_true y] at b1
                  cases b1
              have hn : appN (sgnE c) (k + 1) = none := (appN_s ha).trans ((if_neg c13).trans (if_pos (Or.inr hb)))
              unfold toldF
              rw [appN_none hn (by omega)]
            rw [et]
            refine Rn.bipush (pc1 := 33) (v := (-2)) dX9_toldBy_31 rfl (by decide) ?_
            exact Rn.ireturn dX9_toldBy_33 rfl rfl ⟨_, rfl, rfl, rfl⟩
  refine EvA.of (L := [some (.long c), none, none, none]) (by decide +kernel) (Nat.le_of_ble_eq_true rfl) rfl ?_
  refine Rn.iconst (pc1 := 1) (v := nI 0) dX9_toldBy_0 rfl (by decide) ?_
  refine Rn.istore_n (pc1 := 2)  dX9_toldBy_1 rfl rfl (by decide) rfl rfl ?_
  exact loop1 8 0 (by omega) _ rfl
theorem eX9_put {c : Int64} (F : MR μ m f f2 p kept sl u pd padded at_ od ordered) (ho : PadOk pd padded) : EvA G 2 kX9_put [.ref m, .long c] μ sz 0 0 (rI fun v μ' => ((¬ mayPutF (sgnE c) padded = nI 0 ∧ v = mayPutF (sgnE c) padded ∧ MR μ' m f f2 p kept sl u pd padded at_ od ordered) ∨ (mayPutF (sgnE c) padded = nI 0 ∧ ∃ n e, appN (sgnE c) 8 = some (n, e) ∧ 1 ≤ n ∧ padded + n ≤ 80 ∧ v = nI (padded + n) ∧ MR μ' m f f2 p kept sl u (putN pd padded (sgnE c) n n) (padded + n) at_ od ordered)) ∧ Fr m (m + 8) μ μ') := by
  have hl := ho.1
  have loop : ∀ (w : Nat) (e : Bool), appN (sgnE c) 8 = some (w, e) → 1 ≤ w → w ≤ 8 → padded + w ≤ 80 → mayPutF (sgnE c) padded = nI 0 → ∀ (n q : Nat) (μ1 : Mm), q + n = w → MR μ1 m f f2 p kept sl u (putN pd padded (sgnE c) w q) (padded + q) at_ od ordered → Fr m (m + 8) μ μ1 → Rn G 2 kX9_put 30 [some (.ref m), some (.long c), none, some (.int (nI w)), some (.int (nI n - nI 1))] [] μ1 sz 0 0 (rI fun v μ' => ((¬ mayPutF (sgnE c) padded = nI 0 ∧ v = mayPutF (sgnE c) padded ∧ MR μ' m f f2 p kept sl u pd padded at_ od ordered) ∨ (mayPutF (sgnE c) padded = nI 0 ∧ ∃ n e, appN (sgnE c) 8 = some (n, e) ∧ 1 ≤ n ∧ padded + n ≤ 80 ∧ v = nI (padded + n) ∧ MR μ' m f f2 p kept sl u (putN pd padded (sgnE c) n n) (padded + n) at_ od ordered)) ∧ Fr m (m + 8) μ μ') := by
    intro w e ha w1 w8 w80 hm n
    induction n with
    | zero =>
      intro q μ1 hq F1 z1
      obtain rfl : q = w := by omega
      have hO := F1.1
      refine Rn.iload (pc1 := 32)  dX9_put_30 rfl rfl ?_
      refine Rn.if_lt (pc1 := 35) 66 dX9_put_32 rfl (by decide) (fun c32 => ?_) (fun c32 => ?_)
      · refine Rn.aload_n (pc1 := 67)  dX9_put_66 rfl rfl rfl ?_
        refine Rn.getfield (pc1 := 70)  dX9_put_67 rfl fX9_139 (by first | assumption | exact mset_same | exact mget_ne (by omega) (by assumption)) rfl ?_
        exact Rn.ireturn dX9_put_70 rfl rfl ⟨_, rfl, Or.inr ⟨hm, q, e, ha, w1, w80, rfl, F1⟩, z1⟩
      · exact absurd (show nI 0 - nI 1 < nI 0 by decide) c32
    | succ n ih =>
      intro q μ1 hq F1 z1
      have hO := F1.1
      rw [nI_sub (show 1 ≤ n + 1 by omega), Nat.add_sub_cancel]
      refine Rn.iload (pc1 := 32)  dX9_put_30 rfl rfl ?_
      refine Rn.if_lt (pc1 := 35) 66 dX9_put_32 rfl (by decide) (fun c32 => ?_) (fun c32 => ?_)
      · exact absurd c32 (nI_nlt (Nat.zero_le _) (by omega))
      · refine Rn.aload_n (pc1 := 36)  dX9_put_35 rfl rfl rfl ?_
        refine Rn.getfield (pc1 := 39)  dX9_put_36 rfl fX9_26 (by first | assumption | exact mset_same | exact mget_ne (by omega) (by assumption)) rfl ?_
        refine Rn.aload_n (pc1 := 40)  dX9_put_39 rfl rfl rfl ?_
        refine Rn.getfield (pc1 := 43)  dX9_put_40 rfl fX9_139 (by first | assumption | exact mset_same | exact mget_ne (by omega) (by assumption)) rfl ?_
        refine Rn.lload_n (pc1 := 44)  dX9_put_43 rfl rfl rfl ?_
        refine Rn.iload (pc1 := 46)  dX9_put_44 rfl rfl ?_
        refine Rn.cS_i (pc1 := 49) (eX9_byteOf (show n < 8 by omega)) dX9_put_46 rfl qX9_148 oX9_byteOf rfl rfl (Nat.le_of_ble_eq_true rfl) (by decide) (by decide) (fun v46 μ46 h46 => ?_)
        obtain ⟨rfl, rfl⟩ := h46
        refine Rn.iastore (pc1 := 50)  dX9_put_49 rfl F1.2.2.2.2.2.2.1 (vp_nI (j := padded + q) rfl (by omega) (by decide)) (updI (j := padded + q) rfl (by omega)) ?_
        have F2 := F1.set6 (upd (putN pd padded (sgnE c) w q) (padded + q) (sgnE c n))
        have hO2 := F2.1
        refine Rn.aload_n (pc1 := 51)  dX9_put_50 rfl rfl rfl ?_
        refine Rn.dup (pc1 := 52)  dX9_put_51 rfl rfl ?_
        refine Rn.getfield (pc1 := 55)  dX9_put_52 rfl fX9_139 (by first | assumption | exact mset_same | exact mget_ne (by omega) (by assumption)) rfl ?_
        refine Rn.iconst (pc1 := 56) (v := nI 1) dX9_put_55 rfl (by decide) ?_
        refine Rn.iadd (pc1 := 57)  dX9_put_56 rfl (nI_add (padded + q) 1) ?_
        refine Rn.putfield (pc1 := 60)  dX9_put_57 rfl pX9_139 (fun h => Bool.noConfusion h) (by first | assumption | exact mset_same | exact mget_ne (by omega) (by assumption)) (Nat.le_of_ble_eq_true rfl) rfl rfl rfl ?_
        refine Rn.iinc (pc1 := 63)  dX9_put_60 rfl rfl (show nI n + Int32.ofInt (-1) = nI n - nI 1 by rw [show Int32.ofInt (-1) = - nI 1 from by decide, ← Int32.sub_eq_add_neg]) (by decide) rfl rfl ?_
        refine Rn.goto 30 dX9_put_63 (by decide) ?_
        have F3 := F2.setO kept (padded + q + 1) at_ ordered rfl
        rw [show sgnE c n = sgnE c (w - 1 - q) by rw [show w - 1 - q = n by omega]] at F3 ⊢
        exact ih (q + 1) _ (by omega) F3 ((z1.set_ (by omega) (by omega)).set_ (by omega) (by omega))
  have hO := F.1
  have et : mayPutF (sgnE c) padded = match appN (sgnE c) 8 with
    | none => -2
    | some (m, _) => if m = 0 then -2 else if padded + m ≤ 80 then nI 0 else -4 := rfl
  refine EvA.of (L := [some (.ref m), some (.long c), none, none, none]) (by decide +kernel) (Nat.le_of_ble_eq_true rfl) rfl ?_
  refine Rn.lload_n (pc1 := 1)  dX9_put_0 rfl rfl rfl ?_
  refine Rn.cS_i (pc1 := 4) (eX9_toldBy) dX9_put_1 rfl qX9_152 oX9_toldBy rfl rfl (Nat.le_of_ble_eq_true rfl) (by decide) (by decide) (fun v1 μ1 h1 => ?_)
  obtain ⟨rfl, rfl⟩ := h1
  refine Rn.istore_n (pc1 := 5)  dX9_put_4 rfl rfl (by decide) rfl rfl ?_
  refine Rn.iload_n (pc1 := 6)  dX9_put_5 rfl rfl rfl ?_
  refine Rn.if_ge (pc1 := 9) 11 dX9_put_6 rfl (by decide) (fun c6 => ?_) (fun c6 => ?_)
  · obtain ⟨w, e, ha, w1, e2⟩ : ∃ w e, appN (sgnE c) 8 = some (w, e) ∧ 1 ≤ w ∧ toldF (sgnE c) = nI w := by
      unfold toldF at c6 ⊢
      cases ha : appN (sgnE c) 8 with
      | none => rw [ha] at c6; exact absurd c6 (by decide)
      | some w =>
        obtain ⟨w, e⟩ := w
        rw [ha] at c6
        simp only at c6 ⊢
        by_cases z : w = 0
        · rw [if_pos z] at c6; exact absurd c6 (by decide)
        · rw [if_neg z]; exact ⟨w, e, rfl, by omega, rfl⟩
    rw [e2]
    have w8 := (appN_le ha).1
    rw [ha] at et
    simp only at et
    rw [if_neg (by omega)] at et
    refine Rn.aload_n (pc1 := 12)  dX9_put_11 rfl rfl rfl ?_
    refine Rn.getfield (pc1 := 15)  dX9_put_12 rfl fX9_139 (by first | assumption | exact mset_same | exact mget_ne (by omega) (by assumption)) rfl ?_
    refine Rn.iload_n (pc1 := 16)  dX9_put_15 rfl rfl rfl ?_
    refine Rn.iadd (pc1 := 17)  dX9_put_16 rfl (nI_add padded w) ?_
    refine Rn.bipush (pc1 := 19) (v := nI 80) dX9_put_17 rfl (by decide) ?_
    refine Rn.icmp_le (pc1 := 22) 25 dX9_put_19 rfl (by decide) (fun c19 => ?_) (fun c19 => ?_)
    · have hle := (nI_leI (by omega) (by decide)).mp c19
      have n0 : mayPutF (sgnE c) padded = nI 0 := et.trans (if_pos hle)
      refine Rn.iload_n (pc1 := 26)  dX9_put_25 rfl rfl rfl ?_
      refine Rn.iconst (pc1 := 27) (v := nI 1) dX9_put_26 rfl (by decide) ?_
      refine Rn.isub (pc1 := 28)  dX9_put_27 rfl rfl ?_
      refine Rn.istore (pc1 := 30)  dX9_put_28 rfl (by decide) rfl rfl ?_
      exact loop w e ha w1 w8 hle n0 w 0 _ (by omega) F Fr.rf
    · have n0 : mayPutF (sgnE c) padded = -4 := et.trans (if_neg (fun q => c19 (nI_le q (by omega))))
      refine Rn.bipush (pc1 := 24) (v := (-4)) dX9_put_22 rfl (by decide) ?_
      exact Rn.ireturn dX9_put_24 rfl rfl ⟨_, rfl, Or.inl ⟨by rw [n0]; decide, n0.symm, F⟩, Fr.rf⟩
  · have e2 : toldF (sgnE c) = -2 ∧ mayPutF (sgnE c) padded = -2 := by
      unfold toldF at c6 ⊢
      cases ha : appN (sgnE c) 8 with
      | none => rw [ha] at et; exact ⟨rfl, et⟩
      | some w =>
        obtain ⟨w, e⟩ := w
        rw [ha] at et c6
        simp only at et c6 ⊢
        by_cases z : w = 0
        · rw [if_pos z] at et ⊢; exact ⟨rfl, et⟩
        · rw [if_neg z] at c6
          exact absurd (nI_le (Nat.zero_le w) (by have := (appN_le ha).1; omega)) c6
    rw [e2.1]
    refine Rn.iload_n (pc1 := 10)  dX9_put_9 rfl rfl rfl ?_
    exact Rn.ireturn dX9_put_10 rfl rfl ⟨_, rfl, Or.inl ⟨by rw [e2.2]; decide, e2.2.symm, F⟩, Fr.rf⟩
theorem eX9_wipe (F : MR μ m f f2 p kept sl u pd padded at_ od ordered) : EvA G 0 kX9_wipe [.ref m] μ sz 0 0 (rI fun v μ' => v = nI padded ∧ MR μ' m f f2 p kept sl u pd 0 at_ od ordered ∧ Fr m (m + 8) μ μ') := by
  have hO := F.1
  refine EvA.of (L := [some (.ref m), none]) (by decide +kernel) (Nat.le_of_ble_eq_true rfl) rfl ?_
  refine Rn.aload_n (pc1 := 1)  dX9_wipe_0 rfl rfl rfl ?_
  refine Rn.getfield (pc1 := 4)  dX9_wipe_1 rfl fX9_139 (by first | assumption | exact mset_same | exact mget_ne (by omega) (by assumption)) rfl ?_
  refine Rn.istore_n (pc1 := 5)  dX9_wipe_4 rfl rfl (by decide) rfl rfl ?_
  refine Rn.aload_n (pc1 := 6)  dX9_wipe_5 rfl rfl rfl ?_
  refine Rn.iconst (pc1 := 7) (v := nI 0) dX9_wipe_6 rfl (by decide) ?_
  refine Rn.putfield (pc1 := 10)  dX9_wipe_7 rfl pX9_139 (fun h => Bool.noConfusion h) (by first | assumption | exact mset_same | exact mget_ne (by omega) (by assumption)) (Nat.le_of_ble_eq_true rfl) rfl rfl rfl ?_
  refine Rn.iload_n (pc1 := 11)  dX9_wipe_10 rfl rfl rfl ?_
  exact Rn.ireturn dX9_wipe_11 rfl rfl ⟨_, rfl, rfl, F.setO kept 0 at_ ordered rfl, Fr.set (by omega) (by omega)⟩
end M12
