/-! ===== ChangeFeed: undo, slots, texts ===== -/
def ordMay (f : Nat → Int32) (c a b : Nat) : Int32 := if c = 112 then maySetF (hF f) (nI a) (nI b) else if c = 120 then mayRemoveF f (hF f) (nI a) else if c = 116 then mayPassF f (nI a) else if c = 104 then nI 0 else if c = 110 then mayComeF (rF f) else if c = 114 then mayReadF f (rF f) (nI a) (nI b) else if c = 99 ∨ c = 98 then mayIsF (rF f) (nI a) else if c = 115 then nI 0 else mayLoadF f (rF f) (sF f) (nI a) (nI b)
def ordNew (f : Nat → Int32) (c a b : Nat) : Nat → Int32 := if c = 112 then setsF f (hF f) a (nI b) else if c = 120 then setsF f (hF f) a (-6) else if c = 116 then upd f 2 (f 2 + nI a) else if c = 104 then thinF f (hF f) (f 0) (f 2) else if c = 110 then comeF f (rF f) else if c = 114 then readF f a (rdK f (hF f) a) (rdC f (hF f) a b) else if c = 99 then confF f a else if c = 98 then backF f a else if c = 115 then shotF f (sF f) else beginF f a (f (423 + 13 * b)) (fun k => f (423 + 13 * b + 1 + k))
abbrev nxt (P : Nat → Int32) (len p : Nat) : Nat := if sgn P len (ordV P len p).2.1 = 59 then (ordV P len p).2.1 + 1 else (ordV P len p).2.1
def runN (P : Nat → Int32) (len : Nat) : Nat → Nat → (Nat → Int32) → Nat × (Nat → Int32)
  | 0, _, f => (0, f)
  | n + 1, p, f => if (ordV P len p).1 = true ∧ ordMay f (sgn P len p) (ordV P len p).2.2.1 (ordV P len p).2.2.2 = nI 0 then ((runN P len n (nxt P len p) (ordNew f (sgn P len p) (ordV P len p).2.2.1 (ordV P len p).2.2.2)).1 + 1, (runN P len n (nxt P len p) (ordNew f (sgn P len p) (ordV P len p).2.2.1 (ordV P len p).2.2.2)).2) else (0, f)
theorem runN_le (P : Nat → Int32) (len : Nat) : ∀ n p f, (runN P len n p f).1 ≤ n
  | 0, _, _ => Nat.le_refl 0
  | n + 1, p, f => by
    unfold runN
    split
    · have := runN_le P len n (nxt P len p) (ordNew f (sgn P len p) (ordV P len p).2.2.1 (ordV P len p).2.2.2)
      simp only; omega
    · simp only; omega
abbrev QOr (a B : Nat) (μ : Mm) (may : Int32) (f' : Nat → Int32) : Option Value → Mm → Prop := rI fun v μ' => (may < nI 0 ∧ v = may ∧ μ' = μ) ∨ (may = nI 0 ∧ nI 0 ≤ v ∧ ST μ' a f' (B + 1) ∧ Fr a (a + 52) μ μ')
section CF2
variable {G : GG} {μ : Mm} {sz x held len B : Nat} {f : Nat → Int32} {P : Nat → Nat → Int32} {Pp : Nat → Int32} {u : Nat → Bool} {S : Nat → Nat → Int32}
theorem PP.mono {μ0 : Mm} {B' : Nat} (Z : PP x held len B f P Pp u S μ0 μ) (h : B ≤ B') : PP x held len B' f P Pp u S μ0 μ := by
  obtain ⟨s, p1, p2, p3, p4, p5, p6, p7⟩ := Z
  exact ⟨s, p1, p2, p3.mono h, p4, p5.mono h, p6.mono h, p7⟩
theorem PP.pad {μ0 μ' : Mm} {len' : Nat} (Z : PP x held len B f P Pp u S μ0 μ) (hF : Fr (x + 419) (x + 419 + 2) μ μ') (w : PW μ' (x + 419) Pp len') : PP x held len' B f P Pp u S μ0 μ' := by
  obtain ⟨s, p1, p2, p3, p4, p5, p6, p7⟩ := Z
  have hl := p4.lo (show held < 7 by have := p4.2.1; omega)
  exact ⟨s, p1.fr hF (by omega), w, p3.fr hF (by omega), p4.fr hF (by omega), p5.fr p4 hF (by omega), p6.fr hF (by omega), p7.trans (hF.wide (by omega) (by omega))⟩
theorem eX8_undo (C : CW μ x f held P Pp len u S B) : EvA G 6 kX8_undo [.ref x] μ sz 0 0 (rI fun v μ' => ((held = 0 ∧ v = -5 ∧ CW μ' x f held P Pp len u S B) ∨ (0 < held ∧ v = nI (held - 1) ∧ CW μ' x (P (held - 1)) (held - 1) P Pp len u S B)) ∧ Fr x (x + 528) μ μ') := by
  have hO := C.1
  obtain ⟨s, c3, c4⟩ := C.2.2.1
  have yO := c3.1
  refine EvA.of (L := [some (.ref x)]) (by decide +kernel) (Nat.le_of_ble_eq_true rfl) rfl ?_
  refine Rn.aload_n (pc1 := 1)  dX8_undo_0 rfl rfl rfl ?_
  refine Rn.getfield (pc1 := 4)  dX8_undo_1 rfl fX8_19 (by first | assumption | exact mset_same | exact mget_ne (by omega) (by assumption)) rfl ?_
  refine Rn.aload_n (pc1 := 5)  dX8_undo_4 rfl rfl rfl ?_
  refine Rn.getfield (pc1 := 8)  dX8_undo_5 rfl fX8_10 (by first | assumption | exact mset_same | exact mget_ne (by omega) (by assumption)) rfl ?_
  refine Rn.cV_i (pc1 := 11) (eX1_bringBack c3 c4 C.2.1.sd (by omega)) dX8_undo_8 rfl qX8_254 oX1_bringBack (by first | assumption | exact mset_same | exact mget_ne (by omega) (by assumption)) rfl rfl rfl rfl (Nat.le_of_ble_eq_true rfl) (by decide) (by decide) (fun v8 μ8 h8 => ?_)
  rcases h8 with ⟨h1, rfl, rfl⟩ | ⟨h1, rfl, q1, q2, q3, q4⟩
  · exact Rn.ireturn dX8_undo_11 rfl rfl ⟨_, rfl, Or.inl ⟨h1, rfl, C⟩, Fr.rf⟩
  · have z : Fr (x + 1) (x + 54) μ μ8 := fun q hq => q4 q (by omega) (by omega)
    refine Rn.ireturn dX8_undo_11 rfl rfl ⟨_, rfl, Or.inr ⟨h1, rfl, C.1.fr z (by omega), q3, ⟨s, q1, q2⟩, C.2.2.2.1.fr z (by omega), C.2.2.2.2.fr z (by omega)⟩, z.wide (by omega) (by omega)⟩
theorem eX8_slotAt_y {i : Nat} {j : Int32} (C : CO μ x) (L : SL μ x u S B) (hi : i < 2) (hj : j = nI i) : EvA G 0 kX8_slotAt [.ref x, .int j] μ sz 0 0 (rR fun o μ' => o = some (x + 422 + 53 * i) ∧ μ' = μ) := by
  have hO := C
  obtain ⟨⟨r, r1, r2⟩, -⟩ := L
  refine EvA.of (L := [some (.ref x), some (.int j)]) (by decide +kernel) (Nat.le_of_ble_eq_true rfl) rfl ?_
  subst hj
  refine Rn.iload_n (pc1 := 1)  dX8_slotAt_0 rfl rfl rfl ?_
  refine Rn.if_lt (pc1 := 4) 13 dX8_slotAt_1 rfl (by decide) (fun c1 => ?_) (fun c1 => ?_)
  · exact absurd c1 (nI_nlt (Nat.zero_le _) (by omega))
  · refine Rn.iload_n (pc1 := 5)  dX8_slotAt_4 rfl rfl rfl ?_
    refine Rn.aload_n (pc1 := 6)  dX8_slotAt_5 rfl rfl rfl ?_
    refine Rn.getfield (pc1 := 9)  dX8_slotAt_6 rfl fX8_32 (by first | assumption | exact mset_same | exact mget_ne (by omega) (by assumption)) rfl ?_
    refine Rn.alen (pc1 := 10) (v := nI 2)  dX8_slotAt_9 rfl (by first | assumption | exact mset_same | exact mget_ne (by omega) (by assumption)) (fun _ => rfl) rfl ?_
    refine Rn.icmp_lt (pc1 := 13) 17 dX8_slotAt_10 rfl (by decide) (fun c10 => ?_) (fun c10 => ?_)
    · refine Rn.aload_n (pc1 := 18)  dX8_slotAt_17 rfl rfl rfl ?_
      refine Rn.getfield (pc1 := 21)  dX8_slotAt_18 rfl fX8_32 (by first | assumption | exact mset_same | exact mget_ne (by omega) (by assumption)) rfl ?_
      refine Rn.iload_n (pc1 := 22)  dX8_slotAt_21 rfl rfl rfl ?_
      refine Rn.aaload (pc1 := 23)  dX8_slotAt_22 rfl (by assumption) (fun _ => rfl) (vp_nI rfl hi (by decide)) rfl ?_
      exact Rn.areturn dX8_slotAt_23 rfl ⟨_, rfl, by rw [nI_clamp (by omega)]; exact r2 i hi, rfl⟩
    · exact absurd (nI_lt hi (by decide)) c10
theorem eX8_slotAt_n {j : Int32} (C : CO μ x) (L : SL μ x u S B) (hj : inB j (nI 0) (nI 1) = false) : EvA G 0 kX8_slotAt [.ref x, .int j] μ sz 0 0 (rR fun o μ' => o = none ∧ μ' = μ) := by
  have hO := C
  obtain ⟨⟨r, r1, r2⟩, -⟩ := L
  refine EvA.of (L := [some (.ref x), some (.int j)]) (by decide +kernel) (Nat.le_of_ble_eq_true rfl) rfl ?_
  refine Rn.iload_n (pc1 := 1)  dX8_slotAt_0 rfl rfl rfl ?_
  refine Rn.if_lt (pc1 := 4) 13 dX8_slotAt_1 rfl (by decide) (fun c1 => ?_) (fun c1 => ?_)
  · refine Rn.null (pc1 := 14)  dX8_slotAt_13 rfl ?_
    refine Rn.goto 23 dX8_slotAt_14 (by decide) ?_
    show Rn G 0 kX8_slotAt 23 _ [va_rf none] _ _ _ _ _
    exact Rn.areturn dX8_slotAt_23 rfl ⟨_, rfl, rfl, rfl⟩
  · refine Rn.iload_n (pc1 := 5)  dX8_slotAt_4 rfl rfl rfl ?_
    refine Rn.aload_n (pc1 := 6)  dX8_slotAt_5 rfl rfl rfl ?_
    refine Rn.getfield (pc1 := 9)  dX8_slotAt_6 rfl fX8_32 (by first | assumption | exact mset_same | exact mget_ne (by omega) (by assumption)) rfl ?_
    refine Rn.alen (pc1 := 10) (v := nI 2)  dX8_slotAt_9 rfl (by first | assumption | exact mset_same | exact mget_ne (by omega) (by assumption)) (fun _ => rfl) rfl ?_
    refine Rn.icmp_lt (pc1 := 13) 17 dX8_slotAt_10 rfl (by decide) (fun c10 => ?_) (fun c10 => ?_)
    · exfalso
      rw [inB_t c1 (fun q => by
        rw [Int32.lt_iff_toInt_lt, nI_toInt (by decide)] at c10 q; omega)] at hj
      cases hj
    · refine Rn.null (pc1 := 14)  dX8_slotAt_13 rfl ?_
      refine Rn.goto 23 dX8_slotAt_14 (by decide) ?_
      show Rn G 0 kX8_slotAt 23 _ [va_rf none] _ _ _ _ _
      exact Rn.areturn dX8_slotAt_23 rfl ⟨_, rfl, rfl, rfl⟩
abbrev setU (u : Nat → Bool) (i : Nat) : Nat → Bool := fun k => if k = i then true else u k
abbrev setS (S : Nat → Nat → Int32) (i : Nat) (f : Nat → Int32) : Nat → Nat → Int32 := fun k => if k = i then f else S k
theorem eX8_save {j : Int32} (C : CW μ x f held P Pp len u S B) : EvA G 6 kX8_save [.ref x, .int j] μ sz 0 0 (rI fun v μ' => ((inB j (nI 0) (nI 1) = false ∧ v = -2 ∧ CW μ' x f held P Pp len u S B) ∨ (inB j (nI 0) (nI 1) = true ∧ v = f 6 ∧ CW μ' x f held P Pp len (setU u j.toNatClampNeg) (setS S j.toNatClampNeg f) B)) ∧ Fr x (x + 528) μ μ') := by
  have hO := C.1
  obtain ⟨h, rc, sc, A, I⟩ := id C.2.1
  have nO : _ = _ := A.2.1
  have L := C.2.2.2.2
  refine EvA.of (L := [some (.ref x), some (.int j), none]) (by decide +kernel) (Nat.le_of_ble_eq_true rfl) rfl ?_
  cases hj : inB j (nI 0) (nI 1)
  · refine Rn.aload_n (pc1 := 1)  dX8_save_0 rfl rfl rfl ?_
    refine Rn.iload_n (pc1 := 2)  dX8_save_1 rfl rfl rfl ?_
    refine Rn.cV_r (pc1 := 5) (eX8_slotAt_n C.1 L hj) dX8_save_2 rfl qX8_258 oX8_slotAt (by first | assumption | exact mset_same | exact mget_ne (by omega) (by assumption)) rfl rfl rfl rfl (Nat.le_of_ble_eq_true rfl) (by decide) (by decide) (fun v2 μ2 h2 => ?_)
    obtain ⟨rfl, rfl⟩ := h2
    show Rn G 6 kX8_save 5 _ [.null] _ _ _ _ _
    refine Rn.astore_nN (pc1 := 6)  dX8_save_5 rfl rfl (by decide) rfl rfl ?_
    refine Rn.aload_nN (pc1 := 7)  dX8_save_6 rfl rfl rfl ?_
    refine Rn.ifnonnullN (pc1 := 10) dX8_save_7 rfl ?_
    refine Rn.bipush (pc1 := 12) (v := (-2)) dX8_save_10 rfl (by decide) ?_
    exact Rn.ireturn dX8_save_12 rfl rfl ⟨_, rfl, Or.inl ⟨rfl, rfl, C⟩, Fr.rf⟩
  · obtain ⟨i, hi, rfl⟩ := inB_nI (by decide) hj
    obtain ⟨l1, ⟨f0, h0, rc0, sc0, lr0, ls0, D⟩, l3⟩ := L.2 i (by omega)
    have dO : _ = _ := D.2.1
    refine Rn.aload_n (pc1 := 1)  dX8_save_0 rfl rfl rfl ?_
    refine Rn.iload_n (pc1 := 2)  dX8_save_1 rfl rfl rfl ?_
    refine Rn.cV_r (pc1 := 5) (eX8_slotAt_y C.1 L (show i < 2 by omega) rfl) dX8_save_2 rfl qX8_258 oX8_slotAt (by first | assumption | exact mset_same | exact mget_ne (by omega) (by assumption)) rfl rfl rfl rfl (Nat.le_of_ble_eq_true rfl) (by decide) (by decide) (fun v2 μ2 h2 => ?_)
    obtain ⟨rfl, rfl⟩ := h2
    refine Rn.astore_n (pc1 := 6) (x := x + 422 + 53 * i)  dX8_save_5 rfl rfl (by decide) rfl rfl ?_
    refine Rn.aload_n (pc1 := 7)  dX8_save_6 rfl rfl rfl ?_
    refine Rn.ifnonnull 13 dX8_save_7 (by decide) ?_
    refine Rn.aload_n (pc1 := 14)  dX8_save_13 rfl rfl rfl ?_
    refine Rn.getfield (pc1 := 17)  dX8_save_14 rfl fX8_262 (by first | assumption | exact mset_same | exact mget_ne (by omega) (by assumption)) rfl ?_
    refine Rn.aload_n (pc1 := 18)  dX8_save_17 rfl rfl rfl ?_
    refine Rn.getfield (pc1 := 21)  dX8_save_18 rfl fX8_10 (by first | assumption | exact mset_same | exact mget_ne (by omega) (by assumption)) rfl ?_
    refine Rn.cV_v (pc1 := 24) (eX6_copyFrom D A (by omega)) dX8_save_21 rfl qX8_265 oX6_copyFrom (by first | assumption | exact mset_same | exact mget_ne (by omega) (by assumption)) rfl rfl rfl rfl (Nat.le_of_ble_eq_true rfl) (by decide) (by decide) (fun μ21 h21 => ?_)
    obtain ⟨W1, z1⟩ := h21
    have l1' := (z1 (x + 422 + 53 * i) (by omega)).trans l1
    have hO1 := (z1 x (by omega)).trans hO
    have A1 := A.fr z1 (by omega)
    have nO1 : _ = _ := A1.2.1
    refine Rn.aload_n (pc1 := 25)  dX8_save_24 rfl rfl rfl ?_
    refine Rn.iconst (pc1 := 26) (v := nI 1) dX8_save_25 rfl (by decide) ?_
    refine Rn.putfield (pc1 := 29)  dX8_save_26 rfl pX8_268 (fun h => Bool.noConfusion h) (by assumption) (Nat.le_of_ble_eq_true rfl) rfl rfl rfl ?_
    have z2 : ∀ c : Cl, Fr (x + 422 + 53 * i) (x + 422 + 53 * i + 1) μ21 (mset μ21 (x + 422 + 53 * i) c) := fun c => Fr.set (by omega) (by omega)
    have A2 := A1.fr (z2 (obj 4 [.int (nI 1), .ref (x + 423 + 53 * i)])) (by omega)
    have nO2 : _ = _ := A2.2.1
    have hO2 := (z2 (obj 4 [.int (nI 1), .ref (x + 423 + 53 * i)]) x (by omega)).trans hO1
    obtain ⟨r1, r2, r3, r4, fO⟩ := SA.fO A2
    refine Rn.aload_n (pc1 := 30)  dX8_save_29 rfl rfl rfl ?_
    refine Rn.getfield (pc1 := 33)  dX8_save_30 rfl fX8_10 (by first | assumption | exact mset_same | exact mget_ne (by omega) (by assumption)) rfl ?_
    refine Rn.getfield (pc1 := 36)  dX8_save_33 rfl fX8_105 (by first | assumption | exact mset_same | exact mget_ne (by omega) (by assumption)) rfl ?_
    refine Rn.getfield (pc1 := 39)  dX8_save_36 rfl fX8_109 (by first | assumption | exact mset_same | exact mget_ne (by omega) (by assumption)) rfl ?_
    have zz : Fr (x + 422 + 53 * i) (x + 422 + 53 * i + 53) μ2 (mset μ21 (x + 422 + 53 * i) (obj 4 [.int (nI 1), .ref (x + 423 + 53 * i)])) := (z1.wide (by omega) (by omega)).trans ((z2 _).wide (by omega) (by omega))
    obtain ⟨c1, c2, ⟨s, c3, c4⟩, c5, ⟨rr, rr1, rr2⟩, c6⟩ := C
    rw [nI_clamp (by omega)]
    refine Rn.ireturn dX8_save_39 rfl rfl ⟨_, rfl, Or.inr ⟨rfl, I.1.1.symm, c1.fr zz (by omega), c2.fr zz (by omega), ⟨s, c3.fr zz (by omega), c4.fr c3 zz (by omega)⟩, c5.fr zz (by omega), ⟨rr, (zz _ (by omega)).trans rr1, rr2⟩, fun k hk => ?_⟩, zz.wide (by omega) (by omega)⟩
    by_cases e : k = i
    · subst e
      rw [show setU u k k = true from if_pos rfl, show setS S k f k = f from if_pos rfl]
      have W2 := W1.fr (z2 (obj 4 [.int (nI 1), .ref (x + 423 + 53 * k)])) (by omega)
      exact ⟨mset_same, ⟨_, _, _, _, _, _, W2⟩, fun _ => ⟨h, rc, sc, W2, I⟩⟩
    · rw [show setU u i k = u k from if_neg e, show setS S i f k = S k from if_neg e]
      obtain ⟨k1, k2, k3⟩ := c6 k hk
      exact ⟨(zz _ (by omega)).trans k1, k2.fr zz (by omega), fun q => (k3 q).fr zz (by omega)⟩
abbrev mayRest (u : Nat → Bool) (j : Int32) : Int32 := if inB j (nI 0) (nI 1) = true then (if u j.toNatClampNeg = true then nI 0 else -5) else -2
theorem eX8_restore {j : Int32} (C : CW μ x f held P Pp len u S B) : EvA G 6 kX8_restore [.ref x, .int j] μ sz 0 0 (QW x held len B f P Pp u S (mayRest u j) (S j.toNatClampNeg 6) (S j.toNatClampNeg) μ) := by
  have hO := C.1
  obtain ⟨s0, c3, c4⟩ := C.2.2.1
  have yO := c3.1
  have L := C.2.2.2.2
  refine EvA.of (L := [some (.ref x), some (.int j), none]) (by decide +kernel) (Nat.le_of_ble_eq_true rfl) rfl ?_
  cases hj : inB j (nI 0) (nI 1)
  · have e : mayRest u j = -2 := if_neg (by rw [hj]; decide)
    refine Rn.aload_n (pc1 := 1)  dX8_restore_0 rfl rfl rfl ?_
    refine Rn.iload_n (pc1 := 2)  dX8_restore_1 rfl rfl rfl ?_
    refine Rn.cV_r (pc1 := 5) (eX8_slotAt_n C.1 L hj) dX8_restore_2 rfl qX8_258 oX8_slotAt (by first | assumption | exact mset_same | exact mget_ne (by omega) (by assumption)) rfl rfl rfl rfl (Nat.le_of_ble_eq_true rfl) (by decide) (by decide) (fun v2 μ2 h2 => ?_)
    obtain ⟨rfl, rfl⟩ := h2
    show Rn G 6 kX8_restore 5 _ [.null] _ _ _ _ _
    refine Rn.astore_nN (pc1 := 6)  dX8_restore_5 rfl rfl (by decide) rfl rfl ?_
    refine Rn.aload_nN (pc1 := 7)  dX8_restore_6 rfl rfl rfl ?_
    refine Rn.ifnonnullN (pc1 := 10) dX8_restore_7 rfl ?_
    refine Rn.bipush (pc1 := 12) (v := (-2)) dX8_restore_10 rfl (by decide) ?_
    exact Rn.ireturn dX8_restore_12 rfl rfl ⟨_, rfl, Or.inl ⟨by rw [e]; decide, e.symm, C.mono (by omega)⟩, Fr.rf⟩
  · obtain ⟨i, hi, rfl⟩ := inB_nI (by decide) hj
    obtain ⟨l1, l2, l3⟩ := L.2 i (by omega)
    have e0 : mayRest u (nI i) = if u i = true then nI 0 else -5 := by unfold mayRest; rw [if_pos hj, nI_clamp (by omega)]
    rw [e0, nI_clamp (by omega)]
    refine Rn.aload_n (pc1 := 1)  dX8_restore_0 rfl rfl rfl ?_
    refine Rn.iload_n (pc1 := 2)  dX8_restore_1 rfl rfl rfl ?_
    refine Rn.cV_r (pc1 := 5) (eX8_slotAt_y C.1 L (show i < 2 by omega) rfl) dX8_restore_2 rfl qX8_258 oX8_slotAt (by first | assumption | exact mset_same | exact mget_ne (by omega) (by assumption)) rfl rfl rfl rfl (Nat.le_of_ble_eq_true rfl) (by decide) (by decide) (fun v2 μ2 h2 => ?_)
    obtain ⟨rfl, rfl⟩ := h2
    refine Rn.astore_n (pc1 := 6) (x := x + 422 + 53 * i)  dX8_restore_5 rfl rfl (by decide) rfl rfl ?_
    refine Rn.aload_n (pc1 := 7)  dX8_restore_6 rfl rfl rfl ?_
    refine Rn.ifnonnull 13 dX8_restore_7 (by decide) ?_
    refine Rn.aload_n (pc1 := 14)  dX8_restore_13 rfl rfl rfl ?_
    refine Rn.getfield (pc1 := 17)  dX8_restore_14 rfl fX8_268 (by first | assumption | exact mset_same | exact mget_ne (by omega) (by assumption)) rfl ?_
    refine Rn.if_ne (pc1 := 20) 23 dX8_restore_17 rfl (by decide) (fun c17 => ?_) (fun c17 => ?_)
    · rw [bI_n c17, if_pos rfl]
      refine Rn.aload_n (pc1 := 24)  dX8_restore_23 rfl rfl rfl ?_
      refine Rn.getfield (pc1 := 27)  dX8_restore_24 rfl fX8_19 (by first | assumption | exact mset_same | exact mget_ne (by omega) (by assumption)) rfl ?_
      refine Rn.aload_n (pc1 := 28)  dX8_restore_27 rfl rfl rfl ?_
      refine Rn.getfield (pc1 := 31)  dX8_restore_28 rfl fX8_10 (by first | assumption | exact mset_same | exact mget_ne (by omega) (by assumption)) rfl ?_
      refine Rn.cV_v (pc1 := 34) (eS_prepare C) dX8_restore_31 rfl qX8_37 oX1_prepare (by first | assumption | exact mset_same | exact mget_ne (by omega) (by assumption)) rfl rfl rfl rfl (Nat.le_of_ble_eq_true rfl) (by decide) (by decide) (fun μ31 h31 => ?_)
      obtain ⟨Z, F⟩ := h31
      obtain ⟨h, rc, sc, A, I⟩ := id F
      have nO : _ = _ := A.2.1
      obtain ⟨s1, p1, p2, p3, p4, -⟩ := id Z
      have hO1 := p1
      obtain ⟨k1, k2, k3⟩ := p3.2 i (by omega)
      obtain ⟨h', rc', sc', A', I'⟩ := k3 (bI_n c17)
      refine Rn.aload_n (pc1 := 35)  dX8_restore_34 rfl rfl rfl ?_
      refine Rn.getfield (pc1 := 38)  dX8_restore_35 rfl fX8_10 (by first | assumption | exact mset_same | exact mget_ne (by omega) (by assumption)) rfl ?_
      refine Rn.aload_n (pc1 := 39)  dX8_restore_38 rfl rfl rfl ?_
      refine Rn.getfield (pc1 := 42)  dX8_restore_39 rfl fX8_262 (by first | assumption | exact mset_same | exact mget_ne (by omega) (by assumption)) rfl ?_
      refine Rn.cV_v (pc1 := 45) (eX6_copyFrom A A' (by omega)) dX8_restore_42 rfl qX8_265 oX6_copyFrom (by first | assumption | exact mset_same | exact mget_ne (by omega) (by assumption)) rfl rfl rfl rfl (Nat.le_of_ble_eq_true rfl) (by decide) (by decide) (fun μ42 h42 => ?_)
      obtain ⟨W1, z1⟩ := h42
      have Z1 := Z.fr z1 (by omega) (by omega)
      have hO2 := (z1 x (by omega)).trans hO1
      have nO2 : _ = _ := W1.2.1
      obtain ⟨r1, r2, r3, r4, fO⟩ := SA.fO W1
      obtain ⟨s2, q1, q2, q3, q4, -⟩ := id Z1
      have yO2 := q4.1
      have Z2 : PD x held len B f P Pp u S (nI 0) (S i 6) (S i) μ2 μ42 (nI h') := ⟨Z1, Or.inr ⟨rfl, nI_le (Nat.zero_le _) (by have := W1.1.1; omega), I'.1.1.symm, ⟨h', rc', sc', W1, I'.mono (by omega)⟩⟩⟩
      refine Rn.aload_n (pc1 := 46)  dX8_restore_45 rfl rfl rfl ?_
      refine Rn.getfield (pc1 := 49)  dX8_restore_46 rfl fX8_19 (by first | assumption | exact mset_same | exact mget_ne (by omega) (by assumption)) rfl ?_
      refine Rn.aload_n (pc1 := 50)  dX8_restore_49 rfl rfl rfl ?_
      refine Rn.getfield (pc1 := 53)  dX8_restore_50 rfl fX8_10 (by first | assumption | exact mset_same | exact mget_ne (by omega) (by assumption)) rfl ?_
      refine Rn.getfield (pc1 := 56)  dX8_restore_53 rfl fX8_105 (by first | assumption | exact mset_same | exact mget_ne (by omega) (by assumption)) rfl ?_
      refine Rn.getfield (pc1 := 59)  dX8_restore_56 rfl fX8_109 (by first | assumption | exact mset_same | exact mget_ne (by omega) (by assumption)) rfl ?_
      refine Rn.cV_i (pc1 := 62) (eS_settle Z2) dX8_restore_59 rfl qX8_45 oX1_settle (by first | assumption | exact mset_same | exact mget_ne (by omega) (by assumption)) rfl rfl rfl rfl (Nat.le_of_ble_eq_true rfl) (by decide) (by decide) (fun v59 μ59 h59 => ?_)
      exact Rn.ireturn dX8_restore_62 rfl rfl ⟨_, rfl, h59⟩
    · rw [bI_0 c17, if_neg (by decide)]
      refine Rn.bipush (pc1 := 22) (v := (-5)) dX8_restore_20 rfl (by decide) ?_
      exact Rn.ireturn dX8_restore_22 rfl rfl ⟨_, rfl, Or.inl ⟨by decide, rfl, C.mono (by omega)⟩, Fr.rf⟩
theorem QC.or {a : Nat} {may val : Int32} {f' : Nat → Int32} : ∀ (r : Option Value) (μ' : Mm), QC a B μ may val f' r μ' → QOr a B μ may f' r μ' := by
  rintro r μ' ⟨v, rfl, ⟨h1, h2, h3⟩ | ⟨h1, h2, rfl, h3⟩⟩
  · exact ⟨_, rfl, Or.inl ⟨h1, h2, h3⟩⟩
  · exact ⟨_, rfl, Or.inr ⟨h1, h2, h3⟩⟩
theorem eX8_carryOutOrder {pl c a b : Nat} {fi se : Int32} (hB : B < 2 ^ 30) (hO : CO μ x) (F : ST μ (x + 1) f B) (p : PA μ (x + 419) Pp len pl (nI c) fi se) (hc : c ≤ 126) (hk : kindF c ≠ 0) (ha : 2 ≤ kindF c → fi = nI a) (hb : 4 ≤ kindF c → se = nI b) (ha2 : a ≤ 999) (hb2 : b ≤ 999) : EvA G 5 kX8_carryOutOrder [.ref x] μ sz 0 0 (QOr (x + 1) B μ (ordMay f c a b) (ordNew f c a b)) := by
  have hO : _ = _ := hO
  obtain ⟨h, rc, sc, A, I⟩ := id F
  have nO : _ = _ := A.2.1
  have pO := p.1
  have ea : (nI a).toNatClampNeg = a := nI_clamp (by omega)
  have eb : (nI b).toNatClampNeg = b := nI_clamp (by omega)
  refine EvA.of (L := [some (.ref x)]) (by decide +kernel) (Nat.le_of_ble_eq_true rfl) rfl ?_
  have K := kind_cases c
  refine Rn.aload_n (pc1 := 1)  dX8_carryOutOrder_0 rfl rfl rfl ?_
  refine Rn.getfield (pc1 := 4)  dX8_carryOutOrder_1 rfl fX8_26 (by first | assumption | exact mset_same | exact mget_ne (by omega) (by assumption)) rfl ?_
  refine Rn.getfield (pc1 := 7)  dX8_carryOutOrder_4 rfl fX8_245 (by first | assumption | exact mset_same | exact mget_ne (by omega) (by assumption)) rfl ?_
  rcases K with ⟨K | K, k⟩ | ⟨K | K | K, k⟩ | ⟨K | K, k⟩ | ⟨K, k⟩ | ⟨K, k⟩ | ⟨K, k⟩ | ⟨k, K⟩
  · subst K; obtain rfl := ha (by decide)
    refine Rn.tableIn (off := 210) 217 dX8_carryOutOrder_7 (by decide) (by decide) (by decide) (by decide) ?_
    refine Rn.aload_n (pc1 := 218)  dX8_carryOutOrder_217 rfl rfl rfl ?_
    refine Rn.getfield (pc1 := 221)  dX8_carryOutOrder_218 rfl fX8_10 (by first | assumption | exact mset_same | exact mget_ne (by omega) (by assumption)) rfl ?_
    refine Rn.aload_n (pc1 := 222)  dX8_carryOutOrder_221 rfl rfl rfl ?_
    refine Rn.getfield (pc1 := 225)  dX8_carryOutOrder_222 rfl fX8_26 (by first | assumption | exact mset_same | exact mget_ne (by omega) (by assumption)) rfl ?_
    refine Rn.getfield (pc1 := 228)  dX8_carryOutOrder_225 rfl fX8_248 (by first | assumption | exact mset_same | exact mget_ne (by omega) (by assumption)) rfl ?_
    refine Rn.cV_i (pc1 := 231) (sX6_letGoBack F) dX8_carryOutOrder_228 rfl qX8_74 oX6_letGoBack (by first | assumption | exact mset_same | exact mget_ne (by omega) (by assumption)) rfl rfl rfl rfl (Nat.le_of_ble_eq_true rfl) (by decide) (by decide) (fun v228 μ228 h228 => ?_)
    rw [ea] at h228
    exact Rn.ireturn dX8_carryOutOrder_231 rfl rfl (QC.or _ _ ⟨_, rfl, h228⟩)
  · subst K; obtain rfl := ha (by decide)
    refine Rn.tableIn (off := 195) 202 dX8_carryOutOrder_7 (by decide) (by decide) (by decide) (by decide) ?_
    refine Rn.aload_n (pc1 := 203)  dX8_carryOutOrder_202 rfl rfl rfl ?_
    refine Rn.getfield (pc1 := 206)  dX8_carryOutOrder_203 rfl fX8_10 (by first | assumption | exact mset_same | exact mget_ne (by omega) (by assumption)) rfl ?_
    refine Rn.aload_n (pc1 := 207)  dX8_carryOutOrder_206 rfl rfl rfl ?_
    refine Rn.getfield (pc1 := 210)  dX8_carryOutOrder_207 rfl fX8_26 (by first | assumption | exact mset_same | exact mget_ne (by omega) (by assumption)) rfl ?_
    refine Rn.getfield (pc1 := 213)  dX8_carryOutOrder_210 rfl fX8_248 (by first | assumption | exact mset_same | exact mget_ne (by omega) (by assumption)) rfl ?_
    refine Rn.cV_i (pc1 := 216) (sX6_letConfirm F) dX8_carryOutOrder_213 rfl qX8_71 oX6_letConfirm (by first | assumption | exact mset_same | exact mget_ne (by omega) (by assumption)) rfl rfl rfl rfl (Nat.le_of_ble_eq_true rfl) (by decide) (by decide) (fun v213 μ213 h213 => ?_)
    rw [ea] at h213
    exact Rn.ireturn dX8_carryOutOrder_216 rfl rfl (QC.or _ _ ⟨_, rfl, h213⟩)
  · subst K
    refine Rn.tableIn (off := 157) 164 dX8_carryOutOrder_7 (by decide) (by decide) (by decide) (by decide) ?_
    refine Rn.aload_n (pc1 := 165)  dX8_carryOutOrder_164 rfl rfl rfl ?_
    refine Rn.getfield (pc1 := 168)  dX8_carryOutOrder_165 rfl fX8_10 (by first | assumption | exact mset_same | exact mget_ne (by omega) (by assumption)) rfl ?_
    refine Rn.cV_i (pc1 := 171) (sX6_thinFeed F) dX8_carryOutOrder_168 rfl qX8_58 oX6_thinFeed (by first | assumption | exact mset_same | exact mget_ne (by omega) (by assumption)) rfl rfl rfl rfl (Nat.le_of_ble_eq_true rfl) (by decide) (by decide) (fun v168 μ168 h168 => ?_)
    exact Rn.ireturn dX8_carryOutOrder_171 rfl rfl (QC.or _ _ ⟨_, rfl, h168⟩)
  · subst K
    refine Rn.tableIn (off := 165) 172 dX8_carryOutOrder_7 (by decide) (by decide) (by decide) (by decide) ?_
    refine Rn.aload_n (pc1 := 173)  dX8_carryOutOrder_172 rfl rfl rfl ?_
    refine Rn.getfield (pc1 := 176)  dX8_carryOutOrder_173 rfl fX8_10 (by first | assumption | exact mset_same | exact mget_ne (by omega) (by assumption)) rfl ?_
    refine Rn.cV_i (pc1 := 179) (sX6_addReader F) dX8_carryOutOrder_176 rfl qX8_65 oX6_addReader (by first | assumption | exact mset_same | exact mget_ne (by omega) (by assumption)) rfl rfl rfl rfl (Nat.le_of_ble_eq_true rfl) (by decide) (by decide) (fun v176 μ176 h176 => ?_)
    exact Rn.ireturn dX8_carryOutOrder_179 rfl rfl (QC.or _ _ ⟨_, rfl, h176⟩)
  · subst K
    refine Rn.tableIn (off := 225) 232 dX8_carryOutOrder_7 (by decide) (by decide) (by decide) (by decide) ?_
    refine Rn.aload_n (pc1 := 233)  dX8_carryOutOrder_232 rfl rfl rfl ?_
    refine Rn.getfield (pc1 := 236)  dX8_carryOutOrder_233 rfl fX8_10 (by first | assumption | exact mset_same | exact mget_ne (by omega) (by assumption)) rfl ?_
    refine Rn.cV_i (pc1 := 239) (sX6_makeSnapshot hB F) dX8_carryOutOrder_236 rfl qX8_62 oX6_makeSnapshot (by first | assumption | exact mset_same | exact mget_ne (by omega) (by assumption)) rfl rfl rfl rfl (Nat.le_of_ble_eq_true rfl) (by decide) (by decide) (fun v236 μ236 h236 => ?_)
    exact Rn.ireturn dX8_carryOutOrder_239 rfl rfl (QC.or _ _ ⟨_, rfl, h236⟩)
  · subst K; obtain rfl := ha (by decide)
    refine Rn.tableIn (off := 142) 149 dX8_carryOutOrder_7 (by decide) (by decide) (by decide) (by decide) ?_
    refine Rn.aload_n (pc1 := 150)  dX8_carryOutOrder_149 rfl rfl rfl ?_
    refine Rn.getfield (pc1 := 153)  dX8_carryOutOrder_150 rfl fX8_10 (by first | assumption | exact mset_same | exact mget_ne (by omega) (by assumption)) rfl ?_
    refine Rn.aload_n (pc1 := 154)  dX8_carryOutOrder_153 rfl rfl rfl ?_
    refine Rn.getfield (pc1 := 157)  dX8_carryOutOrder_154 rfl fX8_26 (by first | assumption | exact mset_same | exact mget_ne (by omega) (by assumption)) rfl ?_
    refine Rn.getfield (pc1 := 160)  dX8_carryOutOrder_157 rfl fX8_248 (by first | assumption | exact mset_same | exact mget_ne (by omega) (by assumption)) rfl ?_
    refine Rn.cV_i (pc1 := 163) (sX6_letPass F) dX8_carryOutOrder_160 rfl qX8_55 oX6_letPass (by first | assumption | exact mset_same | exact mget_ne (by omega) (by assumption)) rfl rfl rfl rfl (Nat.le_of_ble_eq_true rfl) (by decide) (by decide) (fun v160 μ160 h160 => ?_)
    exact Rn.ireturn dX8_carryOutOrder_163 rfl rfl (QC.or _ _ ⟨_, rfl, h160⟩)
  · subst K; obtain rfl := ha (by decide)
    refine Rn.tableIn (off := 127) 134 dX8_carryOutOrder_7 (by decide) (by decide) (by decide) (by decide) ?_
    refine Rn.aload_n (pc1 := 135)  dX8_carryOutOrder_134 rfl rfl rfl ?_
    refine Rn.getfield (pc1 := 138)  dX8_carryOutOrder_135 rfl fX8_10 (by first | assumption | exact mset_same | exact mget_ne (by omega) (by assumption)) rfl ?_
    refine Rn.aload_n (pc1 := 139)  dX8_carryOutOrder_138 rfl rfl rfl ?_
    refine Rn.getfield (pc1 := 142)  dX8_carryOutOrder_139 rfl fX8_26 (by first | assumption | exact mset_same | exact mget_ne (by omega) (by assumption)) rfl ?_
    refine Rn.getfield (pc1 := 145)  dX8_carryOutOrder_142 rfl fX8_248 (by first | assumption | exact mset_same | exact mget_ne (by omega) (by assumption)) rfl ?_
    refine Rn.cV_i (pc1 := 148) (sX6_removeKey hB F) dX8_carryOutOrder_145 rfl qX8_52 oX6_removeKey (by first | assumption | exact mset_same | exact mget_ne (by omega) (by assumption)) rfl rfl rfl rfl (Nat.le_of_ble_eq_true rfl) (by decide) (by decide) (fun v145 μ145 h145 => ?_)
    rw [ea] at h145
    exact Rn.ireturn dX8_carryOutOrder_148 rfl rfl (QC.or _ _ ⟨_, rfl, h145⟩)
  · subst K; obtain rfl := ha (by decide); obtain rfl := hb (by decide)
    refine Rn.tableIn (off := 105) 112 dX8_carryOutOrder_7 (by decide) (by decide) (by decide) (by decide) ?_
    refine Rn.aload_n (pc1 := 113)  dX8_carryOutOrder_112 rfl rfl rfl ?_
    refine Rn.getfield (pc1 := 116)  dX8_carryOutOrder_113 rfl fX8_10 (by first | assumption | exact mset_same | exact mget_ne (by omega) (by assumption)) rfl ?_
    refine Rn.aload_n (pc1 := 117)  dX8_carryOutOrder_116 rfl rfl rfl ?_
    refine Rn.getfield (pc1 := 120)  dX8_carryOutOrder_117 rfl fX8_26 (by first | assumption | exact mset_same | exact mget_ne (by omega) (by assumption)) rfl ?_
    refine Rn.getfield (pc1 := 123)  dX8_carryOutOrder_120 rfl fX8_248 (by first | assumption | exact mset_same | exact mget_ne (by omega) (by assumption)) rfl ?_
    refine Rn.aload_n (pc1 := 124)  dX8_carryOutOrder_123 rfl rfl rfl ?_
    refine Rn.getfield (pc1 := 127)  dX8_carryOutOrder_124 rfl fX8_26 (by first | assumption | exact mset_same | exact mget_ne (by omega) (by assumption)) rfl ?_
    refine Rn.getfield (pc1 := 130)  dX8_carryOutOrder_127 rfl fX8_251 (by first | assumption | exact mset_same | exact mget_ne (by omega) (by assumption)) rfl ?_
    refine Rn.cV_i (pc1 := 133) (sX6_setKey hB F) dX8_carryOutOrder_130 rfl qX8_49 oX6_setKey (by first | assumption | exact mset_same | exact mget_ne (by omega) (by assumption)) rfl rfl rfl rfl (Nat.le_of_ble_eq_true rfl) (by decide) (by decide) (fun v130 μ130 h130 => ?_)
    rw [ea] at h130
    exact Rn.ireturn dX8_carryOutOrder_133 rfl rfl (QC.or _ _ ⟨_, rfl, h130⟩)
  · subst K; obtain rfl := ha (by decide); obtain rfl := hb (by decide)
    refine Rn.tableIn (off := 173) 180 dX8_carryOutOrder_7 (by decide) (by decide) (by decide) (by decide) ?_
    refine Rn.aload_n (pc1 := 181)  dX8_carryOutOrder_180 rfl rfl rfl ?_
    refine Rn.getfield (pc1 := 184)  dX8_carryOutOrder_181 rfl fX8_10 (by first | assumption | exact mset_same | exact mget_ne (by omega) (by assumption)) rfl ?_
    refine Rn.aload_n (pc1 := 185)  dX8_carryOutOrder_184 rfl rfl rfl ?_
    refine Rn.getfield (pc1 := 188)  dX8_carryOutOrder_185 rfl fX8_26 (by first | assumption | exact mset_same | exact mget_ne (by omega) (by assumption)) rfl ?_
    refine Rn.getfield (pc1 := 191)  dX8_carryOutOrder_188 rfl fX8_248 (by first | assumption | exact mset_same | exact mget_ne (by omega) (by assumption)) rfl ?_
    refine Rn.aload_n (pc1 := 192)  dX8_carryOutOrder_191 rfl rfl rfl ?_
    refine Rn.getfield (pc1 := 195)  dX8_carryOutOrder_192 rfl fX8_26 (by first | assumption | exact mset_same | exact mget_ne (by omega) (by assumption)) rfl ?_
    refine Rn.getfield (pc1 := 198)  dX8_carryOutOrder_195 rfl fX8_251 (by first | assumption | exact mset_same | exact mget_ne (by omega) (by assumption)) rfl ?_
    refine Rn.cV_i (pc1 := 201) (sX6_letRead hB F) dX8_carryOutOrder_198 rfl qX8_68 oX6_letRead (by first | assumption | exact mset_same | exact mget_ne (by omega) (by assumption)) rfl rfl rfl rfl (Nat.le_of_ble_eq_true rfl) (by decide) (by decide) (fun v198 μ198 h198 => ?_)
    rw [ea, eb] at h198
    exact Rn.ireturn dX8_carryOutOrder_201 rfl rfl (QC.or _ _ ⟨_, rfl, h198⟩)
  · subst K; obtain rfl := ha (by decide); obtain rfl := hb (by decide)
    refine Rn.tableIn (off := 233) 240 dX8_carryOutOrder_7 (by decide) (by decide) (by decide) (by decide) ?_
    refine Rn.aload_n (pc1 := 241)  dX8_carryOutOrder_240 rfl rfl rfl ?_
    refine Rn.getfield (pc1 := 244)  dX8_carryOutOrder_241 rfl fX8_10 (by first | assumption | exact mset_same | exact mget_ne (by omega) (by assumption)) rfl ?_
    refine Rn.aload_n (pc1 := 245)  dX8_carryOutOrder_244 rfl rfl rfl ?_
    refine Rn.getfield (pc1 := 248)  dX8_carryOutOrder_245 rfl fX8_26 (by first | assumption | exact mset_same | exact mget_ne (by omega) (by assumption)) rfl ?_
    refine Rn.getfield (pc1 := 251)  dX8_carryOutOrder_248 rfl fX8_248 (by first | assumption | exact mset_same | exact mget_ne (by omega) (by assumption)) rfl ?_
    refine Rn.aload_n (pc1 := 252)  dX8_carryOutOrder_251 rfl rfl rfl ?_
    refine Rn.getfield (pc1 := 255)  dX8_carryOutOrder_252 rfl fX8_26 (by first | assumption | exact mset_same | exact mget_ne (by omega) (by assumption)) rfl ?_
    refine Rn.getfield (pc1 := 258)  dX8_carryOutOrder_255 rfl fX8_251 (by first | assumption | exact mset_same | exact mget_ne (by omega) (by assumption)) rfl ?_
    refine Rn.cV_i (pc1 := 261) (sX6_letLoad F) dX8_carryOutOrder_258 rfl qX8_80 oX6_letLoad (by first | assumption | exact mset_same | exact mget_ne (by omega) (by assumption)) rfl rfl rfl rfl (Nat.le_of_ble_eq_true rfl) (by decide) (by decide) (fun v258 μ258 h258 => ?_)
    rw [ea, eb] at h258
    exact Rn.ireturn dX8_carryOutOrder_261 rfl rfl (QC.or _ _ ⟨_, rfl, h258⟩)
  · exact absurd k hk
theorem digV_le {P : Nat → Int32} {len i hi d : Nat} (h : digV P len i hi = some d) : d ≤ hi := (digV_lt h).2.1
theorem ordV_args {P : Nat → Int32} {len p : Nat} (h : (ordV P len p).1 = true) : (ordV P len p).2.2.1 ≤ 999 ∧ (ordV P len p).2.2.2 ≤ 999 ∧ kindF (sgn P len p) ≠ 0 := by
  unfold ordV at h ⊢
  generalize kindF (sgn P len p) = k at h ⊢
  match k, h with
  | 0, h => cases h
  | 1, h => exact ⟨by simp only; omega, by simp only; omega, by decide⟩
  | 2, h =>
    simp only at h ⊢
    cases hn : numV P len (p + 1) with
    | none => rw [hn] at h; cases h
    | some w => have := numV_le (n := w.1) (q := w.2) hn; simp only; omega
  | 3, h =>
    simp only at h ⊢
    cases hn : digV P len (p + 1) 5 with
    | none => rw [hn] at h; cases h
    | some w => have := digV_le hn; simp only; omega
  | 4, h =>
    simp only at h ⊢
    cases hn : numV P len (p + 1) with
    | none => rw [hn] at h; cases h
    | some w =>
      have := numV_le (n := w.1) (q := w.2) hn
      rw [hn] at h
      simp only at h ⊢
      by_cases hs : sgn P len w.2 = 61
      · rw [if_pos hs] at h ⊢
        cases hm : numV P len (w.2 + 1) with
        | none => rw [hm] at h; cases h
        | some u => have := numV_le (n := u.1) (q := u.2) hm; simp only; omega
      · rw [if_neg hs] at h; cases h
  | 5, h =>
    simp only at h ⊢
    cases hn : digV P len (p + 1) 5 with
    | none => rw [hn] at h; cases h
    | some w =>
      have := digV_le hn
      rw [hn] at h
      simp only at h ⊢
      by_cases hs : sgn P len (p + 2) = 42
      · rw [if_pos hs] at h ⊢
        cases hm : numV P len (p + 3) with
        | none => rw [hm] at h; cases h
        | some u => have := numV_le (n := u.1) (q := u.2) hm; simp only; omega
      · rw [if_neg hs] at h; cases h
  | k + 6, h =>
    simp only at h ⊢
    cases hn : digV P len (p + 1) 5 with
    | none => rw [hn] at h; cases h
    | some w =>
      have := digV_le hn
      rw [hn] at h
      simp only at h ⊢
      by_cases hs : sgn P len (p + 2) = 64
      · rw [if_pos hs] at h ⊢
        cases hm : digV P len (p + 3) 9 with
        | none => rw [hm] at h; cases h
        | some u => have := digV_le hm; simp only; omega
      · rw [if_neg hs] at h; cases h
abbrev QCa (x held len B : Nat) (f : Nat → Int32) (P : Nat → Nat → Int32) (Pp : Nat → Int32) (u : Nat → Bool) (S : Nat → Nat → Int32) (μ : Mm) : Option Value → Mm → Prop := rI fun v μ' => ((faultN Pp len 80 0 ≠ none ∧ v = -3 ∧ CW μ' x f held P Pp len u S (B + 81)) ∨ (faultN Pp len 80 0 = none ∧ v = nI (runN Pp len 80 0 f).1 ∧ CW μ' x (runN Pp len 80 0 f).2 (if held < 6 then held + 1 else 6) (pushP P held f) Pp 0 u S (B + 81))) ∧ Fr x (x + 528) μ μ'
theorem lX8_carryOut {μ0 : Mm} {g : Nat → Int32} (hB : B < 2 ^ 29) (po : PadOk Pp len) (hf : faultN Pp len 80 0 = none) (hg : ∀ w : Nat × (Nat → Int32), runN Pp len 80 0 f = w → True) : ∀ (m i p : Nat) (f1 : Nat → Int32) (μ1 : Mm) (lt fi se : Int32), i + m = 80 → p ≤ len + 4 → PP x held len (B + 80) f P Pp u S μ0 μ1 → ST μ1 (x + 1) f1 (B + i) → PA μ1 (x + 419) Pp len p lt fi se → (runN Pp len 80 0 f = (i + (runN Pp len m p f1).1, (runN Pp len m p f1).2)) → Rn G 6 kX8_carryOut 35 [some (.ref x), some (.int (nI i))] [] μ1 sz 0 0 (QCa x held len B f P Pp u S μ0) := by
  have hl := po.1
  have fin : ∀ (i : Nat) (f1 : Nat → Int32) (μ1 : Mm), i ≤ 80 → PP x held len (B + 80) f P Pp u S μ0 μ1 → ST μ1 (x + 1) f1 (B + 80) → runN Pp len 80 0 f = (i, f1) → Rn G 6 kX8_carryOut 74 [some (.ref x), some (.int (nI i))] [] μ1 sz 0 0 (QCa x held len B f P Pp u S μ0) := by
    intro i f1 μ1 hi Z F e
    obtain ⟨s1, p1, ⟨-, pl, lt, fi, se, p2⟩, p3, p4, -⟩ := id Z
    have hO : _ = _ := p1
    have pO := p2.1
    have yO := p4.1
    refine Rn.aload_n (pc1 := 75)  dX8_carryOut_74 rfl rfl rfl ?_
    refine Rn.getfield (pc1 := 78)  dX8_carryOut_75 rfl fX8_26 (by first | assumption | exact mset_same | exact mget_ne (by omega) (by assumption)) rfl ?_
    refine Rn.cV_i (pc1 := 81) (eX2_empty p2) dX8_carryOut_78 rfl qX8_226 oX2_empty (by first | assumption | exact mset_same | exact mget_ne (by omega) (by assumption)) rfl rfl rfl rfl (Nat.le_of_ble_eq_true rfl) (by decide) (by decide) (fun v78 μ78 h78 => ?_)
    obtain ⟨rfl, p5, z⟩ := h78
    have Z2 := Z.pad z ⟨⟨by omega, fun j hj => by omega⟩, _, _, _, _, p5⟩
    have hO1 := (z x (by omega)).trans hO
    have yO1 := (z (x + 53) (by omega)).trans yO
    have Z3 : PD x held 0 (B + 80) f P Pp u S (nI 0) (nI i) f1 μ0 μ78 (nI i) := ⟨Z2, Or.inr ⟨rfl, nI_le (Nat.zero_le _) (by omega), rfl, (F.fr z (by omega)).mono (by omega)⟩⟩
    refine Rn.pop (pc1 := 82)  dX8_carryOut_81 rfl rfl ?_
    refine Rn.aload_n (pc1 := 83)  dX8_carryOut_82 rfl rfl rfl ?_
    refine Rn.getfield (pc1 := 86)  dX8_carryOut_83 rfl fX8_19 (by first | assumption | exact mset_same | exact mget_ne (by omega) (by assumption)) rfl ?_
    refine Rn.iload_n (pc1 := 87)  dX8_carryOut_86 rfl rfl rfl ?_
    refine Rn.cV_i (pc1 := 90) (eS_settle Z3) dX8_carryOut_87 rfl qX8_45 oX1_settle (by first | assumption | exact mset_same | exact mget_ne (by omega) (by assumption)) rfl rfl rfl rfl (Nat.le_of_ble_eq_true rfl) (by decide) (by decide) (fun v87 μ87 h87 => ?_)
    obtain ⟨⟨q, -⟩ | ⟨-, rfl, q⟩, z2⟩ := h87
    · exact absurd q (by decide)
    · exact Rn.ireturn dX8_carryOut_90 rfl rfl ⟨_, rfl, Or.inr ⟨hf, by rw [e], by rw [e]; exact q⟩, z2⟩
  intro m
  induction m with
  | zero =>
    intro i p f1 μ1 lt fi se hi hp Z F p2 e
    obtain rfl : i = 80 := by omega
    have hO : CO μ1 x := by obtain ⟨s1, p1, -⟩ := id Z; exact p1
    refine Rn.iload_n (pc1 := 36)  dX8_carryOut_35 rfl rfl rfl ?_
    refine Rn.bipush (pc1 := 38) (v := nI 80) dX8_carryOut_36 rfl (by decide) ?_
    refine Rn.icmp_ge (pc1 := 41) 74 dX8_carryOut_38 rfl (by decide) (fun c38 => ?_) (fun c38 => ?_)
    · exact fin 80 f1 μ1 (by omega) Z F e
    · exact absurd (nI_le (Nat.le_refl 80) (by decide)) c38
  | succ m ih =>
    intro i p f1 μ1 lt fi se hi hp Z F p2 e
    have hO : CO μ1 x := by obtain ⟨s1, p1, -⟩ := id Z; exact p1
    have pO := p2.1
    have hcc := sgn_le (i := p) po
    refine Rn.iload_n (pc1 := 36)  dX8_carryOut_35 rfl rfl rfl ?_
    refine Rn.bipush (pc1 := 38) (v := nI 80) dX8_carryOut_36 rfl (by decide) ?_
    refine Rn.icmp_ge (pc1 := 41) 74 dX8_carryOut_38 rfl (by decide) (fun c38 => ?_) (fun c38 => ?_)
    · exact absurd c38 (nI_ge (by omega) (by decide))
    · refine Rn.aload_n (pc1 := 42)  dX8_carryOut_41 rfl rfl rfl ?_
      refine Rn.getfield (pc1 := 45)  dX8_carryOut_42 rfl fX8_26 (by first | assumption | exact mset_same | exact mget_ne (by omega) (by assumption)) rfl ?_
      refine Rn.cV_i (pc1 := 48) (eX2_takeOrder p2 po (by omega)) dX8_carryOut_45 rfl qX8_235 oX2_takeOrder (by first | assumption | exact mset_same | exact mget_ne (by omega) (by assumption)) rfl rfl rfl rfl (Nat.le_of_ble_eq_true rfl) (by decide) (by decide) (fun v45 μ45 h45 => ?_)
      obtain ⟨rfl, fi', se', p3, z1, ho⟩ := h45
      have Z1 := Z.pad z1 ⟨po, _, _, _, _, p3⟩
      have F1 := F.fr z1 (by omega)
      have hO1 := (z1 x (by omega)).trans hO
      have pO1 := p3.1
      refine Rn.if_eq (pc1 := 51) 74 dX8_carryOut_48 rfl (by decide) (fun c48 => ?_) (fun c48 => ?_)
      · have e1 : runN Pp len (m + 1) p f1 = (0, f1) := by unfold runN; rw [if_neg (fun q => by rw [bI_0 c48] at q; cases q.1)]
        rw [e1] at e
        first
          | exact fin i f1 _ (by omega) Z1 (F1.mono (by omega)) e
          | exact fin i f1 _ (by omega) Z2 (F2.mono (by omega)) e
      · have h1 := bI_n c48
        obtain ⟨ho1, ho2⟩ := ho h1
        obtain ⟨a1, a2, a3⟩ := ordV_args h1
        have hend := ordV_end h1
        refine Rn.aload_n (pc1 := 52)  dX8_carryOut_51 rfl rfl rfl ?_
        refine Rn.cV_i (pc1 := 55) (eX8_carryOutOrder (by omega) hO1 F1 p3 hcc a3 ho1 ho2 a1 a2) dX8_carryOut_52 rfl qX8_239 oX8_carryOutOrder (by first | assumption | exact mset_same | exact mget_ne (by omega) (by assumption)) rfl rfl rfl rfl (Nat.le_of_ble_eq_true rfl) (by decide) (by decide) (fun v52 μ52 h52 => ?_)
        rcases h52 with ⟨b1, rfl, rfl⟩ | ⟨b1, b2, F2, z2⟩
        · refine Rn.if_lt (pc1 := 58) 74 dX8_carryOut_55 rfl (by decide) (fun c55 => ?_) (fun c55 => ?_)
          · have e1 : runN Pp len (m + 1) p f1 = (0, f1) := by unfold runN; rw [if_neg (fun q => by rw [q.2] at b1; exact absurd b1 (by decide))]
            rw [e1] at e
            exact fin i f1 _ (by omega) Z1 (F1.mono (by omega)) e
          · exact absurd b1 c55
        · refine Rn.if_lt (pc1 := 58) 74 dX8_carryOut_55 rfl (by decide) (fun c55 => ?_) (fun c55 => ?_)
          · exact absurd c55 (i32_nlt.mpr b2)
          · have p4 := p3.fr z2 (by omega)
            have pO2 := p4.1
            have hO2 := (z2 x (by omega)).trans hO1
            have Z2 := Z1.fr z2 (by omega) (by omega)
            have e1 : runN Pp len (m + 1) p f1 = ((runN Pp len m (nxt Pp len p) (ordNew f1 (sgn Pp len p) (ordV Pp len p).2.2.1 (ordV Pp len p).2.2.2)).1 + 1, (runN Pp len m (nxt Pp len p) (ordNew f1 (sgn Pp len p) (ordV Pp len p).2.2.1 (ordV Pp len p).2.2.2)).2) := if_pos ⟨h1, b1⟩
            rw [e1] at e
            simp only at e
            refine Rn.iinc (pc1 := 61)  dX8_carryOut_58 rfl rfl (nI_1 i) (by decide) rfl rfl ?_
            refine Rn.aload_n (pc1 := 62)  dX8_carryOut_61 rfl rfl rfl ?_
            refine Rn.getfield (pc1 := 65)  dX8_carryOut_62 rfl fX8_26 (by first | assumption | exact mset_same | exact mget_ne (by omega) (by assumption)) rfl ?_
            by_cases hs : sgn Pp len (ordV Pp len p).2.1 = 59
            · have en : nxt Pp len p = (ordV Pp len p).2.1 + 1 := if_pos hs
              rw [en] at e
              refine Rn.bipush (pc1 := 67) (v := nI 59) dX8_carryOut_65 rfl (by decide) ?_
              refine Rn.cV_i (pc1 := 70) (eX2_takeSign_y p4 po (by omega) hs) dX8_carryOut_67 rfl qX8_242 oX2_takeSign (by first | assumption | exact mset_same | exact mget_ne (by omega) (by assumption)) rfl rfl rfl rfl (Nat.le_of_ble_eq_true rfl) (by decide) (by decide) (fun v67 μ67 h67 => ?_)
              obtain ⟨rfl, p5, z5⟩ := h67
              refine Rn.pop (pc1 := 71)  dX8_carryOut_70 rfl rfl ?_
              refine Rn.goto 35 dX8_carryOut_71 (by decide) ?_
              exact ih (i + 1) _ _ _ _ _ _ (by omega) (by omega) (Z2.pad z5 ⟨po, _, _, _, _, p5⟩) ((F2.fr z5 (by omega)).mono (by omega)) p5 (by rw [e, Nat.add_assoc, Nat.add_comm 1])
            · have en : nxt Pp len p = (ordV Pp len p).2.1 := if_neg hs
              rw [en] at e
              refine Rn.bipush (pc1 := 67) (v := nI 59) dX8_carryOut_65 rfl (by decide) ?_
              refine Rn.cV_i (pc1 := 70) (eX2_takeSign_n p4 po (by omega) (by omega) hs) dX8_carryOut_67 rfl qX8_242 oX2_takeSign (by first | assumption | exact mset_same | exact mget_ne (by omega) (by assumption)) rfl rfl rfl rfl (Nat.le_of_ble_eq_true rfl) (by decide) (by decide) (fun v67 μ67 h67 => ?_)
              obtain ⟨rfl, rfl⟩ := h67
              refine Rn.pop (pc1 := 71)  dX8_carryOut_70 rfl rfl ?_
              refine Rn.goto 35 dX8_carryOut_71 (by decide) ?_
              exact ih (i + 1) _ _ _ _ _ _ (by omega) (by omega) Z2 (F2.mono (by omega)) p4 (by rw [e, Nat.add_assoc, Nat.add_comm 1])
theorem eX8_carryOut (hB : B < 2 ^ 29) (C : CW μ x f held P Pp len u S B) : EvA G 6 kX8_carryOut [.ref x] μ sz 0 0 (QCa x held len B f P Pp u S μ) := by
  have hO := C.1
  obtain ⟨po, pl, lt, fi, se, p⟩ := C.2.2.2.1
  have pO := p.1
  refine EvA.of (L := [some (.ref x), none]) (by decide +kernel) (Nat.le_of_ble_eq_true rfl) rfl ?_
  refine Rn.aload_n (pc1 := 1)  dX8_carryOut_0 rfl rfl rfl ?_
  refine Rn.getfield (pc1 := 4)  dX8_carryOut_1 rfl fX8_26 (by first | assumption | exact mset_same | exact mget_ne (by omega) (by assumption)) rfl ?_
  refine Rn.cV_i (pc1 := 7) (eX2_firstFault p po) dX8_carryOut_4 rfl qX8_229 oX2_firstFault (by first | assumption | exact mset_same | exact mget_ne (by omega) (by assumption)) rfl rfl rfl rfl (Nat.le_of_ble_eq_true rfl) (by decide) (by decide) (fun v4 μ4 h4 => ?_)
  obtain ⟨rfl, pl', lt', fi', se', p', z⟩ := h4
  have C1 : CW μ4 x f held P Pp len u S B := by
    obtain ⟨c1, c2, ⟨s, c3, c4⟩, c5, c6⟩ := C
    exact ⟨c1.fr z (by omega), c2.fr z (by omega), ⟨s, c3.fr z (by omega), c4.fr c3 z (by omega)⟩, ⟨po, _, _, _, _, p'⟩, c6.fr z (by omega)⟩
  have hO1 := C1.1
  obtain ⟨s0, k3, k4⟩ := C1.2.2.1
  have yO1 := k3.1
  refine Rn.bipush (pc1 := 9) (v := (-6)) dX8_carryOut_7 rfl (by decide) ?_
  refine Rn.icmp_eq (pc1 := 12) 15 dX8_carryOut_9 rfl (by decide) (fun c9 => ?_) (fun c9 => ?_)
  · have hn : faultN Pp len 80 0 = none := by
      cases hq : faultN Pp len 80 0 with
      | none => rfl
      | some q =>
        rw [hq] at c9
        exfalso
        have hlq : q < 2 ^ 30 := by
          have key : ∀ n p q, p ≤ 200 + 5 * (80 - n) → n ≤ 80 → faultN Pp len n p = some q → q < 2 ^ 30 := by
            intro n
            induction n with
            | zero => intro p q hp hn h; cases h; omega
            | succ n ih =>
              intro p q hp hn h
              have hle := ordV_le (P := Pp) (len := len) (p := p)
              have := po.1
              unfold faultN at h
              split at h
              · split at h
                · cases h
                · split at h
                  · exact ih _ _ (by omega) (by omega) h
                  · cases h; omega
              · cases h; omega
          exact key 80 0 q (by omega) (by omega) hq
        exact of_decide_eq_true (nI_dec (n := q) (by omega)) c9
    refine Rn.aload_n (pc1 := 16)  dX8_carryOut_15 rfl rfl rfl ?_
    refine Rn.getfield (pc1 := 19)  dX8_carryOut_16 rfl fX8_19 (by first | assumption | exact mset_same | exact mget_ne (by omega) (by assumption)) rfl ?_
    refine Rn.aload_n (pc1 := 20)  dX8_carryOut_19 rfl rfl rfl ?_
    refine Rn.getfield (pc1 := 23)  dX8_carryOut_20 rfl fX8_10 (by first | assumption | exact mset_same | exact mget_ne (by omega) (by assumption)) rfl ?_
    refine Rn.cV_v (pc1 := 26) (eS_prepare C1) dX8_carryOut_23 rfl qX8_37 oX1_prepare (by first | assumption | exact mset_same | exact mget_ne (by omega) (by assumption)) rfl rfl rfl rfl (Nat.le_of_ble_eq_true rfl) (by decide) (by decide) (fun μ23 h23 => ?_)
    obtain ⟨Z, F⟩ := h23
    obtain ⟨s1, p1, ⟨-, pl1, lt1, fi1, se1, p2⟩, p3, p4, -⟩ := id Z
    have hO2 : _ = _ := p1
    have pO2 := p2.1
    refine Rn.iconst (pc1 := 27) (v := nI 0) dX8_carryOut_26 rfl (by decide) ?_
    refine Rn.istore_n (pc1 := 28)  dX8_carryOut_27 rfl rfl (by decide) rfl rfl ?_
    refine Rn.aload_n (pc1 := 29)  dX8_carryOut_28 rfl rfl rfl ?_
    refine Rn.getfield (pc1 := 32)  dX8_carryOut_29 rfl fX8_26 (by first | assumption | exact mset_same | exact mget_ne (by omega) (by assumption)) rfl ?_
    refine Rn.cV_v (pc1 := 35) (eX2_goToStart p2) dX8_carryOut_32 rfl qX8_232 oX2_goToStart (by first | assumption | exact mset_same | exact mget_ne (by omega) (by assumption)) rfl rfl rfl rfl (Nat.le_of_ble_eq_true rfl) (by decide) (by decide) (fun μ32 h32 => ?_)
    obtain ⟨p5, z5⟩ := h32
    have Z2 := (Z.pad z5 ⟨po, _, _, _, _, p5⟩).mono (show B ≤ B + 80 by omega)
    have J := lX8_carryOut (G := G) (sz := sz) (g := f) hB po hn (fun _ _ => trivial) 80 0 0 f _ _ _ _ (by omega) (by omega) Z2 (F.fr z5 (by omega)) p5 (by rw [Nat.zero_add])
    refine J.imp ?_
    rintro r μ' ⟨v, rfl, q, z6⟩
    exact ⟨v, rfl, q, (z.wide (by omega) (by omega)).trans z6⟩
  · have hn : faultN Pp len 80 0 ≠ none := fun q => c9 (by rw [q]; rfl)
    refine Rn.bipush (pc1 := 14) (v := (-3)) dX8_carryOut_12 rfl (by decide) ?_
    exact Rn.ireturn dX8_carryOut_14 rfl rfl ⟨_, rfl, Or.inl ⟨hn, rfl, C1.mono (by omega)⟩, z.wide (by omega) (by omega)⟩
end CF2
