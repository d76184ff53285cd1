/-! ===== the reference: its whole text ===== -/
def Rec (P : Nat → Int32) (len : Nat) (od : Nat → Int32) : Nat → Nat → Nat → Prop
  | 0, p, _ => (ordV P len p).1 = false
  | n + 1, p, i => (ordV P len p).1 = true ∧ OE od i (sgn P len p) (ordV P len p).2.2.1 (ordV P len p).2.2.2 ∧ Rec P len od n (nxt P len p) (i + 1)
theorem ordV_past {P : Nat → Int32} {len p : Nat} (h : len ≤ p) : (ordV P len p).1 = false := by
  unfold ordV
  rw [sgn_out h]
  rfl
theorem byte_eq {c : Int64} {k : Nat} (hk : k < 8) : ((c >>> ((nI 8 * nI k).toInt64 &&& 63)) &&& 255).toInt32 = ((c.toUInt64 >>> ((nI 8 * nI k).toInt64.toUInt64 &&& Int64.toUInt64 63)).toInt64 &&& 255).toInt32 := by
  have e : ∀ s : Nat, s ≤ 56 → (c.toBitVec.sshiftRight s) &&& 255#64 = (c.toBitVec >>> s) &&& 255#64 := by
    intro s hs
    apply BitVec.eq_of_getLsbD_eq
    intro i hi
    rw [BitVec.getLsbD_and, BitVec.getLsbD_and]
    by_cases h8 : i < 8
    · rw [BitVec.getLsbD_sshiftRight, BitVec.getLsbD_ushiftRight]
      rw [if_pos (by omega)]
      rw [decide_eq_false (show ¬ 64 ≤ i by omega), Bool.not_false, Bool.true_and]
    · have : (255#64).getLsbD i = false := by
        have : ∀ i : Fin 64, ¬ i.val < 8 → (255#64).getLsbD i.val = false := by decide
        exact this ⟨i, hi⟩ h8
      rw [this, Bool.and_false, Bool.and_false]
  have e2 : ∀ s : Nat, s ≤ 56 → ∀ x y : Int64, x.toBitVec = c.toBitVec.sshiftRight s → y.toBitVec = c.toBitVec >>> s → (x &&& 255).toInt32 = (y &&& 255).toInt32 := by
    intro s hs x y hx hy
    congr 1
    apply Int64.toBitVec_inj.mp
    rw [Int64.toBitVec_and, Int64.toBitVec_and, hx, hy]
    exact e s hs
  rcases (show k = 0 ∨ k = 1 ∨ k = 2 ∨ k = 3 ∨ k = 4 ∨ k = 5 ∨ k = 6 ∨ k = 7 by omega) with q | q | q | q | q | q | q | q <;> subst q
  · exact e2 0 (by omega) _ _ rfl rfl
  · exact e2 8 (by omega) _ _ rfl rfl
  · exact e2 16 (by omega) _ _ rfl rfl
  · exact e2 24 (by omega) _ _ rfl rfl
  · exact e2 32 (by omega) _ _ rfl rfl
  · exact e2 40 (by omega) _ _ rfl rfl
  · exact e2 48 (by omega) _ _ rfl rfl
  · exact e2 56 (by omega) _ _ rfl rfl
section M11
variable {G : GG} {μ : Mm} {sz m kept padded at_ ordered : Nat} {f f2 p sl pd od : Nat → Int32} {u : Nat → Bool}
abbrev QT9 (m : Nat) (f f2 p : Nat → Int32) (kept : Nat) (sl : Nat → Int32) (u : Nat → Bool) (pd : Nat → Int32) (padded : Nat) (μ : Mm) : Option Value → Mm → Prop := rI fun v μ' => ((faultN pd padded 80 0 = none ∧ v = nI 1 ∧ ∃ od' n at', n ≤ 41 ∧ MR μ' m f f2 p kept sl u pd padded at' od' n ∧ Rec pd padded od' n 0 0) ∨ (∃ q od' n, q < 2 ^ 20 ∧ faultN pd padded 80 0 = some q ∧ v = nI 0 ∧ MR μ' m f f2 p kept sl u pd padded q od' n)) ∧ Fr m (m + 8) μ μ'
theorem eX9_isText (F : MR μ m f f2 p kept sl u pd padded at_ od ordered) (ho : PadOk pd padded) : EvA G 4 kX9_isText [.ref m] μ sz 0 0 (QT9 m f f2 p kept sl u pd padded μ) := by
  have hl := ho.1
  have end12 : ∀ (q i : Nat) (od : Nat → Int32) (μ1 : Mm), q < 2 ^ 20 → i ≤ 41 → MR μ1 m f f2 p kept sl u pd padded q od i → Fr m (m + 8) μ μ1 → (q = padded → faultN pd padded 80 0 = none ∧ Rec pd padded od i 0 0) → (¬ q = padded → faultN pd padded 80 0 = some q) → Rn G 4 kX9_isText 12 [some (.ref m), some (.int (nI 0))] [] μ1 sz 0 0 (QT9 m f f2 p kept sl u pd padded μ) := by
    intro q i od μ1 hq hi F1 z1 K1 K2
    have hO := F1.1
    refine Rn.iload_n (pc1 := 13)  dX9_isText_12 rfl rfl rfl ?_
    refine Rn.if_eq (pc1 := 16) 45 dX9_isText_13 rfl (by decide) (fun c13 => ?_) (fun c13 => ?_)
    · refine Rn.aload_n (pc1 := 46)  dX9_isText_45 rfl rfl rfl ?_
      refine Rn.getfield (pc1 := 49)  dX9_isText_46 rfl fX9_156 (by first | assumption | exact mset_same | exact mget_ne (by omega) (by assumption)) rfl ?_
      refine Rn.aload_n (pc1 := 50)  dX9_isText_49 rfl rfl rfl ?_
      refine Rn.getfield (pc1 := 53)  dX9_isText_50 rfl fX9_139 (by first | assumption | exact mset_same | exact mget_ne (by omega) (by assumption)) rfl ?_
      refine Rn.icmp_ne (pc1 := 56) 60 dX9_isText_53 rfl (by decide) (fun c53 => ?_) (fun c53 => ?_)
      · have e : ¬ q = padded := fun z => c53 (by rw [z])
        refine Rn.iconst (pc1 := 61) (v := nI 0) dX9_isText_60 rfl (by decide) ?_
        first | exact Rn.ireturn dX9_isText_61 rfl rfl ⟨_, rfl, Or.inl ⟨(K1 e).1, rfl, od, i, q, hi, F1, (K1 e).2⟩, z1⟩ | exact Rn.ireturn dX9_isText_61 rfl rfl ⟨_, rfl, Or.inr ⟨q, od, i, hq, K2 e, rfl, F1⟩, z1⟩
      · have e : q = padded := (nI_eq (by omega) (by omega)).mp c53
        refine Rn.iconst (pc1 := 57) (v := nI 1) dX9_isText_56 rfl (by decide) ?_
        refine Rn.goto 61 dX9_isText_57 (by decide) ?_
        first | exact Rn.ireturn dX9_isText_61 rfl rfl ⟨_, rfl, Or.inl ⟨(K1 e).1, rfl, od, i, q, hi, F1, (K1 e).2⟩, z1⟩ | exact Rn.ireturn dX9_isText_61 rfl rfl ⟨_, rfl, Or.inr ⟨q, od, i, hq, K2 e, rfl, F1⟩, z1⟩
    · exact absurd rfl c13
  have loop : ∀ (t i q : Nat) (od : Nat → Int32) (μ1 : Mm), i + t = 80 → 2 * i ≤ q → q ≤ padded → faultN pd padded 80 0 = faultN pd padded t q → (∀ (od' : Nat → Int32) (n : Nat), (∀ j, j < 3 * i → od' j = od j) → Rec pd padded od' n q i → Rec pd padded od' (n + i) 0 0) → MR μ1 m f f2 p kept sl u pd padded q od i → Fr m (m + 8) μ μ1 → Rn G 4 kX9_isText 12 [some (.ref m), some (.int (nI 1))] [] μ1 sz 0 0 (QT9 m f f2 p kept sl u pd padded μ) := by
    intro t
    induction t with
    | zero => intro i q od μ1 h1 h2 h3; omega
    | succ t ih =>
      intro i q od μ1 h1 h2 h3 hf H F1 z1
      have hO := F1.1
      have ef : faultN pd padded (t + 1) q = if (ordV pd padded q).1 = true then (if padded ≤ (ordV pd padded q).2.1 then none else if sgn pd padded (ordV pd padded q).2.1 = 59 then faultN pd padded t ((ordV pd padded q).2.1 + 1) else some (ordV pd padded q).2.1) else some (ordV pd padded q).2.1 := rfl
      rw [ef] at hf
      have ole := ordV_le (P := pd) (len := padded) (p := q)
      refine Rn.iload_n (pc1 := 13)  dX9_isText_12 rfl rfl rfl ?_
      refine Rn.if_eq (pc1 := 16) 45 dX9_isText_13 rfl (by decide) (fun c13 => ?_) (fun c13 => ?_)
      · exact absurd c13 (by decide)
      · refine Rn.aload_n (pc1 := 17)  dX9_isText_16 rfl rfl rfl ?_
        refine Rn.cV_i (pc1 := 20) (eX9_isOrder F1 ho (by omega) (by omega)) dX9_isText_17 rfl qX9_175 oX9_isOrder (by first | assumption | exact mset_same | exact mget_ne (by omega) (by assumption)) rfl rfl rfl rfl (Nat.le_of_ble_eq_true rfl) (by decide) (by decide) (fun v17 μ17 h17 => ?_)
        obtain ⟨rfl, ⟨od1, F2, q1, q2⟩, z2⟩ := h17
        have z12 := z1.trans z2
        have hO2 := F2.1
        refine Rn.if_ne (pc1 := 23) 25 dX9_isText_20 rfl (by decide) (fun c20 => ?_) (fun c20 => ?_)
        · have ot := bI_n c20
          rw [if_pos ot] at hf
          obtain ⟨e1, e2, e3⟩ := ordV_end ot
          refine Rn.aload_n (pc1 := 26)  dX9_isText_25 rfl rfl rfl ?_
          refine Rn.dup (pc1 := 27)  dX9_isText_26 rfl rfl ?_
          refine Rn.getfield (pc1 := 30)  dX9_isText_27 rfl fX9_163 (by first | assumption | exact mset_same | exact mget_ne (by omega) (by assumption)) rfl ?_
          refine Rn.iconst (pc1 := 31) (v := nI 1) dX9_isText_30 rfl (by decide) ?_
          refine Rn.iadd (pc1 := 32)  dX9_isText_31 rfl (nI_add i 1) ?_
          refine Rn.putfield (pc1 := 35)  dX9_isText_32 rfl pX9_163 (fun h => Bool.noConfusion h) (by first | assumption | exact mset_same | exact mget_ne (by omega) (by assumption)) (Nat.le_of_ble_eq_true rfl) rfl rfl rfl ?_
          have F3 := F2.setO kept padded (ordV pd padded q).2.1 (i + 1) rfl
          have z3 := z12.set_ (q := m) (c := obj 9 [.ref (m + 1), .ref (m + 2), .ref (m + 3), .int (nI kept), .ref (m + 4), .ref (m + 5), .ref (m + 6), .int (nI padded), .int (nI (ordV pd padded q).2.1), .ref (m + 7), .int (nI (i + 1))]) (by omega) (by omega)
          have hO3 := F3.1
          refine Rn.aload_n (pc1 := 36)  dX9_isText_35 rfl rfl rfl ?_
          refine Rn.bipush (pc1 := 38) (v := nI 59) dX9_isText_36 rfl (by decide) ?_
          refine Rn.cV_i (pc1 := 41) (eX9_isSign (c := 59) F3 ho (by omega) (by omega) (by omega)) dX9_isText_38 rfl qX9_169 oX9_isSign (by first | assumption | exact mset_same | exact mget_ne (by omega) (by assumption)) rfl rfl rfl rfl (Nat.le_of_ble_eq_true rfl) (by decide) (by decide) (fun v38 μ38 h38 => ?_)
          refine Rn.istore_n (pc1 := 42)  dX9_isText_41 rfl rfl (by decide) rfl rfl ?_
          refine Rn.goto 12 dX9_isText_42 (by decide) ?_
          obtain ⟨h4, z4⟩ := h38
          have z5 := z3.trans z4
          have Hn : ∀ (od' : Nat → Int32) (n : Nat), (∀ j, j < 3 * (i + 1) → od' j = od1 j) → Rec pd padded od' n (nxt pd padded q) (i + 1) → Rec pd padded od' (n + (i + 1)) 0 0 := by
            intro od' n ha hr
            have := H od' (n + 1) (fun j hj => (ha j (by omega)).trans (q1 j hj)) ⟨ot, ?_, hr⟩
            · rw [show n + (i + 1) = n + 1 + i by omega]; exact this
            · obtain ⟨w1, w2, w3⟩ := q2 ot
              exact ⟨(ha _ (by omega)).trans w1, fun z => (ha _ (by omega)).trans (w2 z), fun z => (ha _ (by omega)).trans (w3 z)⟩
          rcases h4 with ⟨s1, rfl, F4⟩ | ⟨s1, rfl, F4⟩
          · have s2 : (ordV pd padded q).2.1 < padded := sgn_lt (P := pd) (by omega)
            rw [if_neg (by omega), if_pos s1] at hf
            refine ih (i + 1) ((ordV pd padded q).2.1 + 1) od1 _ (by omega) (by omega) (by omega) hf ?_ F4 z5
            intro od' n ha hr
            exact Hn od' n ha (by rw [show nxt pd padded q = (ordV pd padded q).2.1 + 1 from if_pos s1]; exact hr)
          · refine end12 (ordV pd padded q).2.1 (i + 1) od1 _ (by omega) (by omega) F4 z5 (fun z => ?_) (fun z => ?_)
            · rw [if_pos (by omega)] at hf
              refine ⟨hf, ?_⟩
              have := Hn od1 0 (fun _ _ => rfl) (by
                rw [show nxt pd padded q = (ordV pd padded q).2.1 from if_neg s1]
                exact ordV_past (by omega))
              rw [show i + 1 = 0 + (i + 1) by omega]
              exact this
            · rw [if_neg (by omega), if_neg s1] at hf
              exact hf
        · rw [if_neg (by rw [bI_0 c20]; decide)] at hf
          refine Rn.iconst (pc1 := 24) (v := nI 0) dX9_isText_23 rfl (by decide) ?_
          exact Rn.ireturn dX9_isText_24 rfl rfl ⟨_, rfl, Or.inr ⟨_, od1, i, by omega, hf, rfl, F2⟩, z12⟩
  have hO := F.1
  refine EvA.of (L := [some (.ref m), none]) (by decide +kernel) (Nat.le_of_ble_eq_true rfl) rfl ?_
  refine Rn.aload_n (pc1 := 1)  dX9_isText_0 rfl rfl rfl ?_
  refine Rn.iconst (pc1 := 2) (v := nI 0) dX9_isText_1 rfl (by decide) ?_
  refine Rn.putfield (pc1 := 5)  dX9_isText_2 rfl pX9_156 (fun h => Bool.noConfusion h) (by first | assumption | exact mset_same | exact mget_ne (by omega) (by assumption)) (Nat.le_of_ble_eq_true rfl) rfl rfl rfl ?_
  have F1 := F.setO kept padded 0 ordered rfl
  have hO1 := F1.1
  refine Rn.aload_n (pc1 := 6)  dX9_isText_5 rfl rfl rfl ?_
  refine Rn.iconst (pc1 := 7) (v := nI 0) dX9_isText_6 rfl (by decide) ?_
  refine Rn.putfield (pc1 := 10)  dX9_isText_7 rfl pX9_163 (fun h => Bool.noConfusion h) (by first | assumption | exact mset_same | exact mget_ne (by omega) (by assumption)) (Nat.le_of_ble_eq_true rfl) rfl rfl rfl ?_
  refine Rn.iconst (pc1 := 11) (v := nI 1) dX9_isText_10 rfl (by decide) ?_
  refine Rn.istore_n (pc1 := 12)  dX9_isText_11 rfl rfl (by decide) rfl rfl ?_
  rw [mset_mset]
  exact loop 80 0 0 od _ (by omega) (by omega) (by omega) rfl (fun od' n _ hr => hr) (F.setO kept padded 0 0 rfl) (Fr.set (by omega) (by omega))
theorem eX9_fault (F : MR μ m f f2 p kept sl u pd padded at_ od ordered) (ho : PadOk pd padded) : EvA G 5 kX9_fault [.ref m] μ sz 0 0 (rI fun v μ' => v = faultI (faultN pd padded 80 0) ∧ (∃ od' n at', MR μ' m f f2 p kept sl u pd padded at' od' n) ∧ Fr m (m + 8) μ μ') := by
  have hO := F.1
  refine EvA.of (L := [some (.ref m)]) (by decide +kernel) (Nat.le_of_ble_eq_true rfl) rfl ?_
  refine Rn.aload_n (pc1 := 1)  dX9_fault_0 rfl rfl rfl ?_
  refine Rn.cV_i (pc1 := 4) (eX9_isText F ho) dX9_fault_1 rfl qX9_179 oX9_isText (by first | assumption | exact mset_same | exact mget_ne (by omega) (by assumption)) rfl rfl rfl rfl (Nat.le_of_ble_eq_true rfl) (by decide) (by decide) (fun v1 μ1 h1 => ?_)
  obtain ⟨h1, z1⟩ := h1
  refine Rn.if_eq (pc1 := 7) 12 dX9_fault_4 rfl (by decide) (fun c4 => ?_) (fun c4 => ?_)
  · obtain ⟨q, od', n, _, e, F1⟩ : ∃ q od' n, q < 2 ^ 20 ∧ faultN pd padded 80 0 = some q ∧ MR μ1 m f f2 p kept sl u pd padded q od' n := by
      rcases h1 with ⟨_, e2, _⟩ | ⟨q, od', n, e0, e1, e2, e3⟩
      · rw [e2] at c4; exact absurd c4 (by decide)
      · exact ⟨q, od', n, e0, e1, e3⟩
    have hO1 := F1.1
    refine Rn.aload_n (pc1 := 13)  dX9_fault_12 rfl rfl rfl ?_
    refine Rn.getfield (pc1 := 16)  dX9_fault_13 rfl fX9_156 (by first | assumption | exact mset_same | exact mget_ne (by omega) (by assumption)) rfl ?_
    exact Rn.ireturn dX9_fault_16 rfl rfl ⟨_, rfl, by rw [e]; rfl, ⟨od', n, q, F1⟩, z1⟩
  · obtain ⟨q, od', n, e, F1⟩ : ∃ at' od' n, faultN pd padded 80 0 = none ∧ MR μ1 m f f2 p kept sl u pd padded at' od' n := by
      rcases h1 with ⟨e1, e2, od', n, at', e3, e4, _⟩ | ⟨q, od', n, e0, e1, e2, e3⟩
      · exact ⟨at', od', n, e1, e4⟩
      · exact absurd e2 c4
    have hO1 := F1.1
    refine Rn.bipush (pc1 := 9) (v := (-6)) dX9_fault_7 rfl (by decide) ?_
    refine Rn.goto 16 dX9_fault_9 (by decide) ?_
    exact Rn.ireturn dX9_fault_16 rfl rfl ⟨_, rfl, by rw [e]; rfl, ⟨od', n, q, F1⟩, z1⟩
theorem eX9_byteOf {c : Int64} {k : Nat} (hk : k < 8) : EvA G 0 kX9_byteOf [.long c, .int (nI k)] μ sz 0 0 (rI fun v μ' => v = sgnE c k ∧ μ' = μ) := by
  refine EvA.of (L := [some (.long c), none, some (.int (nI k))]) (by decide +kernel) (Nat.le_of_ble_eq_true rfl) rfl ?_
  refine Rn.lload_n (pc1 := 1)  dX9_byteOf_0 rfl rfl rfl ?_
  refine Rn.bipush (pc1 := 3) (v := nI 8) dX9_byteOf_1 rfl (by decide) ?_
  refine Rn.iload_n (pc1 := 4)  dX9_byteOf_3 rfl rfl rfl ?_
  refine Rn.imul (pc1 := 5)  dX9_byteOf_4 rfl rfl ?_
  refine Rn.lshr (pc1 := 6)  dX9_byteOf_5 rfl rfl ?_
  refine Rn.ldc2 (pc1 := 9) dX9_byteOf_6 rfl qX9_146 ?_
  refine Rn.land (pc1 := 10)  dX9_byteOf_9 rfl rfl ?_
  refine Rn.l2i (pc1 := 11)  dX9_byteOf_10 rfl rfl ?_
  refine Rn.ireturn dX9_byteOf_11 rfl rfl ⟨_, rfl, ?_, rfl⟩
  exact byte_eq hk
end M11
