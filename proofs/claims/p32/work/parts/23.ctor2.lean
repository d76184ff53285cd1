/-! ===== what is made: State, History, Slot, ChangeFeed ===== -/
-- LOOK2
def PS (μ : Mm) (a i j : Nat) : Prop := μ a = some (obj 6 [.int (nI 5), .int (nI 30), .int (nI 0), .int (nI 0), .int (nI 0), .ref (a + 1), .ref (a + 3), .ref (a + 8), .ref (a + 9)]) ∧ μ (a + 8) = some (refs 3 6 (fun q => if q < i then some (a + 10 + 5 * q) else none)) ∧ μ (a + 9) = some (refs 4 4 (fun q => if q < j then some (a + 40 + 3 * q) else none)) ∧ VA μ (a + 1) (fun _ => -6) ∧ FB μ (a + 3) 0 (nI 0) (nI 0) (nI 0) (fun _ => 0) (fun _ => 0) (fun _ => 0) (fun _ => 0) ∧ (∀ q, q < i → RA μ (a + 10 + 5 * q) (nI 0) (nI 0) (nI 0) (fun _ => -6) (fun _ => -6)) ∧ ∀ q, q < j → SN μ (a + 40 + 3 * q) (nI 0) (fun _ => -6)
theorem PS.fr {μ μ' : Mm} {a i j x y : Nat} (F : PS μ a i j) (z : Fr x y μ μ') (h : (a + 10 + 5 * i ≤ x ∧ (j = 0 ∨ a + 40 + 3 * j ≤ x)) ∨ y ≤ a) (hi : i ≤ 6) : PS μ' a i j := by
  obtain ⟨p1, p2, p3, p4, p5, p6, p7⟩ := F
  exact ⟨(z _ (by omega)).trans p1, (z _ (by omega)).trans p2, (z _ (by omega)).trans p3, p4.fr z (by omega), p5.fr z (by omega), fun q hq => (p6 q hq).fr z (by omega), fun q hq => (p7 q hq).fr z (by omega)⟩
theorem f9_at {j : Nat} (h0 : j ≠ 0) (h1 : j ≠ 1) (h2 : j < 9 ∨ 21 ≤ j) : f9 j = 0 := by unfold f9; rw [blk_out (by omega), upd_ne h1, upd_ne h0]
theorem f9_iv : IV f9 0 0 0 0 := by
  refine ⟨⟨f9_at (by omega) (by omega) (by omega), f9_at (by omega) (by omega) (by omega), f9_at (by omega) (by omega) (by omega)⟩, ⟨by omega, by omega, by omega⟩, ⟨5, by omega, by omega, ?_⟩, ⟨0, fun _ => 0, Nat.le_refl _, f9_at (by omega) (by omega) (by omega), fun j hj => by omega, fun i j _ hj => by omega⟩, fun j hj => by omega, ?_, ⟨0, by omega, f9_at (by omega) (by omega) (by omega)⟩, fun i hi => by omega, fun i hi => by omega⟩
  · unfold f9; rw [blk_out (by omega), upd_ne (by omega), upd_at rfl]
  · unfold f9; rw [blk_out (by omega), upd_at rfl]; decide
theorem PS.st {μ : Mm} {a : Nat} (F : PS μ a 6 4) : ST μ a f9 0 := by
  obtain ⟨p1, p2, p3, p4, p5, p6, p7⟩ := F
  have p5' : FB μ (a + 3) 0 (f9 3) (f9 4) (f9 5) (fun _ => 0) (fun _ => 0) (fun _ => 0) (fun _ => 0) := by
    rw [show f9 3 = nI 0 from f9_at (by omega) (by omega) (by omega), show f9 4 = nI 0 from f9_at (by omega) (by omega) (by omega), show f9 5 = nI 0 from f9_at (by omega) (by omega) (by omega)]
    exact p5
  refine ⟨0, 0, 0, ⟨⟨by omega, by omega, by omega⟩, ?_, ⟨⟨_, p2, fun i hi => if_pos hi⟩, ⟨_, p3, fun i hi => if_pos hi⟩⟩, ?_, ⟨_, _, _, _, p5', fun j hj => by omega⟩, fun i hi => ⟨_, _, _, _, _, p6 i hi, fun q => by omega⟩, fun n hn => ⟨_, _, p7 n hn, fun q => by omega⟩⟩, f9_iv⟩
  · unfold SO
    rw [show f9 0 = nI 5 by unfold f9; rw [blk_out (by omega), upd_ne (by omega), upd_at rfl], show f9 1 = nI 30 by unfold f9; rw [blk_out (by omega), upd_at rfl], show f9 2 = nI 0 from f9_at (by omega) (by omega) (by omega)]
    exact p1
  · obtain ⟨v1, g, v2, v3⟩ := p4
    exact ⟨v1, g, v2, fun j hj => (v3 j hj).trans (show (-6 : Int32) = f9 (9 + j) by unfold f9; rw [blk_in (q := j) rfl hj])⟩
theorem refs_s {n : Nat} {s : Nat → Nat} : va_up (fun q => if q < n then some (s q) else none) n (some (s n)) = (fun q => if q < n + 1 then some (s q) else none) := by
  funext q
  unfold va_up
  by_cases e : q = n
  · subst e; rw [if_pos rfl, if_pos (by omega)]
  · rw [if_neg e]
    show (if q < n then some (s q) else none) = _
    by_cases e2 : q < n
    · rw [if_pos e2, if_pos (by omega)]
    · rw [if_neg e2, if_neg (by omega)]
theorem FB.ne {μ : Mm} {b q h : Nat} {nx fl gn : Int32} {g0 g1 g2 g3 : Nat → Int32} {c : Cl} (H : FB μ b h nx fl gn g0 g1 g2 g3) (hq : q < b ∨ b + 5 ≤ q) : FB (mset μ q c) b h nx fl gn g0 g1 g2 g3 := H.fr (Fr.set (a := q) (b := q + 1) (Nat.le_refl _) (Nat.lt_succ_self _)) (by omega)
theorem refs_0 {s : Nat → Nat} : (fun _ => none : Nat → Option Nat) = fun q => if q < 0 then some (s q) else none := funext fun q => (if_neg (by omega)).symm
section CTOR2
variable {G : GG} {μ : Mm} {a : Nat}
theorem eX6_init (hO : μ a = some (obj 6 [.int 0, .int 0, .int 0, .int 0, .int 0, .null, .null, .null, .null])) : EvA G 4 kX6_init [.ref a] μ (a + 1) 51 517 (rV fun μ' => ST μ' a f9 0 ∧ Fr a (a + 52) μ μ') := by
  have loop2 : ∀ (n i : Nat) (μ1 : Mm), i + n = 4 → PS μ1 a 6 i → Fr a (a + 52) μ μ1 → Rn G 4 kX6_init 101 [some (.ref a), some (.int (nI i))] [] μ1 (a + 40 + 3 * i) (3 * n) (15 * n) (rV fun μ' => ST μ' a f9 0 ∧ Fr a (a + 52) μ μ') := by
    intro n
    induction n with
    | zero =>
      intro i μ1 hi F1 z1
      obtain rfl : i = 4 := by omega
      have hO := F1.1
      have hR := F1.2.2.1
      refine Rn.iload_n (pc1 := 102)  dX6_init_101 rfl rfl rfl ?_
      refine Rn.aload_n (pc1 := 103)  dX6_init_102 rfl rfl rfl ?_
      refine Rn.getfield (pc1 := 106)  dX6_init_103 rfl fX6_49 (by first | assumption | exact mset_same | exact mget_ne (by omega) (by assumption) | exact mget_ne (by omega) mset_same) rfl ?_
      refine Rn.alen (pc1 := 107)  dX6_init_106 rfl (by first | assumption | exact mset_same | exact mget_ne (by omega) (by assumption) | exact mget_ne (by omega) mset_same) (fun _ => rfl) rfl ?_
      refine Rn.icmp_ge (pc1 := 110) 129 dX6_init_107 rfl (by decide) (fun c107 => ?_) (fun c107 => ?_)
      · exact Rn.vreturn dX6_init_129 rfl ⟨rfl, F1.st, z1⟩
      · exact absurd (nI_le (Nat.le_refl 4) (by decide)) c107
    | succ n ih =>
      intro i μ1 hi F1 z1
      have hO := F1.1
      have hR := F1.2.2.1
      rw [show 3 * (n + 1) = 3 * n + 2 + 1 by omega, show 15 * (n + 1) = 15 * n + 13 + 2 by omega]
      refine Rn.iload_n (pc1 := 102)  dX6_init_101 rfl rfl rfl ?_
      refine Rn.aload_n (pc1 := 103)  dX6_init_102 rfl rfl rfl ?_
      refine Rn.getfield (pc1 := 106)  dX6_init_103 rfl fX6_49 (by first | assumption | exact mset_same | exact mget_ne (by omega) (by assumption) | exact mget_ne (by omega) mset_same) rfl ?_
      refine Rn.alen (pc1 := 107)  dX6_init_106 rfl (by first | assumption | exact mset_same | exact mget_ne (by omega) (by assumption) | exact mget_ne (by omega) mset_same) (fun _ => rfl) rfl ?_
      refine Rn.icmp_ge (pc1 := 110) 129 dX6_init_107 rfl (by decide) (fun c107 => ?_) (fun c107 => ?_)
      · exact absurd c107 (nI_ge (show i < 4 by omega) (show (4 : Nat) < 2 ^ 31 by decide))
      · refine Rn.aload_n (pc1 := 111)  dX6_init_110 rfl rfl rfl ?_
        refine Rn.getfield (pc1 := 114)  dX6_init_111 rfl fX6_49 (by first | assumption | exact mset_same | exact mget_ne (by omega) (by assumption) | exact mget_ne (by omega) mset_same) rfl ?_
        refine Rn.iload_n (pc1 := 115)  dX6_init_114 rfl rfl rfl ?_
        refine Rn.newobj (pc1 := 118) (fs := [.int 0, .null]) (mc := 3 * n + 2) (ms := 15 * n + 13) (ci := 5) (N0 := 2) tyX5 dX6_init_115 rfl qX6_47 qins_X5 qini_X5 rfl inX5 tyX5_ok (by decide) ?_
        refine Rn.dup (pc1 := 119)  dX6_init_118 rfl rfl ?_
        refine Rn.cJ (pc1 := 122) (mc := 3 * n) (ms := 15 * n) (eX5_init (a := a + 40 + 3 * i) mset_same) dX6_init_119 rfl nX6_54 rfl oX5_init rfl rfl (Nat.le_of_ble_eq_true rfl) (by decide) (by decide) (by omega) (by omega) (fun μ119 h119 => ?_)
        obtain ⟨V, z⟩ := h119
        have F2 : PS μ119 a 6 i := (F1.fr (Fr.set (a := a + 40 + 3 * i) (b := a + 40 + 3 * i + 3) (Nat.le_refl _) (by omega)) (by omega) (by omega)).fr z (by omega) (by omega)
        have z2 : Fr a (a + 52) μ μ119 := (z1.set_ (by omega) (by omega)).trans (z.wide (by omega) (by omega))
        refine Rn.aastore (pc1 := 123) (f' := fun q => if q < i + 1 then some (a + 40 + 3 * q) else none)  dX6_init_122 rfl F2.2.2.1 (fun _ => rfl) V.1 rfl (vp_nI (j := i) rfl (by omega) (by decide)) (by rw [nI_clamp (by omega)]; exact refs_s (s := fun q => a + 40 + 3 * q)) ?_
        refine Rn.iinc (pc1 := 126)  dX6_init_123 rfl rfl (nI_1 i) (by decide) rfl rfl ?_
        refine Rn.goto 101 dX6_init_126 (by decide) ?_
        have N := ih (i + 1) _ (by omega) (show PS (mset μ119 (a + 9) (refs 4 4 (fun q => if q < i + 1 then some (a + 40 + 3 * q) else none))) a 6 (i + 1) from by
          obtain ⟨p1, p2, p3, p4, p5, p6, p7⟩ := F2
          refine ⟨mget_ne (by omega) p1, mget_ne (by omega) p2, mset_same, p4.ne (by omega), p5.fr (Fr.set (a := a + 9) (b := a + 10) (Nat.le_refl _) (by omega)) (by omega), fun q hq => (p6 q hq).ne (by omega), fun q hq => ?_⟩
          by_cases e : q = i
          · subst e; exact V.fr (Fr.set (a := a + 9) (b := a + 10) (Nat.le_refl _) (by omega)) (by omega)
          · exact (p7 q (by omega)).fr (Fr.set (a := a + 9) (b := a + 10) (Nat.le_refl _) (by omega)) (by omega)) (z2.set_ (by omega) (by omega))
        rw [show a + 40 + 3 * (i + 1) = a + 40 + 3 * i + 1 + 2 by omega] at N
        exact N
  have loop1 : ∀ (n i : Nat) (μ1 : Mm), i + n = 6 → PS μ1 a i 0 → Fr a (a + 52) μ μ1 → Rn G 4 kX6_init 71 [some (.ref a), some (.int (nI i))] [] μ1 (a + 10 + 5 * i) (5 * n + 12) (31 * n + 60) (rV fun μ' => ST μ' a f9 0 ∧ Fr a (a + 52) μ μ') := by
    intro n
    induction n with
    | zero =>
      intro i μ1 hi F1 z1
      obtain rfl : i = 6 := by omega
      have hO := F1.1
      have hR := F1.2.1
      refine Rn.iload_n (pc1 := 72)  dX6_init_71 rfl rfl rfl ?_
      refine Rn.aload_n (pc1 := 73)  dX6_init_72 rfl rfl rfl ?_
      refine Rn.getfield (pc1 := 76)  dX6_init_73 rfl fX6_43 (by first | assumption | exact mset_same | exact mget_ne (by omega) (by assumption) | exact mget_ne (by omega) mset_same) rfl ?_
      refine Rn.alen (pc1 := 77)  dX6_init_76 rfl (by first | assumption | exact mset_same | exact mget_ne (by omega) (by assumption) | exact mget_ne (by omega) mset_same) (fun _ => rfl) rfl ?_
      refine Rn.icmp_ge (pc1 := 80) 99 dX6_init_77 rfl (by decide) (fun c77 => ?_) (fun c77 => ?_)
      · refine Rn.iconst (pc1 := 100) (v := nI 0) dX6_init_99 rfl (by decide) ?_
        refine Rn.istore_n (pc1 := 101)  dX6_init_100 rfl rfl (by decide) rfl rfl ?_
        exact loop2 4 0 μ1 rfl F1 z1
      · exact absurd (nI_le (Nat.le_refl 6) (by decide)) c77
    | succ n ih =>
      intro i μ1 hi F1 z1
      have hO := F1.1
      have hR := F1.2.1
      rw [show 5 * (n + 1) + 12 = 5 * n + 12 + 4 + 1 by omega, show 31 * (n + 1) + 60 = 31 * n + 60 + 26 + 5 by omega]
      refine Rn.iload_n (pc1 := 72)  dX6_init_71 rfl rfl rfl ?_
      refine Rn.aload_n (pc1 := 73)  dX6_init_72 rfl rfl rfl ?_
      refine Rn.getfield (pc1 := 76)  dX6_init_73 rfl fX6_43 (by first | assumption | exact mset_same | exact mget_ne (by omega) (by assumption) | exact mget_ne (by omega) mset_same) rfl ?_
      refine Rn.alen (pc1 := 77)  dX6_init_76 rfl (by first | assumption | exact mset_same | exact mget_ne (by omega) (by assumption) | exact mget_ne (by omega) mset_same) (fun _ => rfl) rfl ?_
      refine Rn.icmp_ge (pc1 := 80) 99 dX6_init_77 rfl (by decide) (fun c77 => ?_) (fun c77 => ?_)
      · exact absurd c77 (nI_ge (show i < 6 by omega) (show (6 : Nat) < 2 ^ 31 by decide))
      · refine Rn.aload_n (pc1 := 81)  dX6_init_80 rfl rfl rfl ?_
        refine Rn.getfield (pc1 := 84)  dX6_init_81 rfl fX6_43 (by first | assumption | exact mset_same | exact mget_ne (by omega) (by assumption) | exact mget_ne (by omega) mset_same) rfl ?_
        refine Rn.iload_n (pc1 := 85)  dX6_init_84 rfl rfl rfl ?_
        refine Rn.newobj (pc1 := 88) (fs := [.int 0, .int 0, .int 0, .null, .null]) (mc := 5 * n + 12 + 4) (ms := 31 * n + 60 + 26) (ci := 3) (N0 := 5) tyX3 dX6_init_85 rfl qX6_41 qins_X3 qini_X3 rfl inX3 tyX3_ok (by decide) ?_
        refine Rn.dup (pc1 := 89)  dX6_init_88 rfl rfl ?_
        refine Rn.cJ (pc1 := 92) (mc := 5 * n + 12) (ms := 31 * n + 60) (eX3_init (a := a + 10 + 5 * i) mset_same) dX6_init_89 rfl nX6_53 rfl oX3_init rfl rfl (Nat.le_of_ble_eq_true rfl) (by decide) (by decide) (by omega) (by omega) (fun μ89 h89 => ?_)
        obtain ⟨V, z⟩ := h89
        have F2 : PS μ89 a i 0 := (F1.fr (Fr.set (a := a + 10 + 5 * i) (b := a + 10 + 5 * i + 5) (Nat.le_refl _) (by omega)) (by omega) (by omega)).fr z (by omega) (by omega)
        have z2 : Fr a (a + 52) μ μ89 := (z1.set_ (by omega) (by omega)).trans (z.wide (by omega) (by omega))
        refine Rn.aastore (pc1 := 93) (f' := fun q => if q < i + 1 then some (a + 10 + 5 * q) else none)  dX6_init_92 rfl F2.2.1 (fun _ => rfl) V.1 rfl (vp_nI (j := i) rfl (by omega) (by decide)) (by rw [nI_clamp (by omega)]; exact refs_s (s := fun q => a + 10 + 5 * q)) ?_
        refine Rn.iinc (pc1 := 96)  dX6_init_93 rfl rfl (nI_1 i) (by decide) rfl rfl ?_
        refine Rn.goto 71 dX6_init_96 (by decide) ?_
        have N := ih (i + 1) _ (by omega) (show PS (mset μ89 (a + 8) (refs 3 6 (fun q => if q < i + 1 then some (a + 10 + 5 * q) else none))) a (i + 1) 0 from by
          obtain ⟨p1, p2, p3, p4, p5, p6, p7⟩ := F2
          refine ⟨mget_ne (by omega) p1, mset_same, mget_ne (by omega) p3, p4.ne (by omega), p5.fr (Fr.set (a := a + 8) (b := a + 9) (Nat.le_refl _) (by omega)) (by omega), fun q hq => ?_, fun q hq => by omega⟩
          by_cases e : q = i
          · subst e; exact V.ne (by omega)
          · exact (p6 q (by omega)).ne (by omega)) (z2.set_ (by omega) (by omega))
        rw [show a + 10 + 5 * (i + 1) = a + 10 + 5 * i + 1 + 4 by omega] at N
        exact N
  refine EvA.of (L := [some (.ref a), none]) (by decide +kernel) (Nat.le_of_ble_eq_true rfl) rfl ?_
  refine Rn.aload_n (pc1 := 1)  dX6_init_0 rfl rfl rfl ?_
  refine Rn.objInit (pc1 := 4) dX6_init_1 rfl qX6_3 (Nat.le_of_ble_eq_true rfl) (by decide) ?_
  refine Rn.aload_n (pc1 := 5)  dX6_init_4 rfl rfl rfl ?_
  refine Rn.iconst (pc1 := 6) (v := nI 5) dX6_init_5 rfl (by decide) ?_
  refine Rn.putfield (pc1 := 9)  dX6_init_6 rfl pX6_9 (fun h => Bool.noConfusion h) (by first | assumption | exact mset_same | exact mget_ne (by omega) (by assumption) | exact mget_ne (by omega) mset_same) (Nat.le_of_ble_eq_true rfl) rfl rfl rfl ?_
  refine Rn.aload_n (pc1 := 10)  dX6_init_9 rfl rfl rfl ?_
  refine Rn.bipush (pc1 := 12) (v := nI 30) dX6_init_10 rfl (by decide) ?_
  refine Rn.putfield (pc1 := 15)  dX6_init_12 rfl pX6_15 (fun h => Bool.noConfusion h) (by first | assumption | exact mset_same | exact mget_ne (by omega) (by assumption) | exact mget_ne (by omega) mset_same) (Nat.le_of_ble_eq_true rfl) rfl rfl rfl ?_
  refine Rn.aload_n (pc1 := 16)  dX6_init_15 rfl rfl rfl ?_
  refine Rn.iconst (pc1 := 17) (v := nI 0) dX6_init_16 rfl (by decide) ?_
  refine Rn.putfield (pc1 := 20)  dX6_init_17 rfl pX6_18 (fun h => Bool.noConfusion h) (by first | assumption | exact mset_same | exact mget_ne (by omega) (by assumption) | exact mget_ne (by omega) mset_same) (Nat.le_of_ble_eq_true rfl) rfl rfl rfl ?_
  refine Rn.aload_n (pc1 := 21)  dX6_init_20 rfl rfl rfl ?_
  refine Rn.iconst (pc1 := 22) (v := nI 0) dX6_init_21 rfl (by decide) ?_
  refine Rn.putfield (pc1 := 25)  dX6_init_22 rfl pX6_21 (fun h => Bool.noConfusion h) (by first | assumption | exact mset_same | exact mget_ne (by omega) (by assumption) | exact mget_ne (by omega) mset_same) (Nat.le_of_ble_eq_true rfl) rfl rfl rfl ?_
  refine Rn.aload_n (pc1 := 26)  dX6_init_25 rfl rfl rfl ?_
  refine Rn.iconst (pc1 := 27) (v := nI 0) dX6_init_26 rfl (by decide) ?_
  refine Rn.putfield (pc1 := 30)  dX6_init_27 rfl pX6_24 (fun h => Bool.noConfusion h) (by first | assumption | exact mset_same | exact mget_ne (by omega) (by assumption) | exact mget_ne (by omega) mset_same) (Nat.le_of_ble_eq_true rfl) rfl rfl rfl ?_
  refine Rn.aload_n (pc1 := 31)  dX6_init_30 rfl rfl rfl ?_
  refine Rn.newobj (pc1 := 34) (fs := [.null]) (mc := 50) (ms := 516) (ci := 7) (N0 := 1) tyX7 dX6_init_31 rfl qX6_27 qins_X7 qini_X7 rfl inX7 tyX7_ok (by decide) ?_
  refine Rn.dup (pc1 := 35)  dX6_init_34 rfl rfl ?_
  refine Rn.cI (pc1 := 38) (mc := 49) (ms := 504) (host := "") (eX7_init (a := a + 1) mset_same) dX6_init_35 rfl qX6_29 rfl oX7_init rfl rfl (Nat.le_of_ble_eq_true rfl) (by decide) (by decide) rfl rfl (fun μ35 h35 => ?_)
  obtain ⟨V1, z1⟩ := h35
  have hO1 := (z1 a (by omega)).trans ((mset_ne (by omega)).trans mset_same)
  refine Rn.putfield (pc1 := 41)  dX6_init_38 rfl pX6_30 (fun _ => rfl) (by first | assumption | exact mset_same | exact mget_ne (by omega) (by assumption) | exact mget_ne (by omega) mset_same) (Nat.le_of_ble_eq_true rfl) rfl rfl rfl ?_
  refine Rn.aload_n (pc1 := 42)  dX6_init_41 rfl rfl rfl ?_
  refine Rn.newobj (pc1 := 45) (fs := [.null, .null, .null, .null, .int 0, .int 0, .int 0, .int 0]) (mc := 48) (ms := 496) (ci := 0) (N0 := 8) tyX0 dX6_init_42 rfl qX6_34 qins_X0 qini_X0 rfl inX0 tyX0_ok (by decide) ?_
  refine Rn.dup (pc1 := 46)  dX6_init_45 rfl rfl ?_
  refine Rn.cJ (pc1 := 49) (mc := 44) (ms := 256) (eX0_init (a := a + 3) mset_same) dX6_init_46 rfl nX6_36 rfl oX0_init rfl rfl (Nat.le_of_ble_eq_true rfl) (by decide) (by decide) rfl rfl (fun μ46 h46 => ?_)
  obtain ⟨V2, z2⟩ := h46
  have hO2 := (z2 a (by omega)).trans ((mset_ne (by omega)).trans mset_same)
  refine Rn.putfield (pc1 := 52)  dX6_init_49 rfl pX6_37 (fun _ => rfl) (by first | assumption | exact mset_same | exact mget_ne (by omega) (by assumption) | exact mget_ne (by omega) mset_same) (Nat.le_of_ble_eq_true rfl) rfl rfl rfl ?_
  refine Rn.aload_n (pc1 := 53)  dX6_init_52 rfl rfl rfl ?_
  refine Rn.bipush (pc1 := 55) (v := nI 6) dX6_init_53 rfl (by decide) ?_
  refine Rn.newrefs (pc1 := 58) (n := 6) (t := 3) (mc := 43) (ms := 250)  dX6_init_55 rfl qX6_41 (fun _ h => h.2.1) (fun _ => rfl) (by decide) (by decide) (by decide) ?_
  refine Rn.putfield (pc1 := 61)  dX6_init_58 rfl pX6_43 (fun _ => rfl) (by first | assumption | exact mset_same | exact mget_ne (by omega) (by assumption) | exact mget_ne (by omega) mset_same) (Nat.le_of_ble_eq_true rfl) rfl rfl rfl ?_
  refine Rn.aload_n (pc1 := 62)  dX6_init_61 rfl rfl rfl ?_
  refine Rn.iconst (pc1 := 63) (v := nI 4) dX6_init_62 rfl (by decide) ?_
  refine Rn.newrefs (pc1 := 66) (n := 4) (t := 4) (mc := 42) (ms := 246)  dX6_init_63 rfl qX6_47 (fun _ h => h.2.2.1) (fun _ => rfl) (by decide) (by decide) (by decide) ?_
  refine Rn.putfield (pc1 := 69)  dX6_init_66 rfl pX6_49 (fun _ => rfl) (by first | assumption | exact mset_same | exact mget_ne (by omega) (by assumption) | exact mget_ne (by omega) mset_same) (Nat.le_of_ble_eq_true rfl) rfl rfl rfl ?_
  refine Rn.iconst (pc1 := 70) (v := nI 0) dX6_init_69 rfl (by decide) ?_
  refine Rn.istore_n (pc1 := 71)  dX6_init_70 rfl rfl (by decide) rfl rfl ?_
  have p2 : ∀ (μ0 : Mm) (c1 c2 c3 : Cl), mset (mset (mset (mset μ0 (a + 8) (.inl (3, 6, .inr (.inr (.inr (.inr (fun _ => none))))))) a c1) (a + 9) c2) a c3 (a + 8) = some (refs 3 6 (fun q => if q < 0 then some (a + 10 + 5 * q) else none)) := fun μ0 c1 c2 c3 => (mset_ne (by omega)).trans ((mset_ne (by omega)).trans ((mset_ne (by omega)).trans (mset_same.trans (by rw [refs_0 (s := fun q => a + 10 + 5 * q)]))))
  have p3 : ∀ (μ0 : Mm) (c3 : Cl), mset (mset μ0 (a + 9) (.inl (4, 4, .inr (.inr (.inr (.inr (fun _ => none))))))) a c3 (a + 9) = some (refs 4 4 (fun q => if q < 0 then some (a + 40 + 3 * q) else none)) := fun μ0 c3 => (mset_ne (by omega)).trans (mset_same.trans (by rw [refs_0 (s := fun q => a + 40 + 3 * q)]))
  exact loop1 6 0 _ (by omega) ⟨mset_same, p2 _ _ _ _, p3 _ _, ((((((((V1.ne (by omega)).ne (by omega)).fr z2 (by omega)).ne (by omega)).ne (by omega)).ne (by omega)).ne (by omega)).ne (by omega)), (((((V2.ne (by omega)).ne (by omega)).ne (by omega)).ne (by omega)).ne (by omega)), fun q hq => by omega, fun q hq => by omega⟩ (fun q hq => (mset_ne (by omega)).trans ((mset_ne (by omega)).trans ((mset_ne (by omega)).trans ((mset_ne (by omega)).trans ((mset_ne (by omega)).trans ((z2 q (by omega)).trans ((mset_ne (by omega)).trans ((mset_ne (by omega)).trans ((z1 q (by omega)).trans (by simp (disch := omega) only [mset_ne]))))))))))
end CTOR2
