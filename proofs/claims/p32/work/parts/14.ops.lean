/-! ===== what State's changes do to the flat row ===== -/
abbrev e0 (f : Nat → Int32) : Nat → Int32 := fun j => f (21 + 4 * j)
abbrev e1 (f : Nat → Int32) : Nat → Int32 := fun j => f (21 + 4 * j + 1)
abbrev e2 (f : Nat → Int32) : Nat → Int32 := fun j => f (21 + 4 * j + 2)
abbrev e3 (f : Nat → Int32) : Nat → Int32 := fun j => f (21 + 4 * j + 3)
def isRdB (rc : Nat) (r : Int32) : Bool := inB r (nI 0) (nI rc - nI 1)
theorem isRdB_t {rc : Nat} {r : Int32} (hrc : rc < 1000) (h : isRdB rc r = true) : ∃ j, j < rc ∧ r = nI j := by
  unfold isRdB at h
  cases rc with
  | zero =>
    exfalso
    unfold inB at h
    rw [Bool.and_eq_true, decide_eq_true_eq, decide_eq_true_eq, Int32.le_iff_toInt_le, Int32.le_iff_toInt_le] at h
    have h1 : (nI 0).toInt = 0 := by decide
    have h2 : (nI 0 - nI 1).toInt = -1 := by decide
    omega
  | succ n =>
    rw [nI_sub (show 1 ≤ n + 1 by omega), Nat.add_sub_cancel] at h
    obtain ⟨j, hj, e⟩ := inB_nI (by omega) h
    exact ⟨j, by omega, e⟩
theorem isRdB_of {rc j : Nat} (hrc : rc < 1000) (h : j < rc) : isRdB rc (nI j) = true := by
  unfold isRdB
  rw [nI_sub (show 1 ≤ rc by omega)]
  exact inB_of (by omega) (by omega)
theorem isRdB_f {rc : Nat} {r : Int32} (hrc : rc < 1000) (h : isRdB rc r = false) : ∀ j, j < rc → r ≠ nI j := by
  rintro j hj rfl
  rw [isRdB_of hrc hj] at h
  cases h
def maySetF (h : Nat) (key val : Int32) : Int32 := if inB key (nI 0) (nI 11) = true then (if inB val (nI 0) (nI 999) = true then (if h = 60 then -4 else nI 0) else -2) else -1
def mayRemoveF (f : Nat → Int32) (h : Nat) (key : Int32) : Int32 := if inB key (nI 0) (nI 11) = true then (if h = 60 then -4 else if f (9 + key.toNatClampNeg) = -6 then -5 else nI 0) else -1
def setsF (f : Nat → Int32) (h : Nat) (k : Nat) (val : Int32) : Nat → Int32 := upd (upd (upd (upd (upd (upd (upd f (21 + 4 * h) (f 3)) (21 + 4 * h + 1) (nI k)) (21 + 4 * h + 2) val) (21 + 4 * h + 3) (f 2)) 6 (nI (h + 1))) (9 + k) val) 3 (f 3 + nI 1)
def mayPassF (f : Nat → Int32) (m : Int32) : Int32 := if inB m (nI 1) (nI 999) = true then (if f 2 + m ≤ 99999 then nI 0 else -4) else -2
def mayTurnF (s v : Int32) : Int32 := if s = nI 0 then (if inB v (nI 1) (nI 20) = true then nI 0 else -2) else if s = nI 1 ∧ inB v (nI 0) (nI 999) = true then nI 0 else -2
def mayReadF (f : Nat → Int32) (rc : Nat) (r m : Int32) : Int32 := if isRdB rc r = true then (if inB m (nI 1) (nI 99) = true then (if lateB (f (261 + 27 * r.toNatClampNeg)) (f 4) = true then -5 else nI 0) else -2) else -1
def mayLoadF (f : Nat → Int32) (rc sc : Nat) (r s : Int32) : Int32 := if isRdB rc r = true ∧ isRdB sc s = true then (if lateB (f (423 + 13 * s.toNatClampNeg)) (f 4) = true then -5 else nI 0) else -1
/-- which entries a thinning takes away -/
def pF (f : Nat → Int32) (h : Nat) (s mi : Int32) : Nat → Bool := goB h (f 3) s (f 1) mi (e0 f) (e1 f) (e2 f) (e3 f)
def floorF (f : Nat → Int32) (h : Nat) (s mi : Int32) : Int32 := floorN (pF f h s mi) (fun i => lastB (e1 f) i h) (e0 f) (f 4) h
def leftF (f : Nat → Int32) (h : Nat) (s mi : Int32) : Nat := leftN (pF f h s mi) h
def thinF (f : Nat → Int32) (h : Nat) (s mi : Int32) : Nat → Int32 := fun j =>
  if j = 4 then floorF f h s mi else if j = 5 then f 5 + nI (h - leftF f h s mi) else if j = 6 then nI (leftF f h s mi) else
  if 21 ≤ j ∧ j < 21 + 4 * leftF f h s mi then f (21 + 4 * ((kept (pF f h s mi) h).getD ((j - 21) / 4) 0) + (j - 21) % 4) else f j
def beginF (f : Nat → Int32) (i : Nat) (pl : Int32) (vw : Nat → Int32) : Nat → Int32 := blk (blk (upd (upd f (261 + 27 * i) pl) (261 + 27 * i + 1) pl) (261 + 27 * i + 3) 12 vw) (261 + 27 * i + 15) 12 vw
def readF (f : Nat → Int32) (i k c : Nat) : Nat → Int32 := upd (upd (blk f (261 + 27 * i + 3) 12 (vwN (e1 f) (e2 f) (fun q => f (261 + 27 * i + 3 + q)) k c)) (261 + 27 * i) (plN (e0 f) (f (261 + 27 * i)) k c)) (261 + 27 * i + 2) (f (261 + 27 * i + 2) + nI c)
def confF (f : Nat → Int32) (i : Nat) : Nat → Int32 := upd (blk f (261 + 27 * i + 15) 12 (fun q => f (261 + 27 * i + 3 + q))) (261 + 27 * i + 1) (f (261 + 27 * i))
def backF (f : Nat → Int32) (i : Nat) : Nat → Int32 := upd (blk f (261 + 27 * i + 3) 12 (fun q => f (261 + 27 * i + 15 + q))) (261 + 27 * i) (f (261 + 27 * i + 1))
def comeF (f : Nat → Int32) (rc : Nat) : Nat → Int32 := upd (beginF (upd f (261 + 27 * rc + 2) (nI 0)) rc (nI 0) (fun _ => -6)) 7 (nI (rc + 1))
def shotF (f : Nat → Int32) (sc : Nat) : Nat → Int32 := upd (blk (upd (blk f 436 39 (fun q => f (423 + q))) 423 (f 3)) 424 12 (fun q => f (9 + q))) 8 (nI (if sc < 4 then sc + 1 else sc))
theorem leftN_congr {p q : Nat → Bool} : ∀ {n : Nat}, (∀ i, i < n → p i = q i) → leftN p n = leftN q n
  | 0, _ => rfl
  | n + 1, h => by show _ + _ = _ + _; rw [leftN_congr (fun i hi => h i (by omega)), h n (by omega)]
theorem kept_congr {p q : Nat → Bool} : ∀ {n : Nat}, (∀ i, i < n → p i = q i) → kept p n = kept q n
  | 0, _ => rfl
  | n + 1, h => by unfold kept; rw [kept_congr (fun i hi => h i (by omega)), h n (by omega)]
theorem floorN_congr {p q p' q' : Nat → Bool} {g g' : Nat → Int32} {fl : Int32} : ∀ {n : Nat}, (∀ i, i < n → p i = p' i ∧ q i = q' i ∧ g i = g' i) → floorN p q g fl n = floorN p' q' g' fl n
  | 0, _ => rfl
  | n + 1, h => by unfold floorN; rw [floorN_congr (fun i hi => h i (by omega)), (h n (by omega)).1, (h n (by omega)).2.1, (h n (by omega)).2.2]
theorem kept_lt {p : Nat → Bool} : ∀ {n j q : Nat}, (kept p n)[j]? = some q → q < n
  | 0, j, q, h => by simp [kept] at h
  | n + 1, j, q, h => by
    unfold kept at h
    split at h
    · have := kept_lt h; omega
    · have := List.mem_of_getElem? h
      rcases List.mem_append.mp this with h1 | h1
      · obtain ⟨j', hj'⟩ := List.getElem?_of_mem h1
        have := kept_lt hj'; omega
      · rw [List.mem_singleton.mp h1]; omega
section OPM
variable {μ μ' : Mm} {a x y : Nat} {f f' : Nat → Int32} {h rc sc lr ls i n : Nat}
theorem SAg.setO (F : SAg μ a f h rc sc lr ls) (f' : Nat → Int32) (rc' sc' : Nat) (h1 : rc' ≤ 6) (h2 : sc' ≤ 4) (q : ∀ j, 3 ≤ j → f j = f' j) {c : Cl} (hc : c = obj 6 [.int (f' 0), .int (f' 1), .int (f' 2), .int (nI rc'), .int (nI sc'), .ref (a + 1), .ref (a + 3), .ref (a + 8), .ref (a + 9)]) : SAg (mset μ a c) a f' h rc' sc' lr ls := by
  subst hc
  obtain ⟨w0, w1, w2, w3, w4, w5, w6⟩ := F
  have z : ∀ c : Cl, Fr a (a + 1) μ (mset μ a c) := fun c => Fr.set (by omega) (by omega)
  exact ⟨⟨w0.1, h1, h2⟩, mset_same, w2.fr (z _) (by omega), (w3.fr (z _) (by omega)).to (fun j _ => q _ (by omega)), (w4.fr (z _) (by omega)).to ⟨q _ (by omega), q _ (by omega), q _ (by omega)⟩ (fun j h1 _ => q _ (by omega)), fun i hi => ((w5 i hi).fr (z _) (by omega)).to (fun z => z) (fun _ j h1 _ => q _ (by omega)), fun n hn => ((w6 n hn).fr (z _) (by omega)).to (fun z => z) (fun _ j h1 _ => q _ (by omega))⟩
/-- a reader has changed -/
theorem SA.setR (F : SA μ a f h rc sc) {pl cp rs : Int32} {vw cv : Nat → Int32} (hi : i < rc) (z : Fr (a + 10 + 5 * i) (a + 10 + 5 * i + 5) μ μ') (R : RA μ' (a + 10 + 5 * i) pl cp rs vw cv) (f' : Nat → Int32) (q : ∀ j, j < 261 + 27 * i ∨ 261 + 27 * i + 27 ≤ j → f j = f' j)
    (r : pl = f' (261 + 27 * i) ∧ cp = f' (261 + 27 * i + 1) ∧ rs = f' (261 + 27 * i + 2) ∧ (∀ k, k < 12 → vw k = f' (261 + 27 * i + 3 + k)) ∧ ∀ k, k < 12 → cv k = f' (261 + 27 * i + 15 + k)) : SA μ' a f' h rc sc ∧ Fr a (a + 52) μ μ' := by
  obtain ⟨w0, w1, w2, w3, w4, w5, w6⟩ := F
  refine ⟨⟨w0, (w1.fr z (by omega)).to ⟨q _ (by omega), q _ (by omega), q _ (by omega)⟩, w2.fr z (by omega), (w3.fr z (by omega)).to (fun j _ => q _ (by omega)), (w4.fr z (by omega)).to ⟨q _ (by omega), q _ (by omega), q _ (by omega)⟩ (fun j h1 _ => q _ (by omega)), fun k hk => ?_, fun n hn => ((w6 n hn).fr z (by omega)).to (fun z => z) (fun hl j h1 h2 => q _ (by omega))⟩, z.wide (by omega) (by omega)⟩
  by_cases e : k = i
  · subst e
    exact ⟨_, _, _, _, _, R, fun _ => r⟩
  · exact ((w5 k hk).fr z (by omega)).to (fun z => z) (fun hl j h1 h2 => q _ (by omega))
end OPM
section OPS
variable {G : GG} {μ : Mm} {sz : Nat} {a h rc sc : Nat} {f : Nat → Int32}
theorem eX6_turnSetting {s v : Int32} (F : SA μ a f h rc sc) : EvA G 1 kX6_turnSetting [.ref a, .int s, .int v] μ sz 0 0 (rI fun r μ' => (mayTurnF s v ≠ nI 0 ∧ r = mayTurnF s v ∧ μ' = μ) ∨ (mayTurnF s v = nI 0 ∧ ∃ k, k < 2 ∧ s = nI k ∧ r = f k ∧ SA μ' a (upd f k v) h rc sc ∧ Fr a (a + 52) μ μ')) := by
  have hO : μ a = _ := F.2.1
  refine EvA.of (L := [some (.ref a), some (.int s), some (.int v), none]) (by decide +kernel) (Nat.le_of_ble_eq_true rfl) rfl ?_
  have J : mayTurnF s v = (if s = nI 1 ∧ inB v (nI 0) (nI 999) = true then nI 0 else -2) → Rn G 1 kX6_turnSetting 28 [some (.ref a), some (.int s), some (.int v), none] [] μ sz 0 0 (rI fun r μ' => (mayTurnF s v ≠ nI 0 ∧ r = mayTurnF s v ∧ μ' = μ) ∨ (mayTurnF s v = nI 0 ∧ ∃ k, k < 2 ∧ s = nI k ∧ r = f k ∧ SA μ' a (upd f k v) h rc sc ∧ Fr a (a + 52) μ μ')) := by
    intro n0
    refine Rn.iload_n (pc1 := 29)  dX6_turnSetting_28 rfl rfl rfl ?_
    refine Rn.iconst (pc1 := 30) (v := nI 1) dX6_turnSetting_29 rfl (by decide) ?_
    refine Rn.icmp_ne (pc1 := 33) 53 dX6_turnSetting_30 rfl (by decide) (fun c30 => ?_) (fun c30 => ?_)
    · have n2 : mayTurnF s v = -2 := by rw [n0, if_neg (fun q => c30 q.1)]
      refine Rn.bipush (pc1 := 55) (v := (-2)) dX6_turnSetting_53 rfl (by decide) ?_
      refine Rn.istore_n (pc1 := 56)  dX6_turnSetting_55 rfl rfl (by decide) rfl rfl ?_
      refine Rn.iload_n (pc1 := 57)  dX6_turnSetting_56 rfl rfl rfl ?_
      first
        | exact Rn.ireturn dX6_turnSetting_57 rfl rfl ⟨_, rfl, Or.inl ⟨by rw [n2]; decide, n2.symm, rfl⟩⟩
        | exact Rn.ireturn dX6_turnSetting_57 rfl rfl ⟨_, rfl, Or.inr ⟨n1, 1, by decide, c30, rfl, F.setO _ rc sc F.1.2.1 F.1.2.2 (fun j hj => (upd_ne (by omega)).symm) rfl, Fr.set (by omega) (by omega)⟩⟩
    · refine Rn.iload_n (pc1 := 34)  dX6_turnSetting_33 rfl rfl rfl ?_
      refine Rn.cN_i (pc1 := 37) (eX8_isNumber) dX6_turnSetting_34 rfl nX6_80 oX8_isNumber rfl rfl (Nat.le_of_ble_eq_true rfl) (by decide) (by decide) (fun v34 μ34 h34 => ?_)
      obtain ⟨rfl, rfl⟩ := h34
      refine Rn.if_eq (pc1 := 40) 53 dX6_turnSetting_37 rfl (by decide) (fun c37 => ?_) (fun c37 => ?_)
      · have n2 : mayTurnF s v = -2 := by rw [n0, if_neg (fun q => by rw [bI_0 c37] at q; cases q.2)]
        refine Rn.bipush (pc1 := 55) (v := (-2)) dX6_turnSetting_53 rfl (by decide) ?_
        refine Rn.istore_n (pc1 := 56)  dX6_turnSetting_55 rfl rfl (by decide) rfl rfl ?_
        refine Rn.iload_n (pc1 := 57)  dX6_turnSetting_56 rfl rfl rfl ?_
        first
          | exact Rn.ireturn dX6_turnSetting_57 rfl rfl ⟨_, rfl, Or.inl ⟨by rw [n2]; decide, n2.symm, rfl⟩⟩
          | exact Rn.ireturn dX6_turnSetting_57 rfl rfl ⟨_, rfl, Or.inr ⟨n1, 1, by decide, c30, rfl, F.setO _ rc sc F.1.2.1 F.1.2.2 (fun j hj => (upd_ne (by omega)).symm) rfl, Fr.set (by omega) (by omega)⟩⟩
      · have n1 : mayTurnF s v = nI 0 := by rw [n0, if_pos ⟨c30, bI_n c37⟩]
        refine Rn.aload_n (pc1 := 41)  dX6_turnSetting_40 rfl rfl rfl ?_
        refine Rn.getfield (pc1 := 44)  dX6_turnSetting_41 rfl fX6_15 (by first | assumption | exact mset_same | exact mget_ne (by omega) (by assumption)) rfl ?_
        refine Rn.istore_n (pc1 := 45)  dX6_turnSetting_44 rfl rfl (by decide) rfl rfl ?_
        refine Rn.aload_n (pc1 := 46)  dX6_turnSetting_45 rfl rfl rfl ?_
        refine Rn.iload_n (pc1 := 47)  dX6_turnSetting_46 rfl rfl rfl ?_
        refine Rn.putfield (pc1 := 50)  dX6_turnSetting_47 rfl pX6_15 (fun h => Bool.noConfusion h) (by first | assumption | exact mset_same | exact mget_ne (by omega) (by assumption)) (Nat.le_of_ble_eq_true rfl) rfl rfl rfl ?_
        refine Rn.goto 56 dX6_turnSetting_50 (by decide) ?_
        refine Rn.iload_n (pc1 := 57)  dX6_turnSetting_56 rfl rfl rfl ?_
        first
          | exact Rn.ireturn dX6_turnSetting_57 rfl rfl ⟨_, rfl, Or.inl ⟨by rw [n2]; decide, n2.symm, rfl⟩⟩
          | exact Rn.ireturn dX6_turnSetting_57 rfl rfl ⟨_, rfl, Or.inr ⟨n1, 1, by decide, c30, rfl, F.setO _ rc sc F.1.2.1 F.1.2.2 (fun j hj => (upd_ne (by omega)).symm) rfl, Fr.set (by omega) (by omega)⟩⟩
  refine Rn.iload_n (pc1 := 1)  dX6_turnSetting_0 rfl rfl rfl ?_
  refine Rn.if_ne (pc1 := 4) 28 dX6_turnSetting_1 rfl (by decide) (fun c1 => ?_) (fun c1 => ?_)
  · have n1 : mayTurnF s v = if s = nI 1 ∧ inB v (nI 0) (nI 999) = true then nI 0 else -2 := if_neg c1
    exact J n1
  · subst c1
    refine Rn.iload_n (pc1 := 5)  dX6_turnSetting_4 rfl rfl rfl ?_
    refine Rn.iconst (pc1 := 6) (v := nI 1) dX6_turnSetting_5 rfl (by decide) ?_
    refine Rn.icmp_lt (pc1 := 9) 28 dX6_turnSetting_6 rfl (by decide) (fun c6 => ?_) (fun c6 => ?_)
    · have n1 : mayTurnF (nI 0) v = if nI 0 = nI 1 ∧ inB v (nI 0) (nI 999) = true then nI 0 else -2 := by rw [if_neg (fun q : nI 0 = nI 1 ∧ inB v (nI 0) (nI 999) = true => absurd q.1 (by decide))]; unfold mayTurnF; rw [if_pos rfl, inB_lo c6]; rfl
      exact J n1
    · refine Rn.iload_n (pc1 := 10)  dX6_turnSetting_9 rfl rfl rfl ?_
      refine Rn.bipush (pc1 := 12) (v := nI 20) dX6_turnSetting_10 rfl (by decide) ?_
      refine Rn.icmp_gt (pc1 := 15) 28 dX6_turnSetting_12 rfl (by decide) (fun c12 => ?_) (fun c12 => ?_)
      · have n1 : mayTurnF (nI 0) v = if nI 0 = nI 1 ∧ inB v (nI 0) (nI 999) = true then nI 0 else -2 := by rw [if_neg (fun q : nI 0 = nI 1 ∧ inB v (nI 0) (nI 999) = true => absurd q.1 (by decide))]; unfold mayTurnF; rw [if_pos rfl, inB_hi c12]; rfl
        exact J n1
      · have n1 : mayTurnF (nI 0) v = nI 0 := by unfold mayTurnF; rw [if_pos rfl, inB_t c6 c12]; rfl
        refine Rn.aload_n (pc1 := 16)  dX6_turnSetting_15 rfl rfl rfl ?_
        refine Rn.getfield (pc1 := 19)  dX6_turnSetting_16 rfl fX6_9 (by first | assumption | exact mset_same | exact mget_ne (by omega) (by assumption)) rfl ?_
        refine Rn.istore_n (pc1 := 20)  dX6_turnSetting_19 rfl rfl (by decide) rfl rfl ?_
        refine Rn.aload_n (pc1 := 21)  dX6_turnSetting_20 rfl rfl rfl ?_
        refine Rn.iload_n (pc1 := 22)  dX6_turnSetting_21 rfl rfl rfl ?_
        refine Rn.putfield (pc1 := 25)  dX6_turnSetting_22 rfl pX6_9 (fun h => Bool.noConfusion h) (by first | assumption | exact mset_same | exact mget_ne (by omega) (by assumption)) (Nat.le_of_ble_eq_true rfl) rfl rfl rfl ?_
        refine Rn.goto 56 dX6_turnSetting_25 (by decide) ?_
        refine Rn.iload_n (pc1 := 57)  dX6_turnSetting_56 rfl rfl rfl ?_
        exact Rn.ireturn dX6_turnSetting_57 rfl rfl ⟨_, rfl, Or.inr ⟨n1, 0, by decide, rfl, rfl, F.setO _ rc sc F.1.2.1 F.1.2.2 (fun j hj => (upd_ne (by omega)).symm) rfl, Fr.set (by omega) (by omega)⟩⟩
theorem SA.set {μ1 μ2 : Mm} {k : Nat} {val : Int32} {g0 g1 g2 g3 : Nat → Int32} (F : SA μ a f h rc sc) (hk : k < 12) (hh : h < 60) (V : VA μ1 (a + 1) (upd (fun k => f (9 + k)) k val)) (z1 : Fr (a + 1) (a + 3) μ μ1) (B : FB μ2 (a + 3) (h + 1) (f 3 + nI 1) (f 4) (f 5) (upd g0 h (f 3)) (upd g1 h (nI k)) (upd g2 h val) (upd g3 h (f 2))) (z2 : Fr (a + 3) (a + 8) μ1 μ2) (hg : ∀ j, j < h → g0 j = f (21 + 4 * j) ∧ g1 j = f (21 + 4 * j + 1) ∧ g2 j = f (21 + 4 * j + 2) ∧ g3 j = f (21 + 4 * j + 3)) : SA μ2 a (setsF f h k val) (h + 1) rc sc ∧ Fr a (a + 52) μ μ2 := by
  obtain ⟨w0, w1, w2, w3, w4, w5, w6⟩ := F
  have hq : ∀ j, j ≠ 3 → j ≠ 6 → j ≠ 9 + k → (j < 21 + 4 * h ∨ 21 + 4 * h + 4 ≤ j) → f j = setsF f h k val j := fun j h1 h2 h3 h4 => by
    unfold setsF
    rw [upd_ne (by omega), upd_ne (by omega), upd_ne (by omega), upd_ne (by omega), upd_ne (by omega), upd_ne (by omega), upd_ne (by omega)]
  have z : Fr (a + 1) (a + 8) μ μ2 := (z1.wide (by omega) (by omega)).trans (z2.wide (by omega) (by omega))
  refine ⟨⟨⟨by omega, w0.2⟩, (w1.fr z (by omega)).to ⟨hq _ (by omega) (by omega) (by omega) (by omega), hq _ (by omega) (by omega) (by omega) (by omega), hq _ (by omega) (by omega) (by omega) (by omega)⟩, w2.fr z (by omega), (V.fr z2 (by omega)).to (fun j hj => ?_), ?_, fun i hi => ((w5 i hi).fr z (by omega)).to (fun z => z) (fun _ j h1 h2 => hq j (by omega) (by omega) (by omega) (by omega)), fun n hn => ((w6 n hn).fr z (by omega)).to (fun z => z) (fun _ j h1 h2 => hq j (by omega) (by omega) (by omega) (by omega))⟩, z.wide (by omega) (by omega)⟩
  · by_cases e : j = k
    · subst e
      rw [upd_at rfl]
      unfold setsF
      rw [upd_ne (by omega), upd_at rfl]
    · rw [upd_ne e]
      exact hq _ (by omega) (by omega) (by omega) (by omega)
  · have h3 : f 3 + nI 1 = setsF f h k val 3 := by unfold setsF; rw [upd_at rfl]
    have h4 : f 4 = setsF f h k val 4 := hq _ (by omega) (by omega) (by omega) (by omega)
    have h5 : f 5 = setsF f h k val 5 := hq _ (by omega) (by omega) (by omega) (by omega)
    rw [h3, h4, h5] at B
    refine ⟨_, _, _, _, B, fun j hj => ?_⟩
    by_cases e : j = h
    · subst e
      rw [upd_at rfl, upd_at rfl, upd_at rfl, upd_at rfl]
      unfold setsF
      refine ⟨?_, ?_, ?_, ?_⟩
      · rw [upd_ne (by omega), upd_ne (by omega), upd_ne (by omega), upd_ne (by omega), upd_ne (by omega), upd_ne (by omega), upd_at rfl]
      · rw [upd_ne (by omega), upd_ne (by omega), upd_ne (by omega), upd_ne (by omega), upd_ne (by omega), upd_at rfl]
      · rw [upd_ne (by omega), upd_ne (by omega), upd_ne (by omega), upd_ne (by omega), upd_at rfl]
      · rw [upd_ne (by omega), upd_ne (by omega), upd_ne (by omega), upd_at rfl]
    · rw [upd_ne e, upd_ne e, upd_ne e, upd_ne e, ← hq _ (by omega) (by omega) (by omega) (by omega), ← hq _ (by omega) (by omega) (by omega) (by omega), ← hq _ (by omega) (by omega) (by omega) (by omega), ← hq _ (by omega) (by omega) (by omega) (by omega)]
      exact hg j (by omega)
theorem eX6_setKey {key v : Int32} (F : SA μ a f h rc sc) : EvA G 3 kX6_setKey [.ref a, .int key, .int v] μ sz 0 0 (rI fun r μ' => (maySetF h key v ≠ nI 0 ∧ r = maySetF h key v ∧ μ' = μ) ∨ (maySetF h key v = nI 0 ∧ ∃ k, k < 12 ∧ key = nI k ∧ r = f 3 ∧ SA μ' a (setsF f h k v) (h + 1) rc sc ∧ Fr a (a + 52) μ μ')) := by
  have hO : μ a = _ := F.2.1
  obtain ⟨g0, g1, g2, g3, fd1, fd2⟩ := F.2.2.2.2.1
  have fO := fd1.1
  have vO := F.2.2.2.1.1
  refine EvA.of (L := [some (.ref a), some (.int key), some (.int v)]) (by decide +kernel) (Nat.le_of_ble_eq_true rfl) rfl ?_
  refine Rn.iload_n (pc1 := 1)  dX6_setKey_0 rfl rfl rfl ?_
  refine Rn.cN_i (pc1 := 4) (eX8_isKey) dX6_setKey_1 rfl nX6_84 oX8_isKey rfl rfl (Nat.le_of_ble_eq_true rfl) (by decide) (by decide) (fun v1 μ1 h1 => ?_)
  obtain ⟨rfl, rfl⟩ := h1
  refine Rn.if_ne (pc1 := 7) 9 dX6_setKey_4 rfl (by decide) (fun c4 => ?_) (fun c4 => ?_)
  · refine Rn.iload_n (pc1 := 10)  dX6_setKey_9 rfl rfl rfl ?_
    refine Rn.cN_i (pc1 := 13) (eX8_isNumber) dX6_setKey_10 rfl nX6_80 oX8_isNumber rfl rfl (Nat.le_of_ble_eq_true rfl) (by decide) (by decide) (fun v10 μ10 h10 => ?_)
    obtain ⟨rfl, rfl⟩ := h10
    refine Rn.if_ne (pc1 := 16) 19 dX6_setKey_13 rfl (by decide) (fun c13 => ?_) (fun c13 => ?_)
    · refine Rn.aload_n (pc1 := 20)  dX6_setKey_19 rfl rfl rfl ?_
      refine Rn.getfield (pc1 := 23)  dX6_setKey_20 rfl fX6_37 (by first | assumption | exact mset_same | exact mget_ne (by omega) (by assumption)) rfl ?_
      refine Rn.cV_i (pc1 := 26) (eX0_isFull fd1 F.1.1) dX6_setKey_23 rfl qX6_87 oX0_isFull (by first | assumption | exact mset_same | exact mget_ne (by omega) (by assumption)) rfl rfl rfl rfl (Nat.le_of_ble_eq_true rfl) (by decide) (by decide) (fun v23 μ23 h23 => ?_)
      obtain ⟨rfl, rfl⟩ := h23
      refine Rn.if_eq (pc1 := 29) 32 dX6_setKey_26 rfl (by decide) (fun c26 => ?_) (fun c26 => ?_)
      · have hne : ¬ h = 60 := of_decide_eq_false (bI_0 c26)
        have n : maySetF h key v = nI 0 := by unfold maySetF; rw [bI_n c4, bI_n c13, if_pos rfl, if_pos rfl, if_neg hne]
        have hh := F.1.1
        obtain ⟨k, hk, rfl⟩ := inB_nI (by decide) (bI_n c4)
        refine Rn.aload_n (pc1 := 33)  dX6_setKey_32 rfl rfl rfl ?_
        refine Rn.getfield (pc1 := 36)  dX6_setKey_33 rfl fX6_30 (by first | assumption | exact mset_same | exact mget_ne (by omega) (by assumption)) rfl ?_
        refine Rn.iload_n (pc1 := 37)  dX6_setKey_36 rfl rfl rfl ?_
        refine Rn.iload_n (pc1 := 38)  dX6_setKey_37 rfl rfl rfl ?_
        refine Rn.cV_v (pc1 := 41) (eX7_change F.2.2.2.1 rfl (show k < 12 by omega)) dX6_setKey_38 rfl qX6_91 oX7_change (by first | assumption | exact mset_same | exact mget_ne (by omega) (by assumption)) rfl rfl rfl rfl (Nat.le_of_ble_eq_true rfl) (by decide) (by decide) (fun μ38 h38 => ?_)
        obtain ⟨W1, z1⟩ := h38
        have hO1 := (z1 a (by omega)).trans hO
        have B1 := fd1.fr z1 (by omega)
        have fO1 := B1.1
        refine Rn.aload_n (pc1 := 42)  dX6_setKey_41 rfl rfl rfl ?_
        refine Rn.getfield (pc1 := 45)  dX6_setKey_42 rfl fX6_37 (by first | assumption | exact mset_same | exact mget_ne (by omega) (by assumption)) rfl ?_
        refine Rn.iload_n (pc1 := 46)  dX6_setKey_45 rfl rfl rfl ?_
        refine Rn.iload_n (pc1 := 47)  dX6_setKey_46 rfl rfl rfl ?_
        refine Rn.aload_n (pc1 := 48)  dX6_setKey_47 rfl rfl rfl ?_
        refine Rn.getfield (pc1 := 51)  dX6_setKey_48 rfl fX6_18 (by first | assumption | exact mset_same | exact mget_ne (by omega) (by assumption)) rfl ?_
        refine Rn.cV_i (pc1 := 54) (eX0_append B1 (show h < 60 by omega)) dX6_setKey_51 rfl qX6_95 oX0_append (by first | assumption | exact mset_same | exact mget_ne (by omega) (by assumption)) rfl rfl rfl rfl (Nat.le_of_ble_eq_true rfl) (by decide) (by decide) (fun v51 μ51 h51 => ?_)
        obtain ⟨rfl, B2, z2⟩ := h51
        exact Rn.ireturn dX6_setKey_54 rfl rfl ⟨_, rfl, Or.inr ⟨n, k, by omega, rfl, rfl, SA.set F (by omega) (by omega) W1 z1 B2 z2 fd2⟩⟩
      · have n : maySetF h key v = -4 := by unfold maySetF; rw [bI_n c4, bI_n c13, if_pos rfl, if_pos rfl, if_pos (of_decide_eq_true (bI_n c26))]
        refine Rn.bipush (pc1 := 31) (v := (-4)) dX6_setKey_29 rfl (by decide) ?_
        exact Rn.ireturn dX6_setKey_31 rfl rfl ⟨_, rfl, Or.inl ⟨by rw [n]; decide, n.symm, rfl⟩⟩
    · have n : maySetF h key v = -2 := by unfold maySetF; rw [bI_n c4, bI_0 c13]; rfl
      refine Rn.bipush (pc1 := 18) (v := (-2)) dX6_setKey_16 rfl (by decide) ?_
      exact Rn.ireturn dX6_setKey_18 rfl rfl ⟨_, rfl, Or.inl ⟨by rw [n]; decide, n.symm, rfl⟩⟩
  · have n : maySetF h key v = -1 := by unfold maySetF; rw [bI_0 c4]; rfl
    refine Rn.iconst (pc1 := 8) (v := (-1)) dX6_setKey_7 rfl (by decide) ?_
    exact Rn.ireturn dX6_setKey_8 rfl rfl ⟨_, rfl, Or.inl ⟨by rw [n]; decide, n.symm, rfl⟩⟩
theorem eX6_removeKey {key : Int32} (F : SA μ a f h rc sc) : EvA G 3 kX6_removeKey [.ref a, .int key] μ sz 0 0 (rI fun r μ' => (mayRemoveF f h key ≠ nI 0 ∧ r = mayRemoveF f h key ∧ μ' = μ) ∨ (mayRemoveF f h key = nI 0 ∧ ∃ k, k < 12 ∧ key = nI k ∧ r = f 3 ∧ SA μ' a (setsF f h k (-6)) (h + 1) rc sc ∧ Fr a (a + 52) μ μ')) := by
  have hO : μ a = _ := F.2.1
  obtain ⟨g0, g1, g2, g3, fd1, fd2⟩ := F.2.2.2.2.1
  have fO := fd1.1
  have vO := F.2.2.2.1.1
  refine EvA.of (L := [some (.ref a), some (.int key)]) (by decide +kernel) (Nat.le_of_ble_eq_true rfl) rfl ?_
  refine Rn.iload_n (pc1 := 1)  dX6_removeKey_0 rfl rfl rfl ?_
  refine Rn.cN_i (pc1 := 4) (eX8_isKey) dX6_removeKey_1 rfl nX6_84 oX8_isKey rfl rfl (Nat.le_of_ble_eq_true rfl) (by decide) (by decide) (fun v1 μ1 h1 => ?_)
  obtain ⟨rfl, rfl⟩ := h1
  refine Rn.if_ne (pc1 := 7) 9 dX6_removeKey_4 rfl (by decide) (fun c4 => ?_) (fun c4 => ?_)
  · have n0 := bI_n c4
    obtain ⟨k, hk, rfl⟩ := inB_nI (by decide) n0
    refine Rn.aload_n (pc1 := 10)  dX6_removeKey_9 rfl rfl rfl ?_
    refine Rn.getfield (pc1 := 13)  dX6_removeKey_10 rfl fX6_37 (by first | assumption | exact mset_same | exact mget_ne (by omega) (by assumption)) rfl ?_
    refine Rn.cV_i (pc1 := 16) (eX0_isFull fd1 F.1.1) dX6_removeKey_13 rfl qX6_87 oX0_isFull (by first | assumption | exact mset_same | exact mget_ne (by omega) (by assumption)) rfl rfl rfl rfl (Nat.le_of_ble_eq_true rfl) (by decide) (by decide) (fun v13 μ13 h13 => ?_)
    obtain ⟨rfl, rfl⟩ := h13
    refine Rn.if_eq (pc1 := 19) 22 dX6_removeKey_16 rfl (by decide) (fun c16 => ?_) (fun c16 => ?_)
    · have hne : ¬ h = 60 := of_decide_eq_false (bI_0 c16)
      have hh := F.1.1
      refine Rn.aload_n (pc1 := 23)  dX6_removeKey_22 rfl rfl rfl ?_
      refine Rn.getfield (pc1 := 26)  dX6_removeKey_23 rfl fX6_30 (by first | assumption | exact mset_same | exact mget_ne (by omega) (by assumption)) rfl ?_
      refine Rn.iload_n (pc1 := 27)  dX6_removeKey_26 rfl rfl rfl ?_
      refine Rn.cV_i (pc1 := 30) (eX7_of F.2.2.2.1 rfl (show k < 12 by omega)) dX6_removeKey_27 rfl qX6_99 oX7_of (by first | assumption | exact mset_same | exact mget_ne (by omega) (by assumption)) rfl rfl rfl rfl (Nat.le_of_ble_eq_true rfl) (by decide) (by decide) (fun v27 μ27 h27 => ?_)
      obtain ⟨rfl, rfl⟩ := h27
      refine Rn.bipush (pc1 := 32) (v := (-6)) dX6_removeKey_30 rfl (by decide) ?_
      refine Rn.icmp_ne (pc1 := 35) 38 dX6_removeKey_32 rfl (by decide) (fun c32 => ?_) (fun c32 => ?_)
      · have n : mayRemoveF f h (nI k) = nI 0 := by unfold mayRemoveF; rw [n0, if_pos rfl, if_neg hne, nI_clamp (by omega), if_neg c32]
        refine Rn.aload_n (pc1 := 39)  dX6_removeKey_38 rfl rfl rfl ?_
        refine Rn.getfield (pc1 := 42)  dX6_removeKey_39 rfl fX6_30 (by first | assumption | exact mset_same | exact mget_ne (by omega) (by assumption)) rfl ?_
        refine Rn.iload_n (pc1 := 43)  dX6_removeKey_42 rfl rfl rfl ?_
        refine Rn.bipush (pc1 := 45) (v := (-6)) dX6_removeKey_43 rfl (by decide) ?_
        refine Rn.cV_v (pc1 := 48) (eX7_change F.2.2.2.1 rfl (show k < 12 by omega)) dX6_removeKey_45 rfl qX6_91 oX7_change (by first | assumption | exact mset_same | exact mget_ne (by omega) (by assumption)) rfl rfl rfl rfl (Nat.le_of_ble_eq_true rfl) (by decide) (by decide) (fun μ45 h45 => ?_)
        obtain ⟨W1, z1⟩ := h45
        have hO1 := (z1 a (by omega)).trans hO
        have B1 := fd1.fr z1 (by omega)
        have fO1 := B1.1
        refine Rn.aload_n (pc1 := 49)  dX6_removeKey_48 rfl rfl rfl ?_
        refine Rn.getfield (pc1 := 52)  dX6_removeKey_49 rfl fX6_37 (by first | assumption | exact mset_same | exact mget_ne (by omega) (by assumption)) rfl ?_
        refine Rn.iload_n (pc1 := 53)  dX6_removeKey_52 rfl rfl rfl ?_
        refine Rn.bipush (pc1 := 55) (v := (-6)) dX6_removeKey_53 rfl (by decide) ?_
        refine Rn.aload_n (pc1 := 56)  dX6_removeKey_55 rfl rfl rfl ?_
        refine Rn.getfield (pc1 := 59)  dX6_removeKey_56 rfl fX6_18 (by first | assumption | exact mset_same | exact mget_ne (by omega) (by assumption)) rfl ?_
        refine Rn.cV_i (pc1 := 62) (eX0_append B1 (show h < 60 by omega)) dX6_removeKey_59 rfl qX6_95 oX0_append (by first | assumption | exact mset_same | exact mget_ne (by omega) (by assumption)) rfl rfl rfl rfl (Nat.le_of_ble_eq_true rfl) (by decide) (by decide) (fun v59 μ59 h59 => ?_)
        obtain ⟨rfl, B2, z2⟩ := h59
        exact Rn.ireturn dX6_removeKey_62 rfl rfl ⟨_, rfl, Or.inr ⟨n, k, by omega, rfl, rfl, SA.set F (by omega) (by omega) W1 z1 B2 z2 fd2⟩⟩
      · have n : mayRemoveF f h (nI k) = -5 := by unfold mayRemoveF; rw [n0, if_pos rfl, if_neg hne, nI_clamp (by omega), if_pos c32]
        refine Rn.bipush (pc1 := 37) (v := (-5)) dX6_removeKey_35 rfl (by decide) ?_
        exact Rn.ireturn dX6_removeKey_37 rfl rfl ⟨_, rfl, Or.inl ⟨by rw [n]; decide, n.symm, rfl⟩⟩
    · have n : mayRemoveF f h (nI k) = -4 := by unfold mayRemoveF; rw [n0, if_pos rfl, if_pos (of_decide_eq_true (bI_n c16))]
      refine Rn.bipush (pc1 := 21) (v := (-4)) dX6_removeKey_19 rfl (by decide) ?_
      exact Rn.ireturn dX6_removeKey_21 rfl rfl ⟨_, rfl, Or.inl ⟨by rw [n]; decide, n.symm, rfl⟩⟩
  · have n : mayRemoveF f h key = -1 := by unfold mayRemoveF; rw [bI_0 c4]; rfl
    refine Rn.iconst (pc1 := 8) (v := (-1)) dX6_removeKey_7 rfl (by decide) ?_
    exact Rn.ireturn dX6_removeKey_8 rfl rfl ⟨_, rfl, Or.inl ⟨by rw [n]; decide, n.symm, rfl⟩⟩
theorem eX6_letPass {m : Int32} (F : SA μ a f h rc sc) : EvA G 1 kX6_letPass [.ref a, .int m] μ sz 0 0 (rI fun r μ' => (mayPassF f m ≠ nI 0 ∧ r = mayPassF f m ∧ μ' = μ) ∨ (mayPassF f m = nI 0 ∧ r = f 2 + m ∧ SA μ' a (upd f 2 (f 2 + m)) h rc sc ∧ Fr a (a + 52) μ μ')) := by
  have hO : μ a = _ := F.2.1
  refine EvA.of (L := [some (.ref a), some (.int m)]) (by decide +kernel) (Nat.le_of_ble_eq_true rfl) rfl ?_
  refine Rn.iload_n (pc1 := 1)  dX6_letPass_0 rfl rfl rfl ?_
  refine Rn.iconst (pc1 := 2) (v := nI 1) dX6_letPass_1 rfl (by decide) ?_
  refine Rn.icmp_lt (pc1 := 5) 12 dX6_letPass_2 rfl (by decide) (fun c2 => ?_) (fun c2 => ?_)
  · have n : mayPassF f m = -2 := by unfold mayPassF; rw [inB_lo c2]; rfl
    refine Rn.bipush (pc1 := 14) (v := (-2)) dX6_letPass_12 rfl (by decide) ?_
    exact Rn.ireturn dX6_letPass_14 rfl rfl ⟨_, rfl, Or.inl ⟨by rw [n]; decide, n.symm, rfl⟩⟩
  · refine Rn.iload_n (pc1 := 6)  dX6_letPass_5 rfl rfl rfl ?_
    refine Rn.cN_i (pc1 := 9) (eX8_isNumber) dX6_letPass_6 rfl nX6_80 oX8_isNumber rfl rfl (Nat.le_of_ble_eq_true rfl) (by decide) (by decide) (fun v6 μ6 h6 => ?_)
    obtain ⟨rfl, rfl⟩ := h6
    refine Rn.if_ne (pc1 := 12) 15 dX6_letPass_9 rfl (by decide) (fun c9 => ?_) (fun c9 => ?_)
    · have n0 : inB m (nI 1) (nI 999) = true := by
        have := bI_n c9
        unfold inB at this ⊢
        rw [Bool.and_eq_true] at this
        rw [decide_eq_true (i32_nlt.mp c2), this.2]; rfl
      refine Rn.aload_n (pc1 := 16)  dX6_letPass_15 rfl rfl rfl ?_
      refine Rn.getfield (pc1 := 19)  dX6_letPass_16 rfl fX6_18 (by first | assumption | exact mset_same | exact mget_ne (by omega) (by assumption)) rfl ?_
      refine Rn.iload_n (pc1 := 20)  dX6_letPass_19 rfl rfl rfl ?_
      refine Rn.iadd (pc1 := 21)  dX6_letPass_20 rfl rfl ?_
      refine Rn.ldc (pc1 := 23) dX6_letPass_21 rfl qX6_103 ?_
      refine Rn.icmp_le (pc1 := 26) 29 dX6_letPass_23 rfl (by decide) (fun c23 => ?_) (fun c23 => ?_)
      · have n : mayPassF f m = nI 0 := by unfold mayPassF; rw [if_pos n0, if_pos c23]
        refine Rn.aload_n (pc1 := 30)  dX6_letPass_29 rfl rfl rfl ?_
        refine Rn.dup (pc1 := 31)  dX6_letPass_30 rfl rfl ?_
        refine Rn.getfield (pc1 := 34)  dX6_letPass_31 rfl fX6_18 (by first | assumption | exact mset_same | exact mget_ne (by omega) (by assumption)) rfl ?_
        refine Rn.iload_n (pc1 := 35)  dX6_letPass_34 rfl rfl rfl ?_
        refine Rn.iadd (pc1 := 36)  dX6_letPass_35 rfl rfl ?_
        refine Rn.putfield (pc1 := 39)  dX6_letPass_36 rfl pX6_18 (fun h => Bool.noConfusion h) (by first | assumption | exact mset_same | exact mget_ne (by omega) (by assumption)) (Nat.le_of_ble_eq_true rfl) rfl rfl rfl ?_
        refine Rn.aload_n (pc1 := 40)  dX6_letPass_39 rfl rfl rfl ?_
        refine Rn.getfield (pc1 := 43)  dX6_letPass_40 rfl fX6_18 (by first | assumption | exact mset_same | exact mget_ne (by omega) (by assumption)) rfl ?_
        exact Rn.ireturn dX6_letPass_43 rfl rfl ⟨_, rfl, Or.inr ⟨n, rfl, F.setO _ rc sc F.1.2.1 F.1.2.2 (fun j hj => (upd_ne (by omega)).symm) rfl, Fr.set (by omega) (by omega)⟩⟩
      · have n : mayPassF f m = -4 := by unfold mayPassF; rw [if_pos n0, if_neg c23]
        refine Rn.bipush (pc1 := 28) (v := (-4)) dX6_letPass_26 rfl (by decide) ?_
        exact Rn.ireturn dX6_letPass_28 rfl rfl ⟨_, rfl, Or.inl ⟨by rw [n]; decide, n.symm, rfl⟩⟩
    · have n : mayPassF f m = -2 := by
        unfold mayPassF
        rw [show inB m (nI 1) (nI 999) = false from ?_]
        · rfl
        · have := bI_0 c9
          unfold inB at this ⊢
          rw [decide_eq_true (show nI 0 ≤ m from ?_)] at this
          · rw [Bool.true_and] at this; rw [this, Bool.and_false]
          · have := i32_nlt.mp c2
            rw [Int32.le_iff_toInt_le] at this ⊢
            rw [nI_toInt (by decide)] at this ⊢
            omega
      refine Rn.bipush (pc1 := 14) (v := (-2)) dX6_letPass_12 rfl (by decide) ?_
      exact Rn.ireturn dX6_letPass_14 rfl rfl ⟨_, rfl, Or.inl ⟨by rw [n]; decide, n.symm, rfl⟩⟩
theorem FdA.pF {B : Nat} {g0 g1 g2 g3 : Nat → Int32} {s mi : Int32} (hg : ∀ j, j < h → g0 j = f (21 + 4 * j) ∧ g1 j = f (21 + 4 * j + 1) ∧ g2 j = f (21 + 4 * j + 2) ∧ g3 j = f (21 + 4 * j + 3)) : ∀ i, i < h → goB h (f 3) s (f 1) mi g0 g1 g2 g3 i = pF f h s mi i := fun i hi => goB_congr (fun j _ h2 => hg j h2) hi
theorem eX6_thinFeed (F : SA μ a f h rc sc) (hs : nI 1 ≤ f 0) : EvA G 4 kX6_thinFeed [.ref a] μ sz 0 0 (rI fun r μ' => r = nI (h - leftF f h (f 0) (f 2)) ∧ SA μ' a (thinF f h (f 0) (f 2)) (leftF f h (f 0) (f 2)) rc sc ∧ Fr a (a + 52) μ μ') := by
  have hO : μ a = _ := F.2.1
  obtain ⟨g0, g1, g2, g3, fd1, fd2⟩ := F.2.2.2.2.1
  have fO := fd1.1
  have hh := F.1.1
  have hp := FdA.pF (B := 0) (f := f) (s := f 0) (mi := f 2) fd2
  refine EvA.of (L := [some (.ref a)]) (by decide +kernel) (Nat.le_of_ble_eq_true rfl) rfl ?_
  refine Rn.aload_n (pc1 := 1)  dX6_thinFeed_0 rfl rfl rfl ?_
  refine Rn.getfield (pc1 := 4)  dX6_thinFeed_1 rfl fX6_37 (by first | assumption | exact mset_same | exact mget_ne (by omega) (by assumption)) rfl ?_
  refine Rn.aload_n (pc1 := 5)  dX6_thinFeed_4 rfl rfl rfl ?_
  refine Rn.getfield (pc1 := 8)  dX6_thinFeed_5 rfl fX6_37 (by first | assumption | exact mset_same | exact mget_ne (by omega) (by assumption)) rfl ?_
  refine Rn.aload_n (pc1 := 9)  dX6_thinFeed_8 rfl rfl rfl ?_
  refine Rn.getfield (pc1 := 12)  dX6_thinFeed_9 rfl fX6_9 (by first | assumption | exact mset_same | exact mget_ne (by omega) (by assumption)) rfl ?_
  refine Rn.aload_n (pc1 := 13)  dX6_thinFeed_12 rfl rfl rfl ?_
  refine Rn.getfield (pc1 := 16)  dX6_thinFeed_13 rfl fX6_15 (by first | assumption | exact mset_same | exact mget_ne (by omega) (by assumption)) rfl ?_
  refine Rn.aload_n (pc1 := 17)  dX6_thinFeed_16 rfl rfl rfl ?_
  refine Rn.getfield (pc1 := 20)  dX6_thinFeed_17 rfl fX6_18 (by first | assumption | exact mset_same | exact mget_ne (by omega) (by assumption)) rfl ?_
  refine Rn.cV_i (pc1 := 23) (eX0_floorAfterThinning fd1 hh hs) dX6_thinFeed_20 rfl qX6_104 oX0_floorAfterThinning (by first | assumption | exact mset_same | exact mget_ne (by omega) (by assumption)) rfl rfl rfl rfl (Nat.le_of_ble_eq_true rfl) (by decide) (by decide) (fun v20 μ20 h20 => ?_)
  obtain ⟨rfl, rfl⟩ := h20
  refine Rn.putfield (pc1 := 26)  dX6_thinFeed_23 rfl pX6_107 (fun h => Bool.noConfusion h) (by first | assumption | exact mset_same | exact mget_ne (by omega) (by assumption)) (Nat.le_of_ble_eq_true rfl) rfl rfl rfl ?_
  have e1 : floorN (goB h (f 3) (f 0) (f 1) (f 2) g0 g1 g2 g3) (fun i => lastB g1 i h) g0 (f 4) h = floorF f h (f 0) (f 2) := floorN_congr (fun i hi => ⟨hp i hi, lastB_congr (fun j _ h2 => (fd2 j h2).2.1) hi, (fd2 i hi).1⟩)
  rw [e1]
  have B1 := fd1.setO h (f 3) (floorF f h (f 0) (f 2)) (f 5)
  have fO1 := B1.1
  have z1 : Fr (a + 3) (a + 8) μ20 _ := Fr.set (q := a + 3) (c := obj 0 [.ref (a + 3 + 1), .ref (a + 3 + 2), .ref (a + 3 + 3), .ref (a + 3 + 4), .int (nI h), .int (f 3), .int (floorF f h (f 0) (f 2)), .int (f 5)]) (by omega) (by omega)
  have hO1 := (z1 a (by omega)).trans hO
  refine Rn.aload_n (pc1 := 27)  dX6_thinFeed_26 rfl rfl rfl ?_
  refine Rn.getfield (pc1 := 30)  dX6_thinFeed_27 rfl fX6_37 (by first | assumption | exact mset_same | exact mget_ne (by omega) (by assumption)) rfl ?_
  refine Rn.aload_n (pc1 := 31)  dX6_thinFeed_30 rfl rfl rfl ?_
  refine Rn.getfield (pc1 := 34)  dX6_thinFeed_31 rfl fX6_9 (by first | assumption | exact mset_same | exact mget_ne (by omega) (by assumption)) rfl ?_
  refine Rn.aload_n (pc1 := 35)  dX6_thinFeed_34 rfl rfl rfl ?_
  refine Rn.getfield (pc1 := 38)  dX6_thinFeed_35 rfl fX6_15 (by first | assumption | exact mset_same | exact mget_ne (by omega) (by assumption)) rfl ?_
  refine Rn.aload_n (pc1 := 39)  dX6_thinFeed_38 rfl rfl rfl ?_
  refine Rn.getfield (pc1 := 42)  dX6_thinFeed_39 rfl fX6_18 (by first | assumption | exact mset_same | exact mget_ne (by omega) (by assumption)) rfl ?_
  refine Rn.cV_i (pc1 := 45) (eX0_thinOut B1 hh hs rfl) dX6_thinFeed_42 rfl qX6_110 oX0_thinOut (by first | assumption | exact mset_same | exact mget_ne (by omega) (by assumption)) rfl rfl rfl rfl (Nat.le_of_ble_eq_true rfl) (by decide) (by decide) (fun v42 μ42 h42 => ?_)
  obtain ⟨rfl, ⟨k0, k1, k2, k3, B2, hk⟩, z2⟩ := h42
  have e2 : leftN (goB h (f 3) (f 0) (f 1) (f 2) g0 g1 g2 g3) h = leftF f h (f 0) (f 2) := leftN_congr hp
  have e3 : kept (goB h (f 3) (f 0) (f 1) (f 2) g0 g1 g2 g3) h = kept (pF f h (f 0) (f 2)) h := kept_congr hp
  rw [e2] at B2 ⊢
  rw [e3] at hk
  have z := z1.trans z2
  obtain ⟨w0, w1, w2, w3, w4, w5, w6⟩ := id F
  have hle : leftF f h (f 0) (f 2) ≤ h := leftN_le _ _
  have hq : ∀ j, j ≠ 4 → j ≠ 5 → j ≠ 6 → (j < 21 ∨ 261 ≤ j) → f j = thinF f h (f 0) (f 2) j := fun j h1 h2 h3 h4 => by
    unfold thinF
    rw [if_neg h1, if_neg h2, if_neg h3, if_neg (by omega)]
  refine Rn.ireturn dX6_thinFeed_45 rfl rfl ⟨_, rfl, rfl, ⟨⟨by omega, w0.2⟩, (w1.fr z (by omega)).to ⟨hq _ (by omega) (by omega) (by omega) (by omega), hq _ (by omega) (by omega) (by omega) (by omega), hq _ (by omega) (by omega) (by omega) (by omega)⟩, w2.fr z (by omega), (w3.fr z (by omega)).to (fun j hj => hq _ (by omega) (by omega) (by omega) (by omega)), ?_, fun i hi => ((w5 i hi).fr z (by omega)).to (fun z => z) (fun hl j h1 h2 => hq j (by omega) (by omega) (by omega) (by omega)), fun n hn => ((w6 n hn).fr z (by omega)).to (fun z => z) (fun hl j h1 h2 => hq j (by omega) (by omega) (by omega) (by omega))⟩, z.wide (by omega) (by omega)⟩
  refine ⟨k0, k1, k2, k3, ?_, fun j hj => ?_⟩
  · rw [← hq 3 (by omega) (by omega) (by omega) (by omega)]
    exact B2
  · have hl := kept_len (pF f h (f 0) (f 2)) h
    have hj2 : j < (kept (pF f h (f 0) (f 2)) h).length := by rw [hl]; exact hj
    have hjq := List.getElem?_eq_getElem hj2
    have e := hk j _ hjq
    have hlt := kept_lt hjq
    obtain ⟨m0, m1, m2, m3⟩ := fd2 _ hlt
    have key : ∀ w, w < 4 → thinF f h (f 0) (f 2) (21 + 4 * j + w) = f (21 + 4 * (kept (pF f h (f 0) (f 2)) h)[j] + w) := fun w hw => by
      unfold thinF
      rw [if_neg (by omega), if_neg (by omega), if_neg (by omega), if_pos (by omega), show (21 + 4 * j + w - 21) / 4 = j by omega, show (21 + 4 * j + w - 21) % 4 = w by omega, List.getD_eq_getElem?_getD, hjq]
      rfl
    have k00 := key 0 (by omega)
    rw [Nat.add_zero, Nat.add_zero] at k00
    rw [k00, key 1 (by omega), key 2 (by omega), key 3 (by omega)]
    exact ⟨e.1.trans m0, e.2.1.trans m1, e.2.2.1.trans m2, e.2.2.2.trans m3⟩
theorem SA.rd (F : SA μ a f h rc sc) {i : Nat} (hi : i < rc) : ∃ vw cv, RA μ (a + 10 + 5 * i) (f (261 + 27 * i)) (f (261 + 27 * i + 1)) (f (261 + 27 * i + 2)) vw cv ∧ (∀ k, k < 12 → vw k = f (261 + 27 * i + 3 + k)) ∧ ∀ k, k < 12 → cv k = f (261 + 27 * i + 15 + k) := by
  obtain ⟨w0, w1, w2, w3, w4, w5, w6⟩ := F
  obtain ⟨pl, cp, rs, vw, cv, q1, q2⟩ := w5 i (by omega)
  obtain ⟨rfl, rfl, rfl, e4, e5⟩ := q2 hi
  exact ⟨vw, cv, q1, e4, e5⟩
theorem SA.sn (F : SA μ a f h rc sc) {n : Nat} (hn : n < sc) : ∃ tb, SN μ (a + 40 + 3 * n) (f (423 + 13 * n)) tb ∧ ∀ k, k < 12 → tb k = f (423 + 13 * n + 1 + k) := by
  obtain ⟨w0, w1, w2, w3, w4, w5, w6⟩ := F
  obtain ⟨nu, tb, q1, q2⟩ := w6 n (by omega)
  obtain ⟨rfl, e5⟩ := q2 hn
  exact ⟨tb, q1, e5⟩
theorem eX6_letConfirm {r : Int32} (F : SA μ a f h rc sc) : EvA G 3 kX6_letConfirm [.ref a, .int r] μ sz 0 0 (rI fun v μ' => (isRdB rc r = false ∧ v = -1 ∧ μ' = μ) ∨ (isRdB rc r = true ∧ ∃ i, i < rc ∧ r = nI i ∧ v = f (261 + 27 * i) ∧ SA μ' a (confF f i) h rc sc ∧ Fr a (a + 52) μ μ')) := by
  have hO : μ a = _ := F.2.1
  have hrc := F.1.2.1
  refine EvA.of (L := [some (.ref a), some (.int r), none]) (by decide +kernel) (Nat.le_of_ble_eq_true rfl) rfl ?_
  cases hr : isRdB rc r
  · refine Rn.aload_n (pc1 := 1)  dX6_letConfirm_0 rfl rfl rfl ?_
    refine Rn.iload_n (pc1 := 2)  dX6_letConfirm_1 rfl rfl rfl ?_
    refine Rn.cV_r (pc1 := 5) (eX6_readerAt_n F (isRdB_f (by omega) hr)) dX6_letConfirm_2 rfl qX6_62 oX6_readerAt (by first | assumption | exact mset_same | exact mget_ne (by omega) (by assumption)) rfl rfl rfl rfl (Nat.le_of_ble_eq_true rfl) (by decide) (by decide) (fun v2 μ2 h2 => ?_)
    obtain ⟨rfl, rfl⟩ := h2
    show Rn G 3 kX6_letConfirm 5 _ [.null] _ _ _ _ _
    refine Rn.astore_nN (pc1 := 6)  dX6_letConfirm_5 rfl rfl (by decide) rfl rfl ?_
    refine Rn.aload_nN (pc1 := 7)  dX6_letConfirm_6 rfl rfl rfl ?_
    refine Rn.ifnonnullN (pc1 := 10) dX6_letConfirm_7 rfl ?_
    refine Rn.iconst (pc1 := 11) (v := (-1)) dX6_letConfirm_10 rfl (by decide) ?_
    exact Rn.ireturn dX6_letConfirm_11 rfl rfl ⟨_, rfl, Or.inl ⟨rfl, rfl, rfl⟩⟩
  · obtain ⟨i, hi, rfl⟩ := isRdB_t (by omega) hr
    obtain ⟨vw, cv, R, rv, rw⟩ := F.rd hi
    have rO := R.1
    refine Rn.aload_n (pc1 := 1)  dX6_letConfirm_0 rfl rfl rfl ?_
    refine Rn.iload_n (pc1 := 2)  dX6_letConfirm_1 rfl rfl rfl ?_
    refine Rn.cV_r (pc1 := 5) (eX6_readerAt_y F rfl hi) dX6_letConfirm_2 rfl qX6_62 oX6_readerAt (by first | assumption | exact mset_same | exact mget_ne (by omega) (by assumption)) rfl rfl rfl rfl (Nat.le_of_ble_eq_true rfl) (by decide) (by decide) (fun v2 μ2 h2 => ?_)
    obtain ⟨rfl, rfl⟩ := h2
    refine Rn.astore_n (pc1 := 6) (x := a + 10 + 5 * i)  dX6_letConfirm_5 rfl rfl (by decide) rfl rfl ?_
    refine Rn.aload_n (pc1 := 7)  dX6_letConfirm_6 rfl rfl rfl ?_
    refine Rn.ifnonnull 12 dX6_letConfirm_7 (by decide) ?_
    refine Rn.aload_n (pc1 := 13)  dX6_letConfirm_12 rfl rfl rfl ?_
    refine Rn.cV_v (pc1 := 16) (eX3_keepPlace R) dX6_letConfirm_13 rfl qX6_137 oX3_keepPlace (by first | assumption | exact mset_same | exact mget_ne (by omega) (by assumption)) rfl rfl rfl rfl (Nat.le_of_ble_eq_true rfl) (by decide) (by decide) (fun μ13 h13 => ?_)
    obtain ⟨R1, z1⟩ := h13
    have rO1 := R1.1
    refine Rn.aload_n (pc1 := 17)  dX6_letConfirm_16 rfl rfl rfl ?_
    refine Rn.getfield (pc1 := 20)  dX6_letConfirm_17 rfl fX6_126 (by first | assumption | exact mset_same | exact mget_ne (by omega) (by assumption)) rfl ?_
    refine Rn.ireturn dX6_letConfirm_20 rfl rfl ⟨_, rfl, Or.inr ⟨rfl, i, hi, rfl, rfl, F.setR hi z1 R1 _ (fun j hj => ?_) ⟨?_, ?_, ?_, fun k hk => ?_, fun k hk => ?_⟩⟩⟩
    · unfold confF; rw [upd_ne (by omega), blk_out (by omega)]
    · unfold confF; rw [upd_ne (by omega), blk_out (by omega)]
    · unfold confF; rw [upd_at rfl]
    · unfold confF; rw [upd_ne (by omega), blk_out (by omega)]
    · unfold confF; rw [upd_ne (by omega), blk_out (by omega)]; exact rv k hk
    · unfold confF; rw [upd_ne (by omega), blk_in rfl hk]; exact rv k hk
theorem eX6_letGoBack {r : Int32} (F : SA μ a f h rc sc) : EvA G 3 kX6_letGoBack [.ref a, .int r] μ sz 0 0 (rI fun v μ' => (isRdB rc r = false ∧ v = -1 ∧ μ' = μ) ∨ (isRdB rc r = true ∧ ∃ i, i < rc ∧ r = nI i ∧ v = f (261 + 27 * i + 1) ∧ SA μ' a (backF f i) h rc sc ∧ Fr a (a + 52) μ μ')) := by
  have hO : μ a = _ := F.2.1
  have hrc := F.1.2.1
  refine EvA.of (L := [some (.ref a), some (.int r), none]) (by decide +kernel) (Nat.le_of_ble_eq_true rfl) rfl ?_
  cases hr : isRdB rc r
  · refine Rn.aload_n (pc1 := 1)  dX6_letGoBack_0 rfl rfl rfl ?_
    refine Rn.iload_n (pc1 := 2)  dX6_letGoBack_1 rfl rfl rfl ?_
    refine Rn.cV_r (pc1 := 5) (eX6_readerAt_n F (isRdB_f (by omega) hr)) dX6_letGoBack_2 rfl qX6_62 oX6_readerAt (by first | assumption | exact mset_same | exact mget_ne (by omega) (by assumption)) rfl rfl rfl rfl (Nat.le_of_ble_eq_true rfl) (by decide) (by decide) (fun v2 μ2 h2 => ?_)
    obtain ⟨rfl, rfl⟩ := h2
    show Rn G 3 kX6_letGoBack 5 _ [.null] _ _ _ _ _
    refine Rn.astore_nN (pc1 := 6)  dX6_letGoBack_5 rfl rfl (by decide) rfl rfl ?_
    refine Rn.aload_nN (pc1 := 7)  dX6_letGoBack_6 rfl rfl rfl ?_
    refine Rn.ifnonnullN (pc1 := 10) dX6_letGoBack_7 rfl ?_
    refine Rn.iconst (pc1 := 11) (v := (-1)) dX6_letGoBack_10 rfl (by decide) ?_
    exact Rn.ireturn dX6_letGoBack_11 rfl rfl ⟨_, rfl, Or.inl ⟨rfl, rfl, rfl⟩⟩
  · obtain ⟨i, hi, rfl⟩ := isRdB_t (by omega) hr
    obtain ⟨vw, cv, R, rv, rw⟩ := F.rd hi
    have rO := R.1
    refine Rn.aload_n (pc1 := 1)  dX6_letGoBack_0 rfl rfl rfl ?_
    refine Rn.iload_n (pc1 := 2)  dX6_letGoBack_1 rfl rfl rfl ?_
    refine Rn.cV_r (pc1 := 5) (eX6_readerAt_y F rfl hi) dX6_letGoBack_2 rfl qX6_62 oX6_readerAt (by first | assumption | exact mset_same | exact mget_ne (by omega) (by assumption)) rfl rfl rfl rfl (Nat.le_of_ble_eq_true rfl) (by decide) (by decide) (fun v2 μ2 h2 => ?_)
    obtain ⟨rfl, rfl⟩ := h2
    refine Rn.astore_n (pc1 := 6) (x := a + 10 + 5 * i)  dX6_letGoBack_5 rfl rfl (by decide) rfl rfl ?_
    refine Rn.aload_n (pc1 := 7)  dX6_letGoBack_6 rfl rfl rfl ?_
    refine Rn.ifnonnull 12 dX6_letGoBack_7 (by decide) ?_
    refine Rn.aload_n (pc1 := 13)  dX6_letGoBack_12 rfl rfl rfl ?_
    refine Rn.cV_v (pc1 := 16) (eX3_returnToConfirmed R) dX6_letGoBack_13 rfl qX6_140 oX3_returnToConfirmed (by first | assumption | exact mset_same | exact mget_ne (by omega) (by assumption)) rfl rfl rfl rfl (Nat.le_of_ble_eq_true rfl) (by decide) (by decide) (fun μ13 h13 => ?_)
    obtain ⟨R1, z1⟩ := h13
    have rO1 := R1.1
    refine Rn.aload_n (pc1 := 17)  dX6_letGoBack_16 rfl rfl rfl ?_
    refine Rn.getfield (pc1 := 20)  dX6_letGoBack_17 rfl fX6_126 (by first | assumption | exact mset_same | exact mget_ne (by omega) (by assumption)) rfl ?_
    refine Rn.ireturn dX6_letGoBack_20 rfl rfl ⟨_, rfl, Or.inr ⟨rfl, i, hi, rfl, rfl, F.setR hi z1 R1 _ (fun j hj => ?_) ⟨?_, ?_, ?_, fun k hk => ?_, fun k hk => ?_⟩⟩⟩
    · unfold backF; rw [upd_ne (by omega), blk_out (by omega)]
    · unfold backF; rw [upd_at rfl]
    · unfold backF; rw [upd_ne (by omega), blk_out (by omega)]
    · unfold backF; rw [upd_ne (by omega), blk_out (by omega)]
    · unfold backF; rw [upd_ne (by omega), blk_in rfl hk]; exact rw k hk
    · unfold backF; rw [upd_ne (by omega), blk_out (by omega)]; exact rw k hk
end OPS
