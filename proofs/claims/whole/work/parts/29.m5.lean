/-! ===== the reference: the thinning ===== -/
def goesF (f : Nat → Int32) (h e : Nat) : Nat → Int32 := blk (upd (upd f 6 (nI (h - 1))) 5 (f 5 + nI 1)) (21 + 4 * e) (4 * (h - 1 - e)) (fun q => upd (upd f 6 (nI (h - 1))) 5 (f 5 + nI 1) (21 + 4 * e + 4 + q))
def TH (f g : Nat → Int32) (h : Nat) (l : List Nat) : Prop := l.length ≤ h ∧ (∀ j q, l[j]? = some q → ∀ w, w < 4 → g (21 + 4 * j + w) = f (21 + 4 * q + w)) ∧ g 6 = nI l.length ∧ g 5 = f 5 + nI (h - l.length) ∧ ∀ j, (j < 4 ∨ 7 ≤ j ∧ j < 21 ∨ 261 ≤ j) → g j = f j
theorem TH.goes {f g : Nat → Int32} {h e : Nat} {l : List Nat} (T : TH f g h l) (hh : h ≤ 60) (he : e < l.length) : TH f (goesF g l.length e) h (l.eraseIdx e) := by
  obtain ⟨t1, t2, t3, t4, t5⟩ := T
  have hl : (l.eraseIdx e).length = l.length - 1 := by rw [List.length_eraseIdx, if_pos he]
  refine ⟨by omega, fun j q hq w hw => ?_, ?_, ?_, fun j hj => ?_⟩
  · rw [List.getElem?_eraseIdx] at hq
    by_cases c : j < e
    · rw [if_pos c] at hq
      unfold goesF
      rw [blk_out (by omega), upd_ne (by omega), upd_ne (by omega)]
      exact t2 j q hq w hw
    · rw [if_neg c] at hq
      have l2 := (List.getElem?_eq_some_iff.mp hq).1
      unfold goesF
      rw [blk_in (q := 4 * (j - e) + w) (by omega) (by omega), upd_ne (by omega), upd_ne (by omega), show 21 + 4 * e + 4 + (4 * (j - e) + w) = 21 + 4 * (j + 1) + w by omega]
      exact t2 (j + 1) q hq w hw
  · unfold goesF; rw [blk_out (by omega), upd_ne (by omega), upd_at rfl, hl]
  · unfold goesF; rw [blk_out (by omega), upd_at rfl, t4, hl, Int32.add_assoc, nI_add, show h - l.length + 1 = h - (l.length - 1) by omega]
  · unfold goesF; rw [blk_out (by omega), upd_ne (by omega), upd_ne (by omega)]; exact t5 j hj
theorem TH.set4 {f g : Nat → Int32} {h : Nat} {l : List Nat} {x : Int32} (T : TH f g h l) : TH f (upd g 4 x) h l := by
  obtain ⟨t1, t2, t3, t4, t5⟩ := T
  exact ⟨t1, fun j q hq w hw => by rw [upd_ne (by omega)]; exact t2 j q hq w hw, by rw [upd_ne (by omega)]; exact t3, by rw [upd_ne (by omega)]; exact t4, fun j hj => by rw [upd_ne (by omega)]; exact t5 j hj⟩
theorem goesF_4 {g : Nat → Int32} {n e : Nat} : goesF g n e 4 = g 4 := by unfold goesF; rw [blk_out (by omega), upd_ne (by omega), upd_ne (by omega)]
def stL (L : List Nat) (K : Nat → Bool) (e : Nat) : List Nat := L.take e ++ (L.drop e).filter K
theorem stL_0 {L : List Nat} {K : Nat → Bool} : stL L K 0 = L.filter K := rfl
theorem stL_all {L : List Nat} {K : Nat → Bool} : stL L K L.length = L := by unfold stL; rw [List.take_length, List.drop_length]; exact List.append_nil L
theorem stL_len {L : List Nat} {K : Nat → Bool} {e : Nat} : (stL L K e).length ≤ L.length := by
  unfold stL
  rw [List.length_append, List.length_take]
  have := List.length_filter_le K (L.drop e)
  rw [List.length_drop] at this
  omega
theorem stL_lo {L : List Nat} {K : Nat → Bool} {e : Nat} (h : e ≤ L.length) : e ≤ (stL L K e).length := by
  unfold stL
  rw [List.length_append, List.length_take]
  omega
theorem stL_get {L : List Nat} {K : Nat → Bool} {e : Nat} (h : e < L.length) : (stL L K (e + 1))[e]? = L[e]? := by
  unfold stL
  rw [List.getElem?_append_left (by rw [List.length_take]; omega), List.getElem?_take, if_pos (by omega)]
theorem stL_get' {L : List Nat} {K : Nat → Bool} {e t : Nat} (ht : t < e) (h : e ≤ L.length) : (stL L K e)[t]? = L[t]? := by
  unfold stL
  rw [List.getElem?_append_left (by rw [List.length_take]; omega), List.getElem?_take, if_pos ht]
theorem stL_mem {h e r : Nat} {K : Nat → Bool} (h1 : e ≤ r) (h2 : r < h) (hk : K r = true) : r ∈ stL (List.range h) K e := by
  unfold stL
  refine List.mem_append.mpr (Or.inr (List.mem_filter.mpr ⟨List.mem_iff_getElem?.mpr ⟨r - e, ?_⟩, hk⟩))
  rw [List.getElem?_drop, show e + (r - e) = r by omega]
  exact List.getElem?_range h2
theorem stL_hi {h e t r : Nat} {K : Nat → Bool} (he : e ≤ h) (h1 : e ≤ t) (hr : (stL (List.range h) K e)[t]? = some r) : e ≤ r ∧ r < h := by
  unfold stL at hr
  rw [List.getElem?_append_right (by rw [List.length_take, List.length_range]; omega)] at hr
  have h2 := (List.mem_filter.mp (List.mem_iff_getElem?.mpr ⟨_, hr⟩)).1
  obtain ⟨i, hi⟩ := List.mem_iff_getElem?.mp h2
  rw [List.getElem?_drop] at hi
  have h3 := (List.getElem?_eq_some_iff.mp hi).1
  rw [List.length_range] at h3
  rw [List.getElem?_range h3] at hi
  cases hi
  omega
theorem last_ex {g : Nat → Int32} {h : Nat} : ∀ (n j : Nat), j + n = h → j < h → ∃ r, j ≤ r ∧ r < h ∧ g r = g j ∧ lastB g r h = true := by
  intro n
  induction n using Nat.strongRecOn with
  | _ n ih =>
    intro j hj hjh
    by_cases y : lastB g j h = true
    · exact ⟨j, Nat.le_refl _, hjh, rfl, y⟩
    · have y2 : ∃ r, j < r ∧ r < h ∧ g r = g j := Classical.byContradiction fun y3 => y (lastB_iff.mpr fun r r1 r2 r3 => y3 ⟨r, r1, r2, r3⟩)
      obtain ⟨r, r1, r2, r3⟩ := y2
      obtain ⟨t, t1, t2, t3, t4⟩ := ih (h - r) (by omega) r (by omega) r2
      exact ⟨t, by omega, t2, t3.trans r3, t4⟩
theorem stL_keep {L : List Nat} {K : Nat → Bool} {e x : Nat} (h : L[e]? = some x) (hk : K x = true) : stL L K e = stL L K (e + 1) := by
  obtain ⟨h1, h2⟩ := List.getElem?_eq_some_iff.mp h
  unfold stL
  rw [List.drop_eq_getElem_cons h1, h2, List.filter_cons_of_pos hk, List.take_succ, h, List.append_assoc]
  rfl
theorem stL_drop {L : List Nat} {K : Nat → Bool} {e x : Nat} (h : L[e]? = some x) (hk : K x = false) : stL L K e = (stL L K (e + 1)).eraseIdx e := by
  obtain ⟨h1, h2⟩ := List.getElem?_eq_some_iff.mp h
  unfold stL
  rw [List.drop_eq_getElem_cons h1, h2, List.filter_cons_of_neg (by rw [hk]; decide), List.take_succ, h, List.append_assoc, List.eraseIdx_append_of_length_le (by rw [List.length_take]; omega), List.length_take, show e - min e L.length = 0 by omega]
  rfl
theorem kept_filter {p : Nat → Bool} : ∀ n, kept p n = (List.range n).filter (fun i => !p i)
  | 0 => rfl
  | n + 1 => by
    rw [List.range_succ, List.filter_append, ← kept_filter n]
    show (if p n = true then kept p n else kept p n ++ [n]) = kept p n ++ _
    by_cases h : p n = true
    · rw [if_pos h, List.filter_cons_of_neg (by rw [h]; decide)]; exact (List.append_nil _).symm
    · rw [if_neg h, List.filter_cons_of_pos (by rw [Bool.eq_false_iff.mpr h]; rfl)]; rfl
def Mx (f : Nat → Int32) (fl : Int32) (S : Nat → Prop) (M : Int32) : Prop := fl ≤ M ∧ (∀ i, S i → e0 f i + nI 1 ≤ M) ∧ (M = fl ∨ ∃ i, S i ∧ M = e0 f i + nI 1)
theorem i32_le_trans {x y z : Int32} (h1 : x ≤ y) (h2 : y ≤ z) : x ≤ z := by rw [Int32.le_iff_toInt_le] at h1 h2 ⊢; omega
theorem i32_le_of_lt {x y : Int32} (h1 : x < y) : x ≤ y := by rw [Int32.lt_iff_toInt_lt] at h1; rw [Int32.le_iff_toInt_le]; omega
theorem i32_refl {x : Int32} : x ≤ x := by rw [Int32.le_iff_toInt_le]; omega
theorem Mx.uniq {f : Nat → Int32} {fl M M' : Int32} {S S' : Nat → Prop} (h : Mx f fl S M) (h' : Mx f fl S' M') (e : ∀ i, S i ↔ S' i) : M = M' := by
  have a : M ≤ M' := by
    rcases h.2.2 with q | ⟨i, q1, q2⟩
    · rw [q]; exact h'.1
    · rw [q2]; exact h'.2.1 i ((e i).mp q1)
  have b : M' ≤ M := by
    rcases h'.2.2 with q | ⟨i, q1, q2⟩
    · rw [q]; exact h.1
    · rw [q2]; exact h.2.1 i ((e i).mpr q1)
  exact Int32.le_antisymm a b
theorem Mx.add {f : Nat → Int32} {fl M : Int32} {S S' : Nat → Prop} {x : Nat} (h : Mx f fl S M) (e : ∀ i, S' i ↔ S i ∨ i = x) : Mx f fl S' (if M < e0 f x + nI 1 then e0 f x + nI 1 else M) := by
  by_cases c : M < e0 f x + nI 1
  · rw [if_pos c]
    refine ⟨i32_le_trans h.1 (i32_le_of_lt c), fun i hi => ?_, Or.inr ⟨x, (e x).mpr (Or.inr rfl), rfl⟩⟩
    rcases (e i).mp hi with q | q
    · exact i32_le_trans (h.2.1 i q) (i32_le_of_lt c)
    · rw [q]; exact i32_refl
  · rw [if_neg c]
    refine ⟨h.1, fun i hi => ?_, ?_⟩
    · rcases (e i).mp hi with q | q
      · exact h.2.1 i q
      · rw [q]; exact i32_nlt.mp c
    · rcases h.2.2 with q | ⟨i, q1, q2⟩
      · exact Or.inl q
      · exact Or.inr ⟨i, (e i).mpr (Or.inl q1), q2⟩
theorem Mx.congr {f : Nat → Int32} {fl M : Int32} {S S' : Nat → Prop} (h : Mx f fl S M) (e : ∀ i, S' i ↔ S i) : Mx f fl S' M := ⟨h.1, fun i hi => h.2.1 i ((e i).mp hi), h.2.2.imp id (fun ⟨i, a, b⟩ => ⟨i, (e i).mpr a, b⟩)⟩
theorem floorN_mx {f : Nat → Int32} {fl : Int32} {p q : Nat → Bool} : ∀ n, Mx f fl (fun i => i < n ∧ q i = true ∧ p i = true) (floorN p q (e0 f) fl n)
  | 0 => ⟨i32_refl, fun i h => by have := h.1; omega, Or.inl rfl⟩
  | n + 1 => by
    unfold floorN
    by_cases c : q n = true ∧ p n = true
    · rw [if_pos c]
      refine (floorN_mx n).add (fun i => ⟨fun h => ?_, fun h => ?_⟩)
      · by_cases e : i = n
        · exact Or.inr e
        · exact Or.inl ⟨by have := h.1; omega, h.2⟩
      · rcases h with h | h
        · exact ⟨by have := h.1; omega, h.2⟩
        · subst h; exact ⟨by omega, c⟩
    · rw [if_neg c]
      refine (floorN_mx n).congr (fun i => ⟨fun h => ⟨?_, h.2⟩, fun h => ⟨by have := h.1; omega, h.2⟩⟩)
      rcases Nat.lt_or_ge i n with z | z
      · exact z
      · exfalso; rw [show i = n by have := h.1; omega] at h; exact c h.2
section M5
variable {G : GG} {μ : Mm} {sz s m kept_ padded at_ ordered h rc sc B : Nat} {f f2 p sl pd od : Nat → Int32} {u : Nat → Bool}
theorem eX9_goes {e : Nat} (hA : μ s = some (ints 475 f)) (hh : h ≤ 60) (h6 : f 6 = nI h) (he : e < h) : EvA G 0 kX9_goes [.ref s, .int (nI e)] μ sz 0 0 (rV fun μ' => μ' = mset μ s (ints 475 (goesF f h e))) := by
  have loop : ∀ (n k : Nat), k + n = 4 * (h - 1 - e) → Rn G 0 kX9_goes 22 [some (.ref s), some (.int (nI e)), some (.int (nI (21 + 4 * e + k)))] [] (mset μ s (ints 475 (blk (upd (upd f 6 (nI (h - 1))) 5 (f 5 + nI 1)) (21 + 4 * e) k (fun q => upd (upd f 6 (nI (h - 1))) 5 (f 5 + nI 1) (21 + 4 * e + 4 + q))))) sz 0 0 (rV fun μ' => μ' = mset μ s (ints 475 (goesF f h e))) := by
    intro n
    induction n with
    | zero =>
      intro k hk
      obtain rfl : k = 4 * (h - 1 - e) := by omega
      refine Rn.iload_n (pc1 := 23)  dX9_goes_22 rfl rfl rfl ?_
      refine Rn.bipush (pc1 := 25) (v := nI 21) dX9_goes_23 rfl (by decide) ?_
      refine Rn.iconst (pc1 := 26) (v := nI 4) dX9_goes_25 rfl (by decide) ?_
      refine Rn.aload_n (pc1 := 27)  dX9_goes_26 rfl rfl rfl ?_
      refine Rn.bipush (pc1 := 29) (v := nI 6) dX9_goes_27 rfl (by decide) ?_
      refine Rn.iaload (pc1 := 30) (v := nI (h - 1))  dX9_goes_29 rfl mset_same (vp_nI (j := 6) rfl (by omega) (by decide)) (by rw [nI_clamp (by omega), blk_out (by omega), upd_ne (by omega), upd_at rfl]) ?_
      refine Rn.imul (pc1 := 31)  dX9_goes_30 rfl (nI_mul 4 (h - 1)) ?_
      refine Rn.iadd (pc1 := 32)  dX9_goes_31 rfl (nI_add 21 (4 * (h - 1))) ?_
      refine Rn.icmp_ge (pc1 := 35) 49 dX9_goes_32 rfl (by decide) (fun c32 => ?_) (fun c32 => ?_)
      · exact Rn.vreturn dX9_goes_49 rfl ⟨rfl, rfl⟩
      · exact absurd (nI_le (show 21 + 4 * (h - 1) ≤ 21 + 4 * e + 4 * (h - 1 - e) by omega) (by omega)) c32
    | succ n ih =>
      intro k hk
      refine Rn.iload_n (pc1 := 23)  dX9_goes_22 rfl rfl rfl ?_
      refine Rn.bipush (pc1 := 25) (v := nI 21) dX9_goes_23 rfl (by decide) ?_
      refine Rn.iconst (pc1 := 26) (v := nI 4) dX9_goes_25 rfl (by decide) ?_
      refine Rn.aload_n (pc1 := 27)  dX9_goes_26 rfl rfl rfl ?_
      refine Rn.bipush (pc1 := 29) (v := nI 6) dX9_goes_27 rfl (by decide) ?_
      refine Rn.iaload (pc1 := 30) (v := nI (h - 1))  dX9_goes_29 rfl mset_same (vp_nI (j := 6) rfl (by omega) (by decide)) (by rw [nI_clamp (by omega), blk_out (by omega), upd_ne (by omega), upd_at rfl]) ?_
      refine Rn.imul (pc1 := 31)  dX9_goes_30 rfl (nI_mul 4 (h - 1)) ?_
      refine Rn.iadd (pc1 := 32)  dX9_goes_31 rfl (nI_add 21 (4 * (h - 1))) ?_
      refine Rn.icmp_ge (pc1 := 35) 49 dX9_goes_32 rfl (by decide) (fun c32 => ?_) (fun c32 => ?_)
      · exact absurd c32 (nI_ge (by omega) (by omega))
      · refine Rn.aload_n (pc1 := 36)  dX9_goes_35 rfl rfl rfl ?_
        refine Rn.iload_n (pc1 := 37)  dX9_goes_36 rfl rfl rfl ?_
        refine Rn.aload_n (pc1 := 38)  dX9_goes_37 rfl rfl rfl ?_
        refine Rn.iload_n (pc1 := 39)  dX9_goes_38 rfl rfl rfl ?_
        refine Rn.iconst (pc1 := 40) (v := nI 4) dX9_goes_39 rfl (by decide) ?_
        refine Rn.iadd (pc1 := 41)  dX9_goes_40 rfl (nI_add (21 + 4 * e + k) 4) ?_
        refine Rn.iaload (pc1 := 42) (v := upd (upd f 6 (nI (h - 1))) 5 (f 5 + nI 1) (21 + 4 * e + 4 + k))  dX9_goes_41 rfl mset_same (vp_nI (j := 21 + 4 * e + k + 4) rfl (by omega) (by decide)) (by rw [nI_clamp (by omega), blk_out (by omega)]; congr 1; omega) ?_
        refine Rn.iastore (pc1 := 43) (f' := blk (upd (upd f 6 (nI (h - 1))) 5 (f 5 + nI 1)) (21 + 4 * e) (k + 1) (fun q => upd (upd f 6 (nI (h - 1))) 5 (f 5 + nI 1) (21 + 4 * e + 4 + q)))  dX9_goes_42 rfl mset_same (vp_nI (j := 21 + 4 * e + k) rfl (by omega) (by decide)) (by rw [updI (j := 21 + 4 * e + k) rfl (by omega), blk_upd]) ?_
        rw [mset_mset]
        refine Rn.iinc (pc1 := 46)  dX9_goes_43 rfl rfl (nI_1 _) (by decide) rfl rfl ?_
        refine Rn.goto 22 dX9_goes_46 (by decide) ?_
        exact ih (k + 1) (by omega)
  refine EvA.of (L := [some (.ref s), some (.int (nI e)), none]) (by decide +kernel) (Nat.le_of_ble_eq_true rfl) rfl ?_
  refine Rn.aload_n (pc1 := 1)  dX9_goes_0 rfl rfl rfl ?_
  refine Rn.bipush (pc1 := 3) (v := nI 6) dX9_goes_1 rfl (by decide) ?_
  refine Rn.dup2 (pc1 := 4)  dX9_goes_3 rfl rfl rfl ?_
  refine Rn.iaload (pc1 := 5) (v := nI h)  dX9_goes_4 rfl (by first | assumption | exact mset_same | exact mget_ne (by omega) (by assumption)) (vp_nI (j := 6) rfl (by omega) (by decide)) (by rw [nI_clamp (by omega)] <;> (first | rfl | assumption | (simp (disch := omega) only [upd_ne, upd_at, blk_out]; done) | (simp (disch := omega) only [upd_ne, upd_at, blk_out]; assumption))) ?_
  refine Rn.iconst (pc1 := 6) (v := nI 1) dX9_goes_5 rfl (by decide) ?_
  refine Rn.isub (pc1 := 7)  dX9_goes_6 rfl (nI_sub (show 1 ≤ h by omega)) ?_
  refine Rn.iastore (pc1 := 8)  dX9_goes_7 rfl (by first | assumption | exact mset_same | exact mget_ne (by omega) (by assumption)) (vp_nI (j := 6) rfl (by omega) (by decide)) (updI (j := 6) rfl (by omega)) ?_
  refine Rn.aload_n (pc1 := 9)  dX9_goes_8 rfl rfl rfl ?_
  refine Rn.iconst (pc1 := 10) (v := nI 5) dX9_goes_9 rfl (by decide) ?_
  refine Rn.dup2 (pc1 := 11)  dX9_goes_10 rfl rfl rfl ?_
  refine Rn.iaload (pc1 := 12) (v := f 5)  dX9_goes_11 rfl (by first | assumption | exact mset_same | exact mget_ne (by omega) (by assumption)) (vp_nI (j := 5) rfl (by omega) (by decide)) (by rw [nI_clamp (by omega)] <;> (first | rfl | assumption | (simp (disch := omega) only [upd_ne, upd_at, blk_out]; done) | (simp (disch := omega) only [upd_ne, upd_at, blk_out]; assumption))) ?_
  refine Rn.iconst (pc1 := 13) (v := nI 1) dX9_goes_12 rfl (by decide) ?_
  refine Rn.iadd (pc1 := 14)  dX9_goes_13 rfl rfl ?_
  refine Rn.iastore (pc1 := 15)  dX9_goes_14 rfl (by first | assumption | exact mset_same | exact mget_ne (by omega) (by assumption)) (vp_nI (j := 5) rfl (by omega) (by decide)) (updI (j := 5) rfl (by omega)) ?_
  rw [mset_mset]
  refine Rn.bipush (pc1 := 17) (v := nI 21) dX9_goes_15 rfl (by decide) ?_
  refine Rn.iconst (pc1 := 18) (v := nI 4) dX9_goes_17 rfl (by decide) ?_
  refine Rn.iload_n (pc1 := 19)  dX9_goes_18 rfl rfl rfl ?_
  refine Rn.imul (pc1 := 20)  dX9_goes_19 rfl (nI_mul 4 e) ?_
  refine Rn.iadd (pc1 := 21)  dX9_goes_20 rfl (nI_add 21 (4 * e)) ?_
  refine Rn.istore_n (pc1 := 22)  dX9_goes_21 rfl rfl (by decide) rfl rfl ?_
  have := loop (4 * (h - 1 - e)) 0 (by omega); rw [blk_0] at this; exact this
theorem eX9_thins (hA : μ s = some (ints 475 f)) (hh : h ≤ 60) (h6 : f 6 = nI h) (hs : nI 1 ≤ f 0) : EvA G 2 kX9_thins [.ref s] μ sz 0 0 (rI fun v μ' => v = nI (h - leftF f h (f 0) (f 2)) ∧ ∃ g, μ' = mset μ s (ints 475 g) ∧ ∀ j, (j < 21 + 4 * leftF f h (f 0) (f 2) ∨ 261 ≤ j) → g j = thinF f h (f 0) (f 2) j) := by
  have pe : ∀ i, pF f h (f 0) (f 2) i = (closB (e0 f i) (f 3) (f 0) && (!lastB (e1 f) i h || oldB (e2 f i) (e3 f i) (f 1) (f 2))) := fun _ => rfl
  -- the lists: after the first pass, and at the end
  have eL : ((List.range h).filter (fun i => !(closB (e0 f i) (f 3) (f 0) && !lastB (e1 f) i h))).filter (fun i => !(closB (e0 f i) (f 3) (f 0) && oldB (e2 f i) (e3 f i) (f 1) (f 2))) = kept (pF f h (f 0) (f 2)) h := by
    rw [List.filter_filter, kept_filter]
    congr 1
    funext i
    rw [pe i]
    cases closB (e0 f i) (f 3) (f 0) <;> cases lastB (e1 f) i h <;> cases oldB (e2 f i) (e3 f i) (f 1) (f 2) <;> rfl
  have memL : ∀ i, i ∈ (List.range h).filter (fun i => !(closB (e0 f i) (f 3) (f 0) && !lastB (e1 f) i h)) ↔ i < h ∧ (closB (e0 f i) (f 3) (f 0) && !lastB (e1 f) i h) = false := by
    intro i
    rw [List.mem_filter, List.mem_range]
    cases closB (e0 f i) (f 3) (f 0) <;> cases lastB (e1 f) i h <;> simp
  have lenL : ((List.range h).filter (fun i => !(closB (e0 f i) (f 3) (f 0) && !lastB (e1 f) i h))).length ≤ h := by
    have := List.length_filter_le (fun i => !(closB (e0 f i) (f 3) (f 0) && !lastB (e1 f) i h)) (List.range h)
    rw [List.length_range] at this
    exact this
  generalize hLd : (List.range h).filter (fun i => !(closB (e0 f i) (f 3) (f 0) && !lastB (e1 f) i h)) = L at eL memL lenL
  have loop2 : ∀ (e : Nat) (g : Nat → Int32), e ≤ L.length → TH f g h (stL L (fun i => !(closB (e0 f i) (f 3) (f 0) && oldB (e2 f i) (e3 f i) (f 1) (f 2))) e) → Mx f (f 4) (fun i => ∃ j, e ≤ j ∧ L[j]? = some i ∧ (closB (e0 f i) (f 3) (f 0) && oldB (e2 f i) (e3 f i) (f 1) (f 2)) = true) (g 4) → Rn G 2 kX9_thins 47 [some (.ref s), some (.int (nI h)), some (.int (nI e - nI 1))] [] (mset μ s (ints 475 g)) sz 0 0 (rI fun v μ' => v = nI (h - leftF f h (f 0) (f 2)) ∧ ∃ g, μ' = mset μ s (ints 475 g) ∧ ∀ j, (j < 21 + 4 * leftF f h (f 0) (f 2) ∨ 261 ≤ j) → g j = thinF f h (f 0) (f 2) j) := by
    intro e
    induction e with
    | zero =>
      intro g he T M
      rw [stL_0, eL] at T
      obtain ⟨t1, t2, t3, t4, t5⟩ := T
      rw [kept_len] at t1 t3 t4
      have fl : g 4 = floorF f h (f 0) (f 2) := M.uniq (floorN_mx h) (fun i => by
        constructor
        · rintro ⟨j, _, h2, h3⟩
          have h4 := (memL i).mp (List.mem_iff_getElem?.mpr ⟨j, h2⟩)
          refine ⟨h4.1, ?_, ?_⟩
          · revert h3 h4; cases closB (e0 f i) (f 3) (f 0) <;> cases lastB (e1 f) i h <;> simp
          · rw [pe i]; revert h3; cases closB (e0 f i) (f 3) (f 0) <;> cases lastB (e1 f) i h <;> cases oldB (e2 f i) (e3 f i) (f 1) (f 2) <;> simp
        · rintro ⟨h1, h2, h3⟩
          rw [pe i] at h3
          obtain ⟨j, hj⟩ := List.mem_iff_getElem?.mp ((memL i).mpr ⟨h1, by rw [h2]; exact Bool.and_false _⟩)
          refine ⟨j, Nat.zero_le j, hj, ?_⟩
          revert h3; rw [h2]; cases closB (e0 f i) (f 3) (f 0) <;> cases oldB (e2 f i) (e3 f i) (f 1) (f 2) <;> simp)
      have t1' : leftF f h (f 0) (f 2) ≤ h := t1
      refine Rn.iload_n (pc1 := 48)  dX9_thins_47 rfl rfl rfl ?_
      refine Rn.if_lt (pc1 := 51) 128 dX9_thins_48 rfl (by decide) (fun c48 => ?_) (fun c48 => ?_)
      · refine Rn.iload_n (pc1 := 129)  dX9_thins_128 rfl rfl rfl ?_
        refine Rn.aload_n (pc1 := 130)  dX9_thins_129 rfl rfl rfl ?_
        refine Rn.bipush (pc1 := 132) (v := nI 6) dX9_thins_130 rfl (by decide) ?_
        refine Rn.iaload (pc1 := 133) (v := nI (leftF f h (f 0) (f 2)))  dX9_thins_132 rfl mset_same (vp_nI (j := 6) rfl (by omega) (by decide)) t3 ?_
        refine Rn.isub (pc1 := 134)  dX9_thins_133 rfl (nI_sub t1') ?_
        refine Rn.ireturn dX9_thins_134 rfl rfl ⟨_, rfl, rfl, g, rfl, fun j hj => ?_⟩
        unfold thinF
        by_cases j4 : j = 4
        · subst j4; rw [if_pos rfl]; exact fl
        · rw [if_neg j4]
          by_cases j5 : j = 5
          · subst j5; rw [if_pos rfl]; exact t4
          · rw [if_neg j5]
            by_cases j6 : j = 6
            · subst j6; rw [if_pos rfl]; exact t3
            · rw [if_neg j6]
              by_cases j7 : 21 ≤ j ∧ j < 21 + 4 * leftF f h (f 0) (f 2)
              · rw [if_pos j7]
                have l1 : (j - 21) / 4 < (kept (pF f h (f 0) (f 2)) h).length := by rw [kept_len]; show _ < leftF f h (f 0) (f 2); omega
                have l2 := List.getElem?_eq_getElem l1
                rw [List.getD_eq_getElem?_getD, l2, Option.getD_some, ← t2 _ _ l2 _ (by omega)]
                congr 1
                omega
              · rw [if_neg j7]; exact t5 j (by omega)
      · exact absurd (by decide) c48
    | succ e ih =>
      intro g he T M
      have hA1 : mset μ s (ints 475 g) s = some (ints 475 g) := mset_same
      have hx := List.getElem?_eq_getElem (show e < L.length by omega)
      have hx2 := (stL_get (K := fun i => !(closB (e0 f i) (f 3) (f 0) && oldB (e2 f i) (e3 f i) (f 1) (f 2))) (show e < L.length by omega)).trans hx
      generalize hxx : L[e] = x at hx hx2
      have ht2 := T.2.1 e x hx2
      have hlen := stL_lo (L := L) (K := fun i => !(closB (e0 f i) (f 3) (f 0) && oldB (e2 f i) (e3 f i) (f 1) (f 2))) he
      have hlen2 := T.1
      have ee : nI (e + 1) - nI 1 = nI e := nI_sub (by omega)
      have N : ∀ g', TH f g' h (stL L (fun i => !(closB (e0 f i) (f 3) (f 0) && oldB (e2 f i) (e3 f i) (f 1) (f 2))) e) → Mx f (f 4) (fun i => ∃ j, e ≤ j ∧ L[j]? = some i ∧ (closB (e0 f i) (f 3) (f 0) && oldB (e2 f i) (e3 f i) (f 1) (f 2)) = true) (g' 4) → Rn G 2 kX9_thins 122 [some (.ref s), some (.int (nI h)), some (.int (nI e))] [] (mset μ s (ints 475 g')) sz 0 0 (rI fun v μ' => v = nI (h - leftF f h (f 0) (f 2)) ∧ ∃ g, μ' = mset μ s (ints 475 g) ∧ ∀ j, (j < 21 + 4 * leftF f h (f 0) (f 2) ∨ 261 ≤ j) → g j = thinF f h (f 0) (f 2) j) := by
        intro g' T' M'
        refine Rn.iinc (pc1 := 125)  dX9_thins_122 rfl rfl (show nI e + Int32.ofInt (-1) = nI e - nI 1 by rw [show Int32.ofInt (-1) = - nI 1 from by decide, ← Int32.sub_eq_add_neg]) (by decide) rfl rfl ?_
        refine Rn.goto 47 dX9_thins_125 (by decide) ?_
        exact ih g' (by omega) T' M'
      have Sx : ∀ i, (∃ j, e ≤ j ∧ L[j]? = some i ∧ (closB (e0 f i) (f 3) (f 0) && oldB (e2 f i) (e3 f i) (f 1) (f 2)) = true) ↔ (∃ j, e + 1 ≤ j ∧ L[j]? = some i ∧ (closB (e0 f i) (f 3) (f 0) && oldB (e2 f i) (e3 f i) (f 1) (f 2)) = true) ∨ (i = x ∧ (closB (e0 f i) (f 3) (f 0) && oldB (e2 f i) (e3 f i) (f 1) (f 2)) = true) := by
        intro i
        constructor
        · rintro ⟨j, h1, h2, h3⟩
          by_cases z : j = e
          · subst z; rw [hx] at h2; exact Or.inr ⟨(Option.some.inj h2).symm, h3⟩
          · exact Or.inl ⟨j, by omega, h2, h3⟩
        · rintro (⟨j, h1, h2, h3⟩ | ⟨h1, h2⟩)
          · exact ⟨j, by omega, h2, h3⟩
          · subst h1; exact ⟨e, by omega, hx, h2⟩
      have Nk : (closB (e0 f x) (f 3) (f 0) && oldB (e2 f x) (e3 f x) (f 1) (f 2)) = false → Rn G 2 kX9_thins 122 [some (.ref s), some (.int (nI h)), some (.int (nI e))] [] (mset μ s (ints 475 g)) sz 0 0 (rI fun v μ' => v = nI (h - leftF f h (f 0) (f 2)) ∧ ∃ g, μ' = mset μ s (ints 475 g) ∧ ∀ j, (j < 21 + 4 * leftF f h (f 0) (f 2) ∨ 261 ≤ j) → g j = thinF f h (f 0) (f 2) j) := by
        intro hf
        exact N g (by rw [stL_keep hx (by rw [hf]; rfl)]; exact T) (M.congr (fun i => (Sx i).trans ⟨fun q => q.elim id (fun z => by rw [z.1, hf] at z; cases z.2), Or.inl⟩))
      have Nd : (closB (e0 f x) (f 3) (f 0) && oldB (e2 f x) (e3 f x) (f 1) (f 2)) = true → ∀ y, y = (if g 4 < e0 f x + nI 1 then e0 f x + nI 1 else g 4) → Rn G 2 kX9_thins 122 [some (.ref s), some (.int (nI h)), some (.int (nI e))] [] (mset μ s (ints 475 (goesF (upd g 4 y) (stL L (fun i => !(closB (e0 f i) (f 3) (f 0) && oldB (e2 f i) (e3 f i) (f 1) (f 2))) (e + 1)).length e))) sz 0 0 (rI fun v μ' => v = nI (h - leftF f h (f 0) (f 2)) ∧ ∃ g, μ' = mset μ s (ints 475 g) ∧ ∀ j, (j < 21 + 4 * leftF f h (f 0) (f 2) ∨ 261 ≤ j) → g j = thinF f h (f 0) (f 2) j) := by
        rintro hf y rfl
        refine N _ (by rw [stL_drop hx (by rw [hf]; rfl)]; exact TH.goes T.set4 hh (by omega)) ?_
        rw [goesF_4, upd_at rfl]
        exact M.add (fun i => (Sx i).trans ⟨fun q => q.imp id (fun z => z.1), fun q => q.imp id (fun z => ⟨z, by rw [z]; exact hf⟩)⟩)
      rw [ee]
      have g0 : g (21 + 4 * e) = e0 f x := ht2 0 (by omega)
      have g2 : g (21 + 4 * e + 2) = e2 f x := ht2 2 (by omega)
      have g3 : g (21 + 4 * e + 3) = e3 f x := ht2 3 (by omega)
      have q0 : g 0 = f 0 := T.2.2.2.2 0 (by omega)
      have q1 : g 1 = f 1 := T.2.2.2.2 1 (by omega)
      have q2 : g 2 = f 2 := T.2.2.2.2 2 (by omega)
      have q3 : g 3 = f 3 := T.2.2.2.2 3 (by omega)
      refine Rn.iload_n (pc1 := 48)  dX9_thins_47 rfl rfl rfl ?_
      refine Rn.if_lt (pc1 := 51) 128 dX9_thins_48 rfl (by decide) (fun c48 => ?_) (fun c48 => ?_)
      · exact absurd c48 (i32_nlt.mpr (nI_le (Nat.zero_le _) (by omega)))
      · refine Rn.aload_n (pc1 := 52)  dX9_thins_51 rfl rfl rfl ?_
        refine Rn.iload_n (pc1 := 53)  dX9_thins_52 rfl rfl rfl ?_
        refine Rn.cS_i (pc1 := 56) (eX9_isClosed hA1 (show e < 60 by omega) (by rw [q0]; exact hs)) dX9_thins_53 rfl qX9_51 oX9_isClosed rfl rfl (Nat.le_of_ble_eq_true rfl) (by decide) (by decide) (fun v53 μ53 h53 => ?_)
        obtain ⟨rfl, rfl⟩ := h53
        rw [g0, q3, q0]
        refine Rn.if_eq (pc1 := 59) 122 dX9_thins_56 rfl (by decide) (fun c56 => ?_) (fun c56 => ?_)
        · have cl : (closB (e0 f x) (f 3) (f 0) && oldB (e2 f x) (e3 f x) (f 1) (f 2)) = false := by rw [bI_0 c56]; rfl
          first | exact Nk cl | exact Nd cl _ (if_neg (i32_nlt.mpr c99)).symm | exact Nd cl _ (if_pos (i32_nle.mp c99)).symm
        · have cc := bI_n c56
          refine Rn.aload_n (pc1 := 60)  dX9_thins_59 rfl rfl rfl ?_
          refine Rn.iload_n (pc1 := 61)  dX9_thins_60 rfl rfl rfl ?_
          refine Rn.iconst (pc1 := 62) (v := nI 2) dX9_thins_61 rfl (by decide) ?_
          refine Rn.cS_i (pc1 := 65) (eX9_of hA1 (show 21 + 4 * e + 2 < 475 by omega)) dX9_thins_62 rfl qX9_47 oX9_of rfl rfl (Nat.le_of_ble_eq_true rfl) (by decide) (by decide) (fun v62 μ62 h62 => ?_)
          obtain ⟨rfl, rfl⟩ := h62
          rw [g2]
          refine Rn.bipush (pc1 := 67) (v := (-6)) dX9_thins_65 rfl (by decide) ?_
          refine Rn.icmp_ne (pc1 := 70) 122 dX9_thins_67 rfl (by decide) (fun c67 => ?_) (fun c67 => ?_)
          · have cl : (closB (e0 f x) (f 3) (f 0) && oldB (e2 f x) (e3 f x) (f 1) (f 2)) = false := by unfold oldB; rw [decide_eq_false c67, Bool.false_and, Bool.and_false]
            first | exact Nk cl | exact Nd cl _ (if_neg (i32_nlt.mpr c99)).symm | exact Nd cl _ (if_pos (i32_nle.mp c99)).symm
          · refine Rn.aload_n (pc1 := 71)  dX9_thins_70 rfl rfl rfl ?_
            refine Rn.iconst (pc1 := 72) (v := nI 2) dX9_thins_71 rfl (by decide) ?_
            refine Rn.iaload (pc1 := 73) (v := f 2)  dX9_thins_72 rfl mset_same (vp_nI (j := 2) rfl (by omega) (by decide)) q2 ?_
            refine Rn.aload_n (pc1 := 74)  dX9_thins_73 rfl rfl rfl ?_
            refine Rn.iload_n (pc1 := 75)  dX9_thins_74 rfl rfl rfl ?_
            refine Rn.iconst (pc1 := 76) (v := nI 3) dX9_thins_75 rfl (by decide) ?_
            refine Rn.cS_i (pc1 := 79) (eX9_of hA1 (show 21 + 4 * e + 3 < 475 by omega)) dX9_thins_76 rfl qX9_47 oX9_of rfl rfl (Nat.le_of_ble_eq_true rfl) (by decide) (by decide) (fun v76 μ76 h76 => ?_)
            obtain ⟨rfl, rfl⟩ := h76
            rw [g3]
            refine Rn.isub (pc1 := 80)  dX9_thins_79 rfl rfl ?_
            refine Rn.aload_n (pc1 := 81)  dX9_thins_80 rfl rfl rfl ?_
            refine Rn.iconst (pc1 := 82) (v := nI 1) dX9_thins_81 rfl (by decide) ?_
            refine Rn.iaload (pc1 := 83) (v := f 1)  dX9_thins_82 rfl mset_same (vp_nI (j := 1) rfl (by omega) (by decide)) q1 ?_
            refine Rn.icmp_le (pc1 := 86) 122 dX9_thins_83 rfl (by decide) (fun c83 => ?_) (fun c83 => ?_)
            · have cl : (closB (e0 f x) (f 3) (f 0) && oldB (e2 f x) (e3 f x) (f 1) (f 2)) = false := by unfold oldB; rw [decide_eq_false (i32_nlt.mpr c83), Bool.and_false, Bool.and_false]
              first | exact Nk cl | exact Nd cl _ (if_neg (i32_nlt.mpr c99)).symm | exact Nd cl _ (if_pos (i32_nle.mp c99)).symm
            · have cl : (closB (e0 f x) (f 3) (f 0) && oldB (e2 f x) (e3 f x) (f 1) (f 2)) = true := by unfold oldB; rw [cc, decide_eq_true c67, decide_eq_true (i32_nle.mp c83)]; rfl
              refine Rn.aload_n (pc1 := 87)  dX9_thins_86 rfl rfl rfl ?_
              refine Rn.iconst (pc1 := 88) (v := nI 4) dX9_thins_87 rfl (by decide) ?_
              refine Rn.aload_n (pc1 := 89)  dX9_thins_88 rfl rfl rfl ?_
              refine Rn.iload_n (pc1 := 90)  dX9_thins_89 rfl rfl rfl ?_
              refine Rn.iconst (pc1 := 91) (v := nI 0) dX9_thins_90 rfl (by decide) ?_
              refine Rn.cS_i (pc1 := 94) (eX9_of hA1 (show 21 + 4 * e + 0 < 475 by omega)) dX9_thins_91 rfl qX9_47 oX9_of rfl rfl (Nat.le_of_ble_eq_true rfl) (by decide) (by decide) (fun v91 μ91 h91 => ?_)
              obtain ⟨rfl, rfl⟩ := h91
              rw [Nat.add_zero, g0]
              refine Rn.iconst (pc1 := 95) (v := nI 1) dX9_thins_94 rfl (by decide) ?_
              refine Rn.iadd (pc1 := 96)  dX9_thins_95 rfl rfl ?_
              refine Rn.aload_n (pc1 := 97)  dX9_thins_96 rfl rfl rfl ?_
              refine Rn.iconst (pc1 := 98) (v := nI 4) dX9_thins_97 rfl (by decide) ?_
              refine Rn.iaload (pc1 := 99) (v := g 4)  dX9_thins_98 rfl mset_same (vp_nI (j := 4) rfl (by omega) (by decide)) rfl ?_
              refine Rn.icmp_le (pc1 := 102) 113 dX9_thins_99 rfl (by decide) (fun c99 => ?_) (fun c99 => ?_)
              · refine Rn.aload_n (pc1 := 114)  dX9_thins_113 rfl rfl rfl ?_
                refine Rn.iconst (pc1 := 115) (v := nI 4) dX9_thins_114 rfl (by decide) ?_
                refine Rn.iaload (pc1 := 116) (v := g 4)  dX9_thins_115 rfl mset_same (vp_nI (j := 4) rfl (by omega) (by decide)) rfl ?_
                refine Rn.iastore (pc1 := 117)  dX9_thins_116 rfl (by first | assumption | exact mset_same | exact mget_ne (by omega) (by assumption)) (vp_nI (j := 4) rfl (by omega) (by decide)) (updI (j := 4) rfl (by omega)) ?_
                rw [mset_mset]
                refine Rn.aload_n (pc1 := 118)  dX9_thins_117 rfl rfl rfl ?_
                refine Rn.iload_n (pc1 := 119)  dX9_thins_118 rfl rfl rfl ?_
                refine Rn.cS_v (pc1 := 122) (eX9_goes mset_same (show (stL L (fun i => !(closB (e0 f i) (f 3) (f 0) && oldB (e2 f i) (e3 f i) (f 1) (f 2))) (e + 1)).length ≤ 60 by omega) ((upd_ne (by omega)).trans T.2.2.1) (by omega)) dX9_thins_119 rfl qX9_58 oX9_goes rfl rfl (Nat.le_of_ble_eq_true rfl) (by decide) (by decide) (fun μ119 h119 => ?_)
                subst h119
                rw [mset_mset]
                first | exact Nk cl | exact Nd cl _ (if_neg (i32_nlt.mpr c99)).symm | exact Nd cl _ (if_pos (i32_nle.mp c99)).symm
              · refine Rn.aload_n (pc1 := 103)  dX9_thins_102 rfl rfl rfl ?_
                refine Rn.iload_n (pc1 := 104)  dX9_thins_103 rfl rfl rfl ?_
                refine Rn.iconst (pc1 := 105) (v := nI 0) dX9_thins_104 rfl (by decide) ?_
                refine Rn.cS_i (pc1 := 108) (eX9_of hA1 (show 21 + 4 * e + 0 < 475 by omega)) dX9_thins_105 rfl qX9_47 oX9_of rfl rfl (Nat.le_of_ble_eq_true rfl) (by decide) (by decide) (fun v105 μ105 h105 => ?_)
                obtain ⟨rfl, rfl⟩ := h105
                rw [Nat.add_zero, g0]
                refine Rn.iconst (pc1 := 109) (v := nI 1) dX9_thins_108 rfl (by decide) ?_
                refine Rn.iadd (pc1 := 110)  dX9_thins_109 rfl rfl ?_
                refine Rn.goto 116 dX9_thins_110 (by decide) ?_
                refine Rn.iastore (pc1 := 117)  dX9_thins_116 rfl (by first | assumption | exact mset_same | exact mget_ne (by omega) (by assumption)) (vp_nI (j := 4) rfl (by omega) (by decide)) (updI (j := 4) rfl (by omega)) ?_
                rw [mset_mset]
                refine Rn.aload_n (pc1 := 118)  dX9_thins_117 rfl rfl rfl ?_
                refine Rn.iload_n (pc1 := 119)  dX9_thins_118 rfl rfl rfl ?_
                refine Rn.cS_v (pc1 := 122) (eX9_goes mset_same (show (stL L (fun i => !(closB (e0 f i) (f 3) (f 0) && oldB (e2 f i) (e3 f i) (f 1) (f 2))) (e + 1)).length ≤ 60 by omega) ((upd_ne (by omega)).trans T.2.2.1) (by omega)) dX9_thins_119 rfl qX9_58 oX9_goes rfl rfl (Nat.le_of_ble_eq_true rfl) (by decide) (by decide) (fun μ119 h119 => ?_)
                subst h119
                rw [mset_mset]
                first | exact Nk cl | exact Nd cl _ (if_neg (i32_nlt.mpr c99)).symm | exact Nd cl _ (if_pos (i32_nle.mp c99)).symm
  have loop1 : ∀ (e : Nat) (g : Nat → Int32), e ≤ h → TH f g h (stL (List.range h) (fun i => !(closB (e0 f i) (f 3) (f 0) && !lastB (e1 f) i h)) e) → g 4 = f 4 → Rn G 2 kX9_thins 9 [some (.ref s), some (.int (nI h)), some (.int (nI e - nI 1))] [] (mset μ s (ints 475 g)) sz 0 0 (rI fun v μ' => v = nI (h - leftF f h (f 0) (f 2)) ∧ ∃ g, μ' = mset μ s (ints 475 g) ∧ ∀ j, (j < 21 + 4 * leftF f h (f 0) (f 2) ∨ 261 ≤ j) → g j = thinF f h (f 0) (f 2) j) := by
    intro e
    induction e with
    | zero =>
      intro g he T g4
      rw [stL_0, hLd] at T
      refine Rn.iload_n (pc1 := 10)  dX9_thins_9 rfl rfl rfl ?_
      refine Rn.if_lt (pc1 := 13) 40 dX9_thins_10 rfl (by decide) (fun c10 => ?_) (fun c10 => ?_)
      · refine Rn.aload_n (pc1 := 41)  dX9_thins_40 rfl rfl rfl ?_
        refine Rn.bipush (pc1 := 43) (v := nI 6) dX9_thins_41 rfl (by decide) ?_
        refine Rn.iaload (pc1 := 44) (v := nI L.length)  dX9_thins_43 rfl mset_same (vp_nI (j := 6) rfl (by omega) (by decide)) T.2.2.1 ?_
        refine Rn.iconst (pc1 := 45) (v := nI 1) dX9_thins_44 rfl (by decide) ?_
        refine Rn.isub (pc1 := 46)  dX9_thins_45 rfl rfl ?_
        refine Rn.istore_n (pc1 := 47)  dX9_thins_46 rfl rfl (by decide) rfl rfl ?_
        exact loop2 L.length g (Nat.le_refl _) (by rw [stL_all]; exact T) ⟨by rw [g4]; exact i32_refl, fun i hi => by obtain ⟨j, h1, h2, _⟩ := hi; have := (List.getElem?_eq_some_iff.mp h2).1; omega, Or.inl g4⟩
      · exact absurd (by decide) c10
    | succ e ih =>
      intro g he T g4
      have hA1 : mset μ s (ints 475 g) s = some (ints 475 g) := mset_same
      have hrl : (List.range h).length = h := List.length_range
      have hx : (List.range h)[e]? = some e := List.getElem?_range (by omega)
      have hx2 := (stL_get (K := fun i => !(closB (e0 f i) (f 3) (f 0) && !lastB (e1 f) i h)) (show e < (List.range h).length by omega)).trans hx
      have ht2 := T.2.1 e e hx2
      have hlen := stL_lo (L := List.range h) (K := fun i => !(closB (e0 f i) (f 3) (f 0) && !lastB (e1 f) i h)) (e := e + 1) (by omega)
      have hlen2 := T.1
      have ee : nI (e + 1) - nI 1 = nI e := nI_sub (by omega)
      have N : ∀ g', TH f g' h (stL (List.range h) (fun i => !(closB (e0 f i) (f 3) (f 0) && !lastB (e1 f) i h)) e) → g' 4 = f 4 → Rn G 2 kX9_thins 34 [some (.ref s), some (.int (nI h)), some (.int (nI e))] [] (mset μ s (ints 475 g')) sz 0 0 (rI fun v μ' => v = nI (h - leftF f h (f 0) (f 2)) ∧ ∃ g, μ' = mset μ s (ints 475 g) ∧ ∀ j, (j < 21 + 4 * leftF f h (f 0) (f 2) ∨ 261 ≤ j) → g j = thinF f h (f 0) (f 2) j) := by
        intro g' T' M'
        refine Rn.iinc (pc1 := 37)  dX9_thins_34 rfl rfl (show nI e + Int32.ofInt (-1) = nI e - nI 1 by rw [show Int32.ofInt (-1) = - nI 1 from by decide, ← Int32.sub_eq_add_neg]) (by decide) rfl rfl ?_
        refine Rn.goto 9 dX9_thins_37 (by decide) ?_
        exact ih g' (by omega) T' M'
      have Nk : (closB (e0 f e) (f 3) (f 0) && !lastB (e1 f) e h) = false → Rn G 2 kX9_thins 34 [some (.ref s), some (.int (nI h)), some (.int (nI e))] [] (mset μ s (ints 475 g)) sz 0 0 (rI fun v μ' => v = nI (h - leftF f h (f 0) (f 2)) ∧ ∃ g, μ' = mset μ s (ints 475 g) ∧ ∀ j, (j < 21 + 4 * leftF f h (f 0) (f 2) ∨ 261 ≤ j) → g j = thinF f h (f 0) (f 2) j) := by
        intro hf
        exact N g (by rw [stL_keep hx (by rw [hf]; rfl)]; exact T) g4
      have Nd : (closB (e0 f e) (f 3) (f 0) && !lastB (e1 f) e h) = true → Rn G 2 kX9_thins 34 [some (.ref s), some (.int (nI h)), some (.int (nI e))] [] (mset μ s (ints 475 (goesF g (stL (List.range h) (fun i => !(closB (e0 f i) (f 3) (f 0) && !lastB (e1 f) i h)) (e + 1)).length e))) sz 0 0 (rI fun v μ' => v = nI (h - leftF f h (f 0) (f 2)) ∧ ∃ g, μ' = mset μ s (ints 475 g) ∧ ∀ j, (j < 21 + 4 * leftF f h (f 0) (f 2) ∨ 261 ≤ j) → g j = thinF f h (f 0) (f 2) j) := by
        intro hf
        exact N _ (by rw [stL_drop hx (by rw [hf]; rfl)]; exact TH.goes T hh (by omega)) (goesF_4.trans g4)
      have eLast : lastB (e1 g) e (stL (List.range h) (fun i => !(closB (e0 f i) (f 3) (f 0) && !lastB (e1 f) i h)) (e + 1)).length = lastB (e1 f) e h := by
        have k1 : ∀ j q, (stL (List.range h) (fun i => !(closB (e0 f i) (f 3) (f 0) && !lastB (e1 f) i h)) (e + 1))[j]? = some q → e1 g j = e1 f q := fun j q hq => T.2.1 j q hq 1 (by omega)
        refine bool_eq_of ?_
        rw [lastB_iff, lastB_iff]
        constructor
        · intro hc j hj hjh hk
          obtain ⟨r, r1, r2, r3, r4⟩ := last_ex (g := e1 f) (h - j) j (by omega) hjh
          obtain ⟨t, ht⟩ := List.mem_iff_getElem?.mp (stL_mem (e := e + 1) (K := fun i => !(closB (e0 f i) (f 3) (f 0) && !lastB (e1 f) i h)) (show e + 1 ≤ r by omega) r2 (by rw [r4]; simp))
          have t1 : e < t := by
            rcases Nat.lt_or_ge e t with z | z
            · exact z
            · rw [stL_get' (show t < e + 1 by omega) (by omega), List.getElem?_range (by omega)] at ht
              cases ht
              omega
          exact hc t t1 (List.getElem?_eq_some_iff.mp ht).1 (by rw [k1 t r ht, k1 e e hx2, r3, hk])
        · intro hc t t1 t2 hk
          have ht := List.getElem?_eq_getElem t2
          have := stL_hi (e := e + 1) (h := h) (K := fun i => !(closB (e0 f i) (f 3) (f 0) && !lastB (e1 f) i h)) (by omega) t1 ht
          rw [k1 t _ ht, k1 e e hx2] at hk
          exact hc _ (by omega) this.2 hk
      have g0 : g (21 + 4 * e) = e0 f e := ht2 0 (by omega)
      have q0 : g 0 = f 0 := T.2.2.2.2 0 (by omega)
      have q3 : g 3 = f 3 := T.2.2.2.2 3 (by omega)
      rw [ee]
      refine Rn.iload_n (pc1 := 10)  dX9_thins_9 rfl rfl rfl ?_
      refine Rn.if_lt (pc1 := 13) 40 dX9_thins_10 rfl (by decide) (fun c10 => ?_) (fun c10 => ?_)
      · exact absurd c10 (i32_nlt.mpr (nI_le (Nat.zero_le _) (by omega)))
      · refine Rn.aload_n (pc1 := 14)  dX9_thins_13 rfl rfl rfl ?_
        refine Rn.iload_n (pc1 := 15)  dX9_thins_14 rfl rfl rfl ?_
        refine Rn.cS_i (pc1 := 18) (eX9_isClosed hA1 (show e < 60 by omega) (by rw [q0]; exact hs)) dX9_thins_15 rfl qX9_51 oX9_isClosed rfl rfl (Nat.le_of_ble_eq_true rfl) (by decide) (by decide) (fun v15 μ15 h15 => ?_)
        obtain ⟨rfl, rfl⟩ := h15
        rw [g0, q3, q0]
        refine Rn.if_eq (pc1 := 21) 34 dX9_thins_18 rfl (by decide) (fun c18 => ?_) (fun c18 => ?_)
        · have cl : (closB (e0 f e) (f 3) (f 0) && !lastB (e1 f) e h) = false := by rw [bI_0 c18]; rfl
          first | exact Nk cl | exact Nd cl
        · have cc := bI_n c18
          refine Rn.aload_n (pc1 := 22)  dX9_thins_21 rfl rfl rfl ?_
          refine Rn.iload_n (pc1 := 23)  dX9_thins_22 rfl rfl rfl ?_
          refine Rn.cS_i (pc1 := 26) (eX9_isLast hA1 (show (stL (List.range h) (fun i => !(closB (e0 f i) (f 3) (f 0) && !lastB (e1 f) i h)) (e + 1)).length ≤ 60 by omega) T.2.2.1 (by omega)) dX9_thins_23 rfl qX9_55 oX9_isLast rfl rfl (Nat.le_of_ble_eq_true rfl) (by decide) (by decide) (fun v23 μ23 h23 => ?_)
          obtain ⟨rfl, rfl⟩ := h23
          rw [eLast]
          refine Rn.if_ne (pc1 := 29) 34 dX9_thins_26 rfl (by decide) (fun c26 => ?_) (fun c26 => ?_)
          · have cl : (closB (e0 f e) (f 3) (f 0) && !lastB (e1 f) e h) = false := by rw [bI_n c26]; exact Bool.and_false _
            first | exact Nk cl | exact Nd cl
          · have cl : (closB (e0 f e) (f 3) (f 0) && !lastB (e1 f) e h) = true := by rw [cc, bI_0 c26]; rfl
            refine Rn.aload_n (pc1 := 30)  dX9_thins_29 rfl rfl rfl ?_
            refine Rn.iload_n (pc1 := 31)  dX9_thins_30 rfl rfl rfl ?_
            refine Rn.cS_v (pc1 := 34) (eX9_goes hA1 (show (stL (List.range h) (fun i => !(closB (e0 f i) (f 3) (f 0) && !lastB (e1 f) i h)) (e + 1)).length ≤ 60 by omega) T.2.2.1 (by omega)) dX9_thins_31 rfl qX9_58 oX9_goes rfl rfl (Nat.le_of_ble_eq_true rfl) (by decide) (by decide) (fun μ31 h31 => ?_)
            subst h31
            rw [mset_mset]
            first | exact Nk cl | exact Nd cl
  refine EvA.of (L := [some (.ref s), none, none]) (by decide +kernel) (Nat.le_of_ble_eq_true rfl) rfl ?_
  refine Rn.aload_n (pc1 := 1)  dX9_thins_0 rfl rfl rfl ?_
  refine Rn.bipush (pc1 := 3) (v := nI 6) dX9_thins_1 rfl (by decide) ?_
  refine Rn.iaload (pc1 := 4) (v := nI h)  dX9_thins_3 rfl (by first | assumption | exact mset_same | exact mget_ne (by omega) (by assumption)) (vp_nI (j := 6) rfl (by omega) (by decide)) (by rw [nI_clamp (by omega)] <;> (first | rfl | assumption | (simp (disch := omega) only [upd_ne, upd_at, blk_out]; done) | (simp (disch := omega) only [upd_ne, upd_at, blk_out]; assumption))) ?_
  refine Rn.istore_n (pc1 := 5)  dX9_thins_4 rfl rfl (by decide) rfl rfl ?_
  refine Rn.iload_n (pc1 := 6)  dX9_thins_5 rfl rfl rfl ?_
  refine Rn.iconst (pc1 := 7) (v := nI 1) dX9_thins_6 rfl (by decide) ?_
  refine Rn.isub (pc1 := 8)  dX9_thins_7 rfl rfl ?_
  refine Rn.istore_n (pc1 := 9)  dX9_thins_8 rfl rfl (by decide) rfl rfl ?_
  have := loop1 h f (Nat.le_refl _) (by
    have e2 := stL_all (L := List.range h) (K := fun i => !(closB (e0 f i) (f 3) (f 0) && !lastB (e1 f) i h))
    rw [List.length_range] at e2
    rw [e2]
    refine ⟨by rw [List.length_range]; omega, fun j q hq w hw => ?_, by rw [List.length_range]; exact h6, by rw [List.length_range, Nat.sub_self]; exact (Int32.add_zero _).symm, fun j hj => rfl⟩
    have l1 := (List.getElem?_eq_some_iff.mp hq).1
    rw [List.length_range] at l1
    rw [List.getElem?_range l1] at hq
    cases hq
    rfl) rfl
  rw [mset_id hA] at this
  exact this
end M5
