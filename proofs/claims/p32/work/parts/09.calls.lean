section CALLS
variable {G : GG} {d : Nat} {K : MK} {pc : Nat} {L : List (Option Value)} {st : List Value} {μ : Mm} {sz mc ms : Nat} {Q : Option Value → Mm → Prop}
theorem Rn.cV_i {pc1 : Nat} {K' : MK} {d' n idx : Nat} {As : List Value} {stk : List Value} {Qi : Int32 → Mm → Prop} {a ci : Nat} {r : vw_C} {fs : List Value} (hE : EvA G d' K' (.ref a :: As) μ sz 0 0 (rI Qi)) (hd : decode K.2.1 pc = .ok (.invokevirtual idx, 3)) (hp : pc + 3 = pc1) (hq : Cond.methodLink K.1.cls idx K'.1 ∈ lwT) (ho : VOk K' n) (hμ : μ a = some (.inr (ci, fs))) (hci : classes[ci]? = some r) (hcn : r.1 = K'.1.cls) (hn : As.length = n) (hst : As.reverse ++ .ref a :: st = stk) (hcat : (st.map fun v => v.category).sum ≤ 8) (hdd : d' < d) (hml : K'.2.2.1 ≤ 15) (hk : ∀ (v : Int32) (μ' : Mm), Qi v μ' → Rn G d K pc1 L (.int v :: st) μ' sz mc ms Q) : Rn G d K pc L stk μ sz mc ms Q := by
  subst hp
  rw [show mc = 0 + mc from (Nat.zero_add mc).symm, show ms = 0 + ms from (Nat.zero_add ms).symm]
  refine Rn.callV hd rfl hq ho hμ hci hcn hn hst hcat hdd hml hE ?_
  rintro r μ' ⟨v, rfl, hv⟩
  exact hk v μ' hv
theorem Rn.cS_i {pc1 : Nat} {K' : MK} {d' n idx : Nat} {As : List Value} {stk : List Value} {Qi : Int32 → Mm → Prop} (hE : EvA G d' K' As μ sz 0 0 (rI Qi)) (hd : decode K.2.1 pc = .ok (.invokestatic idx, 3)) (hp : pc + 3 = pc1) (hq : Cond.methodLink K.1.cls idx K'.1 ∈ lwT) (ho : SOk K' n) (hn : As.length = n) (hst : As.reverse ++ st = stk) (hcat : (st.map fun v => v.category).sum ≤ 8) (hdd : d' < d) (hml : K'.2.2.1 ≤ 15) (hk : ∀ (v : Int32) (μ' : Mm), Qi v μ' → Rn G d K pc1 L (.int v :: st) μ' sz mc ms Q) : Rn G d K pc L stk μ sz mc ms Q := by
  subst hp
  rw [show mc = 0 + mc from (Nat.zero_add mc).symm, show ms = 0 + ms from (Nat.zero_add ms).symm]
  refine Rn.callS hd rfl hq ho hn hst hcat hdd hml hE ?_
  rintro r μ' ⟨v, rfl, hv⟩
  exact hk v μ' hv
theorem Rn.cN_i {pc1 : Nat} {K' : MK} {d' n idx : Nat} {As : List Value} {stk : List Value} {Qi : Int32 → Mm → Prop} {host : String} (hE : EvA G d' K' As μ sz 0 0 (rI Qi)) (hd : decode K.2.1 pc = .ok (.invokestatic idx, 3)) (hp : pc + 3 = pc1) (hq : (K.1.cls, idx, K'.1, host) ∈ nestL) (ho : SOk K' n) (hn : As.length = n) (hst : As.reverse ++ st = stk) (hcat : (st.map fun v => v.category).sum ≤ 8) (hdd : d' < d) (hml : K'.2.2.1 ≤ 15) (hk : ∀ (v : Int32) (μ' : Mm), Qi v μ' → Rn G d K pc1 L (.int v :: st) μ' sz mc ms Q) : Rn G d K pc L stk μ sz mc ms Q := by
  subst hp
  rw [show mc = 0 + mc from (Nat.zero_add mc).symm, show ms = 0 + ms from (Nat.zero_add ms).symm]
  refine Rn.callSN hd rfl hq ho hn hst hcat hdd hml hE ?_
  rintro r μ' ⟨v, rfl, hv⟩
  exact hk v μ' hv
theorem Rn.cV_v {pc1 : Nat} {K' : MK} {d' n idx : Nat} {As : List Value} {stk : List Value} {Qi : Mm → Prop} {a ci : Nat} {r : vw_C} {fs : List Value} (hE : EvA G d' K' (.ref a :: As) μ sz 0 0 (rV Qi)) (hd : decode K.2.1 pc = .ok (.invokevirtual idx, 3)) (hp : pc + 3 = pc1) (hq : Cond.methodLink K.1.cls idx K'.1 ∈ lwT) (ho : VOk K' n) (hμ : μ a = some (.inr (ci, fs))) (hci : classes[ci]? = some r) (hcn : r.1 = K'.1.cls) (hn : As.length = n) (hst : As.reverse ++ .ref a :: st = stk) (hcat : (st.map fun v => v.category).sum ≤ 8) (hdd : d' < d) (hml : K'.2.2.1 ≤ 15) (hk : ∀ (μ' : Mm), Qi μ' → Rn G d K pc1 L st μ' sz mc ms Q) : Rn G d K pc L stk μ sz mc ms Q := by
  subst hp
  rw [show mc = 0 + mc from (Nat.zero_add mc).symm, show ms = 0 + ms from (Nat.zero_add ms).symm]
  refine Rn.callV hd rfl hq ho hμ hci hcn hn hst hcat hdd hml hE ?_
  rintro r μ' ⟨rfl, hv⟩
  exact hk μ' hv
theorem Rn.cS_v {pc1 : Nat} {K' : MK} {d' n idx : Nat} {As : List Value} {stk : List Value} {Qi : Mm → Prop} (hE : EvA G d' K' As μ sz 0 0 (rV Qi)) (hd : decode K.2.1 pc = .ok (.invokestatic idx, 3)) (hp : pc + 3 = pc1) (hq : Cond.methodLink K.1.cls idx K'.1 ∈ lwT) (ho : SOk K' n) (hn : As.length = n) (hst : As.reverse ++ st = stk) (hcat : (st.map fun v => v.category).sum ≤ 8) (hdd : d' < d) (hml : K'.2.2.1 ≤ 15) (hk : ∀ (μ' : Mm), Qi μ' → Rn G d K pc1 L st μ' sz mc ms Q) : Rn G d K pc L stk μ sz mc ms Q := by
  subst hp
  rw [show mc = 0 + mc from (Nat.zero_add mc).symm, show ms = 0 + ms from (Nat.zero_add ms).symm]
  refine Rn.callS hd rfl hq ho hn hst hcat hdd hml hE ?_
  rintro r μ' ⟨rfl, hv⟩
  exact hk μ' hv
theorem Rn.cN_v {pc1 : Nat} {K' : MK} {d' n idx : Nat} {As : List Value} {stk : List Value} {Qi : Mm → Prop} {host : String} (hE : EvA G d' K' As μ sz 0 0 (rV Qi)) (hd : decode K.2.1 pc = .ok (.invokestatic idx, 3)) (hp : pc + 3 = pc1) (hq : (K.1.cls, idx, K'.1, host) ∈ nestL) (ho : SOk K' n) (hn : As.length = n) (hst : As.reverse ++ st = stk) (hcat : (st.map fun v => v.category).sum ≤ 8) (hdd : d' < d) (hml : K'.2.2.1 ≤ 15) (hk : ∀ (μ' : Mm), Qi μ' → Rn G d K pc1 L st μ' sz mc ms Q) : Rn G d K pc L stk μ sz mc ms Q := by
  subst hp
  rw [show mc = 0 + mc from (Nat.zero_add mc).symm, show ms = 0 + ms from (Nat.zero_add ms).symm]
  refine Rn.callSN hd rfl hq ho hn hst hcat hdd hml hE ?_
  rintro r μ' ⟨rfl, hv⟩
  exact hk μ' hv
theorem Rn.cV_r {pc1 : Nat} {K' : MK} {d' n idx : Nat} {As : List Value} {stk : List Value} {Qi : Option Nat → Mm → Prop} {a ci : Nat} {r : vw_C} {fs : List Value} (hE : EvA G d' K' (.ref a :: As) μ sz 0 0 (rR Qi)) (hd : decode K.2.1 pc = .ok (.invokevirtual idx, 3)) (hp : pc + 3 = pc1) (hq : Cond.methodLink K.1.cls idx K'.1 ∈ lwT) (ho : VOk K' n) (hμ : μ a = some (.inr (ci, fs))) (hci : classes[ci]? = some r) (hcn : r.1 = K'.1.cls) (hn : As.length = n) (hst : As.reverse ++ .ref a :: st = stk) (hcat : (st.map fun v => v.category).sum ≤ 8) (hdd : d' < d) (hml : K'.2.2.1 ≤ 15) (hk : ∀ (v : Option Nat) (μ' : Mm), Qi v μ' → Rn G d K pc1 L (va_rf v :: st) μ' sz mc ms Q) : Rn G d K pc L stk μ sz mc ms Q := by
  subst hp
  rw [show mc = 0 + mc from (Nat.zero_add mc).symm, show ms = 0 + ms from (Nat.zero_add ms).symm]
  refine Rn.callV hd rfl hq ho hμ hci hcn hn hst hcat hdd hml hE ?_
  rintro r μ' ⟨v, rfl, hv⟩
  exact hk v μ' hv
theorem Rn.cS_r {pc1 : Nat} {K' : MK} {d' n idx : Nat} {As : List Value} {stk : List Value} {Qi : Option Nat → Mm → Prop} (hE : EvA G d' K' As μ sz 0 0 (rR Qi)) (hd : decode K.2.1 pc = .ok (.invokestatic idx, 3)) (hp : pc + 3 = pc1) (hq : Cond.methodLink K.1.cls idx K'.1 ∈ lwT) (ho : SOk K' n) (hn : As.length = n) (hst : As.reverse ++ st = stk) (hcat : (st.map fun v => v.category).sum ≤ 8) (hdd : d' < d) (hml : K'.2.2.1 ≤ 15) (hk : ∀ (v : Option Nat) (μ' : Mm), Qi v μ' → Rn G d K pc1 L (va_rf v :: st) μ' sz mc ms Q) : Rn G d K pc L stk μ sz mc ms Q := by
  subst hp
  rw [show mc = 0 + mc from (Nat.zero_add mc).symm, show ms = 0 + ms from (Nat.zero_add ms).symm]
  refine Rn.callS hd rfl hq ho hn hst hcat hdd hml hE ?_
  rintro r μ' ⟨v, rfl, hv⟩
  exact hk v μ' hv
theorem Rn.cN_r {pc1 : Nat} {K' : MK} {d' n idx : Nat} {As : List Value} {stk : List Value} {Qi : Option Nat → Mm → Prop} {host : String} (hE : EvA G d' K' As μ sz 0 0 (rR Qi)) (hd : decode K.2.1 pc = .ok (.invokestatic idx, 3)) (hp : pc + 3 = pc1) (hq : (K.1.cls, idx, K'.1, host) ∈ nestL) (ho : SOk K' n) (hn : As.length = n) (hst : As.reverse ++ st = stk) (hcat : (st.map fun v => v.category).sum ≤ 8) (hdd : d' < d) (hml : K'.2.2.1 ≤ 15) (hk : ∀ (v : Option Nat) (μ' : Mm), Qi v μ' → Rn G d K pc1 L (va_rf v :: st) μ' sz mc ms Q) : Rn G d K pc L stk μ sz mc ms Q := by
  subst hp
  rw [show mc = 0 + mc from (Nat.zero_add mc).symm, show ms = 0 + ms from (Nat.zero_add ms).symm]
  refine Rn.callSN hd rfl hq ho hn hst hcat hdd hml hE ?_
  rintro r μ' ⟨v, rfl, hv⟩
  exact hk v μ' hv
theorem Rn.cI {pc1 : Nat} {K' : MK} {d' n idx mc1 ms1 mc0 ms0 a : Nat} {host : String} {As : List Value} {stk : List Value} {Qi : Mm → Prop} (hE : EvA G d' K' (.ref a :: As) μ sz mc1 ms1 (rV Qi)) (hd : decode K.2.1 pc = .ok (.invokespecial idx, 3)) (hp : pc + 3 = pc1) (hq : Cond.methodLink K.1.cls idx K'.1 ∈ lwT) (hret : K'.2.2.2 = none) (ho : IOk K' n) (hn : As.length = n) (hst : As.reverse ++ .ref a :: st = stk) (hcat : (st.map fun v => v.category).sum ≤ 8) (hdd : d' < d) (hml : K'.2.2.1 ≤ 15) (hm : mc0 = mc1 + mc) (hs : ms0 = ms1 + ms) (hk : ∀ (μ' : Mm), Qi μ' → Rn G d K pc1 L st μ' (sz + mc1) mc ms Q) : Rn G d K pc L stk μ sz mc0 ms0 Q := by
  subst hp
  subst hm
  subst hs
  refine Rn.callI hd rfl hq hret ho hn hst hcat hdd hml hE ?_
  rintro r μ' ⟨rfl, hv⟩
  exact hk μ' hv
theorem Rn.cJ {pc1 : Nat} {K' : MK} {d' n idx mc1 ms1 mc0 ms0 a : Nat} {host : String} {As : List Value} {stk : List Value} {Qi : Mm → Prop} (hE : EvA G d' K' (.ref a :: As) μ sz mc1 ms1 (rV Qi)) (hd : decode K.2.1 pc = .ok (.invokespecial idx, 3)) (hp : pc + 3 = pc1) (hq : (K.1.cls, idx, K'.1, host) ∈ nestL) (hret : K'.2.2.2 = none) (ho : IOk K' n) (hn : As.length = n) (hst : As.reverse ++ .ref a :: st = stk) (hcat : (st.map fun v => v.category).sum ≤ 8) (hdd : d' < d) (hml : K'.2.2.1 ≤ 15) (hm : mc0 = mc1 + mc) (hs : ms0 = ms1 + ms) (hk : ∀ (μ' : Mm), Qi μ' → Rn G d K pc1 L st μ' (sz + mc1) mc ms Q) : Rn G d K pc L stk μ sz mc0 ms0 Q := by
  subst hp
  subst hm
  subst hs
  refine Rn.callIN hd rfl hq hret ho hn hst hcat hdd hml hE ?_
  rintro r μ' ⟨rfl, hv⟩
  exact hk μ' hv
end CALLS
theorem nI_mul (a b : Nat) : nI a * nI b = nI (a * b) := (Int32.ofNat_mul a b).symm
theorem nI_sub {a b : Nat} (h : b ≤ a) : nI a - nI b = nI (a - b) := by
  obtain ⟨c, rfl⟩ := Nat.le.dest h
  rw [← nI_add, Nat.add_sub_cancel_left, Int32.add_comm, Int32.add_sub_cancel]
theorem nI_z : (0 : Int32) = nI 0 := rfl
theorem vp_nI {i : Int32} {j n : Nat} (hi : i = nI j) (hj : j < n) (hn : n < 2 ^ 31) : vp_in i n := by rw [hi]; exact vp_in_nI hj hn
theorem gI {α : Type} {f : Nat → α} {i : Int32} {j : Nat} (hi : i = nI j) (hj : j < 2 ^ 31) : f i.toNatClampNeg = f j := by rw [hi, nI_clamp hj]
theorem updI {f : Nat → Int32} {i x : Int32} {j : Nat} (hi : i = nI j) (hj : j < 2 ^ 31) : upd f i.toNatClampNeg x = upd f j x := by rw [hi, nI_clamp hj]
theorem mget_ne {μ : Mm} {a b : Nat} {c : Cl} {x : Option Cl} (h : b ≠ a) (h2 : μ b = x) : mset μ a c b = x := (mset_ne h).trans h2
/-- nothing outside a stretch has changed -/
def Fr (a b : Nat) (μ μ' : Mm) : Prop := ∀ q, q < a ∨ b ≤ q → μ' q = μ q
theorem Fr.rf {a b : Nat} {μ : Mm} : Fr a b μ μ := fun _ _ => rfl
theorem Fr.trans {a b : Nat} {μ μ1 μ2 : Mm} (h : Fr a b μ μ1) (h2 : Fr a b μ1 μ2) : Fr a b μ μ2 := fun q hq => (h2 q hq).trans (h q hq)
theorem Fr.wide {a b a' b' : Nat} {μ μ' : Mm} (h : Fr a b μ μ') (h1 : a' ≤ a) (h2 : b ≤ b') : Fr a' b' μ μ' := fun q hq => h q (by omega)
theorem Fr.set {a b q : Nat} {μ : Mm} {c : Cl} (h1 : a ≤ q) (h2 : q < b) : Fr a b μ (mset μ q c) := fun x hx => mset_ne (by omega)
abbrev ints (n : Nat) (f : Nat → Int32) : Cl := .inl (0, n, .inl f)
abbrev bools (n : Nat) (f : Nat → Int32) : Cl := .inl (1, n, .inl f)
abbrev refs (t n : Nat) (f : Nat → Option Nat) : Cl := .inl (t, n, .inr (.inr (.inr (.inr f))))
abbrev obj (ci : Nat) (fs : List Value) : Cl := .inr (ci, fs)
/-- a truth value as an int -/
def bI (b : Bool) : Int32 := if b then 1 else 0
theorem bI_t : bI true = nI 1 := rfl
theorem bI_f : bI false = nI 0 := rfl
theorem bI_nar (b : Bool) : narrow .boolean (.int (bI b)) = .int (bI b) := by cases b <;> rfl
theorem bI_0 {b : Bool} (h : bI b = nI 0) : b = false := by cases b <;> first | rfl | exact absurd h (by decide)
theorem bI_n {b : Bool} (h : ¬ bI b = nI 0) : b = true := by cases b <;> first | rfl | exact absurd rfl h
def cpy (n : Nat) (f g : Nat → Int32) : Nat → Int32 := fun j => if j < n then f j else g j
theorem cpy_0 (f g : Nat → Int32) : cpy 0 f g = g := funext fun j => if_neg (by omega)
theorem cpy_upd (n : Nat) (f g : Nat → Int32) : upd (cpy n f g) n (f n) = cpy (n + 1) f g := by
  funext j
  unfold upd cpy
  by_cases h1 : j = n
  · subst h1; rw [if_pos rfl, if_pos (by omega)]
  · rw [if_neg h1]
    by_cases h2 : j < n
    · rw [if_pos h2, if_pos (by omega)]
    · rw [if_neg h2, if_neg (by omega)]
theorem cpy_lt {n j : Nat} {f g : Nat → Int32} (h : j < n) : cpy n f g j = f j := if_pos h
