/-! ===== memory as a function of addresses; a method's run from a frame as a predicate (Rn), a method's contract (EvA) ===== -/
abbrev MK : Type := MethodName × ByteArray × Nat × Option FieldType
abbrev Cl : Type := (Nat × vp_A) ⊕ (Nat × List Value)
abbrev Mm : Type := Nat → Option Cl
/-- launch, the classes' numbers, the array classes' numbers, the first own address, the script's address and cell -/
abbrev GG : Type := Launch × va_G × (Nat → ClassId) × Nat × Nat × Cell
abbrev gD (G : GG) : va_G := G.2.1
abbrev gA (G : GG) : Nat → ClassId := G.2.2.1
abbrev gLo (G : GG) : Nat := G.2.2.2.1
abbrev gB (G : GG) : Nat := G.2.2.2.2.1
abbrev gS (G : GG) : Cell := G.2.2.2.2.2
def trc (dA : Nat → ClassId) (c : Cl) : va_E := match c with
  | .inl a => .inl (dA a.1, a.2)
  | .inr o => .inr o
abbrev vtys (dA : Nat → ClassId) : List (ClassId × FieldType) := [(dA 0, .int), (dA 1, .int), (dA 2, .object RX6), (dA 3, .object RX3), (dA 4, .object RX5), (dA 5, .object RX4)]
def MemA (G : GG) (μ : Mm) (H : Heap) : Prop := (H[gB G]? = some (gS G) ∧ gB G < gLo G) ∧ ∀ (a : Nat) (c : Cl), μ a = some c → va_at (gD G) classes (a, trc (gA G) c) H ∧ gLo G ≤ a
def KnA (G : GG) (U : State) : Prop := va_K (gD G) classes (vtys (gA G)) U ∧ (∀ q ∈ nestL, va_Nw (.methodLinkNest q.1 q.2.1 q.2.2.1 q.2.2.2) U) ∧ (va_AO RX6 U ∧ va_AO RX3 U ∧ va_AO RX5 U ∧ va_AO RX4 U) ∧ U.isArrayOf (gS G) .int ∧ (gS G).vm ≠ .unknown
def lvh (ls : Array Slot) (n : Nat) (L : List (Option Value)) : Prop := L.length = n ∧ ls.size = n ∧ lv_wf ls ∧ ∀ (i : Nat) (v : Value), L[i]? = some (some v) → ls[i]? = some (.val v)
def CtxA (G : GG) (d : Nat) (K : MK) (p : Program) (R : Room) (s : State) (m : MethodId) (args : Array Value) (meth : Method) (c : Code) : Prop :=
  (p.tables.exec = Jvm.exec ∧ c.code = K.2.1 ∧ c.maxLocals = K.2.2.1 ∧ s.vm.findClass K.1.cls = some m.cls ∧ ∀ w ∈ lwT, w.before args s = true) ∧ (meth.sig.returnType = K.2.2.2 ∧ meth.locks = false ∧ (K.1.name = "<init>" → meth.name = K.1.name)) ∧ KnA G s ∧ gLo G ≤ s.heap.size ∧ d ≤ R.frames ∧ 34 * d ≤ R.locals
def RetA (K : MK) (pc : Nat) (r : Option Value) : Prop := match r with
  | none => K.2.2.2 = none ∧ decode K.2.1 pc = .ok (.return_, 1)
  | some (.int v) => ∃ ty, K.2.2.2 = some ty ∧ narrow ty (.int v) = .int v ∧ decode K.2.1 pc = .ok (.ireturn, 1)
  | some .null => ∃ C, K.2.2.2 = some (.object C) ∧ decode K.2.1 pc = .ok (.areturn, 1)
  | some (.ref _) => ∃ C, K.2.2.2 = some (.object C) ∧ decode K.2.1 pc = .ok (.areturn, 1)
  | _ => False
abbrev own (G : GG) : Nat → Prop := fun q => gLo G ≤ q
def EndA (G : GG) (K : MK) (p : Program) (e : Env) (R : Room) (s : State) (m : MethodId) (args : Array Value) (below : List Frame) (meth : Method) (c : Code) (szF : Nat) (Q : Option Value → Mm → Prop) (Z : State → Prop) : Prop :=
  ∀ (r : Option Value) (μ' : Mm) (H' : Heap) (locs' : List Loc) (pc' : Nat) (ls' : Array Slot), Q r μ' → MemA G μ' H' → H'.size = szF → va_S (own G) s.heap H' locs' → RetA K pc' r → W p G.1 e R s m args below meth c H' locs' R.cells R.slots Z (F0 m pc' ls' r.toList)
def Rn (G : GG) (d : Nat) (K : MK) (pc : Nat) (L : List (Option Value)) (st : List Value) (μ : Mm) (sz mc ms : Nat) (Q : Option Value → Mm → Prop) : Prop :=
  ∀ (p : Program) (e : Env) (R : Room) (s : State) (m : MethodId) (args : Array Value) (below : List Frame) (meth : Method) (c : Code) (H : Heap) (locs : List Loc) (cells slots : Nat) (ls : Array Slot) (Z : State → Prop),
    CtxA G d K p R s m args meth c → lvh ls K.2.2.1 L → MemA G μ H → H.size = sz → va_S (own G) s.heap H locs → cells + mc ≤ R.cells → slots + ms ≤ R.slots → EndA G K p e R s m args below meth c (sz + mc) Q Z → W p G.1 e R s m args below meth c H locs cells slots Z (F0 m pc ls st)
def QcA (G : GG) (szF : Nat) (Q : Option Value → Mm → Prop) : Array Value → State → Outcome → State → Prop := fun _ st oc t => ∃ (r : Option Value) (μ' : Mm), oc = .returned r ∧ Q r μ' ∧ MemA G μ' t.heap ∧ t.heap.size = szF ∧ va_F (own G) st t
def PcA (G : GG) (av : List Value) (μ : Mm) (sz : Nat) : Array Value → State → Prop := va_Pc av (fun U => U.heap.size = sz ∧ MemA G μ U.heap ∧ KnA G U)
def EvA (G : GG) (d : Nat) (K : MK) (av : List Value) (μ : Mm) (sz mc ms : Nat) (Q : Option Value → Mm → Prop) : Prop :=
  gLo G ≤ sz → Met G.1 K.1 (.code K.1 K.2.1 K.2.2.1 K.2.2.2 :: lwT) ({ frames := d, cells := mc, slots := ms, locals := 34 * d }) (PcA G av μ sz) (QcA G (sz + mc) Q) mc ms (own G)
-- answers by their kinds
abbrev rI (Q : Int32 → Mm → Prop) : Option Value → Mm → Prop := fun r μ => ∃ v : Int32, r = some (.int v) ∧ Q v μ
abbrev rV (Q : Mm → Prop) : Option Value → Mm → Prop := fun r μ => r = none ∧ Q μ
abbrev rR (Q : Option Nat → Mm → Prop) : Option Value → Mm → Prop := fun r μ => ∃ o : Option Nat, r = some (va_rf o) ∧ Q o μ
-- memory
def mset (μ : Mm) (a : Nat) (c : Cl) : Mm := fun q => if q = a then some c else μ q
theorem mset_same {μ : Mm} {a : Nat} {c : Cl} : mset μ a c a = some c := if_pos rfl
theorem mset_ne {μ : Mm} {a b : Nat} {c : Cl} (h : b ≠ a) : mset μ a c b = μ b := if_neg h
theorem mset_mset {μ : Mm} {a : Nat} {c c' : Cl} : mset (mset μ a c) a c' = mset μ a c' := by
  funext q
  unfold mset
  by_cases h : q = a
  · rw [if_pos h, if_pos h]
  · rw [if_neg h, if_neg h, if_neg h]
theorem mset_id {μ : Mm} {a : Nat} {c : Cl} (h : μ a = some c) : mset μ a c = μ := by
  funext q
  unfold mset
  by_cases hq : q = a
  · rw [if_pos hq, hq, h]
  · rw [if_neg hq]
theorem MemA.set {G : GG} {μ : Mm} {H H1 : Heap} {a : Nat} {c0 c : Cl} (h : MemA G μ H) (h0 : μ a = some c0) (hc : va_at (gD G) classes (a, trc (gA G) c) H1) (oq : ∀ q : Nat, q ≠ a → H1[q]? = H[q]?) : MemA G (mset μ a c) H1 := by
  have hlo := (h.2 a c0 h0).2
  have hb := h.1.2
  refine ⟨⟨(oq _ (by omega)).trans h.1.1, hb⟩, fun q e hq => ?_⟩
  by_cases e1 : q = a
  · subst e1
    rw [mset_same] at hq
    cases hq
    exact ⟨hc, hlo⟩
  · rw [mset_ne e1] at hq
    obtain ⟨h1, h2⟩ := h.2 q e hq
    exact ⟨h1.kept (oq q e1), h2⟩
theorem MemA.push {G : GG} {μ : Mm} {H H1 : Heap} {c : Cl} (h : MemA G μ H) (hlo : gLo G ≤ H.size) (hc : va_at (gD G) classes (H.size, trc (gA G) c) H1) (oq : ∀ q : Nat, q < H.size → H1[q]? = H[q]?) : MemA G (mset μ H.size c) H1 := by
  have hb := h.1.2
  refine ⟨⟨(oq _ (by omega)).trans h.1.1, hb⟩, fun q e hq => ?_⟩
  by_cases e1 : q = H.size
  · subst e1
    rw [mset_same] at hq
    cases hq
    exact ⟨hc, hlo⟩
  · rw [mset_ne e1] at hq
    obtain ⟨h1, h2⟩ := h.2 q e hq
    exact ⟨h1.kept (oq q h1.lt), h2⟩
theorem MemA.lt {G : GG} {μ : Mm} {H : Heap} {a : Nat} {c : Cl} (h : MemA G μ H) (ha : μ a = some c) : a < H.size := (h.2 a c ha).1.lt
theorem KnA.alike {G : GG} {s U : State} (h : KnA G s) (hW : s.WarmedH U.vm) : KnA G U := by
  obtain ⟨h1, h2, ⟨h3, h4, h5, h6⟩, h7, h8⟩ := h
  exact ⟨va_K.moved hW.alike h1, fun q hq => va_Nw.warmM hW (h2 q hq), ⟨h3.moved hW.alike, h4.moved hW.alike, h5.moved hW.alike, h6.moved hW.alike⟩, State.isArrayOf_alike hW.alike h7, h8⟩
theorem KnA.same {G : GG} {s U : State} (h : KnA G s) (hv : s.vm = U.vm) : KnA G U := by
  obtain ⟨h1, h2, ⟨h3, h4, h5, h6⟩, h7, h8⟩ := h
  have hA : s.vm.Alike U.vm := by rw [hv]; exact Vm.Alike.refl U.vm
  exact ⟨va_K.moved hA h1, fun q hq => va_Nw.same rfl hv (h2 q hq), ⟨h3.moved hA, h4.moved hA, h5.moved hA, h6.moved hA⟩, State.isArrayOf_alike hA h7, h8⟩
theorem PcA.blind {G : GG} {av : List Value} {μ : Mm} {sz : Nat} : FrameBlind (PcA G av μ sz) := fun a U g mk ⟨h1, h2, h3, h4⟩ => ⟨h1, h2, h3, h4.same rfl⟩
theorem PcA.at {G : GG} {av : List Value} {μ : Mm} {sz : Nat} {s U : State} {H : Heap} (hK : KnA G s) (hM : MemA G μ H) (hz : H.size = sz) (hU : U.heap = H) (hW : s.WarmedH U.vm) : PcA G av μ sz av.toArray U := ⟨rfl, by rw [hU]; exact hz, by rw [hU]; exact hM, hK.alike hW⟩
-- locals
def entL : List Value → List (Option Value)
  | [] => []
  | v :: vs => if v.category = 2 then some v :: none :: entL vs else some v :: entL vs
def ent (av : List Value) (n : Nat) : List (Option Value) := entL av ++ List.replicate (n - (entL av).length) none
theorem entL_len (vs : List Value) : (entL vs).length = (lg_sl vs).length := by
  induction vs with
  | nil => rfl
  | cons v t ih =>
    by_cases h : v.category = 2 <;> simp [entL, lg_sl, h] at ih ⊢ <;> omega
theorem entL_args (vs : List Value) : ∀ (k i : Nat) (v : Value), (entL vs)[i]? = some (some v) → (k + i, v) ∈ lv_args k vs := by
  induction vs with
  | nil => intro k i v h; simp [entL] at h
  | cons w t ih =>
    intro k i v h
    by_cases hc : w.category = 2
    · simp only [entL, hc, if_true] at h
      simp only [lv_args, hc, if_true]
      match i, h with
      | 0, h => simp at h; subst h; exact List.mem_cons_self
      | 1, h => simp at h
      | i + 2, h =>
        have := ih (k + 2) i v (by simpa using h)
        exact List.mem_cons_of_mem _ (by rw [show k + (i + 2) = k + 2 + i by omega]; exact this)
    · simp only [entL, hc, if_false] at h
      simp only [lv_args, hc, if_false]
      match i, h with
      | 0, h => simp at h; subst h; exact List.mem_cons_self
      | i + 1, h =>
        have := ih (k + 1) i v (by simpa using h)
        exact List.mem_cons_of_mem _ (by rw [show k + (i + 1) = k + 1 + i by omega]; exact this)
theorem lvh.entry (vs : List Value) {n : Nat} (h : (lg_sl vs).length ≤ n) : lvh ((lg_sl vs ++ List.replicate (n - (lg_sl vs).length) Slot.unset).toArray) n (ent vs n) := by
  obtain ⟨h1, h2, h3⟩ := lv_entry vs h
  refine ⟨by unfold ent; rw [List.length_append, List.length_replicate, entL_len]; omega, h1, h2, fun i v hi => ?_⟩
  have hi2 : (entL vs)[i]? = some (some v) := by
    unfold ent at hi
    by_cases hl : i < (entL vs).length
    · rw [List.getElem?_append_left hl] at hi
      exact hi
    · rw [List.getElem?_append_right (by omega)] at hi
      have := List.mem_of_getElem? hi
      rw [List.mem_replicate] at this
      cases this.2
  have := entL_args vs 0 i v hi2
  rw [Nat.zero_add] at this
  exact h3 (i, v) this
def okst (L : List (Option Value)) (i : Nat) : Bool := match L[i - 1]? with
  | some (some w) => w.category == 1
  | _ => true
theorem lvh.store {ls : Array Slot} {n : Nat} {L : List (Option Value)} {i : Nat} {v : Value} (h : lvh ls n L) (hi : i < n) (hc : v.category = 1) (ho : okst L i = true) : ∃ ls', storeLocals ls i v = some ls' ∧ lvh ls' n (L.set i (some v)) := by
  obtain ⟨h1, h2, h3, h4⟩ := h
  have key : ∀ l : List (Nat × Value), lv_has ls n l → ∃ ls', storeLocals ls i v = some ls' ∧ lv_has ls' n ((i, v) :: l.filter (fun q => !(q.1 == i) && !(q.1 + 1 == i && q.2.category == 2))) := fun l hl => lv_store1 hl hi hc
  obtain ⟨ls', e1, h5, h6, h7⟩ := key [] ⟨h2, h3, fun q hq => absurd hq List.not_mem_nil⟩
  refine ⟨ls', e1, by rw [List.length_set]; exact h1, h5, h6, fun j w hj => ?_⟩
  by_cases hji : j = i
  · subst hji
    rw [List.getElem?_set_self (by omega)] at hj
    cases hj
    exact h7 (j, v) List.mem_cons_self
  · rw [List.getElem?_set_ne (Ne.symm hji)] at hj
    have hw := h4 j w hj
    obtain ⟨ls2, e2, -, -, h8⟩ := key [(j, w)] ⟨h2, h3, fun q hq => by rw [List.mem_singleton.mp hq]; exact hw⟩
    have e3 : ls' = ls2 := Option.some.inj (e1.symm.trans e2)
    subst e3
    refine h8 (j, w) (List.mem_cons_of_mem _ (List.mem_filter.mpr ⟨List.mem_singleton.mpr rfl, ?_⟩))
    simp only [Bool.and_eq_true, Bool.not_eq_true', beq_eq_false_iff_ne, ne_eq, Bool.and_eq_false_iff]
    refine ⟨hji, ?_⟩
    by_cases hj1 : j + 1 = i
    · right
      have e4 : i - 1 = j := by omega
      unfold okst at ho
      rw [e4, hj] at ho
      have : w.category = 1 := by simpa using ho
      omega
    · exact Or.inl hj1
def lmask : List Bool → List (Option Value) → List (Option Value)
  | b :: bs, o :: L => (if b then o else none) :: lmask bs L
  | _, L => L
theorem lmask_len : ∀ (bs : List Bool) (L : List (Option Value)), (lmask bs L).length = L.length
  | [], L => by simp [lmask]
  | _ :: _, [] => by simp [lmask]
  | b :: bs, o :: L => by simp [lmask, lmask_len bs L]
theorem lmask_get : ∀ (bs : List Bool) (L : List (Option Value)) (i : Nat) (v : Value), (lmask bs L)[i]? = some (some v) → L[i]? = some (some v)
  | [], L, i, v, h => by simpa [lmask] using h
  | _ :: _, [], i, v, h => by simp [lmask] at h
  | b :: bs, o :: L, i, v, h => by
    cases i with
    | zero =>
      cases b
      · simp [lmask] at h
      · simpa [lmask] using h
    | succ i =>
      have := lmask_get bs L i v (by simpa [lmask] using h)
      simpa using this
theorem lvh.mask {ls : Array Slot} {n : Nat} {L : List (Option Value)} (bs : List Bool) (h : lvh ls n L) : lvh ls n (lmask bs L) := ⟨by rw [lmask_len]; exact h.1, h.2.1, h.2.2.1, fun i v hi => h.2.2.2 i v (lmask_get bs L i v hi)⟩
/-! ===== from a run to a contract ===== -/
theorem EvA.of {G : GG} {d : Nat} {K : MK} {av : List Value} {μ : Mm} {sz mc ms : Nat} {Q : Option Value → Mm → Prop} (hp : plainName K.1.cls = true) (hn : (lg_sl av).length ≤ K.2.2.1) {L : List (Option Value)} (hL : ent av K.2.2.1 = L) (h : Rn G d K 0 L [] μ sz mc ms Q) : EvA G d K av μ sz mc ms Q := by
  intro hlo
  refine Met.ofW (cc := K.2.1) (maxL := K.2.2.1) (ret := K.2.2.2) hp rfl ?_
  intro p e s m args below meth c s₁ B hml hv
  obtain ⟨rfl, hsz, hM, hK⟩ := hv
  have hts0 := atoms_spec (ws := Cond.code K.1 K.2.1 K.2.2.1 K.2.2.2 :: lwT) B.pre
  have hl := lvh.entry av hn
  rw [hL] at hl
  rw [lg_entry_eq]
  refine h p e _ s m _ below meth c s.heap [] 0 0 _ _ ⟨⟨B.exec, B.bytes, hml, findClass_of_methodNamed B.named, fun w hw => hts0 w (List.mem_cons_of_mem _ hw)⟩, ⟨B.returns, B.notSynchronized, fun _ => (name_of_methodNamed B.named B.method).1⟩, hK, by omega, Nat.le_refl _, Nat.le_refl _⟩ hl hM hsz va_S.rf (Nat.le_of_eq (Nat.zero_add _)) (Nat.le_of_eq (Nat.zero_add _)) ?_
  intro r μ' H' locs' pc' ls' hQ hM' hz' hS' hR
  have hlocks := B.notSynchronized
  have hq : ∀ t : State, t.heap = H' → s.WarmedH t.vm → QcA G (sz + mc) Q av.toArray s (.returned r) t := fun t ht _ => ⟨r, μ', rfl, hQ, by rw [ht]; exact hM', by rw [ht]; exact hz', hS'.F ht⟩
  match r, hQ, hR, hq with
  | none, hQ, hR, hq => exact W.vret B.exec B.bytes (B.returns.trans hR.1) hq hS'.2.2 hR.2 hlocks
  | some (.int v), hQ, hR, hq =>
    obtain ⟨ty, r1, r2, r3⟩ := hR
    exact W.zret B.exec B.bytes (B.returns.trans r1) r2 hq hS'.2.2 r3 hlocks
  | some .null, hQ, hR, hq =>
    obtain ⟨C, r1, r3⟩ := hR
    exact W.aret B.exec B.bytes (B.returns.trans r1) (Or.inl ⟨_, rfl⟩) (Or.inl rfl) hq hS'.2.2 r3 hlocks
  | some (.ref a), hQ, hR, hq =>
    obtain ⟨C, r1, r3⟩ := hR
    exact W.aret B.exec B.bytes (B.returns.trans r1) (Or.inl ⟨_, rfl⟩) (Or.inr ⟨a, rfl⟩) hq hS'.2.2 r3 hlocks
theorem EvA.imp {G : GG} {d : Nat} {K : MK} {av : List Value} {μ : Mm} {sz mc ms : Nat} {Q Q' : Option Value → Mm → Prop} (h : EvA G d K av μ sz mc ms Q) (hQ : ∀ r μ', Q r μ' → Q' r μ') : EvA G d K av μ sz mc ms Q' := by
  intro hlo p e ha hc hk s m args below hf hpre hP hk2
  obtain ⟨k, o, h1, h2, h3, ⟨r, μ', q1, q2, q3⟩, q4⟩ := h hlo p e ha hc hk s m args below hf hpre hP hk2
  exact ⟨k, o, h1, h2, h3, ⟨r, μ', q1, hQ _ _ q2, q3⟩, q4⟩
