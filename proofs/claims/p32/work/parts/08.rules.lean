theorem lwG {w : Cond} (hw : w ∈ lwT) : GoodIn lwT (w :: lwT) := fun z hz => (List.mem_cons.mp hz).elim (fun e => e ▸ lwT_good w hw) (lwT_good z)
section RULES
variable {G : GG} {d : Nat} {K : MK} {pc : Nat} {L : List (Option Value)} {st : List Value} {μ : Mm} {sz mc ms : Nat} {Q : Option Value → Mm → Prop}
theorem Rn.iconst {pc1 : Nat} {n : Int} {v : Int32} (hd : decode K.2.1 pc = .ok (.iconst n, 1)) (hp : pc + 1 = pc1) (hv : Int32.ofInt n = v) (h : Rn G d K pc1 L (.int v :: st) μ sz mc ms Q) : Rn G d K (pc) L (st) μ sz mc ms Q := by
  subst hp
  intro p e R s m args below meth c H locs cells slots ls Z C hl hM hz hS hc hs hE
  exact lv_iconst C.1.1 C.1.2.1 hd hv (h p e R s m args below meth c H locs cells slots ls Z C hl hM hz hS hc hs hE)
theorem Rn.bipush {pc1 : Nat} {n : Int} {v : Int32} (hd : decode K.2.1 pc = .ok (.bipush n, 2)) (hp : pc + 2 = pc1) (hv : (Int8.ofInt n).toInt32 = v) (h : Rn G d K pc1 L (.int v :: st) μ sz mc ms Q) : Rn G d K (pc) L (st) μ sz mc ms Q := by
  subst hp
  intro p e R s m args below meth c H locs cells slots ls Z C hl hM hz hS hc hs hE
  exact lv_bipush C.1.1 C.1.2.1 hd hv (h p e R s m args below meth c H locs cells slots ls Z C hl hM hz hS hc hs hE)
theorem Rn.sipush {pc1 : Nat} {n : Int} {v : Int32} (hd : decode K.2.1 pc = .ok (.sipush n, 3)) (hp : pc + 3 = pc1) (hv : (Int16.ofInt n).toInt32 = v) (h : Rn G d K pc1 L (.int v :: st) μ sz mc ms Q) : Rn G d K (pc) L (st) μ sz mc ms Q := by
  subst hp
  intro p e R s m args below meth c H locs cells slots ls Z C hl hM hz hS hc hs hE
  exact lv_sipush C.1.1 C.1.2.1 hd hv (h p e R s m args below meth c H locs cells slots ls Z C hl hM hz hS hc hs hE)
theorem Rn.null {pc1 : Nat}  (hd : decode K.2.1 pc = .ok (.aconst_null, 1)) (hp : pc + 1 = pc1)  (h : Rn G d K pc1 L (.null :: st) μ sz mc ms Q) : Rn G d K (pc) L (st) μ sz mc ms Q := by
  subst hp
  intro p e R s m args below meth c H locs cells slots ls Z C hl hM hz hS hc hs hE
  exact lv_null C.1.1 C.1.2.1 hd  (h p e R s m args below meth c H locs cells slots ls Z C hl hM hz hS hc hs hE)
theorem Rn.iload_n {pc1 : Nat} {k : Fin 4} {i : Nat} {x : Int32} (hd : decode K.2.1 pc = .ok (.iload_n k, 1)) (hp : pc + 1 = pc1) (hi : (k : Nat) = i) (hL : L[i]? = some (some (.int x))) (h : Rn G d K pc1 L (.int x :: st) μ sz mc ms Q) : Rn G d K (pc) L (st) μ sz mc ms Q := by
  subst hp
  intro p e R s m args below meth c H locs cells slots ls Z C hl hM hz hS hc hs hE
  exact lv_iload_n C.1.1 C.1.2.1 hd hi (hl.2.2.2 _ _ hL) (h p e R s m args below meth c H locs cells slots ls Z C hl hM hz hS hc hs hE)
theorem Rn.iload {pc1 : Nat} {i : Nat} {x : Int32} (hd : decode K.2.1 pc = .ok (.iload i, 2)) (hp : pc + 2 = pc1) (hL : L[i]? = some (some (.int x))) (h : Rn G d K pc1 L (.int x :: st) μ sz mc ms Q) : Rn G d K (pc) L (st) μ sz mc ms Q := by
  subst hp
  intro p e R s m args below meth c H locs cells slots ls Z C hl hM hz hS hc hs hE
  exact lv_iload C.1.1 C.1.2.1 hd (hl.2.2.2 _ _ hL) (h p e R s m args below meth c H locs cells slots ls Z C hl hM hz hS hc hs hE)
theorem Rn.aload_n {pc1 : Nat} {k : Fin 4} {i : Nat} {x : Nat} (hd : decode K.2.1 pc = .ok (.aload_n k, 1)) (hp : pc + 1 = pc1) (hi : (k : Nat) = i) (hL : L[i]? = some (some (.ref x))) (h : Rn G d K pc1 L (.ref x :: st) μ sz mc ms Q) : Rn G d K (pc) L (st) μ sz mc ms Q := by
  subst hp
  intro p e R s m args below meth c H locs cells slots ls Z C hl hM hz hS hc hs hE
  exact lv_aload_n C.1.1 C.1.2.1 hd hi (hl.2.2.2 _ _ hL) (h p e R s m args below meth c H locs cells slots ls Z C hl hM hz hS hc hs hE)
theorem Rn.aload {pc1 : Nat} {i : Nat} {x : Nat} (hd : decode K.2.1 pc = .ok (.aload i, 2)) (hp : pc + 2 = pc1) (hL : L[i]? = some (some (.ref x))) (h : Rn G d K pc1 L (.ref x :: st) μ sz mc ms Q) : Rn G d K (pc) L (st) μ sz mc ms Q := by
  subst hp
  intro p e R s m args below meth c H locs cells slots ls Z C hl hM hz hS hc hs hE
  exact lv_aload C.1.1 C.1.2.1 hd (hl.2.2.2 _ _ hL) (h p e R s m args below meth c H locs cells slots ls Z C hl hM hz hS hc hs hE)
theorem Rn.lload_n {pc1 : Nat} {k : Fin 4} {i : Nat} {x : Int64} (hd : decode K.2.1 pc = .ok (.lload_n k, 1)) (hp : pc + 1 = pc1) (hi : (k : Nat) = i) (hL : L[i]? = some (some (.long x))) (h : Rn G d K pc1 L (.long x :: st) μ sz mc ms Q) : Rn G d K (pc) L (st) μ sz mc ms Q := by
  subst hp
  intro p e R s m args below meth c H locs cells slots ls Z C hl hM hz hS hc hs hE
  exact lv_lload_n C.1.1 C.1.2.1 hd hi (hl.2.2.2 _ _ hL) (h p e R s m args below meth c H locs cells slots ls Z C hl hM hz hS hc hs hE)
theorem Rn.lload {pc1 : Nat} {i : Nat} {x : Int64} (hd : decode K.2.1 pc = .ok (.lload i, 2)) (hp : pc + 2 = pc1) (hL : L[i]? = some (some (.long x))) (h : Rn G d K pc1 L (.long x :: st) μ sz mc ms Q) : Rn G d K (pc) L (st) μ sz mc ms Q := by
  subst hp
  intro p e R s m args below meth c H locs cells slots ls Z C hl hM hz hS hc hs hE
  exact lv_lload C.1.1 C.1.2.1 hd (hl.2.2.2 _ _ hL) (h p e R s m args below meth c H locs cells slots ls Z C hl hM hz hS hc hs hE)
theorem Rn.aload_nN {pc1 : Nat} {k : Fin 4} {i : Nat} (hd : decode K.2.1 pc = .ok (.aload_n k, 1)) (hp : pc + 1 = pc1) (hi : (k : Nat) = i) (hL : L[i]? = some (some .null)) (h : Rn G d K pc1 L (.null :: st) μ sz mc ms Q) : Rn G d K (pc) L (st) μ sz mc ms Q := by
  subst hp
  intro p e R s m args below meth c H locs cells slots ls Z C hl hM hz hS hc hs hE
  exact lv_aload_nN C.1.1 C.1.2.1 hd hi (hl.2.2.2 _ _ hL) (h p e R s m args below meth c H locs cells slots ls Z C hl hM hz hS hc hs hE)
theorem Rn.aloadN {pc1 : Nat} {i : Nat} (hd : decode K.2.1 pc = .ok (.aload i, 2)) (hp : pc + 2 = pc1) (hL : L[i]? = some (some .null)) (h : Rn G d K pc1 L (.null :: st) μ sz mc ms Q) : Rn G d K (pc) L (st) μ sz mc ms Q := by
  subst hp
  intro p e R s m args below meth c H locs cells slots ls Z C hl hM hz hS hc hs hE
  exact lv_aloadN C.1.1 C.1.2.1 hd (hl.2.2.2 _ _ hL) (h p e R s m args below meth c H locs cells slots ls Z C hl hM hz hS hc hs hE)
theorem Rn.aload_nq {pc1 : Nat} {k : Fin 4} {i : Nat} {x : Option Nat} (hd : decode K.2.1 pc = .ok (.aload_n k, 1)) (hp : pc + 1 = pc1) (hi : (k : Nat) = i) (hL : L[i]? = some (some (va_rf x))) (h : Rn G d K pc1 L (va_rf x :: st) μ sz mc ms Q) : Rn G d K (pc) L (st) μ sz mc ms Q := by
  subst hp
  cases x with
  | none => exact Rn.aload_nN hd rfl hi hL h
  | some a => exact Rn.aload_n hd rfl hi hL h
theorem Rn.istore_n {pc1 : Nat} {k : Fin 4} {i : Nat} {x : Int32} {L' : List (Option Value)} (hd : decode K.2.1 pc = .ok (.istore_n k, 1)) (hp : pc + 1 = pc1) (hi : (k : Nat) = i) (hn : i < K.2.2.1) (ho : okst L i = true) (hL : L.set i (some (.int x)) = L') (h : Rn G d K pc1 L' (st) μ sz mc ms Q) : Rn G d K (pc) L (.int x :: st) μ sz mc ms Q := by
  subst hp
  subst hi
  intro p e R s m args below meth c H locs cells slots ls Z C hl hM hz hS hc hs hE
  obtain ⟨ls', e', h'⟩ := hl.store (v := (.int x)) hn rfl ho
  intro T hT X
  rw [hL] at h'
  obtain ⟨t, a, b⟩ := h p e R s m args below meth c H locs cells slots ls' Z C h' hM hz hS hc hs hE T hT X
  have hexec := C.1.1
  have hb := C.1.2.1
  refine ⟨t, ?_, b⟩
  jvm_step X.here [X.here.top, ↓top_set X.here.top, hexec, hb, hd, e']
  exact a
theorem Rn.istore {pc1 : Nat} {i : Nat} {x : Int32} {L' : List (Option Value)} (hd : decode K.2.1 pc = .ok (.istore i, 2)) (hp : pc + 2 = pc1) (hn : i < K.2.2.1) (ho : okst L i = true) (hL : L.set i (some (.int x)) = L') (h : Rn G d K pc1 L' (st) μ sz mc ms Q) : Rn G d K (pc) L (.int x :: st) μ sz mc ms Q := by
  subst hp
  intro p e R s m args below meth c H locs cells slots ls Z C hl hM hz hS hc hs hE
  obtain ⟨ls', e', h'⟩ := hl.store (v := (.int x)) hn rfl ho
  intro T hT X
  rw [hL] at h'
  obtain ⟨t, a, b⟩ := h p e R s m args below meth c H locs cells slots ls' Z C h' hM hz hS hc hs hE T hT X
  have hexec := C.1.1
  have hb := C.1.2.1
  refine ⟨t, ?_, b⟩
  jvm_step X.here [X.here.top, ↓top_set X.here.top, hexec, hb, hd, e']
  exact a
theorem Rn.astore_n {pc1 : Nat} {k : Fin 4} {i : Nat} {x : Nat} {L' : List (Option Value)} (hd : decode K.2.1 pc = .ok (.astore_n k, 1)) (hp : pc + 1 = pc1) (hi : (k : Nat) = i) (hn : i < K.2.2.1) (ho : okst L i = true) (hL : L.set i (some (.ref x)) = L') (h : Rn G d K pc1 L' (st) μ sz mc ms Q) : Rn G d K (pc) L (.ref x :: st) μ sz mc ms Q := by
  subst hp
  subst hi
  intro p e R s m args below meth c H locs cells slots ls Z C hl hM hz hS hc hs hE
  obtain ⟨ls', e', h'⟩ := hl.store (v := (.ref x)) hn rfl ho
  intro T hT X
  rw [hL] at h'
  obtain ⟨t, a, b⟩ := h p e R s m args below meth c H locs cells slots ls' Z C h' hM hz hS hc hs hE T hT X
  have hexec := C.1.1
  have hb := C.1.2.1
  refine ⟨t, ?_, b⟩
  jvm_step X.here [X.here.top, ↓top_set X.here.top, hexec, hb, hd, e', Value.isRef]
  exact a
theorem Rn.astore {pc1 : Nat} {i : Nat} {x : Nat} {L' : List (Option Value)} (hd : decode K.2.1 pc = .ok (.astore i, 2)) (hp : pc + 2 = pc1) (hn : i < K.2.2.1) (ho : okst L i = true) (hL : L.set i (some (.ref x)) = L') (h : Rn G d K pc1 L' (st) μ sz mc ms Q) : Rn G d K (pc) L (.ref x :: st) μ sz mc ms Q := by
  subst hp
  intro p e R s m args below meth c H locs cells slots ls Z C hl hM hz hS hc hs hE
  obtain ⟨ls', e', h'⟩ := hl.store (v := (.ref x)) hn rfl ho
  intro T hT X
  rw [hL] at h'
  obtain ⟨t, a, b⟩ := h p e R s m args below meth c H locs cells slots ls' Z C h' hM hz hS hc hs hE T hT X
  have hexec := C.1.1
  have hb := C.1.2.1
  refine ⟨t, ?_, b⟩
  jvm_step X.here [X.here.top, ↓top_set X.here.top, hexec, hb, hd, e', Value.isRef]
  exact a
theorem Rn.astore_nN {pc1 : Nat} {k : Fin 4} {i : Nat} {L' : List (Option Value)} (hd : decode K.2.1 pc = .ok (.astore_n k, 1)) (hp : pc + 1 = pc1) (hi : (k : Nat) = i) (hn : i < K.2.2.1) (ho : okst L i = true) (hL : L.set i (some (.null)) = L') (h : Rn G d K pc1 L' (st) μ sz mc ms Q) : Rn G d K (pc) L (.null :: st) μ sz mc ms Q := by
  subst hp
  subst hi
  intro p e R s m args below meth c H locs cells slots ls Z C hl hM hz hS hc hs hE
  obtain ⟨ls', e', h'⟩ := hl.store (v := (.null)) hn rfl ho
  intro T hT X
  rw [hL] at h'
  obtain ⟨t, a, b⟩ := h p e R s m args below meth c H locs cells slots ls' Z C h' hM hz hS hc hs hE T hT X
  have hexec := C.1.1
  have hb := C.1.2.1
  refine ⟨t, ?_, b⟩
  jvm_step X.here [X.here.top, ↓top_set X.here.top, hexec, hb, hd, e', Value.isRef]
  exact a
theorem Rn.astoreN {pc1 : Nat} {i : Nat} {L' : List (Option Value)} (hd : decode K.2.1 pc = .ok (.astore i, 2)) (hp : pc + 2 = pc1) (hn : i < K.2.2.1) (ho : okst L i = true) (hL : L.set i (some (.null)) = L') (h : Rn G d K pc1 L' (st) μ sz mc ms Q) : Rn G d K (pc) L (.null :: st) μ sz mc ms Q := by
  subst hp
  intro p e R s m args below meth c H locs cells slots ls Z C hl hM hz hS hc hs hE
  obtain ⟨ls', e', h'⟩ := hl.store (v := (.null)) hn rfl ho
  intro T hT X
  rw [hL] at h'
  obtain ⟨t, a, b⟩ := h p e R s m args below meth c H locs cells slots ls' Z C h' hM hz hS hc hs hE T hT X
  have hexec := C.1.1
  have hb := C.1.2.1
  refine ⟨t, ?_, b⟩
  jvm_step X.here [X.here.top, ↓top_set X.here.top, hexec, hb, hd, e', Value.isRef]
  exact a
theorem Rn.astore_nq {pc1 : Nat} {k : Fin 4} {i : Nat} {x : Option Nat} {L' : List (Option Value)} (hd : decode K.2.1 pc = .ok (.astore_n k, 1)) (hp : pc + 1 = pc1) (hi : (k : Nat) = i) (hn : i < K.2.2.1) (ho : okst L i = true) (hL : L.set i (some (va_rf x)) = L') (h : Rn G d K pc1 L' (st) μ sz mc ms Q) : Rn G d K (pc) L (va_rf x :: st) μ sz mc ms Q := by
  subst hp
  cases x with
  | none => exact Rn.astore_nN hd rfl hi hn ho hL h
  | some a => exact Rn.astore_n hd rfl hi hn ho hL h
theorem Rn.iinc {pc1 : Nat} {i : Nat} {n : Int} {x v : Int32} {L' : List (Option Value)} (hd : decode K.2.1 pc = .ok (.iinc i n, 3)) (hp : pc + 3 = pc1) (hx : L[i]? = some (some (.int x))) (hv : x + Int32.ofInt n = v) (hn : i < K.2.2.1) (ho : okst L i = true) (hL : L.set i (some (.int v)) = L') (h : Rn G d K pc1 L' (st) μ sz mc ms Q) : Rn G d K (pc) L (st) μ sz mc ms Q := by
  subst hp
  subst hv
  intro p e R s m args below meth c H locs cells slots ls Z C hl hM hz hS hc hs hE
  have hg := hl.2.2.2 _ _ hx
  obtain ⟨ls', e', h'⟩ := hl.store (v := (.int (x + Int32.ofInt n))) hn rfl ho
  intro T hT X
  rw [hL] at h'
  obtain ⟨t, a, b⟩ := h p e R s m args below meth c H locs cells slots ls' Z C h' hM hz hS hc hs hE T hT X
  have hexec := C.1.1
  have hb := C.1.2.1
  refine ⟨t, ?_, b⟩
  jvm_step X.here [X.here.top, ↓top_set X.here.top, hexec, hb, hd, hg, e']
  exact a
theorem Rn.iadd {pc1 : Nat} {x y v : Int32} (hd : decode K.2.1 pc = .ok (.iadd, 1)) (hp : pc + 1 = pc1) (hv : x + y = v) (h : Rn G d K pc1 L (.int v :: st) μ sz mc ms Q) : Rn G d K (pc) L (.int y :: .int x :: st) μ sz mc ms Q := by
  subst hp
  subst hv
  intro p e R s m args below meth c H locs cells slots ls Z C hl hM hz hS hc hs hE
  exact lv_iadd C.1.1 C.1.2.1 hd (h p e R s m args below meth c H locs cells slots ls Z C hl hM hz hS hc hs hE)
theorem Rn.isub {pc1 : Nat} {x y v : Int32} (hd : decode K.2.1 pc = .ok (.isub, 1)) (hp : pc + 1 = pc1) (hv : x - y = v) (h : Rn G d K pc1 L (.int v :: st) μ sz mc ms Q) : Rn G d K (pc) L (.int y :: .int x :: st) μ sz mc ms Q := by
  subst hp
  subst hv
  intro p e R s m args below meth c H locs cells slots ls Z C hl hM hz hS hc hs hE
  exact lv_isub C.1.1 C.1.2.1 hd (h p e R s m args below meth c H locs cells slots ls Z C hl hM hz hS hc hs hE)
theorem Rn.imul {pc1 : Nat} {x y v : Int32} (hd : decode K.2.1 pc = .ok (.imul, 1)) (hp : pc + 1 = pc1) (hv : x * y = v) (h : Rn G d K pc1 L (.int v :: st) μ sz mc ms Q) : Rn G d K (pc) L (.int y :: .int x :: st) μ sz mc ms Q := by
  subst hp
  subst hv
  intro p e R s m args below meth c H locs cells slots ls Z C hl hM hz hS hc hs hE
  exact lv_imul C.1.1 C.1.2.1 hd (h p e R s m args below meth c H locs cells slots ls Z C hl hM hz hS hc hs hE)
theorem Rn.ior {pc1 : Nat} {x y v : Int32} (hd : decode K.2.1 pc = .ok (.ior, 1)) (hp : pc + 1 = pc1) (hv : (x ||| y) = v) (h : Rn G d K pc1 L (.int v :: st) μ sz mc ms Q) : Rn G d K (pc) L (.int y :: .int x :: st) μ sz mc ms Q := by
  subst hp
  subst hv
  intro p e R s m args below meth c H locs cells slots ls Z C hl hM hz hS hc hs hE
  exact lv_ior C.1.1 C.1.2.1 hd (h p e R s m args below meth c H locs cells slots ls Z C hl hM hz hS hc hs hE)
theorem Rn.iand {pc1 : Nat} {x y v : Int32} (hd : decode K.2.1 pc = .ok (.iand, 1)) (hp : pc + 1 = pc1) (hv : (x &&& y) = v) (h : Rn G d K pc1 L (.int v :: st) μ sz mc ms Q) : Rn G d K (pc) L (.int y :: .int x :: st) μ sz mc ms Q := by
  subst hp
  subst hv
  intro p e R s m args below meth c H locs cells slots ls Z C hl hM hz hS hc hs hE
  exact lv_iand C.1.1 C.1.2.1 hd (h p e R s m args below meth c H locs cells slots ls Z C hl hM hz hS hc hs hE)
theorem Rn.ishl {pc1 : Nat} {x y v : Int32} (hd : decode K.2.1 pc = .ok (.ishl, 1)) (hp : pc + 1 = pc1) (hv : x <<< (y &&& 31) = v) (h : Rn G d K pc1 L (.int v :: st) μ sz mc ms Q) : Rn G d K (pc) L (.int y :: .int x :: st) μ sz mc ms Q := by
  subst hp
  subst hv
  intro p e R s m args below meth c H locs cells slots ls Z C hl hM hz hS hc hs hE
  exact lv_ishl C.1.1 C.1.2.1 hd (h p e R s m args below meth c H locs cells slots ls Z C hl hM hz hS hc hs hE)
theorem Rn.idiv {pc1 : Nat} {x y v : Int32} (hd : decode K.2.1 pc = .ok (.idiv, 1)) (hp : pc + 1 = pc1) (hne : ¬ y = 0) (hv : x / y = v) (h : Rn G d K pc1 L (.int v :: st) μ sz mc ms Q) : Rn G d K (pc) L (.int y :: .int x :: st) μ sz mc ms Q := by
  subst hp
  subst hv
  intro p e R s m args below meth c H locs cells slots ls Z C hl hM hz hS hc hs hE
  exact lv_idiv C.1.1 C.1.2.1 hd hne (h p e R s m args below meth c H locs cells slots ls Z C hl hM hz hS hc hs hE)
theorem Rn.irem {pc1 : Nat} {x y v : Int32} (hd : decode K.2.1 pc = .ok (.irem, 1)) (hp : pc + 1 = pc1) (hne : ¬ y = 0) (hv : x - x / y * y = v) (h : Rn G d K pc1 L (.int v :: st) μ sz mc ms Q) : Rn G d K (pc) L (.int y :: .int x :: st) μ sz mc ms Q := by
  subst hp
  subst hv
  intro p e R s m args below meth c H locs cells slots ls Z C hl hM hz hS hc hs hE
  exact lv_irem C.1.1 C.1.2.1 hd hne (h p e R s m args below meth c H locs cells slots ls Z C hl hM hz hS hc hs hE)
theorem Rn.ishr {pc1 : Nat} {x y v : Int32} (hd : decode K.2.1 pc = .ok (.ishr, 1)) (hp : pc + 1 = pc1) (hv : x >>> (y &&& 31) = v) (h : Rn G d K pc1 L (.int v :: st) μ sz mc ms Q) : Rn G d K (pc) L (.int y :: .int x :: st) μ sz mc ms Q := by
  subst hp
  subst hv
  intro p e R s m args below meth c H locs cells slots ls Z C hl hM hz hS hc hs hE
  exact lv_ishr C.1.1 C.1.2.1 hd (h p e R s m args below meth c H locs cells slots ls Z C hl hM hz hS hc hs hE)
theorem Rn.i2l {pc1 : Nat} {x : Int32} {v : Int64} (hd : decode K.2.1 pc = .ok (.i2l, 1)) (hp : pc + 1 = pc1) (hv : x.toInt64 = v) (h : Rn G d K pc1 L (.long v :: st) μ sz mc ms Q) : Rn G d K (pc) L (.int x :: st) μ sz mc ms Q := by
  subst hp
  intro p e R s m args below meth c H locs cells slots ls Z C hl hM hz hS hc hs hE
  exact lv_i2l C.1.1 C.1.2.1 hd hv (h p e R s m args below meth c H locs cells slots ls Z C hl hM hz hS hc hs hE)
theorem Rn.l2i {pc1 : Nat} {x : Int64} {v : Int32} (hd : decode K.2.1 pc = .ok (.l2i, 1)) (hp : pc + 1 = pc1) (hv : x.toInt32 = v) (h : Rn G d K pc1 L (.int v :: st) μ sz mc ms Q) : Rn G d K (pc) L (.long x :: st) μ sz mc ms Q := by
  subst hp
  intro p e R s m args below meth c H locs cells slots ls Z C hl hM hz hS hc hs hE
  exact lv_l2i C.1.1 C.1.2.1 hd hv (h p e R s m args below meth c H locs cells slots ls Z C hl hM hz hS hc hs hE)
theorem Rn.lushr {pc1 : Nat} {x : Int64} {y : Int32} {v : Int64} (hd : decode K.2.1 pc = .ok (.lushr, 1)) (hp : pc + 1 = pc1) (hv : (x.toUInt64 >>> (y.toInt64.toUInt64 &&& Int64.toUInt64 63)).toInt64 = v) (h : Rn G d K pc1 L (.long v :: st) μ sz mc ms Q) : Rn G d K (pc) L (.int y :: .long x :: st) μ sz mc ms Q := by
  subst hp
  intro p e R s m args below meth c H locs cells slots ls Z C hl hM hz hS hc hs hE
  exact lv_lushr C.1.1 C.1.2.1 hd hv (h p e R s m args below meth c H locs cells slots ls Z C hl hM hz hS hc hs hE)
theorem Rn.lshl {pc1 : Nat} {x : Int64} {y : Int32} {v : Int64} (hd : decode K.2.1 pc = .ok (.lshl, 1)) (hp : pc + 1 = pc1) (hv : x <<< (y.toInt64 &&& 63) = v) (h : Rn G d K pc1 L (.long v :: st) μ sz mc ms Q) : Rn G d K (pc) L (.int y :: .long x :: st) μ sz mc ms Q := by
  subst hp
  intro p e R s m args below meth c H locs cells slots ls Z C hl hM hz hS hc hs hE
  exact lv_lshl C.1.1 C.1.2.1 hd hv (h p e R s m args below meth c H locs cells slots ls Z C hl hM hz hS hc hs hE)
theorem Rn.lshr {pc1 : Nat} {x : Int64} {y : Int32} {v : Int64} (hd : decode K.2.1 pc = .ok (.lshr, 1)) (hp : pc + 1 = pc1) (hv : x >>> (y.toInt64 &&& 63) = v) (h : Rn G d K pc1 L (.long v :: st) μ sz mc ms Q) : Rn G d K (pc) L (.int y :: .long x :: st) μ sz mc ms Q := by
  subst hp
  intro p e R s m args below meth c H locs cells slots ls Z C hl hM hz hS hc hs hE
  exact lv_lshr C.1.1 C.1.2.1 hd hv (h p e R s m args below meth c H locs cells slots ls Z C hl hM hz hS hc hs hE)
theorem Rn.land {pc1 : Nat} {x y v : Int64} (hd : decode K.2.1 pc = .ok (.land, 1)) (hp : pc + 1 = pc1) (hv : (x &&& y) = v) (h : Rn G d K pc1 L (.long v :: st) μ sz mc ms Q) : Rn G d K (pc) L (.long y :: .long x :: st) μ sz mc ms Q := by
  subst hp
  subst hv
  intro p e R s m args below meth c H locs cells slots ls Z C hl hM hz hS hc hs hE
  exact lv_land C.1.1 C.1.2.1 hd (h p e R s m args below meth c H locs cells slots ls Z C hl hM hz hS hc hs hE)
theorem Rn.lor {pc1 : Nat} {x y v : Int64} (hd : decode K.2.1 pc = .ok (.lor, 1)) (hp : pc + 1 = pc1) (hv : (x ||| y) = v) (h : Rn G d K pc1 L (.long v :: st) μ sz mc ms Q) : Rn G d K (pc) L (.long y :: .long x :: st) μ sz mc ms Q := by
  subst hp
  subst hv
  intro p e R s m args below meth c H locs cells slots ls Z C hl hM hz hS hc hs hE
  exact lv_lor C.1.1 C.1.2.1 hd (h p e R s m args below meth c H locs cells slots ls Z C hl hM hz hS hc hs hE)
theorem Rn.dup {pc1 : Nat} {va : Value} (hd : decode K.2.1 pc = .ok (.dup, 1)) (hp : pc + 1 = pc1) (hva : va.category = 1) (h : Rn G d K pc1 L (va :: va :: st) μ sz mc ms Q) : Rn G d K (pc) L (va :: st) μ sz mc ms Q := by
  subst hp
  intro p e R s m args below meth c H locs cells slots ls Z C hl hM hz hS hc hs hE
  exact lv_dup C.1.1 C.1.2.1 hd hva (h p e R s m args below meth c H locs cells slots ls Z C hl hM hz hS hc hs hE)
theorem Rn.pop {pc1 : Nat} {va : Value} (hd : decode K.2.1 pc = .ok (.pop, 1)) (hp : pc + 1 = pc1) (hva : va.category = 1) (h : Rn G d K pc1 L (st) μ sz mc ms Q) : Rn G d K (pc) L (va :: st) μ sz mc ms Q := by
  subst hp
  intro p e R s m args below meth c H locs cells slots ls Z C hl hM hz hS hc hs hE
  exact lv_pop C.1.1 C.1.2.1 hd hva (h p e R s m args below meth c H locs cells slots ls Z C hl hM hz hS hc hs hE)
theorem Rn.dup2 {pc1 : Nat} {va vb : Value} (hd : decode K.2.1 pc = .ok (.dup2, 1)) (hp : pc + 1 = pc1) (hva : va.category = 1) (hvb : vb.category = 1) (h : Rn G d K pc1 L (va :: vb :: va :: vb :: st) μ sz mc ms Q) : Rn G d K (pc) L (va :: vb :: st) μ sz mc ms Q := by
  subst hp
  intro p e R s m args below meth c H locs cells slots ls Z C hl hM hz hS hc hs hE
  exact lv_dup2_11 C.1.1 C.1.2.1 hd hva hvb (h p e R s m args below meth c H locs cells slots ls Z C hl hM hz hS hc hs hE)
theorem Rn.if_eq {pc1 : Nat} {x : Int32} {off : Int} (tgt : Nat) (hd : decode K.2.1 pc = .ok (.ifCond .eq off, 3)) (hp : pc + 3 = pc1) (ht : (pc : Int) + off = (tgt : Int)) (kt : x = nI 0 → Rn G d K (tgt) L (st) μ sz mc ms Q) (kf : ¬ x = nI 0 → Rn G d K pc1 L (st) μ sz mc ms Q) : Rn G d K (pc) L (.int x :: st) μ sz mc ms Q := by
  subst hp
  intro p e R s m args below meth c H locs cells slots ls Z C hl hM hz hS hc hs hE
  rw [nI_0] at kt kf
  exact lv_if_eq C.1.1 C.1.2.1 hd ht (fun q => kt q p e R s m args below meth c H locs cells slots ls Z C hl hM hz hS hc hs hE) (fun q => kf q p e R s m args below meth c H locs cells slots ls Z C hl hM hz hS hc hs hE)
theorem Rn.if_ne {pc1 : Nat} {x : Int32} {off : Int} (tgt : Nat) (hd : decode K.2.1 pc = .ok (.ifCond .ne off, 3)) (hp : pc + 3 = pc1) (ht : (pc : Int) + off = (tgt : Int)) (kt : ¬ x = nI 0 → Rn G d K (tgt) L (st) μ sz mc ms Q) (kf : x = nI 0 → Rn G d K pc1 L (st) μ sz mc ms Q) : Rn G d K (pc) L (.int x :: st) μ sz mc ms Q := by
  subst hp
  intro p e R s m args below meth c H locs cells slots ls Z C hl hM hz hS hc hs hE
  rw [nI_0] at kt kf
  exact lv_if_ne C.1.1 C.1.2.1 hd ht (fun q => kt q p e R s m args below meth c H locs cells slots ls Z C hl hM hz hS hc hs hE) (fun q => kf q p e R s m args below meth c H locs cells slots ls Z C hl hM hz hS hc hs hE)
theorem Rn.if_lt {pc1 : Nat} {x : Int32} {off : Int} (tgt : Nat) (hd : decode K.2.1 pc = .ok (.ifCond .lt off, 3)) (hp : pc + 3 = pc1) (ht : (pc : Int) + off = (tgt : Int)) (kt : x < nI 0 → Rn G d K (tgt) L (st) μ sz mc ms Q) (kf : ¬ x < nI 0 → Rn G d K pc1 L (st) μ sz mc ms Q) : Rn G d K (pc) L (.int x :: st) μ sz mc ms Q := by
  subst hp
  intro p e R s m args below meth c H locs cells slots ls Z C hl hM hz hS hc hs hE
  rw [nI_0] at kt kf
  exact lv_if_lt C.1.1 C.1.2.1 hd ht (fun q => kt q p e R s m args below meth c H locs cells slots ls Z C hl hM hz hS hc hs hE) (fun q => kf q p e R s m args below meth c H locs cells slots ls Z C hl hM hz hS hc hs hE)
theorem Rn.if_ge {pc1 : Nat} {x : Int32} {off : Int} (tgt : Nat) (hd : decode K.2.1 pc = .ok (.ifCond .ge off, 3)) (hp : pc + 3 = pc1) (ht : (pc : Int) + off = (tgt : Int)) (kt : nI 0 ≤ x → Rn G d K (tgt) L (st) μ sz mc ms Q) (kf : ¬ nI 0 ≤ x → Rn G d K pc1 L (st) μ sz mc ms Q) : Rn G d K (pc) L (.int x :: st) μ sz mc ms Q := by
  subst hp
  intro p e R s m args below meth c H locs cells slots ls Z C hl hM hz hS hc hs hE
  rw [nI_0] at kt kf
  exact lv_if_ge C.1.1 C.1.2.1 hd ht (fun q => kt q p e R s m args below meth c H locs cells slots ls Z C hl hM hz hS hc hs hE) (fun q => kf q p e R s m args below meth c H locs cells slots ls Z C hl hM hz hS hc hs hE)
theorem Rn.if_gt {pc1 : Nat} {x : Int32} {off : Int} (tgt : Nat) (hd : decode K.2.1 pc = .ok (.ifCond .gt off, 3)) (hp : pc + 3 = pc1) (ht : (pc : Int) + off = (tgt : Int)) (kt : nI 0 < x → Rn G d K (tgt) L (st) μ sz mc ms Q) (kf : ¬ nI 0 < x → Rn G d K pc1 L (st) μ sz mc ms Q) : Rn G d K (pc) L (.int x :: st) μ sz mc ms Q := by
  subst hp
  intro p e R s m args below meth c H locs cells slots ls Z C hl hM hz hS hc hs hE
  rw [nI_0] at kt kf
  exact lv_if_gt C.1.1 C.1.2.1 hd ht (fun q => kt q p e R s m args below meth c H locs cells slots ls Z C hl hM hz hS hc hs hE) (fun q => kf q p e R s m args below meth c H locs cells slots ls Z C hl hM hz hS hc hs hE)
theorem Rn.if_le {pc1 : Nat} {x : Int32} {off : Int} (tgt : Nat) (hd : decode K.2.1 pc = .ok (.ifCond .le off, 3)) (hp : pc + 3 = pc1) (ht : (pc : Int) + off = (tgt : Int)) (kt : x ≤ nI 0 → Rn G d K (tgt) L (st) μ sz mc ms Q) (kf : ¬ x ≤ nI 0 → Rn G d K pc1 L (st) μ sz mc ms Q) : Rn G d K (pc) L (.int x :: st) μ sz mc ms Q := by
  subst hp
  intro p e R s m args below meth c H locs cells slots ls Z C hl hM hz hS hc hs hE
  rw [nI_0] at kt kf
  exact lv_if_le C.1.1 C.1.2.1 hd ht (fun q => kt q p e R s m args below meth c H locs cells slots ls Z C hl hM hz hS hc hs hE) (fun q => kf q p e R s m args below meth c H locs cells slots ls Z C hl hM hz hS hc hs hE)
theorem Rn.icmp_eq {pc1 : Nat} {x y : Int32} {off : Int} (tgt : Nat) (hd : decode K.2.1 pc = .ok (.if_icmp .eq off, 3)) (hp : pc + 3 = pc1) (ht : (pc : Int) + off = (tgt : Int)) (kt : x = y → Rn G d K (tgt) L (st) μ sz mc ms Q) (kf : ¬ x = y → Rn G d K pc1 L (st) μ sz mc ms Q) : Rn G d K (pc) L (.int y :: .int x :: st) μ sz mc ms Q := by
  subst hp
  intro p e R s m args below meth c H locs cells slots ls Z C hl hM hz hS hc hs hE
  exact lv_icmp_eq C.1.1 C.1.2.1 hd ht (fun q => kt q p e R s m args below meth c H locs cells slots ls Z C hl hM hz hS hc hs hE) (fun q => kf q p e R s m args below meth c H locs cells slots ls Z C hl hM hz hS hc hs hE)
theorem Rn.icmp_ne {pc1 : Nat} {x y : Int32} {off : Int} (tgt : Nat) (hd : decode K.2.1 pc = .ok (.if_icmp .ne off, 3)) (hp : pc + 3 = pc1) (ht : (pc : Int) + off = (tgt : Int)) (kt : ¬ x = y → Rn G d K (tgt) L (st) μ sz mc ms Q) (kf : x = y → Rn G d K pc1 L (st) μ sz mc ms Q) : Rn G d K (pc) L (.int y :: .int x :: st) μ sz mc ms Q := by
  subst hp
  intro p e R s m args below meth c H locs cells slots ls Z C hl hM hz hS hc hs hE
  exact lv_icmp_ne C.1.1 C.1.2.1 hd ht (fun q => kt q p e R s m args below meth c H locs cells slots ls Z C hl hM hz hS hc hs hE) (fun q => kf q p e R s m args below meth c H locs cells slots ls Z C hl hM hz hS hc hs hE)
theorem Rn.icmp_lt {pc1 : Nat} {x y : Int32} {off : Int} (tgt : Nat) (hd : decode K.2.1 pc = .ok (.if_icmp .lt off, 3)) (hp : pc + 3 = pc1) (ht : (pc : Int) + off = (tgt : Int)) (kt : x < y → Rn G d K (tgt) L (st) μ sz mc ms Q) (kf : ¬ x < y → Rn G d K pc1 L (st) μ sz mc ms Q) : Rn G d K (pc) L (.int y :: .int x :: st) μ sz mc ms Q := by
  subst hp
  intro p e R s m args below meth c H locs cells slots ls Z C hl hM hz hS hc hs hE
  exact lv_icmp_lt C.1.1 C.1.2.1 hd ht (fun q => kt q p e R s m args below meth c H locs cells slots ls Z C hl hM hz hS hc hs hE) (fun q => kf q p e R s m args below meth c H locs cells slots ls Z C hl hM hz hS hc hs hE)
theorem Rn.icmp_ge {pc1 : Nat} {x y : Int32} {off : Int} (tgt : Nat) (hd : decode K.2.1 pc = .ok (.if_icmp .ge off, 3)) (hp : pc + 3 = pc1) (ht : (pc : Int) + off = (tgt : Int)) (kt : y ≤ x → Rn G d K (tgt) L (st) μ sz mc ms Q) (kf : ¬ y ≤ x → Rn G d K pc1 L (st) μ sz mc ms Q) : Rn G d K (pc) L (.int y :: .int x :: st) μ sz mc ms Q := by
  subst hp
  intro p e R s m args below meth c H locs cells slots ls Z C hl hM hz hS hc hs hE
  exact lv_icmp_ge C.1.1 C.1.2.1 hd ht (fun q => kt q p e R s m args below meth c H locs cells slots ls Z C hl hM hz hS hc hs hE) (fun q => kf q p e R s m args below meth c H locs cells slots ls Z C hl hM hz hS hc hs hE)
theorem Rn.icmp_gt {pc1 : Nat} {x y : Int32} {off : Int} (tgt : Nat) (hd : decode K.2.1 pc = .ok (.if_icmp .gt off, 3)) (hp : pc + 3 = pc1) (ht : (pc : Int) + off = (tgt : Int)) (kt : y < x → Rn G d K (tgt) L (st) μ sz mc ms Q) (kf : ¬ y < x → Rn G d K pc1 L (st) μ sz mc ms Q) : Rn G d K (pc) L (.int y :: .int x :: st) μ sz mc ms Q := by
  subst hp
  intro p e R s m args below meth c H locs cells slots ls Z C hl hM hz hS hc hs hE
  exact lv_icmp_gt C.1.1 C.1.2.1 hd ht (fun q => kt q p e R s m args below meth c H locs cells slots ls Z C hl hM hz hS hc hs hE) (fun q => kf q p e R s m args below meth c H locs cells slots ls Z C hl hM hz hS hc hs hE)
theorem Rn.icmp_le {pc1 : Nat} {x y : Int32} {off : Int} (tgt : Nat) (hd : decode K.2.1 pc = .ok (.if_icmp .le off, 3)) (hp : pc + 3 = pc1) (ht : (pc : Int) + off = (tgt : Int)) (kt : x ≤ y → Rn G d K (tgt) L (st) μ sz mc ms Q) (kf : ¬ x ≤ y → Rn G d K pc1 L (st) μ sz mc ms Q) : Rn G d K (pc) L (.int y :: .int x :: st) μ sz mc ms Q := by
  subst hp
  intro p e R s m args below meth c H locs cells slots ls Z C hl hM hz hS hc hs hE
  exact lv_icmp_le C.1.1 C.1.2.1 hd ht (fun q => kt q p e R s m args below meth c H locs cells slots ls Z C hl hM hz hS hc hs hE) (fun q => kf q p e R s m args below meth c H locs cells slots ls Z C hl hM hz hS hc hs hE)
theorem Rn.goto {off : Int} (tgt : Nat) (hd : decode K.2.1 pc = .ok (.goto off, 3)) (ht : (pc : Int) + off = (tgt : Int)) (h : Rn G d K (tgt) L (st) μ sz mc ms Q) : Rn G d K (pc) L (st) μ sz mc ms Q := by
  intro p e R s m args below meth c H locs cells slots ls Z C hl hM hz hS hc hs hE
  exact lv_goto C.1.1 C.1.2.1 hd ht (h p e R s m args below meth c H locs cells slots ls Z C hl hM hz hS hc hs hE)
theorem Rn.ifnonnull {x : Nat} {off : Int} (tgt : Nat) (hd : decode K.2.1 pc = .ok (.ifnonnull off, 3)) (ht : (pc : Int) + off = (tgt : Int)) (h : Rn G d K (tgt) L (st) μ sz mc ms Q) : Rn G d K (pc) L (.ref x :: st) μ sz mc ms Q := by
  intro p e R s m args below meth c H locs cells slots ls Z C hl hM hz hS hc hs hE
  exact lv_ifnonnull C.1.1 C.1.2.1 hd ht (h p e R s m args below meth c H locs cells slots ls Z C hl hM hz hS hc hs hE)
theorem Rn.ifnull {pc1 : Nat} {x : Nat} {off : Int} (hd : decode K.2.1 pc = .ok (.ifnull off, 3)) (hp : pc + 3 = pc1) (h : Rn G d K pc1 L (st) μ sz mc ms Q) : Rn G d K (pc) L (.ref x :: st) μ sz mc ms Q := by
  subst hp
  intro p e R s m args below meth c H locs cells slots ls Z C hl hM hz hS hc hs hE
  exact lv_ifnull C.1.1 C.1.2.1 hd (h p e R s m args below meth c H locs cells slots ls Z C hl hM hz hS hc hs hE)
theorem Rn.ifnonnullN {pc1 : Nat} {off : Int} (hd : decode K.2.1 pc = .ok (.ifnonnull off, 3)) (hp : pc + 3 = pc1) (h : Rn G d K pc1 L (st) μ sz mc ms Q) : Rn G d K (pc) L (.null :: st) μ sz mc ms Q := by
  subst hp
  intro p e R s m args below meth c H locs cells slots ls Z C hl hM hz hS hc hs hE
  exact lv_ifnonnullN C.1.1 C.1.2.1 hd (h p e R s m args below meth c H locs cells slots ls Z C hl hM hz hS hc hs hE)
theorem Rn.ifnullN {off : Int} (tgt : Nat) (hd : decode K.2.1 pc = .ok (.ifnull off, 3)) (ht : (pc : Int) + off = (tgt : Int)) (h : Rn G d K (tgt) L (st) μ sz mc ms Q) : Rn G d K (pc) L (.null :: st) μ sz mc ms Q := by
  intro p e R s m args below meth c H locs cells slots ls Z C hl hM hz hS hc hs hE
  exact lv_ifnullN C.1.1 C.1.2.1 hd ht (h p e R s m args below meth c H locs cells slots ls Z C hl hM hz hS hc hs hE)
theorem Rn.lookup {dflt : Int} {ps : Array (Int × Int)} {len : Nat} {x : Int32} {off : Int} (tgt : Nat) (hd : decode K.2.1 pc = .ok (.lookupswitch dflt ps, len)) (hp : (ps.toList.zip (ps.toList.drop 1)).all (fun (a, next) => a.1 < next.1) = true) (ho : Op.lookupswitch.offset ps.toList dflt x.toInt = off) (ht : (pc : Int) + off = (tgt : Int)) (h : Rn G d K (tgt) L (st) μ sz mc ms Q) : Rn G d K (pc) L (.int x :: st) μ sz mc ms Q := by
  intro p e R s m args below meth c H locs cells slots ls Z C hl hM hz hS hc hs hE
  exact lv_lookup C.1.1 C.1.2.1 hd hp ho ht (h p e R s m args below meth c H locs cells slots ls Z C hl hM hz hS hc hs hE)
theorem Rn.tableOut {dflt lo hi : Int} {offs : Array Int} {len : Nat} {x : Int32} (tgt : Nat) (hd : decode K.2.1 pc = .ok (.tableswitch dflt lo hi offs, len)) (hx : x.toInt < lo ∨ hi < x.toInt) (ht : (pc : Int) + dflt = (tgt : Int)) (h : Rn G d K (tgt) L (st) μ sz mc ms Q) : Rn G d K (pc) L (.int x :: st) μ sz mc ms Q := by
  intro p e R s m args below meth c H locs cells slots ls Z C hl hM hz hS hc hs hE
  exact lv_tableOut C.1.1 C.1.2.1 hd hx ht (h p e R s m args below meth c H locs cells slots ls Z C hl hM hz hS hc hs hE)
theorem Rn.tableIn {dflt lo hi : Int} {offs : Array Int} {len : Nat} {x : Int32} {off : Int} (tgt : Nat) (hd : decode K.2.1 pc = .ok (.tableswitch dflt lo hi offs, len)) (h1 : ¬ x.toInt < lo) (h2 : ¬ hi < x.toInt) (ho : offs[(x.toInt - lo).toNat]? = some off) (ht : (pc : Int) + off = (tgt : Int)) (h : Rn G d K (tgt) L (st) μ sz mc ms Q) : Rn G d K (pc) L (.int x :: st) μ sz mc ms Q := by
  intro p e R s m args below meth c H locs cells slots ls Z C hl hM hz hS hc hs hE
  exact lv_tableIn C.1.1 C.1.2.1 hd h1 h2 ho ht (h p e R s m args below meth c H locs cells slots ls Z C hl hM hz hS hc hs hE)
theorem Rn.ldc {pc1 : Nat} {idx : Nat} {v : Int32} (hd : decode K.2.1 pc = .ok (.ldc idx, 2)) (hp : pc + 2 = pc1) (hq : Cond.constant K.1.cls idx v ∈ lwT) (h : Rn G d K pc1 L (.int v :: st) μ sz mc ms Q) : Rn G d K (pc) L (st) μ sz mc ms Q := by
  subst hp
  intro p e R s m args below meth c H locs cells slots ls Z C hl hM hz hS hc hs hE
  exact lv_ldc C.1.1 C.1.2.1 C.1.2.2.2.1 (C.1.2.2.2.2 _ hq) hd (h p e R s m args below meth c H locs cells slots ls Z C hl hM hz hS hc hs hE)
theorem Rn.ldc2 {pc1 : Nat} {idx : Nat} {v : Int64} (hd : decode K.2.1 pc = .ok (.ldc2_w idx, 3)) (hp : pc + 3 = pc1) (hq : Cond.constantLong K.1.cls idx v ∈ lwT) (h : Rn G d K pc1 L (.long v :: st) μ sz mc ms Q) : Rn G d K (pc) L (st) μ sz mc ms Q := by
  subst hp
  intro p e R s m args below meth c H locs cells slots ls Z C hl hM hz hS hc hs hE
  exact lv_ldc2 C.1.1 C.1.2.1 C.1.2.2.2.1 (C.1.2.2.2.2 _ hq) hd (h p e R s m args below meth c H locs cells slots ls Z C hl hM hz hS hc hs hE)
theorem Rn.mask (bs : List Bool) {L' : List (Option Value)} (hL : lmask bs L = L') (h : Rn G d K pc L' st μ sz mc ms Q) : Rn G d K (pc) L (st) μ sz mc ms Q := by
  intro p e R s m args below meth c H locs cells slots ls Z C hl hM hz hS hc hs hE
  exact h p e R s m args below meth c H locs cells slots ls Z C (hL ▸ hl.mask bs) hM hz hS hc hs hE
theorem Rn.imp {Q' : Option Value → Mm → Prop} (h : Rn G d K pc L st μ sz mc ms Q') (hQ : ∀ r μ', Q' r μ' → Q r μ') : Rn G d K (pc) L (st) μ sz mc ms Q := by
  intro p e R s m args below meth c H locs cells slots ls Z C hl hM hz hS hc hs hE
  exact h p e R s m args below meth c H locs cells slots ls Z C hl hM hz hS hc hs (fun r μ' H' locs' pc' ls' hq => hE r μ' H' locs' pc' ls' (hQ _ _ hq))
-- the end
theorem Rn.ireturn {v : Int32} {ty : FieldType} (hd : decode K.2.1 pc = .ok (.ireturn, 1)) (hr : K.2.2.2 = some ty) (hn : narrow ty (.int v) = .int v) (hQ : Q (some (.int v)) μ) : Rn G d K pc L [.int v] μ sz 0 ms Q := by
  intro p e R s m args below meth c H locs cells slots ls Z C hl hM hz hS hc hs hE
  exact W.widen (by omega) (by omega) (hE _ _ _ _ _ _ hQ hM (by omega) hS ⟨ty, hr, hn, hd⟩)
theorem Rn.vreturn (hd : decode K.2.1 pc = .ok (.return_, 1)) (hr : K.2.2.2 = none) (hQ : Q none μ) : Rn G d K pc L [] μ sz 0 ms Q := by
  intro p e R s m args below meth c H locs cells slots ls Z C hl hM hz hS hc hs hE
  exact W.widen (by omega) (by omega) (hE _ _ _ _ _ _ hQ hM (by omega) hS ⟨hr, hd⟩)
theorem Rn.areturn {o : Option Nat} {C : String} (hd : decode K.2.1 pc = .ok (.areturn, 1)) (hr : K.2.2.2 = some (.object C)) (hQ : Q (some (va_rf o)) μ) : Rn G d K pc L [va_rf o] μ sz 0 ms Q := by
  intro p e R s m args below meth c H locs cells slots ls Z C2 hl hM hz hS hc hs hE
  cases o with
  | none => exact W.widen (by omega) (by omega) (hE _ _ _ _ _ _ hQ hM (by omega) hS ⟨C, hr, hd⟩)
  | some a => exact W.widen (by omega) (by omega) (hE _ _ _ _ _ _ hQ hM (by omega) hS ⟨C, hr, hd⟩)
-- fields
theorem Rn.getfield {pc1 : Nat} {idx ci k a : Nat} {fs : List Value} {v : Value} (hd : decode K.2.1 pc = .ok (.getfield idx, 3)) (hp : pc + 3 = pc1) (hf : FOk ci k K.1.cls idx) (hμ : μ a = some (.inr (ci, fs))) (hv : fs[k]? = some v) (h : Rn G d K pc1 L (v :: st) μ sz mc ms Q) : Rn G d K pc L (.ref a :: st) μ sz mc ms Q := by
  subst hp
  intro p e R s m args below meth c H locs cells slots ls Z C hl hM hz hS hc hs hE
  obtain ⟨C0, T0, N0, f1, f2, f3, f4⟩ := hf
  have hP : va_P (gD G) classes [(a, .inr (ci, fs))] H := fun k q hq => by
    have hk : k < 1 := (List.getElem?_eq_some_iff.mp hq).1
    rw [show k = 0 by omega] at hq
    cases hq
    exact (hM.2 a _ hμ).1
  exact va_get C.1.1 C.1.2.1 C.1.2.2.2.2 f3 C.1.2.2.2.1 C.2.2.1.1 hP 0 rfl f1 k f2 (C.1.2.2.2.2 _ f4) (fun _ h9 => h9) hv hd (h p e R s m args below meth c H locs cells slots ls Z C hl hM hz hS hc hs hE)
theorem Rn.putfield {pc1 : Nat} {idx ci k a : Nat} {fin : Bool} {ty : FieldType} {fs fs' : List Value} {v : Value} (hd : decode K.2.1 pc = .ok (.putfield idx, 3)) (hp : pc + 3 = pc1) (hf : POk ci k K.1.cls idx fin ty) (hfi : fin = true → K.1.name = "<init>") (hμ : μ a = some (.inr (ci, fs))) (hl0 : k < fs.length) (hn : narrow ty v = v) (hfit : fits ty v = true) (hfs : fs.set k v = fs') (h : Rn G d K pc1 L st (mset μ a (.inr (ci, fs'))) sz mc ms Q) : Rn G d K pc L (v :: .ref a :: st) μ sz mc ms Q := by
  subst hp
  subst hfs
  intro p e R s m args below meth c H locs cells slots ls Z C hl hM hz hS hc hs hE
  obtain ⟨C0, T0, N0, ty0, f1, f2, f3, f4, f5, f6, f7, f8, f9⟩ := hf
  have hK := C.2.2.1.1
  have hts := C.1.2.2.2.2
  have hown := C.1.2.2.2.1
  obtain ⟨⟨r, h1, cell, q1, q2, q3, q4⟩, hlo⟩ := hM.2 a _ hμ
  have hr : r = (C0, T0, N0) := Option.some.inj (h1.symm.trans f1)
  subst hr
  have hap := va_apart (own := K.1.cls) hts f3 ty0 f5 f6 hK f1
  obtain ⟨hSl, hfc, kC, hkC, hkind⟩ := hK.1 ci _ f1
  obtain ⟨cf, kf, fi, f, hi, hsl⟩ := hSl k f2
  have hlay := hts _ (f3 _ (u_in_lay f2))
  unfold u_lay at hlay
  have hst := (u_facts hfc hkC (u_lays hts f3 f2) hi).1
  have fin1 : ∀ H1 : Heap, H1[a]? = some (cell.setSlot f.slot v) → H1.size = H.size → (∀ q, q ≠ a → H1[q]? = H[q]?) → W p G.1 e R s m args below meth c H1 (locs ++ [⟨a, f.slot⟩]) cells slots Z (F0 m (pc + 3) ls st) := by
    intro H1 e1 e2 e3
    rw [hsl] at e1
    have hat : va_at (gD G) classes (a, trc (gA G) (.inr (ci, fs.set k v))) H1 := ⟨_, f1, t_OB.to (V := updV (vp_V fs) k v) ⟨_, e1, q2, q3, t_set q4 hap f2 v⟩ (fun j _ => vp_updV_set hl0 v j)⟩
    exact h p e R s m args below meth c H1 _ cells slots ls Z C hl (hM.set hμ hat e3) (e2.trans hz) (hS.put e2 e3 hlo) hc hs hE
  cases hfin : fin with
  | false =>
    rw [if_neg (by rw [f7, hfin]; decide)] at hlay
    have h6 := u_store hfc hkC hkind hlay hi f8 hn hfit
    exact W.putK C.1.1 C.1.2.1 (f := f) ⟨hown, hts _ f4, ⟨_, _, _, hi⟩, hst⟩ (by rw [q2]; exact h6) q1 q3 (by rw [hsl]; exact k2_hasslot (q4 k f2)) rfl rfl hd fin1
  | true =>
    rw [if_pos (by rw [f7, hfin])] at hlay
    have hcf : m.cls = cf := by
      obtain ⟨_, _, c', _, _, _, -, -, hf', -, -, -, hown2, -⟩ := Cond.laysFinal_spec hlay
      have e1 : c' = cf := by have := hi.symm.trans hf'; simp at this; exact this.1.symm
      rw [f9 hfin] at hown2
      rw [← e1]; exact Option.some.inj (hown.symm.trans hown2)
    have h6 := u_fits hfc hkC hkind (Or.inr hlay) hi f8 hn hfit
    exact W.putFinK C.1.1 C.1.2.1 hown (hts _ f4) hi hst hcf ((C.2.1.2.2 (hfi hfin)).trans (hfi hfin)) (by rw [q2]; exact h6) q1 q3 (by rw [hsl]; exact k2_hasslot (q4 k f2)) rfl rfl hd fin1
-- arrays
theorem Rn.iaload {pc1 : Nat} {a n : Nat} {f : Nat → Int32} {i : Int32} (hd : decode K.2.1 pc = .ok (.iaload, 1)) (hp : pc + 1 = pc1) (hμ : μ a = some (.inl (0, n, .inl f))) (hin : vp_in i n) {v : Int32} (hv : f i.toNatClampNeg = v) (h : Rn G d K pc1 L (.int v :: st) μ sz mc ms Q) : Rn G d K pc L (.int i :: .ref a :: st) μ sz mc ms Q := by
  subst hp
  subst hv
  intro p e R s m args below meth c H locs cells slots ls Z C hl hM hz hS hc hs hE
  have hP := (hM.2 a _ hμ).1
  have hlt : i.toNatClampNeg < n := Nat.not_le.mp fun q => hin (Or.inr q)
  exact W.iald (v := .int (f i.toNatClampNeg)) C.1.1 C.1.2.1 hP ((C.2.2.1.1.2 0 _ rfl).1 n (fun j => .int (f j))) (fun q => by cases q) (by show ¬ (i < 0 ∨ (arrV _ _ _).slots.size ≤ _); rw [arrV_size]; exact hin) (by show (arrV _ _ _).slots[_]? = _; rw [arrV_read _ _ hlt]) rfl rfl hd (h p e R s m args below meth c H locs cells slots ls Z C hl hM hz hS hc hs hE)
theorem Rn.aaload {pc1 : Nat} {a n t : Nat} {f : Nat → Option Nat} {i : Int32} {ty : String} (hd : decode K.2.1 pc = .ok (.aaload, 1)) (hp : pc + 1 = pc1) (hμ : μ a = some (.inl (t, n, .inr (.inr (.inr (.inr f)))))) (ht : ∀ dA : Nat → ClassId, (vtys dA)[t]? = some (dA t, .object ty)) (hin : vp_in i n) {v : Option Nat} (hv : f i.toNatClampNeg = v) (h : Rn G d K pc1 L (va_rf v :: st) μ sz mc ms Q) : Rn G d K pc L (.int i :: .ref a :: st) μ sz mc ms Q := by
  subst hp
  subst hv
  intro p e R s m args below meth c H locs cells slots ls Z C hl hM hz hS hc hs hE
  have hP := (hM.2 a _ hμ).1
  have hlt : i.toNatClampNeg < n := Nat.not_le.mp fun q => hin (Or.inr q)
  exact W.aald (v := va_rf (f i.toNatClampNeg)) (ty := .object ty) C.1.1 C.1.2.1 hP ((C.2.2.1.1.2 t _ (ht _)).1 n (fun j => va_rf (f j))) rfl (fun q => by cases q) (by show ¬ (i < 0 ∨ (arrV _ _ _).slots.size ≤ _); rw [arrV_size]; exact hin) (by show (arrV _ _ _).slots[_]? = _; rw [arrV_read _ _ hlt]) rfl rfl hd (h p e R s m args below meth c H locs cells slots ls Z C hl hM hz hS hc hs hE)
theorem Rn.alen {pc1 : Nat} {a t : Nat} {x : vp_A} {v : Int32} {ty : FieldType} (hd : decode K.2.1 pc = .ok (.arraylength, 1)) (hp : pc + 1 = pc1) (hμ : μ a = some (.inl (t, x))) (ht : ∀ dA : Nat → ClassId, (vtys dA)[t]? = some (dA t, ty)) (hv : Int32.ofNat x.1 = v) (h : Rn G d K pc1 L (.int v :: st) μ sz mc ms Q) : Rn G d K pc L (.ref a :: st) μ sz mc ms Q := by
  subst hp
  intro p e R s m args below meth c H locs cells slots ls Z C hl hM hz hS hc hs hE
  have hP : va_P (gD G) classes [(a, .inl (gA G t, x))] H := fun k q hq => by
    have hk : k < 1 := (List.getElem?_eq_some_iff.mp hq).1
    rw [show k = 0 by omega] at hq
    cases hq
    exact (hM.2 a _ hμ).1
  exact va_alen C.1.1 C.1.2.1 C.2.2.1.1 hP 0 t rfl (ht _) hv hd (h p e R s m args below meth c H locs cells slots ls Z C hl hM hz hS hc hs hE)
theorem updV_int {f : Nat → Int32} {k : Nat} {x : Int32} : updV (fun j => Value.int (f j)) k (.int x) = fun j => Value.int (upd f k x j) := by
  funext q
  by_cases hq : q = k
  · subst hq
    simp [updV, upd]
  · simp [updV, upd, hq]
theorem Rn.iastore {pc1 : Nat} {a n : Nat} {f f' : Nat → Int32} {i x : Int32} (hd : decode K.2.1 pc = .ok (.iastore, 1)) (hp : pc + 1 = pc1) (hμ : μ a = some (.inl (0, n, .inl f))) (hin : vp_in i n) (hf : upd f i.toNatClampNeg x = f') (h : Rn G d K pc1 L st (mset μ a (.inl (0, n, .inl f'))) sz mc ms Q) : Rn G d K pc L (.int x :: .int i :: .ref a :: st) μ sz mc ms Q := by
  subst hp
  subst hf
  intro p e R s m args below meth c H locs cells slots ls Z C hl hM hz hS hc hs hE
  obtain ⟨hP, hlo⟩ := hM.2 a _ hμ
  refine W.iast C.1.1 C.1.2.1 hP ((C.2.2.1.1.2 0 _ rfl).1 n (fun j => .int (f j))) (fun q => by cases q) (by show ¬ (i < 0 ∨ (arrV _ _ _).slots.size ≤ _); rw [arrV_size]; exact hin) rfl rfl hd fun H1 e1 z oq => ?_
  have hat : va_at (gD G) classes (a, trc (gA G) (.inl (0, n, .inl (upd f i.toNatClampNeg x)))) H1 := by
    show H1[a]? = some (vp_cell _ _)
    rw [e1, vp_cell_i, vp_cell_i, arrV_store, updV_int]
  exact h p e R s m args below meth c H1 _ cells slots ls Z C hl (hM.set hμ hat oq) (z.trans hz) (hS.put z oq hlo) hc hs hE
theorem Rn.aastore {pc1 : Nat} {a n t v ci : Nat} {f f' : Nat → Option Nat} {i : Int32} {r : vw_C} {vs : List Value} (hd : decode K.2.1 pc = .ok (.aastore, 1)) (hp : pc + 1 = pc1) (hμ : μ a = some (.inl (t, n, .inr (.inr (.inr (.inr f)))))) (ht : ∀ dA : Nat → ClassId, (vtys dA)[t]? = some (dA t, .object r.1)) (hv : μ v = some (.inr (ci, vs))) (hci : classes[ci]? = some r) (hin : vp_in i n) (hf : va_up f i.toNatClampNeg (some v) = f') (h : Rn G d K pc1 L st (mset μ a (.inl (t, n, .inr (.inr (.inr (.inr f')))))) sz mc ms Q) : Rn G d K pc L (.ref v :: .int i :: .ref a :: st) μ sz mc ms Q := by
  subst hp
  subst hf
  intro p e R s m args below meth c H locs cells slots ls Z C hl hM hz hS hc hs hE
  have hlt : i.toNatClampNeg < n := Nat.not_le.mp fun q => hin (Or.inr q)
  have h0 : ¬ i < 0 := fun q => hin (Or.inl q)
  have hK := C.2.2.1.1
  obtain ⟨hP, hlo⟩ := hM.2 a _ hμ
  obtain ⟨⟨r', hr', cellV, g1, g2, g3, -⟩, -⟩ := hM.2 v _ hv
  have hcls := (hK.1 ci r hci).2
  obtain ⟨kA, comp, k1, k2, k3, -⟩ := (hK.2 t _ (ht _)).2
  have hcomp : comp = (gD G).1 ci := Option.some.inj (k3.symm.trans hcls.1)
  subst hcomp
  obtain ⟨kC, hkC, -⟩ := hcls.2
  refine W.aast C.1.1 C.1.2.1 hP (fun q h => by cases h) (fun h => by cases h) k1 k2 rfl hkC ⟨h0, by show _ < (arrV _ _ _).slots.size; rw [arrV_size]; exact hlt⟩ g1 (fun q h => by rw [g3] at h; cases h) (by rw [g2]; exact hkC) (by rw [g2]; exact va_assign hcls) rfl rfl hd fun H1 e1 z oq => ?_
  have hat : va_at (gD G) classes (a, trc (gA G) (.inl (t, n, .inr (.inr (.inr (.inr (va_up f i.toNatClampNeg (some v)))))))) H1 := by
    show H1[a]? = some (vp_cell _ _)
    rw [e1, vp_cell_q, vp_cell_q, arrV_store]
    congr 2
    funext q
    by_cases hq : q = i.toNatClampNeg
    · subst hq
      simp [updV, va_up, va_rf]
    · simp [updV, va_up, hq]
  exact h p e R s m args below meth c H1 _ cells slots ls Z C hl (hM.set hμ hat oq) (z.trans hz) (hS.put z oq hlo) hc hs hE
-- making
theorem va_S.grow {A : Nat → Prop} {H0 H H1 : Heap} {locs : List Loc} (h : va_S A H0 H locs) (z : H1.size = H.size + 1) (oq : ∀ q : Nat, q < H.size → H1[q]? = H[q]?) : va_S A H0 H1 locs := ⟨by have := h.1; omega, fun x h1 h2 => (oq x (Nat.lt_of_lt_of_le h1 h.1)).trans (h.2.1 x h1 h2), h.2.2⟩
theorem Rn.newobj {pc1 : Nat} {idx ci N0 : Nat} {C0 : String} {T0 : u_T} {fs : List Value} (ty0 : Nat → FieldType) (hd : decode K.2.1 pc = .ok (.new idx, 3)) (hp : pc + 3 = pc1) (hq : Cond.classLink K.1.cls idx C0 ∈ lwT) (hi : Cond.instantiable C0 N0 ∈ lwT) (hini : Cond.initialized C0 ∈ lwT) (hcl : classes[ci]? = some (C0, T0, N0)) (hin : ∀ w ∈ u_ws C0 T0 N0, w ∈ lwT) (hty : ∀ k, k < N0 → parseFieldDescriptor (T0 k).2.2.1 = some (ty0 k)) (hfs : ∀ j, j < N0 → defaultValue (ty0 j) = vp_V fs j) (h : Rn G d K pc1 L (.ref sz :: st) (mset μ sz (.inr (ci, fs))) (sz + 1) mc ms Q) : Rn G d K pc L st μ sz (mc + 1) (ms + N0) Q := by
  subst hp
  intro p e R s m args below meth c H locs cells slots ls Z C hl hM hz hS hc hs hE
  have hts := C.1.2.2.2.2
  have hKn := C.2.2.1.1.1 ci _ hcl
  subst hz
  have hlo := C.2.2.2.1
  refine W.newcK C.1.1 C.1.2.1 C.1.2.2.2.1 (hts _ hq) (hts _ hi) (hts _ hini) rfl hd (by omega) (by omega) hKn.2.1 rfl fun H1 kC hkC e1 z1 o1 => ?_
  have hat : va_at (gD G) classes (H.size, trc (gA G) (.inr (ci, fs))) H1 := ⟨_, hcl, (u_born ty0 hts hin hKn hkC e1 hty).to hfs⟩
  exact h p e R s m args below meth c H1 locs (cells + 1) (slots + N0) ls Z C hl (hM.push (Nat.le_trans hlo hS.1) hat o1) z1 (hS.grow z1 o1) (by omega) (by omega) (by rw [show H.size + 1 + mc = H.size + (mc + 1) by omega]; exact hE)
theorem Rn.newints {pc1 : Nat} {i : Int32} {n : Nat} (hd : decode K.2.1 pc = .ok (.newarray .int, 2)) (hp : pc + 2 = pc1) (hq : Cond.arrayClass .int ∈ lwT) (hi : ¬ i < 0) (hn : i.toNatClampNeg = n) (hb : n * 4 ≤ 536870912) (h : Rn G d K pc1 L (.ref sz :: st) (mset μ sz (.inl (0, n, .inl (fun _ => 0)))) (sz + 1) mc ms Q) : Rn G d K pc L (.int i :: st) μ sz (mc + 1) (ms + n) Q := by
  subst hp
  intro p e R s m args below meth c H locs cells slots ls Z C hl hM hz hS hc hs hE
  subst hz
  have hlo := C.2.2.2.1
  refine va_newaK (atype := .int) C.1.1 C.1.2.1 (C.1.2.2.2.2 _ hq) rfl hd rfl hi hn hb (by omega) (by omega) rfl fun H1 cA e1 z1 o1 hAr hNm => ?_
  have hcA : cA = gA G 0 := Option.some.inj (hNm.symm.trans (C.2.2.1.1.2 0 _ rfl).2)
  subst hcA
  exact h p e R s m args below meth c H1 locs (cells + 1) (slots + n) ls Z C hl (hM.push (Nat.le_trans hlo hS.1) (show H1[H.size]? = some (vp_cell _ _) from e1) o1) z1 (hS.grow z1 o1) (by omega) (by omega) (by rw [show H.size + 1 + mc = H.size + (mc + 1) by omega]; exact hE)
theorem Rn.newrefs {pc1 : Nat} {idx t n : Nat} {C0 : String} {i : Int32} (hd : decode K.2.1 pc = .ok (.anewarray idx, 3)) (hp : pc + 3 = pc1) (hq : Cond.classLink K.1.cls idx C0 ∈ lwT) (hAO : ∀ U : State, (va_AO RX6 U ∧ va_AO RX3 U ∧ va_AO RX5 U ∧ va_AO RX4 U) → va_AO C0 U) (ht : ∀ dA : Nat → ClassId, (vtys dA)[t]? = some (dA t, .object C0)) (hi : ¬ i < 0) (hn : i.toNatClampNeg = n) (hb : n * 4 ≤ 536870912) (h : Rn G d K pc1 L (.ref sz :: st) (mset μ sz (.inl (t, n, .inr (.inr (.inr (.inr (fun _ => none))))))) (sz + 1) mc ms Q) : Rn G d K pc L (.int i :: st) μ sz (mc + 1) (ms + n) Q := by
  subst hp
  intro p e R s m args below meth c H locs cells slots ls Z C hl hM hz hS hc hs hE
  subst hz
  subst hn
  have hlo := C.2.2.2.1
  refine W.anew C.1.1 C.1.2.1 C.1.2.2.2.1 (C.1.2.2.2.2 _ hq) (va_AO.use (hAO s C.2.2.1.2.2.1)) rfl hd rfl hi hb (by omega) (by omega) fun cA kA comp f1 f2 f3 f4 => ?_
  generalize hH1 : H.push ({ cls := cA, slots := Array.replicate i.toNatClampNeg .null, vm := .none } : Cell) = H1
  have z1 : H1.size = H.size + 1 := by rw [← hH1, Array.size_push]
  have e1 : H1[H.size]? = some (arrV cA i.toNatClampNeg (fun _ => .null)) := by rw [← hH1, Array.getElem?_push_size, ← arrV_new]
  have o1 : ∀ q : Nat, q < H.size → H1[q]? = H[q]? := fun q hq => by rw [← hH1, Array.getElem?_push, if_neg (Nat.ne_of_lt hq)]
  obtain ⟨kA2, comp2, g1, g2, g3, g4⟩ := (C.2.2.1.1.2 t _ (ht _)).2
  have hcA : cA = gA G t := Option.some.inj (f1.symm.trans g4)
  subst hcA
  exact h p e R s m args below meth c H1 locs (cells + 1) (slots + i.toNatClampNeg) ls Z C hl (hM.push (Nat.le_trans hlo hS.1) (show H1[H.size]? = some (vp_cell _ _) from e1) o1) z1 (hS.grow z1 o1) (by omega) (by omega) (by rw [show H.size + 1 + mc = H.size + (mc + 1) by omega]; exact hE)
-- the script
theorem Rn.sld {pc1 : Nat} {i : Int32} {v : Int32} (hd : decode K.2.1 pc = .ok (.iaload, 1)) (hp : pc + 1 = pc1) (hin : vp_in i (gS G).slots.size) (hv : (gS G).slots[i.toNatClampNeg]? = some (.int v)) (h : Rn G d K pc1 L (.int v :: st) μ sz mc ms Q) : Rn G d K pc L (.int i :: .ref (gB G) :: st) μ sz mc ms Q := by
  subst hp
  intro p e R s m args below meth c H locs cells slots ls Z C hl hM hz hS hc hs hE
  exact W.iald (v := .int v) C.1.1 C.1.2.1 hM.1.1 C.2.2.1.2.2.2.1 C.2.2.1.2.2.2.2 hin hv rfl rfl hd (h p e R s m args below meth c H locs cells slots ls Z C hl hM hz hS hc hs hE)
theorem Rn.slen {pc1 : Nat} {v : Int32} (hd : decode K.2.1 pc = .ok (.arraylength, 1)) (hp : pc + 1 = pc1) (hv : (gS G).slots.size.toInt32 = v) (h : Rn G d K pc1 L (.int v :: st) μ sz mc ms Q) : Rn G d K pc L (.ref (gB G) :: st) μ sz mc ms Q := by
  subst hp
  intro p e R s m args below meth c H locs cells slots ls Z C hl hM hz hS hc hs hE
  exact W.alen (n := v) C.1.1 C.1.2.1 hM.1.1 C.2.2.1.2.2.2.1 hv rfl rfl hd (h p e R s m args below meth c H locs cells slots ls Z C hl hM hz hS hc hs hE)
-- Object's constructor, Math
theorem Rn.objInit {pc1 : Nat} {idx a : Nat} (hd : decode K.2.1 pc = .ok (.invokespecial idx, 3)) (hp : pc + 3 = pc1) (hq : Cond.methodLink K.1.cls idx objectInit ∈ lwT) (hcat : (st.map fun v => v.category).sum ≤ 8) (hdd : 1 ≤ d) (h : Rn G d K pc1 L st μ sz mc ms Q) : Rn G d K pc L (.ref a :: st) μ sz mc ms Q := by
  subst hp
  intro p e R s m args below meth c H locs cells slots ls Z C hl hM hz hS hc hs hE
  have hts := C.1.2.2.2.2
  have h1 := C.2.2.2.2
  exact W.objInit C.1.1 C.1.2.1 C.1.2.2.2.1 (hts _ hq) (hts _ qoi_inst) (hts _ qoi_code) rfl (by rw [C.1.2.2.1]; exact hl.2.1) rfl hd (by omega) (by show 2 * 0 + _ + 12 ≤ _; omega) (h p e R s m args below meth c H locs cells slots ls Z C hl hM hz hS hc hs hE)
theorem Rn.mmax {pc1 : Nat} {idx : Nat} {x y v : Int32} (hd : decode K.2.1 pc = .ok (.invokestatic idx, 3)) (hp : pc + 3 = pc1) (hq : Cond.methodLink K.1.cls idx Lib.Math.max.name ∈ lwT) (hcat : (st.map fun v => v.category).sum ≤ 8) (hdd : 1 ≤ d) (hv : (if x < y then y else x) = v) (h : Rn G d K pc1 L (.int v :: st) μ sz mc ms Q) : Rn G d K pc L (.int y :: .int x :: st) μ sz mc ms Q := by
  subst hp
  subst hv
  intro p e R s m args below meth c H locs cells slots ls Z C hl hM hz hS hc hs hE
  have hts := C.1.2.2.2.2
  have h1 := C.2.2.2.2
  exact va_mmax C.1.1 C.1.2.1 (C.1.2.2.1.trans hl.2.1.symm) C.1.2.2.2.1 (hts _ hq) (hts _ qmax_st) (hts _ qini_J9) (hts _ qmax_code) (by omega) (by omega) (by omega) (by omega) hd (h p e R s m args below meth c H locs cells slots ls Z C hl hM hz hS hc hs hE)
theorem Rn.mmin {pc1 : Nat} {idx : Nat} {x y v : Int32} (hd : decode K.2.1 pc = .ok (.invokestatic idx, 3)) (hp : pc + 3 = pc1) (hq : Cond.methodLink K.1.cls idx Lib.Math.min.name ∈ lwT) (hcat : (st.map fun v => v.category).sum ≤ 8) (hdd : 1 ≤ d) (hv : (if y < x then y else x) = v) (h : Rn G d K pc1 L (.int v :: st) μ sz mc ms Q) : Rn G d K pc L (.int y :: .int x :: st) μ sz mc ms Q := by
  subst hp
  subst hv
  intro p e R s m args below meth c H locs cells slots ls Z C hl hM hz hS hc hs hE
  have hts := C.1.2.2.2.2
  have h1 := C.2.2.2.2
  exact va_mmin C.1.1 C.1.2.1 (C.1.2.2.1.trans hl.2.1.symm) C.1.2.2.2.1 (hts _ hq) (hts _ qmin_st) (hts _ qini_J9) (hts _ qmin_code) (by omega) (by omega) (by omega) (by omega) hd (h p e R s m args below meth c H locs cells slots ls Z C hl hM hz hS hc hs hE)

-- calls
theorem Rn.runs {mc1 ms1 : Nat} {stk : List Value} {a : Array Value} {Q' : Option Value → Mm → Prop}
    (hrun : ∀ (p : Program) (e : Env) (R : Room) (s : State) (m : MethodId) (args : Array Value) (below : List Frame) (meth : Method) (c : Code) (H : Heap) (locs : List Loc) (cells slots : Nat) (ls : Array Slot), CtxA G d K p R s m args meth c → lvh ls K.2.2.1 L → MemA G μ H → H.size = sz → gLo G ≤ sz → cells + mc1 ≤ R.cells → slots + ms1 ≤ R.slots → va_Run p G.1 e R s m args below meth c H locs cells slots mc1 ms1 (F0 m pc ls stk) st (QcA G (sz + mc1) Q' a) (own G))
    (hk : ∀ (r : Option Value) (μ' : Mm), Q' r μ' → Rn G d K (pc + 3) L (r.toList ++ st) μ' (sz + mc1) mc ms Q) : Rn G d K pc L stk μ sz (mc1 + mc) (ms1 + ms) Q := by
  intro p e R s m args below meth c H locs cells slots ls Z C hl hM hz hS hc hs hE
  intro T hT X
  have hlo := Nat.le_trans C.2.2.2.1 (Nat.le_trans hS.1 (Nat.le_of_eq hz))
  obtain ⟨v, st₀, t, T', L', h0, X', hL', e1, e2, ⟨r, μ', hv, hQ, hM', hz', hz2, hF⟩, stp⟩ := hrun p e R s m args below meth c H locs cells slots ls C hl hM hz hlo (by omega) (by omega) T hT X
  cases hv
  rw [h0] at hF hz2
  have hS' : va_S (own G) s.heap T'.heap (locs ++ L') := by
    refine ⟨Nat.le_trans hS.1 (by rw [e1]; exact hz2), fun q h1 h2 => by rw [e1, hF q (Nat.lt_of_lt_of_le h1 hS.1) h2]; exact hS.2.1 q h1 h2, fun q hq => ?_⟩
    rcases List.mem_append.mp hq with h | h
    · exact hS.2.2 q h
    · exact hL' q h
  obtain ⟨t2, a1, b1⟩ := hk _ μ' hQ p e R s m args below meth c T'.heap (locs ++ L') (cells + mc1) (slots + ms1) ls Z C hl (by rw [e1]; exact hM') (by rw [e1]; exact hz') hS' (by omega) (by omega) (by rw [Nat.add_assoc]; exact hE) T' rfl X'
  exact ⟨t2, stp t2 a1, b1⟩
theorem calls_room {d d' n : Nat} {R : Room} (h1 : d ≤ R.frames) (h2 : 34 * d ≤ R.locals) (hd : d' < d) (hn : n ≤ 15) : d' + 1 ≤ R.frames ∧ 8 + (n + 11) + 34 * d' ≤ R.locals := by omega
theorem Rn.callV {pc1 : Nat} {K' : MK} {d' n idx a ci mc1 ms1 : Nat} {As : List Value} {stk : List Value} {r : vw_C} {fs : List Value} {Q' : Option Value → Mm → Prop} (hd : decode K.2.1 pc = .ok (.invokevirtual idx, 3)) (hp : pc + 3 = pc1) (hq : Cond.methodLink K.1.cls idx K'.1 ∈ lwT) (ho : VOk K' n) (hμ : μ a = some (.inr (ci, fs))) (hci : classes[ci]? = some r) (hcn : r.1 = K'.1.cls) (hn : As.length = n) (hst : As.reverse ++ .ref a :: st = stk) (hcat : (st.map fun v => v.category).sum ≤ 8) (hdd : d' < d) (hml : K'.2.2.1 ≤ 15) (hE' : EvA G d' K' (.ref a :: As) μ sz mc1 ms1 Q') (hk : ∀ (r : Option Value) (μ' : Mm), Q' r μ' → Rn G d K pc1 L (r.toList ++ st) μ' (sz + mc1) mc ms Q) : Rn G d K pc L stk μ sz (mc1 + mc) (ms1 + ms) Q := by
  subst hp
  subst hst
  refine Rn.runs (a := (Value.ref a :: As).toArray) (fun p e R s m args below meth c H locs cells slots ls C hl hM hz hlo hc hs => ?_) hk
  have hts := C.1.2.2.2.2
  obtain ⟨⟨b1, b2, b3, b4⟩, b5, b6⟩ := ho
  have hK := C.2.2.1
  obtain ⟨⟨r', hr', cellV, g1, g2, g3, -⟩, -⟩ := hM.2 a _ hμ
  have hcls := (hK.1.1 ci r hci).2
  exact va_runV (C := K'.1.cls) C.1 (hE' hlo) ⟨callB_of n hts (lwG b1) rfl rfl rfl (hts _ b2) (hts _ hq) ⟨b3.1, b3.2.1, b3.2.2⟩ (calls_room C.2.2.2.2.1 C.2.2.2.2.2 hdd hml), hts _ b5, hts _ b6⟩ ⟨PcA.blind, ⟨cellV, g1, by rw [g3]; rfl, by rw [g2, ← hcn]; exact hcls.1⟩, fun U hU hW => PcA.at hK hM hz hU hW⟩ rfl hn hl.2.1 rfl (lv_room hcat) hd ⟨hc, hs⟩
theorem Rn.callS {pc1 : Nat} {K' : MK} {d' n idx mc1 ms1 : Nat} {As : List Value} {stk : List Value} {Q' : Option Value → Mm → Prop} (hd : decode K.2.1 pc = .ok (.invokestatic idx, 3)) (hp : pc + 3 = pc1) (hq : Cond.methodLink K.1.cls idx K'.1 ∈ lwT) (ho : SOk K' n) (hn : As.length = n) (hst : As.reverse ++ st = stk) (hcat : (st.map fun v => v.category).sum ≤ 8) (hdd : d' < d) (hml : K'.2.2.1 ≤ 15) (hE' : EvA G d' K' As μ sz mc1 ms1 Q') (hk : ∀ (r : Option Value) (μ' : Mm), Q' r μ' → Rn G d K pc1 L (r.toList ++ st) μ' (sz + mc1) mc ms Q) : Rn G d K pc L stk μ sz (mc1 + mc) (ms1 + ms) Q := by
  subst hp
  subst hst
  refine Rn.runs (a := As.toArray) (fun p e R s m args below meth c H locs cells slots ls C hl hM hz hlo hc hs => ?_) hk
  have hts := C.1.2.2.2.2
  obtain ⟨⟨b1, b2, b3, b4⟩, b5⟩ := ho
  exact va_runS C.1 (hE' hlo) ⟨callB_of n hts (lwG b1) rfl rfl rfl (hts _ b2) (hts _ hq) ⟨b3.1, b3.2.1, b3.2.2⟩ (calls_room C.2.2.2.2.1 C.2.2.2.2.2 hdd hml), hts _ b5⟩ ⟨PcA.blind, fun U hU hW => PcA.at C.2.2.1 hM hz hU hW⟩ rfl hn hl.2.1 rfl (lv_room hcat) hd ⟨hc, hs⟩
theorem Rn.callSN {pc1 : Nat} {K' : MK} {d' n idx mc1 ms1 : Nat} {host : String} {As : List Value} {stk : List Value} {Q' : Option Value → Mm → Prop} (hd : decode K.2.1 pc = .ok (.invokestatic idx, 3)) (hp : pc + 3 = pc1) (hq : (K.1.cls, idx, K'.1, host) ∈ nestL) (ho : SOk K' n) (hn : As.length = n) (hst : As.reverse ++ st = stk) (hcat : (st.map fun v => v.category).sum ≤ 8) (hdd : d' < d) (hml : K'.2.2.1 ≤ 15) (hE' : EvA G d' K' As μ sz mc1 ms1 Q') (hk : ∀ (r : Option Value) (μ' : Mm), Q' r μ' → Rn G d K pc1 L (r.toList ++ st) μ' (sz + mc1) mc ms Q) : Rn G d K pc L stk μ sz (mc1 + mc) (ms1 + ms) Q := by
  subst hp
  subst hst
  refine Rn.runs (a := As.toArray) (fun p e R s m args below meth c H locs cells slots ls C hl hM hz hlo hc hs => ?_) hk
  have hts := C.1.2.2.2.2
  obtain ⟨⟨b1, b2, b3, b4⟩, b5⟩ := ho
  exact va_runSN C.1 (hE' hlo) ⟨va_cnB n hts (lwG b1) rfl rfl rfl (C.2.2.1.2.1 _ hq) (hts _ b2) ⟨b3.1, b3.2.1, b3.2.2⟩ (calls_room C.2.2.2.2.1 C.2.2.2.2.2 hdd hml), hts _ b5, trivial⟩ ⟨PcA.blind, fun U hU hW => PcA.at C.2.2.1 hM hz hU hW⟩ rfl hn hl.2.1 rfl (lv_room hcat) hd ⟨hc, hs⟩
theorem Rn.callI {pc1 : Nat} {K' : MK} {d' n idx a mc1 ms1 : Nat} {As : List Value} {stk : List Value} {Q' : Option Value → Mm → Prop} (hd : decode K.2.1 pc = .ok (.invokespecial idx, 3)) (hp : pc + 3 = pc1) (hq : Cond.methodLink K.1.cls idx K'.1 ∈ lwT) (hret : K'.2.2.2 = none) (ho : IOk K' n) (hn : As.length = n) (hst : As.reverse ++ .ref a :: st = stk) (hcat : (st.map fun v => v.category).sum ≤ 8) (hdd : d' < d) (hml : K'.2.2.1 ≤ 15) (hE' : EvA G d' K' (.ref a :: As) μ sz mc1 ms1 Q') (hk : ∀ (r : Option Value) (μ' : Mm), Q' r μ' → Rn G d K pc1 L (r.toList ++ st) μ' (sz + mc1) mc ms Q) : Rn G d K pc L stk μ sz (mc1 + mc) (ms1 + ms) Q := by
  subst hp
  subst hst
  refine Rn.runs (a := (Value.ref a :: As).toArray) (fun p e R s m args below meth c H locs cells slots ls C hl hM hz hlo hc hs => ?_) hk
  have hts := C.1.2.2.2.2
  obtain ⟨⟨b1, b2, b3, b4⟩, b5, b6⟩ := ho
  exact va_runI C.1 (hE' hlo) ⟨callB_of n hts (lwG b1) (by rw [hret]) rfl rfl (hts _ b2) (hts _ hq) ⟨b3.1, b3.2.1, b3.2.2⟩ (calls_room C.2.2.2.2.1 C.2.2.2.2.2 hdd hml), b5, hts _ b6⟩ ⟨PcA.blind, fun U hU hW => PcA.at C.2.2.1 hM hz hU hW⟩ rfl hn hl.2.1 rfl (lv_room hcat) hd ⟨hc, hs⟩
theorem Rn.callIN {pc1 : Nat} {K' : MK} {d' n idx a mc1 ms1 : Nat} {host : String} {As : List Value} {stk : List Value} {Q' : Option Value → Mm → Prop} (hd : decode K.2.1 pc = .ok (.invokespecial idx, 3)) (hp : pc + 3 = pc1) (hq : (K.1.cls, idx, K'.1, host) ∈ nestL) (hret : K'.2.2.2 = none) (ho : IOk K' n) (hn : As.length = n) (hst : As.reverse ++ .ref a :: st = stk) (hcat : (st.map fun v => v.category).sum ≤ 8) (hdd : d' < d) (hml : K'.2.2.1 ≤ 15) (hE' : EvA G d' K' (.ref a :: As) μ sz mc1 ms1 Q') (hk : ∀ (r : Option Value) (μ' : Mm), Q' r μ' → Rn G d K pc1 L (r.toList ++ st) μ' (sz + mc1) mc ms Q) : Rn G d K pc L stk μ sz (mc1 + mc) (ms1 + ms) Q := by
  subst hp
  subst hst
  refine Rn.runs (a := (Value.ref a :: As).toArray) (fun p e R s m args below meth c H locs cells slots ls C hl hM hz hlo hc hs => ?_) hk
  have hts := C.1.2.2.2.2
  obtain ⟨⟨b1, b2, b3, b4⟩, b5, b6⟩ := ho
  exact va_runIN C.1 (hE' hlo) ⟨va_cnB n hts (lwG b1) (by rw [hret]) rfl rfl (C.2.2.1.2.1 _ hq) (hts _ b2) ⟨b3.1, b3.2.1, b3.2.2⟩ (calls_room C.2.2.2.2.1 C.2.2.2.2.2 hdd hml), b5, hts _ b6⟩ ⟨PcA.blind, fun U hU hW => PcA.at C.2.2.1 hM hz hU hW⟩ rfl hn hl.2.1 rfl (lv_room hcat) hd ⟨hc, hs⟩
end RULES

