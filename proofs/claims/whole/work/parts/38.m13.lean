/-! ===== the reference: doing one order ===== -/
section OM
variable {f : Nat → Int32} {c a b : Nat}
theorem oM98 (z : c = 98 ∨ c = 99) : ordMay f c a b = mayIsF (rF f) (nI a) := by unfold ordMay; rw [if_neg (by omega), if_neg (by omega), if_neg (by omega), if_neg (by omega), if_neg (by omega), if_neg (by omega), if_pos (by omega)]
theorem oM104 (z : c = 104 ∨ c = 115) : ordMay f c a b = nI 0 := by
  rcases z with z | z
  · unfold ordMay; rw [if_neg (by omega), if_neg (by omega), if_neg (by omega), if_pos z]
  · unfold ordMay; rw [if_neg (by omega), if_neg (by omega), if_neg (by omega), if_neg (by omega), if_neg (by omega), if_neg (by omega), if_neg (by omega), if_pos z]
theorem oM110 (z : c = 110) : ordMay f c a b = mayComeF (rF f) := by unfold ordMay; rw [if_neg (by omega), if_neg (by omega), if_neg (by omega), if_neg (by omega), if_pos z]
theorem oM116 (z : c = 116) : ordMay f c a b = mayPassF f (nI a) := by unfold ordMay; rw [if_neg (by omega), if_neg (by omega), if_pos z]
theorem oM120 (z : c = 120) : ordMay f c a b = mayRemoveF f (hF f) (nI a) := by unfold ordMay; rw [if_neg (by omega), if_pos z]
theorem oM112 (z : c = 112) : ordMay f c a b = maySetF (hF f) (nI a) (nI b) := by unfold ordMay; rw [if_pos z]
theorem oM114 (z : c = 114) : ordMay f c a b = mayReadF f (rF f) (nI a) (nI b) := by unfold ordMay; rw [if_neg (by omega), if_neg (by omega), if_neg (by omega), if_neg (by omega), if_neg (by omega), if_pos z]
theorem oM108 (z : c = 108) : ordMay f c a b = mayLoadF f (rF f) (sF f) (nI a) (nI b) := by unfold ordMay; rw [if_neg (by omega), if_neg (by omega), if_neg (by omega), if_neg (by omega), if_neg (by omega), if_neg (by omega), if_neg (by omega), if_neg (by omega)]
theorem oN98 (z : c = 98) : ordNew f c a b = backF f a := by unfold ordNew; rw [if_neg (by omega), if_neg (by omega), if_neg (by omega), if_neg (by omega), if_neg (by omega), if_neg (by omega), if_neg (by omega), if_pos z]
theorem oN99 (z : c = 99) : ordNew f c a b = confF f a := by unfold ordNew; rw [if_neg (by omega), if_neg (by omega), if_neg (by omega), if_neg (by omega), if_neg (by omega), if_neg (by omega), if_pos z]
theorem oN104 (z : c = 104) : ordNew f c a b = thinF f (hF f) (f 0) (f 2) := by unfold ordNew; rw [if_neg (by omega), if_neg (by omega), if_neg (by omega), if_pos z]
theorem oN110 (z : c = 110) : ordNew f c a b = comeF f (rF f) := by unfold ordNew; rw [if_neg (by omega), if_neg (by omega), if_neg (by omega), if_neg (by omega), if_pos z]
theorem oN115 (z : c = 115) : ordNew f c a b = shotF f (sF f) := by unfold ordNew; rw [if_neg (by omega), if_neg (by omega), if_neg (by omega), if_neg (by omega), if_neg (by omega), if_neg (by omega), if_neg (by omega), if_neg (by omega), if_pos z]
theorem oN116 (z : c = 116) : ordNew f c a b = upd f 2 (f 2 + nI a) := by unfold ordNew; rw [if_neg (by omega), if_neg (by omega), if_pos z]
theorem oN120 (z : c = 120) : ordNew f c a b = setsF f (hF f) a (-6) := by unfold ordNew; rw [if_neg (by omega), if_pos z]
theorem oN112 (z : c = 112) : ordNew f c a b = setsF f (hF f) a (nI b) := by unfold ordNew; rw [if_pos z]
theorem oN114 (z : c = 114) : ordNew f c a b = readF f a (rdK f (hF f) a) (rdC f (hF f) a b) := by unfold ordNew; rw [if_neg (by omega), if_neg (by omega), if_neg (by omega), if_neg (by omega), if_neg (by omega), if_pos z]
theorem oN108 (z : c = 108) : ordNew f c a b = beginF f a (f (423 + 13 * b)) (fun k => f (423 + 13 * b + 1 + k)) := by unfold ordNew; rw [if_neg (by omega), if_neg (by omega), if_neg (by omega), if_neg (by omega), if_neg (by omega), if_neg (by omega), if_neg (by omega), if_neg (by omega), if_neg (by omega)]
end OM
section M13
variable {G : GG} {μ : Mm} {sz m kept padded at_ ordered h rc sc B : Nat} {f f2 p sl pd od : Nat → Int32} {u : Nat → Bool}
abbrev QM (μ : Mm) (v0 : Int32) : Option Value → Mm → Prop := rI fun v μ' => v = v0 ∧ μ' = μ
theorem lM108 {c x y : Int32} (F : MR μ m f f2 p kept sl u pd padded at_ od ordered) (I : IV f h rc sc B) : Rn G 3 kX9_mayDo 108 [some (.ref m), some (.int c), some (.int x), some (.int y)] [] μ sz 0 0 (QM μ (maySetF h x y)) := by
  have hO := F.1
  refine Rn.aload_n (pc1 := 109)  dX9_mayDo_108 rfl rfl rfl ?_
  refine Rn.iload_n (pc1 := 110)  dX9_mayDo_109 rfl rfl rfl ?_
  refine Rn.iload_n (pc1 := 111)  dX9_mayDo_110 rfl rfl rfl ?_
  refine Rn.cV_i (pc1 := 114) (eX9_maySet F I) dX9_mayDo_111 rfl qX9_76 oX9_maySet (by first | assumption | exact mset_same | exact mget_ne (by omega) (by assumption)) rfl rfl rfl rfl (Nat.le_of_ble_eq_true rfl) (by decide) (by decide) (fun v111 μ111 h111 => ?_)
  obtain ⟨rfl, rfl⟩ := h111
  exact Rn.ireturn dX9_mayDo_114 rfl rfl ⟨_, rfl, rfl, rfl⟩
theorem lM115 {c x y : Int32} (F : MR μ m f f2 p kept sl u pd padded at_ od ordered) (I : IV f h rc sc B) : Rn G 3 kX9_mayDo 115 [some (.ref m), some (.int c), some (.int x), some (.int y)] [] μ sz 0 0 (QM μ (mayRemoveF f h x)) := by
  have hO := F.1
  refine Rn.aload_n (pc1 := 116)  dX9_mayDo_115 rfl rfl rfl ?_
  refine Rn.iload_n (pc1 := 117)  dX9_mayDo_116 rfl rfl rfl ?_
  refine Rn.cV_i (pc1 := 120) (eX9_mayRemove F I) dX9_mayDo_117 rfl qX9_83 oX9_mayRemove (by first | assumption | exact mset_same | exact mget_ne (by omega) (by assumption)) rfl rfl rfl rfl (Nat.le_of_ble_eq_true rfl) (by decide) (by decide) (fun v117 μ117 h117 => ?_)
  obtain ⟨rfl, rfl⟩ := h117
  exact Rn.ireturn dX9_mayDo_120 rfl rfl ⟨_, rfl, rfl, rfl⟩
theorem lM121 {c x y : Int32} (F : MR μ m f f2 p kept sl u pd padded at_ od ordered) : Rn G 3 kX9_mayDo 121 [some (.ref m), some (.int c), some (.int x), some (.int y)] [] μ sz 0 0 (QM μ (mayPassF f x)) := by
  have hO := F.1
  refine Rn.aload_n (pc1 := 122)  dX9_mayDo_121 rfl rfl rfl ?_
  refine Rn.iload_n (pc1 := 123)  dX9_mayDo_122 rfl rfl rfl ?_
  refine Rn.cV_i (pc1 := 126) (eX9_mayPass F) dX9_mayDo_123 rfl qX9_87 oX9_mayPass (by first | assumption | exact mset_same | exact mget_ne (by omega) (by assumption)) rfl rfl rfl rfl (Nat.le_of_ble_eq_true rfl) (by decide) (by decide) (fun v123 μ123 h123 => ?_)
  obtain ⟨rfl, rfl⟩ := h123
  exact Rn.ireturn dX9_mayDo_126 rfl rfl ⟨_, rfl, rfl, rfl⟩
theorem lM127 {c x y : Int32} (F : MR μ m f f2 p kept sl u pd padded at_ od ordered) (I : IV f h rc sc B) : Rn G 3 kX9_mayDo 127 [some (.ref m), some (.int c), some (.int x), some (.int y)] [] μ sz 0 0 (QM μ (mayComeF rc)) := by
  have hO := F.1
  have hA := F.2.1
  have hrc := I.2.1.2.1
  refine Rn.aload_n (pc1 := 128)  dX9_mayDo_127 rfl rfl rfl ?_
  refine Rn.getfield (pc1 := 131)  dX9_mayDo_128 rfl fX9_7 (by first | assumption | exact mset_same | exact mget_ne (by omega) (by assumption)) rfl ?_
  refine Rn.bipush (pc1 := 133) (v := nI 7) dX9_mayDo_131 rfl (by decide) ?_
  refine Rn.iaload (pc1 := 134) (v := nI rc)  dX9_mayDo_133 rfl (by assumption) (vp_nI (j := 7) rfl (by omega) (by decide)) I.1.2.1 ?_
  refine Rn.bipush (pc1 := 136) (v := nI 6) dX9_mayDo_134 rfl (by decide) ?_
  refine Rn.icmp_ne (pc1 := 139) 144 dX9_mayDo_136 rfl (by decide) (fun c136 => ?_) (fun c136 => ?_)
  · rw [show mayComeF rc = nI 0 from if_neg (fun z => c136 (by rw [z]))]
    refine Rn.iconst (pc1 := 145) (v := nI 0) dX9_mayDo_144 rfl (by decide) ?_
    exact Rn.ireturn dX9_mayDo_145 rfl rfl ⟨_, rfl, rfl, rfl⟩
  · rw [show mayComeF rc = -4 from if_pos ((nI_eq (by omega) (by decide)).mp c136)]
    refine Rn.bipush (pc1 := 141) (v := (-4)) dX9_mayDo_139 rfl (by decide) ?_
    refine Rn.goto 145 dX9_mayDo_141 (by decide) ?_
    exact Rn.ireturn dX9_mayDo_145 rfl rfl ⟨_, rfl, rfl, rfl⟩
theorem lM146 {c x y : Int32} (F : MR μ m f f2 p kept sl u pd padded at_ od ordered) (I : IV f h rc sc B) : Rn G 3 kX9_mayDo 146 [some (.ref m), some (.int c), some (.int x), some (.int y)] [] μ sz 0 0 (QM μ (mayReadF f rc x y)) := by
  have hO := F.1
  refine Rn.aload_n (pc1 := 147)  dX9_mayDo_146 rfl rfl rfl ?_
  refine Rn.iload_n (pc1 := 148)  dX9_mayDo_147 rfl rfl rfl ?_
  refine Rn.iload_n (pc1 := 149)  dX9_mayDo_148 rfl rfl rfl ?_
  refine Rn.cV_i (pc1 := 152) (eX9_mayRead F I) dX9_mayDo_149 rfl qX9_108 oX9_mayRead (by first | assumption | exact mset_same | exact mget_ne (by omega) (by assumption)) rfl rfl rfl rfl (Nat.le_of_ble_eq_true rfl) (by decide) (by decide) (fun v149 μ149 h149 => ?_)
  obtain ⟨rfl, rfl⟩ := h149
  exact Rn.ireturn dX9_mayDo_152 rfl rfl ⟨_, rfl, rfl, rfl⟩
theorem lM153 {c x y : Int32} (F : MR μ m f f2 p kept sl u pd padded at_ od ordered) (I : IV f h rc sc B) : Rn G 3 kX9_mayDo 153 [some (.ref m), some (.int c), some (.int x), some (.int y)] [] μ sz 0 0 (QM μ (mayIsF rc x)) := by
  have hO := F.1
  refine Rn.aload_n (pc1 := 154)  dX9_mayDo_153 rfl rfl rfl ?_
  refine Rn.iload_n (pc1 := 155)  dX9_mayDo_154 rfl rfl rfl ?_
  refine Rn.cV_i (pc1 := 158) (eX9_isReader F I) dX9_mayDo_155 rfl qX9_105 oX9_isReader (by first | assumption | exact mset_same | exact mget_ne (by omega) (by assumption)) rfl rfl rfl rfl (Nat.le_of_ble_eq_true rfl) (by decide) (by decide) (fun v155 μ155 h155 => ?_)
  obtain ⟨rfl, rfl⟩ := h155
  refine Rn.if_eq (pc1 := 161) 165 dX9_mayDo_158 rfl (by decide) (fun c158 => ?_) (fun c158 => ?_)
  · rw [show mayIsF rc x = -1 from if_neg (by rw [bI_0 c158]; decide)]
    refine Rn.iconst (pc1 := 166) (v := (-1)) dX9_mayDo_165 rfl (by decide) ?_
    exact Rn.ireturn dX9_mayDo_166 rfl rfl ⟨_, rfl, rfl, rfl⟩
  · rw [show mayIsF rc x = nI 0 from if_pos (bI_n c158)]
    refine Rn.iconst (pc1 := 162) (v := nI 0) dX9_mayDo_161 rfl (by decide) ?_
    refine Rn.goto 166 dX9_mayDo_162 (by decide) ?_
    exact Rn.ireturn dX9_mayDo_166 rfl rfl ⟨_, rfl, rfl, rfl⟩
theorem lM167 {c x y : Int32} (F : MR μ m f f2 p kept sl u pd padded at_ od ordered) (I : IV f h rc sc B) : Rn G 3 kX9_mayDo 167 [some (.ref m), some (.int c), some (.int x), some (.int y)] [] μ sz 0 0 (QM μ (mayLoadF f rc sc x y)) := by
  have hO := F.1
  refine Rn.aload_n (pc1 := 168)  dX9_mayDo_167 rfl rfl rfl ?_
  refine Rn.iload_n (pc1 := 169)  dX9_mayDo_168 rfl rfl rfl ?_
  refine Rn.iload_n (pc1 := 170)  dX9_mayDo_169 rfl rfl rfl ?_
  refine Rn.cV_i (pc1 := 173) (eX9_mayLoad F I) dX9_mayDo_170 rfl qX9_121 oX9_mayLoad (by first | assumption | exact mset_same | exact mget_ne (by omega) (by assumption)) rfl rfl rfl rfl (Nat.le_of_ble_eq_true rfl) (by decide) (by decide) (fun v170 μ170 h170 => ?_)
  obtain ⟨rfl, rfl⟩ := h170
  exact Rn.ireturn dX9_mayDo_173 rfl rfl ⟨_, rfl, rfl, rfl⟩
theorem lM174 {c x y : Int32} : Rn G 3 kX9_mayDo 174 [some (.ref m), some (.int c), some (.int x), some (.int y)] [] μ sz 0 0 (QM μ (nI 0)) := by
  refine Rn.iconst (pc1 := 175) (v := nI 0) dX9_mayDo_174 rfl (by decide) ?_
  exact Rn.ireturn dX9_mayDo_175 rfl rfl ⟨_, rfl, rfl, rfl⟩
theorem eX9_mayDo {c a b : Nat} {x y : Int32} (F : MR μ m f f2 p kept sl u pd padded at_ od ordered) (I : IV f h rc sc B) (kc : kindF c ≠ 0) (hx : 2 ≤ kindF c → x = nI a) (hy : 4 ≤ kindF c → y = nI b) : EvA G 3 kX9_mayDo [.ref m, .int (nI c), .int x, .int y] μ sz 0 0 (QM μ (ordMay f c a b)) := by
  obtain ⟨i1, i2, i3⟩ := I.h
  refine EvA.of (L := [some (.ref m), some (.int (nI c)), some (.int x), some (.int y)]) (by decide +kernel) (Nat.le_of_ble_eq_true rfl) rfl ?_
  refine Rn.iload_n (pc1 := 1)  dX9_mayDo_0 rfl rfl rfl ?_
  have K := kind_cases c
  rcases K with ⟨K, k⟩ | ⟨K, k⟩ | ⟨K, k⟩ | ⟨K, k⟩ | ⟨K, k⟩ | ⟨K, k⟩ | ⟨k, K⟩
  · obtain ⟨s1, s2, s3⟩ := sw_in (c := c) (by omega) (by omega)
    refine Rn.tableIn (off := 152) 153 dX9_mayDo_1 s1 s2 (by rw [s3]; rcases K with q | q <;> (rw [q]; rfl)) (by decide) ?_
    rw [oM98 K, i2, ← hx (by omega)]
    exact lM153 F I
  · obtain ⟨s1, s2, s3⟩ := sw_in (c := c) (by omega) (by omega)
    rcases K with z | z | z
    · refine Rn.tableIn (off := 173) 174 dX9_mayDo_1 s1 s2 (by rw [s3, z]; rfl) (by decide) ?_
      rw [oM104 (Or.inl z)]
      exact lM174
    · refine Rn.tableIn (off := 126) 127 dX9_mayDo_1 s1 s2 (by rw [s3, z]; rfl) (by decide) ?_
      rw [oM110 z, i2]
      exact lM127 F I
    · refine Rn.tableIn (off := 173) 174 dX9_mayDo_1 s1 s2 (by rw [s3, z]; rfl) (by decide) ?_
      rw [oM104 (Or.inr z)]
      exact lM174
  · obtain ⟨s1, s2, s3⟩ := sw_in (c := c) (by omega) (by omega)
    rcases K with z | z
    · refine Rn.tableIn (off := 120) 121 dX9_mayDo_1 s1 s2 (by rw [s3, z]; rfl) (by decide) ?_
      rw [oM116 z, ← hx (by omega)]
      exact lM121 F
    · refine Rn.tableIn (off := 114) 115 dX9_mayDo_1 s1 s2 (by rw [s3, z]; rfl) (by decide) ?_
      rw [oM120 z, i1, ← hx (by omega)]
      exact lM115 F I
  · obtain ⟨s1, s2, s3⟩ := sw_in (c := c) (by omega) (by omega)
    refine Rn.tableIn (off := 107) 108 dX9_mayDo_1 s1 s2 (by rw [s3, K]; rfl) (by decide) ?_
    rw [oM112 K, i1, ← hx (by omega), ← hy (by omega)]
    exact lM108 F I
  · obtain ⟨s1, s2, s3⟩ := sw_in (c := c) (by omega) (by omega)
    refine Rn.tableIn (off := 145) 146 dX9_mayDo_1 s1 s2 (by rw [s3, K]; rfl) (by decide) ?_
    rw [oM114 K, i2, ← hx (by omega), ← hy (by omega)]
    exact lM146 F I
  · obtain ⟨s1, s2, s3⟩ := sw_in (c := c) (by omega) (by omega)
    refine Rn.tableIn (off := 166) 167 dX9_mayDo_1 s1 s2 (by rw [s3, K]; rfl) (by decide) ?_
    rw [oM108 K, i2, i3, ← hx (by omega), ← hy (by omega)]
    exact lM167 F I
  · exact absurd k kc
abbrev QDo (m : Nat) (f f2 p : Nat → Int32) (kept : Nat) (sl : Nat → Int32) (u : Nat → Bool) (pd : Nat → Int32) (padded at_ : Nat) (od : Nat → Int32) (ordered : Nat) (may : Int32) (fn : Nat → Int32) (μ : Mm) : Option Value → Mm → Prop := rI fun v μ' => ((¬ may = nI 0 ∧ v = nI 0 ∧ MR μ' m f f2 p kept sl u pd padded at_ od ordered) ∨ (may = nI 0 ∧ v = nI 1 ∧ ∃ g, MR μ' m g f2 p kept sl u pd padded at_ od ordered ∧ LQ fn g (hF fn))) ∧ Fr m (m + 8) μ μ'
abbrev Yes (m : Nat) (f2 p : Nat → Int32) (kept : Nat) (sl : Nat → Int32) (u : Nat → Bool) (pd : Nat → Int32) (padded at_ : Nat) (od : Nat → Int32) (ordered : Nat) (fn : Nat → Int32) (μ : Mm) : Option Value → Mm → Prop := rI fun v μ' => v = nI 1 ∧ (∃ g, MR μ' m g f2 p kept sl u pd padded at_ od ordered ∧ LQ fn g (hF fn)) ∧ Fr m (m + 8) μ μ'
theorem lD152 {k i : Nat} {c v : Int32} (F : MR μ m f f2 p kept sl u pd padded at_ od ordered) (I : IV f h rc sc B) (hk : k < 12) (hh : h < 60) : Rn G 4 kX9_does 152 [some (.ref m), some (.int (nI i)), some (.int c), some (.int (nI k)), some (.int v)] [] μ sz 0 0 (Yes m f2 p kept sl u pd padded at_ od ordered (setsF f h k v) μ) := by
  have hO := F.1
  refine Rn.aload_n (pc1 := 153)  dX9_does_152 rfl rfl rfl ?_
  refine Rn.iload_n (pc1 := 154)  dX9_does_153 rfl rfl rfl ?_
  refine Rn.iload (pc1 := 156)  dX9_does_154 rfl rfl ?_
  refine Rn.cV_i (pc1 := 159) (eX9_sets F I hk hh) dX9_does_156 rfl qX9_80 oX9_sets (by first | assumption | exact mset_same | exact mget_ne (by omega) (by assumption)) rfl rfl rfl rfl (Nat.le_of_ble_eq_true rfl) (by decide) (by decide) (fun v156 μ156 h156 => ?_)
  obtain ⟨rfl, F2, z2⟩ := h156
  refine Rn.pop (pc1 := 160)  dX9_does_159 rfl rfl ?_
  refine Rn.goto 253 dX9_does_160 (by decide) ?_
  refine Rn.iconst (pc1 := 254) (v := nI 1) dX9_does_253 rfl (by decide) ?_
  exact Rn.ireturn dX9_does_254 rfl rfl ⟨_, rfl, rfl, ⟨_, F2, LQ.rf⟩, z2⟩
theorem lD163 {k i : Nat} {c : Int32} {o4 : Option Value} (F : MR μ m f f2 p kept sl u pd padded at_ od ordered) (I : IV f h rc sc B) (hk : k < 12) (hh : h < 60) : Rn G 4 kX9_does 163 [some (.ref m), some (.int (nI i)), some (.int c), some (.int (nI k)), o4] [] μ sz 0 0 (Yes m f2 p kept sl u pd padded at_ od ordered (setsF f h k (-6)) μ) := by
  have hO := F.1
  refine Rn.aload_n (pc1 := 164)  dX9_does_163 rfl rfl rfl ?_
  refine Rn.iload_n (pc1 := 165)  dX9_does_164 rfl rfl rfl ?_
  refine Rn.bipush (pc1 := 167) (v := (-6)) dX9_does_165 rfl (by decide) ?_
  refine Rn.cV_i (pc1 := 170) (eX9_sets F I hk hh) dX9_does_167 rfl qX9_80 oX9_sets (by first | assumption | exact mset_same | exact mget_ne (by omega) (by assumption)) rfl rfl rfl rfl (Nat.le_of_ble_eq_true rfl) (by decide) (by decide) (fun v167 μ167 h167 => ?_)
  obtain ⟨rfl, F2, z2⟩ := h167
  refine Rn.pop (pc1 := 171)  dX9_does_170 rfl rfl ?_
  refine Rn.goto 253 dX9_does_171 (by decide) ?_
  refine Rn.iconst (pc1 := 254) (v := nI 1) dX9_does_253 rfl (by decide) ?_
  exact Rn.ireturn dX9_does_254 rfl rfl ⟨_, rfl, rfl, ⟨_, F2, LQ.rf⟩, z2⟩
theorem lD174 {i : Nat} {c v : Int32} {o4 : Option Value} (F : MR μ m f f2 p kept sl u pd padded at_ od ordered) : Rn G 4 kX9_does 174 [some (.ref m), some (.int (nI i)), some (.int c), some (.int v), o4] [] μ sz 0 0 (Yes m f2 p kept sl u pd padded at_ od ordered (upd f 2 (f 2 + v)) μ) := by
  have hO := F.1
  have hA := F.2.1
  refine Rn.aload_n (pc1 := 175)  dX9_does_174 rfl rfl rfl ?_
  refine Rn.getfield (pc1 := 178)  dX9_does_175 rfl fX9_7 (by first | assumption | exact mset_same | exact mget_ne (by omega) (by assumption)) rfl ?_
  refine Rn.iconst (pc1 := 179) (v := nI 2) dX9_does_178 rfl (by decide) ?_
  refine Rn.dup2 (pc1 := 180)  dX9_does_179 rfl rfl rfl ?_
  refine Rn.iaload (pc1 := 181) (v := f 2)  dX9_does_180 rfl (by first | assumption | exact mset_same | exact mget_ne (by omega) (by assumption)) (vp_nI (j := 2) rfl (by omega) (by decide)) (by rw [nI_clamp (by omega)] <;> (first | rfl | assumption | (simp (disch := omega) only [upd_ne, upd_at, blk_out]; done) | (simp (disch := omega) only [upd_ne, upd_at, blk_out]; assumption))) ?_
  refine Rn.iload_n (pc1 := 182)  dX9_does_181 rfl rfl rfl ?_
  refine Rn.iadd (pc1 := 183)  dX9_does_182 rfl rfl ?_
  refine Rn.iastore (pc1 := 184)  dX9_does_183 rfl (by first | assumption | exact mset_same | exact mget_ne (by omega) (by assumption)) (vp_nI (j := 2) rfl (by omega) (by decide)) (updI (j := 2) rfl (by omega)) ?_
  refine Rn.goto 253 dX9_does_184 (by decide) ?_
  refine Rn.iconst (pc1 := 254) (v := nI 1) dX9_does_253 rfl (by decide) ?_
  exact Rn.ireturn dX9_does_254 rfl rfl ⟨_, rfl, rfl, ⟨_, F.set1 (upd f 2 (f 2 + v)), LQ.rf⟩, Fr.set (by omega) (by omega)⟩
theorem lD187 {i : Nat} {c : Int32} {o3 o4 : Option Value} (F : MR μ m f f2 p kept sl u pd padded at_ od ordered) (I : IV f h rc sc B) : Rn G 4 kX9_does 187 [some (.ref m), some (.int (nI i)), some (.int c), o3, o4] [] μ sz 0 0 (Yes m f2 p kept sl u pd padded at_ od ordered (thinF f h (f 0) (f 2)) μ) := by
  have hO := F.1
  have hA := F.2.1
  have hh := I.2.1.1
  refine Rn.aload_n (pc1 := 188)  dX9_does_187 rfl rfl rfl ?_
  refine Rn.getfield (pc1 := 191)  dX9_does_188 rfl fX9_7 (by first | assumption | exact mset_same | exact mget_ne (by omega) (by assumption)) rfl ?_
  refine Rn.cS_i (pc1 := 194) (eX9_thins F.2.1 I.2.1.1 I.1.1 I.size) dX9_does_191 rfl qX9_90 oX9_thins rfl rfl (Nat.le_of_ble_eq_true rfl) (by decide) (by decide) (fun v191 μ191 h191 => ?_)
  obtain ⟨rfl, g, rfl, hg⟩ := h191
  refine Rn.pop (pc1 := 195)  dX9_does_194 rfl rfl ?_
  refine Rn.goto 253 dX9_does_195 (by decide) ?_
  refine Rn.iconst (pc1 := 254) (v := nI 1) dX9_does_253 rfl (by decide) ?_
  exact Rn.ireturn dX9_does_254 rfl rfl ⟨_, rfl, rfl, ⟨g, F.set1 g, fun j hj => hg j (by rw [(I.thin (s := f 0) (mi := f 2)).h.1] at hj; omega)⟩, Fr.set (by omega) (by omega)⟩
theorem lD198 {i : Nat} {c : Int32} {o3 o4 : Option Value} (F : MR μ m f f2 p kept sl u pd padded at_ od ordered) (I : IV f h rc sc B) (hr : rc < 6) : Rn G 4 kX9_does 198 [some (.ref m), some (.int (nI i)), some (.int c), o3, o4] [] μ sz 0 0 (Yes m f2 p kept sl u pd padded at_ od ordered (comeF f rc) μ) := by
  have hO := F.1
  refine Rn.aload_n (pc1 := 199)  dX9_does_198 rfl rfl rfl ?_
  refine Rn.cV_i (pc1 := 202) (eX9_comes F I hr) dX9_does_199 rfl qX9_102 oX9_comes (by first | assumption | exact mset_same | exact mget_ne (by omega) (by assumption)) rfl rfl rfl rfl (Nat.le_of_ble_eq_true rfl) (by decide) (by decide) (fun v199 μ199 h199 => ?_)
  obtain ⟨rfl, F2, z2⟩ := h199
  refine Rn.pop (pc1 := 203)  dX9_does_202 rfl rfl ?_
  refine Rn.goto 253 dX9_does_203 (by decide) ?_
  refine Rn.iconst (pc1 := 254) (v := nI 1) dX9_does_253 rfl (by decide) ?_
  exact Rn.ireturn dX9_does_254 rfl rfl ⟨_, rfl, rfl, ⟨_, F2, LQ.rf⟩, z2⟩
theorem lD206 {i r M : Nat} {c : Int32} (F : MR μ m f f2 p kept sl u pd padded at_ od ordered) (I : IV f h rc sc B) (hB : B < 2 ^ 30) (hr : r < 6) (hM : M ≤ 99) : Rn G 4 kX9_does 206 [some (.ref m), some (.int (nI i)), some (.int c), some (.int (nI r)), some (.int (nI M))] [] μ sz 0 0 (Yes m f2 p kept sl u pd padded at_ od ordered (readF f r (rdK f h r) (rdC f h r M)) μ) := by
  have hO := F.1
  refine Rn.aload_n (pc1 := 207)  dX9_does_206 rfl rfl rfl ?_
  refine Rn.iload_n (pc1 := 208)  dX9_does_207 rfl rfl rfl ?_
  refine Rn.iload (pc1 := 210)  dX9_does_208 rfl rfl ?_
  refine Rn.cV_i (pc1 := 213) (eX9_reads F I hB hr hM) dX9_does_210 rfl qX9_111 oX9_reads (by first | assumption | exact mset_same | exact mget_ne (by omega) (by assumption)) rfl rfl rfl rfl (Nat.le_of_ble_eq_true rfl) (by decide) (by decide) (fun v210 μ210 h210 => ?_)
  obtain ⟨rfl, F2, z2⟩ := h210
  refine Rn.pop (pc1 := 214)  dX9_does_213 rfl rfl ?_
  refine Rn.goto 253 dX9_does_214 (by decide) ?_
  refine Rn.iconst (pc1 := 254) (v := nI 1) dX9_does_253 rfl (by decide) ?_
  exact Rn.ireturn dX9_does_254 rfl rfl ⟨_, rfl, rfl, ⟨_, F2, LQ.rf⟩, z2⟩
theorem lD217a {i r : Nat} {o4 : Option Value} (F : MR μ m f f2 p kept sl u pd padded at_ od ordered) (hr : r < 6) : Rn G 4 kX9_does 217 [some (.ref m), some (.int (nI i)), some (.int (nI 99)), some (.int (nI r)), o4] [] μ sz 0 0 (Yes m f2 p kept sl u pd padded at_ od ordered (confF f r) μ) := by
  have hO := F.1
  refine Rn.aload_n (pc1 := 218)  dX9_does_217 rfl rfl rfl ?_
  refine Rn.iload_n (pc1 := 219)  dX9_does_218 rfl rfl rfl ?_
  refine Rn.iload_n (pc1 := 220)  dX9_does_219 rfl rfl rfl ?_
  refine Rn.bipush (pc1 := 222) (v := nI 99) dX9_does_220 rfl (by decide) ?_
  refine Rn.icmp_ne (pc1 := 225) 229 dX9_does_222 rfl (by decide) (fun c222 => ?_) (fun c222 => ?_)
  · exact absurd rfl c222
  · refine Rn.iconst (pc1 := 226) (v := nI 1) dX9_does_225 rfl (by decide) ?_
    refine Rn.goto 230 dX9_does_226 (by decide) ?_
    refine Rn.cV_i (pc1 := 233) (eX9_takes1 F hr) dX9_does_230 rfl qX9_114 oX9_takes (by first | assumption | exact mset_same | exact mget_ne (by omega) (by assumption)) rfl rfl rfl rfl (Nat.le_of_ble_eq_true rfl) (by decide) (by decide) (fun v230 μ230 h230 => ?_)
    obtain ⟨rfl, F2, z2⟩ := h230
    refine Rn.pop (pc1 := 234)  dX9_does_233 rfl rfl ?_
    refine Rn.goto 253 dX9_does_234 (by decide) ?_
    refine Rn.iconst (pc1 := 254) (v := nI 1) dX9_does_253 rfl (by decide) ?_
    exact Rn.ireturn dX9_does_254 rfl rfl ⟨_, rfl, rfl, ⟨_, F2, LQ.rf⟩, z2⟩
theorem lD217b {i r : Nat} {o4 : Option Value} (F : MR μ m f f2 p kept sl u pd padded at_ od ordered) (hr : r < 6) : Rn G 4 kX9_does 217 [some (.ref m), some (.int (nI i)), some (.int (nI 98)), some (.int (nI r)), o4] [] μ sz 0 0 (Yes m f2 p kept sl u pd padded at_ od ordered (backF f r) μ) := by
  have hO := F.1
  refine Rn.aload_n (pc1 := 218)  dX9_does_217 rfl rfl rfl ?_
  refine Rn.iload_n (pc1 := 219)  dX9_does_218 rfl rfl rfl ?_
  refine Rn.iload_n (pc1 := 220)  dX9_does_219 rfl rfl rfl ?_
  refine Rn.bipush (pc1 := 222) (v := nI 99) dX9_does_220 rfl (by decide) ?_
  refine Rn.icmp_ne (pc1 := 225) 229 dX9_does_222 rfl (by decide) (fun c222 => ?_) (fun c222 => ?_)
  · refine Rn.iconst (pc1 := 230) (v := nI 0) dX9_does_229 rfl (by decide) ?_
    refine Rn.cV_i (pc1 := 233) (eX9_takes0 F hr) dX9_does_230 rfl qX9_114 oX9_takes (by first | assumption | exact mset_same | exact mget_ne (by omega) (by assumption)) rfl rfl rfl rfl (Nat.le_of_ble_eq_true rfl) (by decide) (by decide) (fun v230 μ230 h230 => ?_)
    obtain ⟨rfl, F2, z2⟩ := h230
    refine Rn.pop (pc1 := 234)  dX9_does_233 rfl rfl ?_
    refine Rn.goto 253 dX9_does_234 (by decide) ?_
    refine Rn.iconst (pc1 := 254) (v := nI 1) dX9_does_253 rfl (by decide) ?_
    exact Rn.ireturn dX9_does_254 rfl rfl ⟨_, rfl, rfl, ⟨_, F2, LQ.rf⟩, z2⟩
  · exact absurd c222 (by decide)
theorem lD237 {i : Nat} {c : Int32} {o3 o4 : Option Value} (F : MR μ m f f2 p kept sl u pd padded at_ od ordered) (I : IV f h rc sc B) : Rn G 4 kX9_does 237 [some (.ref m), some (.int (nI i)), some (.int c), o3, o4] [] μ sz 0 0 (Yes m f2 p kept sl u pd padded at_ od ordered (shotF f sc) μ) := by
  have hO := F.1
  refine Rn.aload_n (pc1 := 238)  dX9_does_237 rfl rfl rfl ?_
  refine Rn.cV_i (pc1 := 241) (eX9_shoots F I) dX9_does_238 rfl qX9_94 oX9_shoots (by first | assumption | exact mset_same | exact mget_ne (by omega) (by assumption)) rfl rfl rfl rfl (Nat.le_of_ble_eq_true rfl) (by decide) (by decide) (fun v238 μ238 h238 => ?_)
  obtain ⟨rfl, F2, z2⟩ := h238
  refine Rn.pop (pc1 := 242)  dX9_does_241 rfl rfl ?_
  refine Rn.goto 253 dX9_does_242 (by decide) ?_
  refine Rn.iconst (pc1 := 254) (v := nI 1) dX9_does_253 rfl (by decide) ?_
  exact Rn.ireturn dX9_does_254 rfl rfl ⟨_, rfl, rfl, ⟨_, F2, LQ.rf⟩, z2⟩
theorem lD245 {i r n : Nat} {c : Int32} (F : MR μ m f f2 p kept sl u pd padded at_ od ordered) (hr : r < 6) (hn : n < 4) : Rn G 4 kX9_does 245 [some (.ref m), some (.int (nI i)), some (.int c), some (.int (nI r)), some (.int (nI n))] [] μ sz 0 0 (Yes m f2 p kept sl u pd padded at_ od ordered (beginF f r (f (423 + 13 * n)) (fun k => f (423 + 13 * n + 1 + k))) μ) := by
  have hO := F.1
  refine Rn.aload_n (pc1 := 246)  dX9_does_245 rfl rfl rfl ?_
  refine Rn.iload_n (pc1 := 247)  dX9_does_246 rfl rfl rfl ?_
  refine Rn.iload (pc1 := 249)  dX9_does_247 rfl rfl ?_
  refine Rn.cV_i (pc1 := 252) (eX9_loads F hr hn) dX9_does_249 rfl qX9_124 oX9_loads (by first | assumption | exact mset_same | exact mget_ne (by omega) (by assumption)) rfl rfl rfl rfl (Nat.le_of_ble_eq_true rfl) (by decide) (by decide) (fun v249 μ249 h249 => ?_)
  obtain ⟨rfl, F2, z2⟩ := h249
  refine Rn.pop (pc1 := 253)  dX9_does_252 rfl rfl ?_
  refine Rn.iconst (pc1 := 254) (v := nI 1) dX9_does_253 rfl (by decide) ?_
  exact Rn.ireturn dX9_does_254 rfl rfl ⟨_, rfl, rfl, ⟨_, F2, LQ.rf⟩, z2⟩
end M13
