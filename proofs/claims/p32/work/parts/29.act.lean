/-! ===== the law's helpers: low, cell, act ===== -/
-- LOOK2
theorem andmax (x : Int32) : ∃ c, c < 2 ^ 31 ∧ x &&& 2147483647 = nI c := by
  refine ⟨(x &&& 2147483647).toBitVec.toNat, ?_, ?_⟩
  · have h : (x &&& 2147483647).toBitVec.toNat ≤ (2147483647 : Int32).toBitVec.toNat := by
      rw [Int32.toBitVec_and, BitVec.toNat_and]
      exact Nat.and_le_right
    have h2 : (2147483647 : Int32).toBitVec.toNat = 2147483647 := by decide +kernel
    omega
  · apply Int32.toBitVec_inj.mp
    show _ = BitVec.ofNat 32 _
    rw [BitVec.ofNat_toNat, BitVec.setWidth_eq]
theorem rem_nI {a n : Nat} (ha : a < 2 ^ 31) (h0 : 0 < n) (hn : n < 2 ^ 31) : nI a - nI a / nI n * nI n = nI (a % n) := by
  have h1 := Nat.div_add_mod a n
  rw [pk_div ha h0 hn, nI_mul, nI_sub (Nat.div_mul_le_self a n)]
  congr 1
  rw [Nat.mul_comm] at h1
  omega
abbrev QAb (x len B held : Nat) (f : Nat → Int32) (Pp : Nat → Int32) (u : Nat → Bool) (S : Nat → Nat → Int32) (v : Int32) (μ' : Mm) : Prop := ∃ f' held' P', CW μ' x f' held' P' Pp len u S (B + 1) ∧ JVf f' (B + 1) ∧ (v < nI 0 → f' = f ∧ held' = held)
section LAWH
variable {G : GG} {μ : Mm} {sz x held len B n : Nat} {f : Nat → Int32} {P : Nat → Nat → Int32} {Pp : Nat → Int32} {u : Nat → Bool} {S : Nat → Nat → Int32} {sv : Nat → Int32}
theorem qa {μ' : Mm} {may val v : Int32} {f' : Nat → Int32} (J : JVf f B) (hJ : may = nI 0 → JVf f' (B + 1)) (q : ((may < nI 0 ∧ v = may ∧ CW μ' x f held P Pp len u S (B + 1)) ∨ (may = nI 0 ∧ nI 0 ≤ v ∧ v = val ∧ CW μ' x f' (if held < 6 then held + 1 else 6) (pushP P held f) Pp len u S (B + 1))) ∧ Fr x (x + 528) μ μ') : QAb x len B held f Pp u S v μ' := by
  obtain ⟨⟨h1, rfl, C⟩ | ⟨h1, h2, h3, C⟩, -⟩ := q
  · exact ⟨_, _, _, C, J.mono (by omega), fun _ => ⟨rfl, rfl⟩⟩
  · exact ⟨_, _, _, C, hJ h1, fun h => absurd h (i32_nlt.mpr h2)⟩
theorem eL_low {v : Int32} {m : Nat} (h0 : 0 < m) (hm : m < 2 ^ 31) : EvA G 0 kL_low [.int v, .int (nI m)] μ sz 0 0 (rI fun r μ' => (∃ c, c < m ∧ r = nI c) ∧ μ' = μ) := by
  obtain ⟨a, ha, ea⟩ := andmax v
  refine EvA.of (L := [some (.int v), some (.int (nI m))]) (by decide +kernel) (Nat.le_of_ble_eq_true rfl) rfl ?_
  refine Rn.iload_n (pc1 := 1)  dL_low_0 rfl rfl rfl ?_
  refine Rn.ldc (pc1 := 3) dL_low_1 rfl qL_7 ?_
  refine Rn.iand (pc1 := 4)  dL_low_3 rfl ea ?_
  refine Rn.iload_n (pc1 := 5)  dL_low_4 rfl rfl rfl ?_
  refine Rn.irem (pc1 := 6)  dL_low_5 rfl (nI_ne0 h0 hm) (rem_nI ha h0 hm) ?_
  exact Rn.ireturn dL_low_6 rfl rfl ⟨_, rfl, ⟨_, Nat.mod_lt a h0, rfl⟩, rfl⟩
theorem eL_cell {k : Nat} (hn : (gS G).slots.size = n) (hn2 : n ≤ 260) (hs : ∀ i, i < n → (gS G).slots[i]? = some (.int (sv i))) (hk : k < n) : EvA G 0 kL_cell [.ref (gB G), .int (nI k)] μ sz 0 0 (rI fun r μ' => r = sv k ∧ μ' = μ) := by
  have hz : (gS G).slots.size.toInt32 = nI n := by rw [hn]; rfl
  refine EvA.of (L := [some (.ref (gB G)), some (.int (nI k))]) (by decide +kernel) (Nat.le_of_ble_eq_true rfl) rfl ?_
  refine Rn.iload_n (pc1 := 1)  dL_cell_0 rfl rfl rfl ?_
  refine Rn.aload_n (pc1 := 2)  dL_cell_1 rfl rfl rfl ?_
  refine Rn.slen (pc1 := 3)  dL_cell_2 rfl hz ?_
  refine Rn.icmp_ge (pc1 := 6) 12 dL_cell_3 rfl (by decide) (fun c3 => ?_) (fun c3 => ?_)
  · exact absurd c3 (nI_ge hk (by omega))
  · refine Rn.aload_n (pc1 := 7)  dL_cell_6 rfl rfl rfl ?_
    refine Rn.iload_n (pc1 := 8)  dL_cell_7 rfl rfl rfl ?_
    refine Rn.sld (pc1 := 9) (v := sv k)  dL_cell_8 rfl (vp_nI (j := k) rfl (by omega) (by omega)) (by rw [nI_clamp (by omega)]; exact hs _ (by omega)) ?_
    refine Rn.goto 20 dL_cell_9 (by decide) ?_
    exact Rn.ireturn dL_cell_20 rfl rfl ⟨_, rfl, rfl, rfl⟩
theorem lA_108 {k : Nat} {a b r : Int32} (hB : B < 2 ^ 30) (C : CW μ x f held P Pp len u S B) (J : JVf f B) : Rn G 7 kL_act 108 [some (.ref x), some (.ref (gB G)), some (.int (nI k)), some (.int a), some (.int b), some (.int r)] [] μ sz 0 0 (rI fun v μ' => QAb x len B held f Pp u S v μ') := by
  have hO := C.1
  refine Rn.aload_n (pc1 := 109)  dL_act_108 rfl rfl rfl ?_
  refine Rn.iload_n (pc1 := 110)  dL_act_109 rfl rfl rfl ?_
  refine Rn.bipush (pc1 := 112) (v := nI 6) dL_act_110 rfl (by decide) ?_
  refine Rn.cS_i (pc1 := 115) (eL_low (m := 6) (by omega) (by omega)) dL_act_112 rfl qL_15 oL_low rfl rfl (Nat.le_of_ble_eq_true rfl) (by decide) (by decide) (fun v112 μ112 h112 => ?_)
  obtain ⟨⟨c112, h112, rfl⟩, rfl⟩ := h112
  refine Rn.iload (pc1 := 117)  dL_act_115 rfl rfl ?_
  refine Rn.sipush (pc1 := 120) (v := nI 1000) dL_act_117 rfl (by decide) ?_
  refine Rn.cS_i (pc1 := 123) (eL_low (m := 1000) (by omega) (by omega)) dL_act_120 rfl qL_15 oL_low rfl rfl (Nat.le_of_ble_eq_true rfl) (by decide) (by decide) (fun v120 μ120 h120 => ?_)
  obtain ⟨⟨c120, h120, rfl⟩, rfl⟩ := h120
  refine Rn.cV_i (pc1 := 126) (eX8_set hB C) dL_act_123 rfl qL_19 oX8_set (by first | assumption | exact mset_same | exact mget_ne (by omega) (by assumption) | exact mget_ne (by omega) mset_same) rfl rfl rfl rfl (Nat.le_of_ble_eq_true rfl) (by decide) (by decide) (fun v123 μ123 h123 => ?_)
  exact Rn.ireturn dL_act_126 rfl rfl ⟨_, rfl, qa J (jO_set C.2.1 J) h123⟩
theorem lA_127 {k : Nat} {a b r : Int32} (hB : B < 2 ^ 30) (C : CW μ x f held P Pp len u S B) (J : JVf f B) : Rn G 7 kL_act 127 [some (.ref x), some (.ref (gB G)), some (.int (nI k)), some (.int a), some (.int b), some (.int r)] [] μ sz 0 0 (rI fun v μ' => QAb x len B held f Pp u S v μ') := by
  have hO := C.1
  refine Rn.aload_n (pc1 := 128)  dL_act_127 rfl rfl rfl ?_
  refine Rn.iload_n (pc1 := 129)  dL_act_128 rfl rfl rfl ?_
  refine Rn.bipush (pc1 := 131) (v := nI 6) dL_act_129 rfl (by decide) ?_
  refine Rn.cS_i (pc1 := 134) (eL_low (m := 6) (by omega) (by omega)) dL_act_131 rfl qL_15 oL_low rfl rfl (Nat.le_of_ble_eq_true rfl) (by decide) (by decide) (fun v131 μ131 h131 => ?_)
  obtain ⟨⟨c131, h131, rfl⟩, rfl⟩ := h131
  refine Rn.cV_i (pc1 := 137) (eX8_remove hB C) dL_act_134 rfl qL_24 oX8_remove (by first | assumption | exact mset_same | exact mget_ne (by omega) (by assumption) | exact mget_ne (by omega) mset_same) rfl rfl rfl rfl (Nat.le_of_ble_eq_true rfl) (by decide) (by decide) (fun v134 μ134 h134 => ?_)
  exact Rn.ireturn dL_act_137 rfl rfl ⟨_, rfl, qa J (jO_remove C.2.1 J) h134⟩
theorem lA_138 {k : Nat} {a b r : Int32} (C : CW μ x f held P Pp len u S B) (J : JVf f B) : Rn G 7 kL_act 138 [some (.ref x), some (.ref (gB G)), some (.int (nI k)), some (.int a), some (.int b), some (.int r)] [] μ sz 0 0 (rI fun v μ' => QAb x len B held f Pp u S v μ') := by
  have hO := C.1
  refine Rn.aload_n (pc1 := 139)  dL_act_138 rfl rfl rfl ?_
  refine Rn.iconst (pc1 := 140) (v := nI 1) dL_act_139 rfl (by decide) ?_
  refine Rn.iload (pc1 := 142)  dL_act_140 rfl rfl ?_
  refine Rn.bipush (pc1 := 144) (v := nI 40) dL_act_142 rfl (by decide) ?_
  refine Rn.cS_i (pc1 := 147) (eL_low (m := 40) (by omega) (by omega)) dL_act_144 rfl qL_15 oL_low rfl rfl (Nat.le_of_ble_eq_true rfl) (by decide) (by decide) (fun v144 μ144 h144 => ?_)
  obtain ⟨⟨c144, h144, rfl⟩, rfl⟩ := h144
  refine Rn.iadd (pc1 := 148)  dL_act_147 rfl rfl ?_
  refine Rn.cV_i (pc1 := 151) (eX8_pass C) dL_act_148 rfl qL_28 oX8_pass (by first | assumption | exact mset_same | exact mget_ne (by omega) (by assumption) | exact mget_ne (by omega) mset_same) rfl rfl rfl rfl (Nat.le_of_ble_eq_true rfl) (by decide) (by decide) (fun v148 μ148 h148 => ?_)
  exact Rn.ireturn dL_act_151 rfl rfl ⟨_, rfl, qa J (jO_pass C.2.1 J) h148⟩
theorem lA_152 {k : Nat} {a b r : Int32} (C : CW μ x f held P Pp len u S B) (J : JVf f B) : Rn G 7 kL_act 152 [some (.ref x), some (.ref (gB G)), some (.int (nI k)), some (.int a), some (.int b), some (.int r)] [] μ sz 0 0 (rI fun v μ' => QAb x len B held f Pp u S v μ') := by
  have hO := C.1
  refine Rn.aload_n (pc1 := 153)  dL_act_152 rfl rfl rfl ?_
  refine Rn.cV_i (pc1 := 156) (eX8_reader C) dL_act_153 rfl qL_31 oX8_reader (by first | assumption | exact mset_same | exact mget_ne (by omega) (by assumption) | exact mget_ne (by omega) mset_same) rfl rfl rfl rfl (Nat.le_of_ble_eq_true rfl) (by decide) (by decide) (fun v153 μ153 h153 => ?_)
  exact Rn.ireturn dL_act_156 rfl rfl ⟨_, rfl, qa J (jO_come C.2.1 J) h153⟩
theorem lA_157 {k : Nat} {a b r : Int32} (hB : B < 2 ^ 30) (C : CW μ x f held P Pp len u S B) (J : JVf f B) : Rn G 7 kL_act 157 [some (.ref x), some (.ref (gB G)), some (.int (nI k)), some (.int a), some (.int b), some (.int r)] [] μ sz 0 0 (rI fun v μ' => QAb x len B held f Pp u S v μ') := by
  have hO := C.1
  refine Rn.aload_n (pc1 := 158)  dL_act_157 rfl rfl rfl ?_
  refine Rn.iload (pc1 := 160)  dL_act_158 rfl rfl ?_
  refine Rn.iconst (pc1 := 161) (v := nI 1) dL_act_160 rfl (by decide) ?_
  refine Rn.iload (pc1 := 163)  dL_act_161 rfl rfl ?_
  refine Rn.bipush (pc1 := 165) (v := nI 9) dL_act_163 rfl (by decide) ?_
  refine Rn.cS_i (pc1 := 168) (eL_low (m := 9) (by omega) (by omega)) dL_act_165 rfl qL_15 oL_low rfl rfl (Nat.le_of_ble_eq_true rfl) (by decide) (by decide) (fun v165 μ165 h165 => ?_)
  obtain ⟨⟨c165, h165, rfl⟩, rfl⟩ := h165
  refine Rn.iadd (pc1 := 169)  dL_act_168 rfl rfl ?_
  refine Rn.cV_i (pc1 := 172) (eX8_read hB C) dL_act_169 rfl qL_35 oX8_read (by first | assumption | exact mset_same | exact mget_ne (by omega) (by assumption) | exact mget_ne (by omega) mset_same) rfl rfl rfl rfl (Nat.le_of_ble_eq_true rfl) (by decide) (by decide) (fun v169 μ169 h169 => ?_)
  exact Rn.ireturn dL_act_172 rfl rfl ⟨_, rfl, qa J (jO_read hB C.2.1 J) h169⟩
theorem lA_173 {k : Nat} {a b r : Int32} (C : CW μ x f held P Pp len u S B) (J : JVf f B) : Rn G 7 kL_act 173 [some (.ref x), some (.ref (gB G)), some (.int (nI k)), some (.int a), some (.int b), some (.int r)] [] μ sz 0 0 (rI fun v μ' => QAb x len B held f Pp u S v μ') := by
  have hO := C.1
  refine Rn.aload_n (pc1 := 174)  dL_act_173 rfl rfl rfl ?_
  refine Rn.iload (pc1 := 176)  dL_act_174 rfl rfl ?_
  refine Rn.cV_i (pc1 := 179) (eX8_confirm C) dL_act_176 rfl qL_38 oX8_confirm (by first | assumption | exact mset_same | exact mget_ne (by omega) (by assumption) | exact mget_ne (by omega) mset_same) rfl rfl rfl rfl (Nat.le_of_ble_eq_true rfl) (by decide) (by decide) (fun v176 μ176 h176 => ?_)
  exact Rn.ireturn dL_act_179 rfl rfl ⟨_, rfl, qa J (jO_conf C.2.1 J) h176⟩
theorem lA_180 {k : Nat} {a b r : Int32} (hB : B < 2 ^ 30) (C : CW μ x f held P Pp len u S B) (J : JVf f B) : Rn G 7 kL_act 180 [some (.ref x), some (.ref (gB G)), some (.int (nI k)), some (.int a), some (.int b), some (.int r)] [] μ sz 0 0 (rI fun v μ' => QAb x len B held f Pp u S v μ') := by
  have hO := C.1
  refine Rn.iload (pc1 := 182)  dL_act_180 rfl rfl ?_
  refine Rn.iconst (pc1 := 183) (v := nI 2) dL_act_182 rfl (by decide) ?_
  refine Rn.cS_i (pc1 := 186) (eL_low (m := 2) (by omega) (by omega)) dL_act_183 rfl qL_15 oL_low rfl rfl (Nat.le_of_ble_eq_true rfl) (by decide) (by decide) (fun v183 μ183 h183 => ?_)
  obtain ⟨⟨c183, h183, rfl⟩, rfl⟩ := h183
  refine Rn.if_ne (pc1 := 189) 198 dL_act_186 rfl (by decide) (fun c186 => ?_) (fun c186 => ?_)
  · refine Rn.aload_n (pc1 := 199)  dL_act_198 rfl rfl rfl ?_
    refine Rn.cV_i (pc1 := 202) (eX8_snapshot hB C) dL_act_199 rfl qL_44 oX8_snapshot (by first | assumption | exact mset_same | exact mget_ne (by omega) (by assumption) | exact mget_ne (by omega) mset_same) rfl rfl rfl rfl (Nat.le_of_ble_eq_true rfl) (by decide) (by decide) (fun v199 μ199 h199 => ?_)
    have hret := qa J (fun _ => jO_shot hB C.2.1 J) h199
    exact Rn.ireturn dL_act_202 rfl rfl ⟨_, rfl, hret⟩
  · refine Rn.aload_n (pc1 := 190)  dL_act_189 rfl rfl rfl ?_
    refine Rn.iload (pc1 := 192)  dL_act_190 rfl rfl ?_
    refine Rn.cV_i (pc1 := 195) (eX8_goBack C) dL_act_192 rfl qL_41 oX8_goBack (by first | assumption | exact mset_same | exact mget_ne (by omega) (by assumption) | exact mget_ne (by omega) mset_same) rfl rfl rfl rfl (Nat.le_of_ble_eq_true rfl) (by decide) (by decide) (fun v192 μ192 h192 => ?_)
    have hret := qa J (jO_back C.2.1 J) h192
    refine Rn.goto 202 dL_act_195 (by decide) ?_
    exact Rn.ireturn dL_act_202 rfl rfl ⟨_, rfl, hret⟩
theorem lA_203 {k : Nat} {a b r : Int32} (hB : B < 2 ^ 30) (C : CW μ x f held P Pp len u S B) (J : JVf f B) : Rn G 7 kL_act 203 [some (.ref x), some (.ref (gB G)), some (.int (nI k)), some (.int a), some (.int b), some (.int r)] [] μ sz 0 0 (rI fun v μ' => QAb x len B held f Pp u S v μ') := by
  have hO := C.1
  refine Rn.iload (pc1 := 205)  dL_act_203 rfl rfl ?_
  refine Rn.iconst (pc1 := 206) (v := nI 3) dL_act_205 rfl (by decide) ?_
  refine Rn.cS_i (pc1 := 209) (eL_low (m := 3) (by omega) (by omega)) dL_act_206 rfl qL_15 oL_low rfl rfl (Nat.le_of_ble_eq_true rfl) (by decide) (by decide) (fun v206 μ206 h206 => ?_)
  obtain ⟨⟨c206, h206, rfl⟩, rfl⟩ := h206
  refine Rn.if_ne (pc1 := 212) 221 dL_act_209 rfl (by decide) (fun c209 => ?_) (fun c209 => ?_)
  · refine Rn.aload_n (pc1 := 222)  dL_act_221 rfl rfl rfl ?_
    refine Rn.iload (pc1 := 224)  dL_act_222 rfl rfl ?_
    refine Rn.iload (pc1 := 226)  dL_act_224 rfl rfl ?_
    refine Rn.iconst (pc1 := 227) (v := nI 4) dL_act_226 rfl (by decide) ?_
    refine Rn.cS_i (pc1 := 230) (eL_low (m := 4) (by omega) (by omega)) dL_act_227 rfl qL_15 oL_low rfl rfl (Nat.le_of_ble_eq_true rfl) (by decide) (by decide) (fun v227 μ227 h227 => ?_)
    obtain ⟨⟨c227, h227, rfl⟩, rfl⟩ := h227
    refine Rn.cV_i (pc1 := 233) (eX8_load C) dL_act_230 rfl qL_50 oX8_load (by first | assumption | exact mset_same | exact mget_ne (by omega) (by assumption) | exact mget_ne (by omega) mset_same) rfl rfl rfl rfl (Nat.le_of_ble_eq_true rfl) (by decide) (by decide) (fun v230 μ230 h230 => ?_)
    have hret := qa J (jO_load C.2.1 J) h230
    exact Rn.ireturn dL_act_233 rfl rfl ⟨_, rfl, hret⟩
  · refine Rn.aload_n (pc1 := 213)  dL_act_212 rfl rfl rfl ?_
    refine Rn.iload (pc1 := 215)  dL_act_213 rfl rfl ?_
    refine Rn.cV_i (pc1 := 218) (eX8_beginAnew hB C) dL_act_215 rfl qL_47 oX8_beginAnew (by first | assumption | exact mset_same | exact mget_ne (by omega) (by assumption) | exact mget_ne (by omega) mset_same) rfl rfl rfl rfl (Nat.le_of_ble_eq_true rfl) (by decide) (by decide) (fun v215 μ215 h215 => ?_)
    have hret := qa J (jO_anew C.2.1 J) h215
    refine Rn.goto 233 dL_act_218 (by decide) ?_
    exact Rn.ireturn dL_act_233 rfl rfl ⟨_, rfl, hret⟩
theorem lA_234 {k : Nat} {a b r : Int32} (C : CW μ x f held P Pp len u S B) (J : JVf f B) : Rn G 7 kL_act 234 [some (.ref x), some (.ref (gB G)), some (.int (nI k)), some (.int a), some (.int b), some (.int r)] [] μ sz 0 0 (rI fun v μ' => QAb x len B held f Pp u S v μ') := by
  have hO := C.1
  refine Rn.iload (pc1 := 236)  dL_act_234 rfl rfl ?_
  refine Rn.iconst (pc1 := 237) (v := nI 2) dL_act_236 rfl (by decide) ?_
  refine Rn.cS_i (pc1 := 240) (eL_low (m := 2) (by omega) (by omega)) dL_act_237 rfl qL_15 oL_low rfl rfl (Nat.le_of_ble_eq_true rfl) (by decide) (by decide) (fun v237 μ237 h237 => ?_)
  obtain ⟨⟨c237, h237, rfl⟩, rfl⟩ := h237
  refine Rn.if_ne (pc1 := 243) 259 dL_act_240 rfl (by decide) (fun c240 => ?_) (fun c240 => ?_)
  · refine Rn.aload_n (pc1 := 260)  dL_act_259 rfl rfl rfl ?_
    refine Rn.iconst (pc1 := 261) (v := nI 1) dL_act_260 rfl (by decide) ?_
    refine Rn.iload_n (pc1 := 262)  dL_act_261 rfl rfl rfl ?_
    refine Rn.bipush (pc1 := 264) (v := nI 60) dL_act_262 rfl (by decide) ?_
    refine Rn.cS_i (pc1 := 267) (eL_low (m := 60) (by omega) (by omega)) dL_act_264 rfl qL_15 oL_low rfl rfl (Nat.le_of_ble_eq_true rfl) (by decide) (by decide) (fun v264 μ264 h264 => ?_)
    obtain ⟨⟨c264, h264, rfl⟩, rfl⟩ := h264
    refine Rn.cV_i (pc1 := 270) (eX8_turn C) dL_act_267 rfl qL_53 oX8_turn (by first | assumption | exact mset_same | exact mget_ne (by omega) (by assumption) | exact mget_ne (by omega) mset_same) rfl rfl rfl rfl (Nat.le_of_ble_eq_true rfl) (by decide) (by decide) (fun v267 μ267 h267 => ?_)
    have hret := qa J (jO_turn C.2.1 J) h267
    exact Rn.ireturn dL_act_270 rfl rfl ⟨_, rfl, hret⟩
  · refine Rn.aload_n (pc1 := 244)  dL_act_243 rfl rfl rfl ?_
    refine Rn.iconst (pc1 := 245) (v := nI 0) dL_act_244 rfl (by decide) ?_
    refine Rn.iconst (pc1 := 246) (v := nI 1) dL_act_245 rfl (by decide) ?_
    refine Rn.iload_n (pc1 := 247)  dL_act_246 rfl rfl rfl ?_
    refine Rn.bipush (pc1 := 249) (v := nI 20) dL_act_247 rfl (by decide) ?_
    refine Rn.cS_i (pc1 := 252) (eL_low (m := 20) (by omega) (by omega)) dL_act_249 rfl qL_15 oL_low rfl rfl (Nat.le_of_ble_eq_true rfl) (by decide) (by decide) (fun v249 μ249 h249 => ?_)
    obtain ⟨⟨c249, h249, rfl⟩, rfl⟩ := h249
    refine Rn.iadd (pc1 := 253)  dL_act_252 rfl rfl ?_
    refine Rn.cV_i (pc1 := 256) (eX8_turn C) dL_act_253 rfl qL_53 oX8_turn (by first | assumption | exact mset_same | exact mget_ne (by omega) (by assumption) | exact mget_ne (by omega) mset_same) rfl rfl rfl rfl (Nat.le_of_ble_eq_true rfl) (by decide) (by decide) (fun v253 μ253 h253 => ?_)
    have hret := qa J (jO_turn C.2.1 J) h253
    refine Rn.goto 270 dL_act_256 (by decide) ?_
    exact Rn.ireturn dL_act_270 rfl rfl ⟨_, rfl, hret⟩
theorem lA_271 {k : Nat} {a b r : Int32} (hB : B < 2 ^ 30) (C : CW μ x f held P Pp len u S B) (J : JVf f B) : Rn G 7 kL_act 271 [some (.ref x), some (.ref (gB G)), some (.int (nI k)), some (.int a), some (.int b), some (.int r)] [] μ sz 0 0 (rI fun v μ' => QAb x len B held f Pp u S v μ') := by
  have hO := C.1
  refine Rn.aload_n (pc1 := 272)  dL_act_271 rfl rfl rfl ?_
  refine Rn.cV_i (pc1 := 275) (eX8_thin C) dL_act_272 rfl qL_56 oX8_thin (by first | assumption | exact mset_same | exact mget_ne (by omega) (by assumption) | exact mget_ne (by omega) mset_same) rfl rfl rfl rfl (Nat.le_of_ble_eq_true rfl) (by decide) (by decide) (fun v272 μ272 h272 => ?_)
  exact Rn.ireturn dL_act_275 rfl rfl ⟨_, rfl, qa J (fun _ => jO_thin hB C.2.1 J) h272⟩
theorem eL_act {k : Nat} (hn : (gS G).slots.size = n) (hn2 : n ≤ 260) (hs : ∀ i, i < n → (gS G).slots[i]? = some (.int (sv i))) (hk : k + 2 < n) (hB : B < 2 ^ 30) (C : CW μ x f held P Pp len u S B) (J : JVf f B) : EvA G 7 kL_act [.ref x, .ref (gB G), .int (nI k)] μ sz 0 0 (rI fun v μ' => QAb x len B held f Pp u S v μ') := by
  refine EvA.of (L := [some (.ref x), some (.ref (gB G)), some (.int (nI k)), none, none, none]) (by decide +kernel) (Nat.le_of_ble_eq_true rfl) rfl ?_
  refine Rn.aload_n (pc1 := 1)  dL_act_0 rfl rfl rfl ?_
  refine Rn.iload_n (pc1 := 2)  dL_act_1 rfl rfl rfl ?_
  refine Rn.iconst (pc1 := 3) (v := nI 1) dL_act_2 rfl (by decide) ?_
  refine Rn.iadd (pc1 := 4)  dL_act_3 rfl (nI_add k 1) ?_
  refine Rn.cS_i (pc1 := 7) (eL_cell hn hn2 hs (show k + 1 < n by omega)) dL_act_4 rfl qL_9 oL_cell rfl rfl (Nat.le_of_ble_eq_true rfl) (by decide) (by decide) (fun v4 μ4 h4 => ?_)
  obtain ⟨rfl, rfl⟩ := h4
  refine Rn.istore_n (pc1 := 8)  dL_act_7 rfl rfl (by decide) rfl rfl ?_
  refine Rn.aload_n (pc1 := 9)  dL_act_8 rfl rfl rfl ?_
  refine Rn.iload_n (pc1 := 10)  dL_act_9 rfl rfl rfl ?_
  refine Rn.iconst (pc1 := 11) (v := nI 2) dL_act_10 rfl (by decide) ?_
  refine Rn.iadd (pc1 := 12)  dL_act_11 rfl (nI_add k 2) ?_
  refine Rn.cS_i (pc1 := 15) (eL_cell hn hn2 hs (show k + 2 < n by omega)) dL_act_12 rfl qL_9 oL_cell rfl rfl (Nat.le_of_ble_eq_true rfl) (by decide) (by decide) (fun v12 μ12 h12 => ?_)
  obtain ⟨rfl, rfl⟩ := h12
  refine Rn.istore (pc1 := 17)  dL_act_15 rfl (by decide) rfl rfl ?_
  refine Rn.iload_n (pc1 := 18)  dL_act_17 rfl rfl rfl ?_
  refine Rn.iconst (pc1 := 19) (v := nI 4) dL_act_18 rfl (by decide) ?_
  refine Rn.cS_i (pc1 := 22) (eL_low (m := 4) (by omega) (by omega)) dL_act_19 rfl qL_15 oL_low rfl rfl (Nat.le_of_ble_eq_true rfl) (by decide) (by decide) (fun v19 μ19 h19 => ?_)
  obtain ⟨⟨c19, h19, rfl⟩, rfl⟩ := h19
  refine Rn.istore (pc1 := 24)  dL_act_22 rfl (by decide) rfl rfl ?_
  refine Rn.aload_n (pc1 := 25)  dL_act_24 rfl rfl rfl ?_
  refine Rn.iload_n (pc1 := 26)  dL_act_25 rfl rfl rfl ?_
  refine Rn.cS_i (pc1 := 29) (eL_cell hn hn2 hs (show k < n by omega)) dL_act_26 rfl qL_9 oL_cell rfl rfl (Nat.le_of_ble_eq_true rfl) (by decide) (by decide) (fun v26 μ26 h26 => ?_)
  obtain ⟨rfl, rfl⟩ := h26
  refine Rn.bipush (pc1 := 31) (v := nI 16) dL_act_29 rfl (by decide) ?_
  refine Rn.cS_i (pc1 := 34) (eL_low (m := 16) (by omega) (by omega)) dL_act_31 rfl qL_15 oL_low rfl rfl (Nat.le_of_ble_eq_true rfl) (by decide) (by decide) (fun v31 μ31 h31 => ?_)
  obtain ⟨⟨c31, h31, rfl⟩, rfl⟩ := h31
  by_cases q0 : c31 = 0
  · subst q0
    exact Rn.tableIn (off := 74) 108 dL_act_34 (by decide) (by decide) rfl (by decide) (lA_108 hB C J)
  by_cases q1 : c31 = 1
  · subst q1
    exact Rn.tableIn (off := 74) 108 dL_act_34 (by decide) (by decide) rfl (by decide) (lA_108 hB C J)
  by_cases q2 : c31 = 2
  · subst q2
    exact Rn.tableIn (off := 74) 108 dL_act_34 (by decide) (by decide) rfl (by decide) (lA_108 hB C J)
  by_cases q3 : c31 = 3
  · subst q3
    exact Rn.tableIn (off := 74) 108 dL_act_34 (by decide) (by decide) rfl (by decide) (lA_108 hB C J)
  by_cases q4 : c31 = 4
  · subst q4
    exact Rn.tableIn (off := 74) 108 dL_act_34 (by decide) (by decide) rfl (by decide) (lA_108 hB C J)
  by_cases q5 : c31 = 5
  · subst q5
    exact Rn.tableIn (off := 93) 127 dL_act_34 (by decide) (by decide) rfl (by decide) (lA_127 hB C J)
  by_cases q6 : c31 = 6
  · subst q6
    exact Rn.tableIn (off := 93) 127 dL_act_34 (by decide) (by decide) rfl (by decide) (lA_127 hB C J)
  by_cases q7 : c31 = 7
  · subst q7
    exact Rn.tableIn (off := 104) 138 dL_act_34 (by decide) (by decide) rfl (by decide) (lA_138 C J)
  by_cases q8 : c31 = 8
  · subst q8
    exact Rn.tableIn (off := 118) 152 dL_act_34 (by decide) (by decide) rfl (by decide) (lA_152 C J)
  by_cases q9 : c31 = 9
  · subst q9
    exact Rn.tableIn (off := 123) 157 dL_act_34 (by decide) (by decide) rfl (by decide) (lA_157 hB C J)
  by_cases q10 : c31 = 10
  · subst q10
    exact Rn.tableIn (off := 123) 157 dL_act_34 (by decide) (by decide) rfl (by decide) (lA_157 hB C J)
  by_cases q11 : c31 = 11
  · subst q11
    exact Rn.tableIn (off := 139) 173 dL_act_34 (by decide) (by decide) rfl (by decide) (lA_173 C J)
  by_cases q12 : c31 = 12
  · subst q12
    exact Rn.tableIn (off := 146) 180 dL_act_34 (by decide) (by decide) rfl (by decide) (lA_180 hB C J)
  by_cases q13 : c31 = 13
  · subst q13
    exact Rn.tableIn (off := 169) 203 dL_act_34 (by decide) (by decide) rfl (by decide) (lA_203 hB C J)
  by_cases q14 : c31 = 14
  · subst q14
    exact Rn.tableIn (off := 200) 234 dL_act_34 (by decide) (by decide) rfl (by decide) (lA_234 C J)
  exact Rn.tableOut 271 dL_act_34 (by rw [nI_toInt (by omega)]; omega) (by decide) (lA_271 hB C J)
end LAWH
