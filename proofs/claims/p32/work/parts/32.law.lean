/-! ===== the law: its loop over the script ===== -/
-- LOOK2
section LAWL
variable {G : GG} {x len n sz : Nat} {Pp : Nat → Int32} {u : Nat → Bool} {S : Nat → Nat → Int32} {sv : Nat → Int32}
theorem law_loop {T : Nat} (hn : (gS G).slots.size = n) (hn2 : n ≤ 260) (hs : ∀ i, i < n → (gS G).slots[i]? = some (.int (sv i))) (hT : T ≤ 40) (hT2 : 3 * T ≤ n) : ∀ (r k B : Nat) (f : Nat → Int32) (held : Nat) (P : Nat → Nat → Int32) (μ : Mm) (o5 o6 o7 o8 : Option Value), k + r = T → B + r < 2 ^ 26 → CW μ x f held P Pp len u S B → JVf f B → Rn G 8 kL_law 32 [some (.ref (gB G)), some (.ref x), some (.int (nI 1)), some (.int (nI T)), some (.int (nI k)), o5, o6, o7, o8] [] μ sz 0 0 (rI fun v _ => v = nI 1) := by
  intro r
  induction r with
  | zero =>
    intro k B f held P μ o5 o6 o7 o8 hk hB C J
    obtain rfl : k = T := by omega
    refine Rn.iload (pc1 := 34)  dL_law_32 rfl rfl ?_
    refine Rn.iload_n (pc1 := 35)  dL_law_34 rfl rfl rfl ?_
    refine Rn.icmp_ge (pc1 := 38) 160 dL_law_35 rfl (by decide) (fun c35 => ?_) (fun c35 => ?_)
    · refine Rn.iload_n (pc1 := 161)  dL_law_160 rfl rfl rfl ?_
      exact Rn.ireturn dL_law_161 rfl rfl ⟨_, rfl, rfl⟩
    · exact absurd (nI_le (Nat.le_refl _) (by omega)) c35
  | succ r ih =>
    intro k B f held P μ o5 o6 o7 o8 hk hB C J
    have hO := C.1
    obtain ⟨h, rc, sc, N, nn, t, g, fl, m, A⟩ := FA.of (by omega) C.2.1 J
    refine Rn.iload (pc1 := 34)  dL_law_32 rfl rfl ?_
    refine Rn.iload_n (pc1 := 35)  dL_law_34 rfl rfl rfl ?_
    refine Rn.icmp_ge (pc1 := 38) 160 dL_law_35 rfl (by decide) (fun c35 => ?_) (fun c35 => ?_)
    · exact absurd c35 (nI_ge (show k < T by omega) (by omega))
    · refine Rn.iload_n (pc1 := 39)  dL_law_38 rfl rfl rfl ?_
      refine Rn.if_eq (pc1 := 42) 160 dL_law_39 rfl (by decide) (fun c39 => ?_) (fun c39 => ?_)
      · exact absurd c39 (by decide)
      · refine Rn.aload_n (pc1 := 43)  dL_law_42 rfl rfl rfl ?_
        refine Rn.bipush (pc1 := 45) (v := nI 12) dL_law_43 rfl (by decide) ?_
        refine Rn.cV_i (pc1 := 48) (k_cnt C (w := 12) (y := nI held) (by omega) rfl) dL_law_45 rfl qL_59 oX8_count (by first | assumption | exact mset_same | exact mget_ne (by omega) (by assumption) | exact mget_ne (by omega) mset_same) rfl rfl rfl rfl (Nat.le_of_ble_eq_true rfl) (by decide) (by decide) (fun v45 μ45 h45 => ?_)
        obtain ⟨rfl, rfl⟩ := h45
        refine Rn.istore (pc1 := 50)  dL_law_48 rfl (by decide) rfl rfl ?_
        refine Rn.aload_n (pc1 := 51)  dL_law_50 rfl rfl rfl ?_
        refine Rn.iconst (pc1 := 52) (v := nI 1) dL_law_51 rfl (by decide) ?_
        refine Rn.cV_i (pc1 := 55) (k_cnt C (w := 1) (by omega) A.c1) dL_law_52 rfl qL_59 oX8_count (by first | assumption | exact mset_same | exact mget_ne (by omega) (by assumption) | exact mget_ne (by omega) mset_same) rfl rfl rfl rfl (Nat.le_of_ble_eq_true rfl) (by decide) (by decide) (fun v52 μ52 h52 => ?_)
        obtain ⟨rfl, rfl⟩ := h52
        refine Rn.istore (pc1 := 57)  dL_law_55 rfl (by decide) rfl rfl ?_
        refine Rn.aload_n (pc1 := 58)  dL_law_57 rfl rfl rfl ?_
        refine Rn.iconst (pc1 := 59) (v := nI 5) dL_law_58 rfl (by decide) ?_
        refine Rn.cV_i (pc1 := 62) (k_cnt C (w := 5) (by omega) A.c5) dL_law_59 rfl qL_59 oX8_count (by first | assumption | exact mset_same | exact mget_ne (by omega) (by assumption) | exact mget_ne (by omega) mset_same) rfl rfl rfl rfl (Nat.le_of_ble_eq_true rfl) (by decide) (by decide) (fun v59 μ59 h59 => ?_)
        obtain ⟨rfl, rfl⟩ := h59
        refine Rn.istore (pc1 := 64)  dL_law_62 rfl (by decide) rfl rfl ?_
        refine Rn.aload_n (pc1 := 65)  dL_law_64 rfl rfl rfl ?_
        refine Rn.aload_n (pc1 := 66)  dL_law_65 rfl rfl rfl ?_
        refine Rn.iconst (pc1 := 67) (v := nI 3) dL_law_66 rfl (by decide) ?_
        refine Rn.iload (pc1 := 69)  dL_law_67 rfl rfl ?_
        refine Rn.imul (pc1 := 70)  dL_law_69 rfl (nI_mul 3 k) ?_
        refine Rn.cS_i (pc1 := 73) (eL_act hn hn2 hs (show 3 * k + 2 < n by omega) (by omega) C J) dL_law_70 rfl qL_81 oL_act rfl rfl (Nat.le_of_ble_eq_true rfl) (by decide) (by decide) (fun v70 μ70 h70 => ?_)
        obtain ⟨f', held', P', C', J', ee⟩ := h70
        have hO' := C'.1
        obtain ⟨h2, rc2, sc2, N2, n2, t2, g2, fl2, m2, A2⟩ := FA.of (by omega) C'.2.1 J'
        refine Rn.istore (pc1 := 75)  dL_law_73 rfl (by decide) rfl rfl ?_
        refine Rn.iload (pc1 := 77)  dL_law_75 rfl rfl ?_
        refine Rn.if_ge (pc1 := 80) 111 dL_law_77 rfl (by decide) (fun c77 => ?_) (fun c77 => ?_)
        · refine Rn.iconst (pc1 := 112) (v := nI 1) dL_law_111 rfl (by decide) ?_
          refine Rn.goto 116 dL_law_112 (by decide) ?_
          refine Rn.istore_n (pc1 := 117)  dL_law_116 rfl rfl (by decide) rfl rfl ?_
          refine Rn.iload_n (pc1 := 118)  dL_law_117 rfl rfl rfl ?_
          refine Rn.if_eq (pc1 := 121) 152 dL_law_118 rfl (by decide) (fun c118 => ?_) (fun c118 => ?_)
          · exact absurd c118 (by decide)
          · refine Rn.aload_n (pc1 := 122)  dL_law_121 rfl rfl rfl ?_
            refine Rn.cS_i (pc1 := 125) (eL_feed C' A2) dL_law_122 rfl qL_85 oL_feed rfl rfl (Nat.le_of_ble_eq_true rfl) (by decide) (by decide) (fun v122 μ122 h122 => ?_)
            obtain ⟨rfl, rfl⟩ := h122
            refine Rn.if_eq (pc1 := 128) 152 dL_law_125 rfl (by decide) (fun c125 => ?_) (fun c125 => ?_)
            · exact absurd c125 (by decide)
            · refine Rn.aload_n (pc1 := 129)  dL_law_128 rfl rfl rfl ?_
              refine Rn.cS_i (pc1 := 132) (eL_readers C' A2) dL_law_129 rfl qL_89 oL_readers rfl rfl (Nat.le_of_ble_eq_true rfl) (by decide) (by decide) (fun v129 μ129 h129 => ?_)
              obtain ⟨rfl, rfl⟩ := h129
              refine Rn.if_eq (pc1 := 135) 152 dL_law_132 rfl (by decide) (fun c132 => ?_) (fun c132 => ?_)
              · exact absurd c132 (by decide)
              · refine Rn.aload_n (pc1 := 136)  dL_law_135 rfl rfl rfl ?_
                refine Rn.iconst (pc1 := 137) (v := nI 0) dL_law_136 rfl (by decide) ?_
                refine Rn.cV_i (pc1 := 140) (k_left C' rfl) dL_law_137 rfl qL_92 oX8_leftIn (by first | assumption | exact mset_same | exact mget_ne (by omega) (by assumption) | exact mget_ne (by omega) mset_same) rfl rfl rfl rfl (Nat.le_of_ble_eq_true rfl) (by decide) (by decide) (fun v137 μ137 h137 => ?_)
                obtain ⟨rfl, rfl⟩ := h137
                refine Rn.aload_n (pc1 := 141)  dL_law_140 rfl rfl rfl ?_
                refine Rn.iconst (pc1 := 142) (v := nI 0) dL_law_141 rfl (by decide) ?_
                refine Rn.cV_i (pc1 := 145) (k_cnt C' (w := 0) (by omega) A2.c0) dL_law_142 rfl qL_59 oX8_count (by first | assumption | exact mset_same | exact mget_ne (by omega) (by assumption) | exact mget_ne (by omega) mset_same) rfl rfl rfl rfl (Nat.le_of_ble_eq_true rfl) (by decide) (by decide) (fun v142 μ142 h142 => ?_)
                obtain ⟨rfl, rfl⟩ := h142
                refine Rn.icmp_gt (pc1 := 148) 152 dL_law_145 rfl (by decide) (fun c145 => ?_) (fun c145 => ?_)
                · exact absurd c145 (nI_nlt (Nat.le_trans (leftN_le _ _) (Nat.le_of_eq A2.2.1.1)) (by have := A2.1.1; omega))
                · refine Rn.iconst (pc1 := 149) (v := nI 1) dL_law_148 rfl (by decide) ?_
                  refine Rn.goto 153 dL_law_149 (by decide) ?_
                  refine Rn.istore_n (pc1 := 154)  dL_law_153 rfl rfl (by decide) rfl rfl ?_
                  refine Rn.iinc (pc1 := 157)  dL_law_154 rfl rfl (nI_1 k) (by decide) rfl rfl ?_
                  refine Rn.goto 32 dL_law_157 (by decide) ?_
                  exact ih (k + 1) (B + 1) _ _ _ _ _ _ _ _ (by omega) (by omega) C' J'
        · obtain ⟨rfl, rfl⟩ := ee (i32_nle.mp c77)
          refine Rn.aload_n (pc1 := 81)  dL_law_80 rfl rfl rfl ?_
          refine Rn.bipush (pc1 := 83) (v := nI 12) dL_law_81 rfl (by decide) ?_
          refine Rn.cV_i (pc1 := 86) (k_cnt C' (w := 12) (by omega) rfl) dL_law_83 rfl qL_59 oX8_count (by first | assumption | exact mset_same | exact mget_ne (by omega) (by assumption) | exact mget_ne (by omega) mset_same) rfl rfl rfl rfl (Nat.le_of_ble_eq_true rfl) (by decide) (by decide) (fun v83 μ83 h83 => ?_)
          obtain ⟨rfl, rfl⟩ := h83
          refine Rn.iload (pc1 := 88)  dL_law_86 rfl rfl ?_
          refine Rn.icmp_ne (pc1 := 91) 115 dL_law_88 rfl (by decide) (fun c88 => ?_) (fun c88 => ?_)
          · exact absurd rfl c88
          · refine Rn.aload_n (pc1 := 92)  dL_law_91 rfl rfl rfl ?_
            refine Rn.iconst (pc1 := 93) (v := nI 1) dL_law_92 rfl (by decide) ?_
            refine Rn.cV_i (pc1 := 96) (k_cnt C' (w := 1) (by omega) A.c1) dL_law_93 rfl qL_59 oX8_count (by first | assumption | exact mset_same | exact mget_ne (by omega) (by assumption) | exact mget_ne (by omega) mset_same) rfl rfl rfl rfl (Nat.le_of_ble_eq_true rfl) (by decide) (by decide) (fun v93 μ93 h93 => ?_)
            obtain ⟨rfl, rfl⟩ := h93
            refine Rn.iload (pc1 := 98)  dL_law_96 rfl rfl ?_
            refine Rn.icmp_ne (pc1 := 101) 115 dL_law_98 rfl (by decide) (fun c98 => ?_) (fun c98 => ?_)
            · exact absurd rfl c98
            · refine Rn.aload_n (pc1 := 102)  dL_law_101 rfl rfl rfl ?_
              refine Rn.iconst (pc1 := 103) (v := nI 5) dL_law_102 rfl (by decide) ?_
              refine Rn.cV_i (pc1 := 106) (k_cnt C' (w := 5) (by omega) A.c5) dL_law_103 rfl qL_59 oX8_count (by first | assumption | exact mset_same | exact mget_ne (by omega) (by assumption) | exact mget_ne (by omega) mset_same) rfl rfl rfl rfl (Nat.le_of_ble_eq_true rfl) (by decide) (by decide) (fun v103 μ103 h103 => ?_)
              obtain ⟨rfl, rfl⟩ := h103
              refine Rn.iload (pc1 := 108)  dL_law_106 rfl rfl ?_
              refine Rn.icmp_ne (pc1 := 111) 115 dL_law_108 rfl (by decide) (fun c108 => ?_) (fun c108 => ?_)
              · exact absurd rfl c108
              · refine Rn.iconst (pc1 := 112) (v := nI 1) dL_law_111 rfl (by decide) ?_
                refine Rn.goto 116 dL_law_112 (by decide) ?_
                refine Rn.istore_n (pc1 := 117)  dL_law_116 rfl rfl (by decide) rfl rfl ?_
                refine Rn.iload_n (pc1 := 118)  dL_law_117 rfl rfl rfl ?_
                refine Rn.if_eq (pc1 := 121) 152 dL_law_118 rfl (by decide) (fun c118 => ?_) (fun c118 => ?_)
                · exact absurd c118 (by decide)
                · refine Rn.aload_n (pc1 := 122)  dL_law_121 rfl rfl rfl ?_
                  refine Rn.cS_i (pc1 := 125) (eL_feed C' A2) dL_law_122 rfl qL_85 oL_feed rfl rfl (Nat.le_of_ble_eq_true rfl) (by decide) (by decide) (fun v122 μ122 h122 => ?_)
                  obtain ⟨rfl, rfl⟩ := h122
                  refine Rn.if_eq (pc1 := 128) 152 dL_law_125 rfl (by decide) (fun c125 => ?_) (fun c125 => ?_)
                  · exact absurd c125 (by decide)
                  · refine Rn.aload_n (pc1 := 129)  dL_law_128 rfl rfl rfl ?_
                    refine Rn.cS_i (pc1 := 132) (eL_readers C' A2) dL_law_129 rfl qL_89 oL_readers rfl rfl (Nat.le_of_ble_eq_true rfl) (by decide) (by decide) (fun v129 μ129 h129 => ?_)
                    obtain ⟨rfl, rfl⟩ := h129
                    refine Rn.if_eq (pc1 := 135) 152 dL_law_132 rfl (by decide) (fun c132 => ?_) (fun c132 => ?_)
                    · exact absurd c132 (by decide)
                    · refine Rn.aload_n (pc1 := 136)  dL_law_135 rfl rfl rfl ?_
                      refine Rn.iconst (pc1 := 137) (v := nI 0) dL_law_136 rfl (by decide) ?_
                      refine Rn.cV_i (pc1 := 140) (k_left C' rfl) dL_law_137 rfl qL_92 oX8_leftIn (by first | assumption | exact mset_same | exact mget_ne (by omega) (by assumption) | exact mget_ne (by omega) mset_same) rfl rfl rfl rfl (Nat.le_of_ble_eq_true rfl) (by decide) (by decide) (fun v137 μ137 h137 => ?_)
                      obtain ⟨rfl, rfl⟩ := h137
                      refine Rn.aload_n (pc1 := 141)  dL_law_140 rfl rfl rfl ?_
                      refine Rn.iconst (pc1 := 142) (v := nI 0) dL_law_141 rfl (by decide) ?_
                      refine Rn.cV_i (pc1 := 145) (k_cnt C' (w := 0) (by omega) A2.c0) dL_law_142 rfl qL_59 oX8_count (by first | assumption | exact mset_same | exact mget_ne (by omega) (by assumption) | exact mget_ne (by omega) mset_same) rfl rfl rfl rfl (Nat.le_of_ble_eq_true rfl) (by decide) (by decide) (fun v142 μ142 h142 => ?_)
                      obtain ⟨rfl, rfl⟩ := h142
                      refine Rn.icmp_gt (pc1 := 148) 152 dL_law_145 rfl (by decide) (fun c145 => ?_) (fun c145 => ?_)
                      · exact absurd c145 (nI_nlt (Nat.le_trans (leftN_le _ _) (Nat.le_of_eq A2.2.1.1)) (by have := A2.1.1; omega))
                      · refine Rn.iconst (pc1 := 149) (v := nI 1) dL_law_148 rfl (by decide) ?_
                        refine Rn.goto 153 dL_law_149 (by decide) ?_
                        refine Rn.istore_n (pc1 := 154)  dL_law_153 rfl rfl (by decide) rfl rfl ?_
                        refine Rn.iinc (pc1 := 157)  dL_law_154 rfl rfl (nI_1 k) (by decide) rfl rfl ?_
                        refine Rn.goto 32 dL_law_157 (by decide) ?_
                        exact ih (k + 1) (B + 1) _ _ _ _ _ _ _ _ (by omega) (by omega) C' J'
theorem law_rn (hn : (gS G).slots.size = n) (hn2 : n ≤ 260) (hs : ∀ i, i < n → (gS G).slots[i]? = some (.int (sv i))) {μ : Mm} : Rn G 8 kL_law 0 [some (.ref (gB G)), none, none, none, none, none, none, none, none] [] μ sz 528 5365 (rI fun v _ => v = nI 1) := by
  have hz : (gS G).slots.size.toInt32 = nI n := by rw [hn]; rfl
  refine Rn.newobj (pc1 := 3) (fs := [.null, .null, .null, .null]) (mc := 527) (ms := 5361) (ci := 8) (N0 := 4) tyX8 dL_law_0 rfl qL_20 qins_X8 qini_X8 rfl inX8 tyX8_ok (by decide) ?_
  refine Rn.dup (pc1 := 4)  dL_law_3 rfl rfl ?_
  refine Rn.cI (pc1 := 7) (mc := 0) (ms := 0) (host := "") (eX8_init (a := sz) mset_same) dL_law_4 rfl qL_80 rfl oX8_init rfl rfl (Nat.le_of_ble_eq_true rfl) (by decide) (by decide) rfl rfl (fun μ4 h4 => ?_)
  obtain ⟨PC1, z1⟩ := h4
  have LL := fun (T : Nat) (h1 : T ≤ 40) (h2 : 3 * T ≤ n) => law_loop (sz := sz + 1 + 527) hn hn2 hs h1 h2 T 0 0 f9 0 (fun _ _ => 0) μ4 none none none none (by omega) (by omega) (PC1.cw _ (fun _ _ => 0)) (f9_jv.fin f9_iv)
  refine Rn.astore_n (pc1 := 8)  dL_law_7 rfl rfl (by decide) rfl rfl ?_
  refine Rn.iconst (pc1 := 9) (v := nI 1) dL_law_8 rfl (by decide) ?_
  refine Rn.istore_n (pc1 := 10)  dL_law_9 rfl rfl (by decide) rfl rfl ?_
  refine Rn.aload_n (pc1 := 11)  dL_law_10 rfl rfl rfl ?_
  refine Rn.slen (pc1 := 12)  dL_law_11 rfl hz ?_
  refine Rn.iconst (pc1 := 13) (v := nI 3) dL_law_12 rfl (by decide) ?_
  refine Rn.idiv (pc1 := 14)  dL_law_13 rfl (by decide) (pk_div (by omega) (by omega) (by omega)) ?_
  refine Rn.bipush (pc1 := 16) (v := nI 40) dL_law_14 rfl (by decide) ?_
  refine Rn.icmp_le (pc1 := 19) 24 dL_law_16 rfl (by decide) (fun c16 => ?_) (fun c16 => ?_)
  · have hT : n / 3 ≤ 40 ∧ 3 * (n / 3) ≤ n := by have := (nI_leI (by omega) (by omega)).mp c16; omega
    refine Rn.aload_n (pc1 := 25)  dL_law_24 rfl rfl rfl ?_
    refine Rn.slen (pc1 := 26)  dL_law_25 rfl hz ?_
    refine Rn.iconst (pc1 := 27) (v := nI 3) dL_law_26 rfl (by decide) ?_
    refine Rn.idiv (pc1 := 28)  dL_law_27 rfl (by decide) (pk_div (by omega) (by omega) (by omega)) ?_
    refine Rn.istore_n (pc1 := 29)  dL_law_28 rfl rfl (by decide) rfl rfl ?_
    refine Rn.iconst (pc1 := 30) (v := nI 0) dL_law_29 rfl (by decide) ?_
    refine Rn.istore (pc1 := 32)  dL_law_30 rfl (by decide) rfl rfl ?_
    exact LL _ hT.1 hT.2
  · have hT : 40 ≤ 40 ∧ 3 * 40 ≤ n := by have : ¬ n / 3 ≤ 40 := fun q => c16 ((nI_leI (by omega) (by omega)).mpr q); omega
    refine Rn.bipush (pc1 := 21) (v := nI 40) dL_law_19 rfl (by decide) ?_
    refine Rn.goto 28 dL_law_21 (by decide) ?_
    refine Rn.istore_n (pc1 := 29)  dL_law_28 rfl rfl (by decide) rfl rfl ?_
    refine Rn.iconst (pc1 := 30) (v := nI 0) dL_law_29 rfl (by decide) ?_
    refine Rn.istore (pc1 := 32)  dL_law_30 rfl (by decide) rfl rfl ?_
    exact LL _ hT.1 hT.2
end LAWL
