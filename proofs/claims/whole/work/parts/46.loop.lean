/-! ===== the law: its loop over the script ===== -/
-- LOOK2
theorem and31 (x : Int32) : ∃ c, c ≤ 31 ∧ x &&& nI 31 = nI c := by
  refine ⟨(x &&& nI 31).toBitVec.toNat, ?_, ?_⟩
  · rw [Int32.toBitVec_and, BitVec.toNat_and]
    exact Nat.and_le_right
  · apply Int32.toBitVec_inj.mp
    show _ = BitVec.ofNat 32 _
    rw [BitVec.ofNat_toNat, BitVec.setWidth_eq]
section LAWL
variable {G : GG} {x m n sz : Nat} {sv : Nat → Int32}
theorem law_loop (hd : x + 528 ≤ m) (hn : (gS G).slots.size = n) (hn2 : n ≤ 1536) (hs : ∀ i, i < n → (gS G).slots[i]? = some (.int (sv i))) : ∀ (r k B : Nat) (μ : Mm), n ≤ k + r → k ≤ 3000 → B + 100 * r < 2 ^ 26 → JI μ x m B → Rn G 9 kL_law 18 [some (.ref (gB G)), some (.ref x), some (.ref m), some (.int (nI k))] [] μ sz 0 0 (rI fun v _ => v = nI 1) := by
  intro r
  induction r using Nat.strongRecOn with
  | _ r ih =>
    intro k B μ hr hk3 hB J
    have sc : (gS G).slots.size.toInt32 = nI n := by rw [hn]; rfl
    by_cases hk : k + 2 < n
    · obtain ⟨n', rfl⟩ : ∃ n', n = n' + 3 := ⟨n - 3, by omega⟩
      have N : ∀ μ2, JI μ2 x m (B + 100) → Rn G 9 kL_law 871 [some (.ref (gB G)), some (.ref x), some (.ref m), some (.int (nI k))] [] μ2 sz 0 0 (rI fun v _ => v = nI 1) := by
        intro μ2 J2
        refine Rn.iinc (pc1 := 874)  dL_law_871 rfl rfl (show nI k + Int32.ofInt 3 = nI (k + 3) from nI_add k 3) (by decide) rfl rfl ?_
        refine Rn.goto 18 dL_law_874 (by decide) ?_
        exact ih (r - 3) (by omega) (k + 3) (B + 100) μ2 (by omega) (by omega) (by omega) J2
      refine Rn.iload_n (pc1 := 19)  dL_law_18 rfl rfl rfl ?_
      refine Rn.aload_n (pc1 := 20)  dL_law_19 rfl rfl rfl ?_
      refine Rn.slen (pc1 := 21)  dL_law_20 rfl sc ?_
      refine Rn.iconst (pc1 := 22) (v := nI 3) dL_law_21 rfl (by decide) ?_
      refine Rn.isub (pc1 := 23)  dL_law_22 rfl (nI_sub (show 3 ≤ n' + 3 by omega)) ?_
      refine Rn.icmp_gt (pc1 := 26) 877 dL_law_23 rfl (by decide) (fun c23 => ?_) (fun c23 => ?_)
      · exact absurd c23 (nI_nlt (show k ≤ n' + 3 - 3 by omega) (by omega))
      · refine Rn.aload_n (pc1 := 27)  dL_law_26 rfl rfl rfl ?_
        refine Rn.iload_n (pc1 := 28)  dL_law_27 rfl rfl rfl ?_
        refine Rn.sld (pc1 := 29) (v := sv k)  dL_law_28 rfl (vp_nI (j := k) rfl (by omega) (by omega)) (by rw [nI_clamp (by omega)]; exact hs _ (by omega)) ?_
        refine Rn.bipush (pc1 := 31) (v := nI 31) dL_law_29 rfl (by decide) ?_
        refine Rn.iand (pc1 := 32)  dL_law_31 rfl rfl ?_
        obtain ⟨c, hc, e⟩ := and31 (sv k)
        rw [e]
        by_cases q0 : c = 0
        · subst q0
          exact Rn.tableIn (off := 132) 164 dL_law_32 (by decide) (by decide) rfl (by decide) (lC_turn J (by omega) hd hk hn hn2 hs N)
        by_cases q1 : c = 1
        · subst q1
          exact Rn.tableIn (off := 165) 197 dL_law_32 (by decide) (by decide) rfl (by decide) (lC_set J (by omega) hd hk hn hn2 hs N)
        by_cases q2 : c = 2
        · subst q2
          exact Rn.tableIn (off := 198) 230 dL_law_32 (by decide) (by decide) rfl (by decide) (lC_remove J (by omega) hd hk hn hn2 hs N)
        by_cases q3 : c = 3
        · subst q3
          exact Rn.tableIn (off := 221) 253 dL_law_32 (by decide) (by decide) rfl (by decide) (lC_pass J (by omega) hd hk hn hn2 hs N)
        by_cases q4 : c = 4
        · subst q4
          exact Rn.tableIn (off := 244) 276 dL_law_32 (by decide) (by decide) rfl (by decide) (lC_thin J (by omega) hd hk hn hn2 hs N)
        by_cases q5 : c = 5
        · subst q5
          exact Rn.tableIn (off := 257) 289 dL_law_32 (by decide) (by decide) rfl (by decide) (lC_snapshot J (by omega) hd hk hn hn2 hs N)
        by_cases q6 : c = 6
        · subst q6
          exact Rn.tableIn (off := 270) 302 dL_law_32 (by decide) (by decide) rfl (by decide) (lC_reader J (by omega) hd hk hn hn2 hs N)
        by_cases q7 : c = 7
        · subst q7
          exact Rn.tableIn (off := 283) 315 dL_law_32 (by decide) (by decide) rfl (by decide) (lC_read J (by omega) hd hk hn hn2 hs N)
        by_cases q8 : c = 8
        · subst q8
          exact Rn.tableIn (off := 316) 348 dL_law_32 (by decide) (by decide) rfl (by decide) (lC_confirm J (by omega) hd hk hn hn2 hs N)
        by_cases q9 : c = 9
        · subst q9
          exact Rn.tableIn (off := 339) 371 dL_law_32 (by decide) (by decide) rfl (by decide) (lC_goBack J (by omega) hd hk hn hn2 hs N)
        by_cases q10 : c = 10
        · subst q10
          exact Rn.tableIn (off := 362) 394 dL_law_32 (by decide) (by decide) rfl (by decide) (lC_beginAnew J (by omega) hd hk hn hn2 hs N)
        by_cases q11 : c = 11
        · subst q11
          exact Rn.tableIn (off := 385) 417 dL_law_32 (by decide) (by decide) rfl (by decide) (lC_load J (by omega) hd hk hn hn2 hs N)
        by_cases q12 : c = 12
        · subst q12
          exact Rn.tableIn (off := 418) 450 dL_law_32 (by decide) (by decide) rfl (by decide) (lC_table J (by omega) hd hk hn hn2 hs N)
        by_cases q13 : c = 13
        · subst q13
          exact Rn.tableIn (off := 441) 473 dL_law_32 (by decide) (by decide) rfl (by decide) (lC_view J (by omega) hd hk hn hn2 hs N)
        by_cases q14 : c = 14
        · subst q14
          exact Rn.tableIn (off := 474) 506 dL_law_32 (by decide) (by decide) rfl (by decide) (lC_entry J (by omega) hd hk hn hn2 hs N)
        by_cases q15 : c = 15
        · subst q15
          exact Rn.tableIn (off := 507) 539 dL_law_32 (by decide) (by decide) rfl (by decide) (lC_ofReader J (by omega) hd hk hn hn2 hs N)
        by_cases q16 : c = 16
        · subst q16
          exact Rn.tableIn (off := 540) 572 dL_law_32 (by decide) (by decide) rfl (by decide) (lC_ofSnapshot J (by omega) hd hk hn hn2 hs N)
        by_cases q17 : c = 17
        · subst q17
          exact Rn.tableIn (off := 573) 605 dL_law_32 (by decide) (by decide) rfl (by decide) (lC_count J (by omega) hd hk hn hn2 hs N)
        by_cases q18 : c = 18
        · subst q18
          exact Rn.tableIn (off := 596) 628 dL_law_32 (by decide) (by decide) rfl (by decide) (lC_leftIn J (by omega) hd hk hn hn2 hs N)
        by_cases q19 : c = 19
        · subst q19
          exact Rn.tableIn (off := 619) 651 dL_law_32 (by decide) (by decide) rfl (by decide) (lC_lateIn J (by omega) hd hk hn hn2 hs N)
        by_cases q20 : c = 20
        · subst q20
          exact Rn.tableIn (off := 642) 674 dL_law_32 (by decide) (by decide) rfl (by decide) (lC_shortest J (by omega) hd hk hn hn2 hs N)
        by_cases q21 : c = 21
        · subst q21
          exact Rn.tableIn (off := 675) 707 dL_law_32 (by decide) (by decide) rfl (by decide) (lC_gentlest J (by omega) hd hk hn hn2 hs N)
        by_cases q22 : c = 22
        · subst q22
          exact Rn.tableIn (off := 688) 720 dL_law_32 (by decide) (by decide) rfl (by decide) (lC_put J (by omega) hd hk hn hn2 hs N)
        by_cases q23 : c = 23
        · subst q23
          exact Rn.tableIn (off := 741) 773 dL_law_32 (by decide) (by decide) rfl (by decide) (lC_wipe J (by omega) hd hk hn hn2 hs N)
        by_cases q24 : c = 24
        · subst q24
          exact Rn.tableIn (off := 754) 786 dL_law_32 (by decide) (by decide) rfl (by decide) (lC_fault J (by omega) hd hk hn hn2 hs N)
        by_cases q25 : c = 25
        · subst q25
          exact Rn.tableIn (off := 767) 799 dL_law_32 (by decide) (by decide) rfl (by decide) (lC_carryOut J (by omega) hd hk hn hn2 hs N)
        by_cases q26 : c = 26
        · subst q26
          exact Rn.tableIn (off := 780) 812 dL_law_32 (by decide) (by decide) rfl (by decide) (lC_undo J (by omega) hd hk hn hn2 hs N)
        by_cases q27 : c = 27
        · subst q27
          exact Rn.tableIn (off := 793) 825 dL_law_32 (by decide) (by decide) rfl (by decide) (lC_save J (by omega) hd hk hn hn2 hs N)
        by_cases q28 : c = 28
        · subst q28
          exact Rn.tableIn (off := 816) 848 dL_law_32 (by decide) (by decide) rfl (by decide) (lC_restore J (by omega) hd hk hn hn2 hs N)
        exact Rn.tableOut 871 dL_law_32 (by rw [nI_toInt (by omega)]; omega) (by decide) (N μ (J.mono (by omega)))
    · have hlt : nI n - nI 3 < nI k := by
        by_cases h3 : 3 ≤ n
        · rw [nI_sub h3]; exact nI_lt (by omega) (by omega)
        · have : nI n - nI 3 < nI 0 := by
            rcases (show n = 0 ∨ n = 1 ∨ n = 2 by omega) with q | q | q <;> subst q <;> decide
          exact Int32.lt_of_lt_of_le this (nI_le (Nat.zero_le _) (by omega))
      refine Rn.iload_n (pc1 := 19)  dL_law_18 rfl rfl rfl ?_
      refine Rn.aload_n (pc1 := 20)  dL_law_19 rfl rfl rfl ?_
      refine Rn.slen (pc1 := 21)  dL_law_20 rfl sc ?_
      refine Rn.iconst (pc1 := 22) (v := nI 3) dL_law_21 rfl (by decide) ?_
      refine Rn.isub (pc1 := 23)  dL_law_22 rfl rfl ?_
      refine Rn.icmp_gt (pc1 := 26) 877 dL_law_23 rfl (by decide) (fun c23 => ?_) (fun c23 => ?_)
      · refine Rn.iconst (pc1 := 878) (v := nI 1) dL_law_877 rfl (by decide) ?_
        exact Rn.ireturn dL_law_878 rfl rfl ⟨_, rfl, rfl⟩
      · exact absurd hlt c23
theorem law_rn (hn : (gS G).slots.size = n) (hn2 : n ≤ 1536) (hs : ∀ i, i < n → (gS G).slots[i]? = some (.int (sv i))) {μ : Mm} : Rn G 9 kL_law 0 [some (.ref (gB G)), none, none, none] [] μ sz 536 10331 (rI fun v _ => v = nI 1) := by
  refine Rn.newobj (pc1 := 3) (fs := [.null, .null, .null, .null]) (mc := 535) (ms := 10327) (ci := 8) (N0 := 4) tyX8 dL_law_0 rfl qL_7 qins_X8 qini_X8 rfl inX8 tyX8_ok (by decide) ?_
  refine Rn.dup (pc1 := 4)  dL_law_3 rfl rfl ?_
  refine Rn.cI (pc1 := 7) (mc := 8) (ms := 4966) (host := "") (eX8_init (a := sz) mset_same) dL_law_4 rfl qL_9 rfl oX8_init rfl rfl (Nat.le_of_ble_eq_true rfl) (by decide) (by decide) rfl rfl (fun μ4 h4 => ?_)
  obtain ⟨PC1, z1⟩ := h4
  refine Rn.astore_n (pc1 := 8)  dL_law_7 rfl rfl (by decide) rfl rfl ?_
  refine Rn.newobj (pc1 := 11) (fs := [.null, .null, .null, .int 0, .null, .null, .null, .int 0, .int 0, .null, .int 0]) (mc := 7) (ms := 4955) (ci := 9) (N0 := 11) tyX9 dL_law_8 rfl qL_10 qins_X9 qini_X9 rfl inX9 tyX9_ok (by decide) ?_
  refine Rn.dup (pc1 := 12)  dL_law_11 rfl rfl ?_
  refine Rn.cI (pc1 := 15) (mc := 0) (ms := 0) (host := "") (eX9_init (a := sz + 528) mset_same) dL_law_12 rfl qL_12 rfl oX9_init rfl rfl (Nat.le_of_ble_eq_true rfl) (by decide) (by decide) rfl rfl (fun μ12 h12 => ?_)
  obtain ⟨F1, z2⟩ := h12
  refine Rn.astore_n (pc1 := 16)  dL_law_15 rfl rfl (by decide) rfl rfl ?_
  refine Rn.iconst (pc1 := 17) (v := nI 0) dL_law_16 rfl (by decide) ?_
  refine Rn.istore_n (pc1 := 18)  dL_law_17 rfl rfl (by decide) rfl rfl ?_
  have C1 := (((PC1.fr (Fr.set (a := sz + 528) (b := sz + 529) (Nat.le_refl _) (Nat.lt_succ_self _)) (by omega)).fr z2 (by omega)).cw (fun i j => (fun _ : Nat => (0 : Int32)) (475 * i + j)) (fun i j => (fun _ : Nat => (0 : Int32)) (475 * i + j)))
  exact law_loop (by omega) hn hn2 hs n 0 0 _ (by omega) (by omega) (by omega) ⟨_, _, _, _, _, _, _, _, _, _, _, C1, F1⟩
end LAWL
