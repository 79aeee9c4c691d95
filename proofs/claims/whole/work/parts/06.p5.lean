section PN
variable {cnt : Nat} {rf : Nat → Option Nat} {c r : Hp}
theorem m_zC {b : Nat} (hb : b < 12) : ∀ N i c, Wc cnt rf c → i ≤ 12 → 13 - i ≤ N → ∃ c', fX5_renew_b58 (kC cnt) 2 (nI b) N (nI i) c = some (nI 0, c') ∧ Fr 7 7 c c' ∧ ∀ j, g_J c' 7 j = if 12 * b + i ≤ j ∧ j < 12 * b + 12 then lN 0 else g_J c 7 j := by
  intro N
  induction N with
  | zero => intro i c wc h1 h2; omega
  | succ N ih =>
    intro i c wc h1 h2
    by_cases e : i = 12
    · subst e
      refine ⟨c, ?_, Fr_r .., fun j => by rw [if_neg (by omega)]⟩
      simp (disch := omega) only [fX5_renew_b58, lt_e, bs_e, b2_e, if_true, if_false, ↓reduceIte, Nat.reduceEqDiff, Nat.reduceLeDiff, Nat.reduceLT, Nat.reduceAdd, Nat.reduceMul, Nat.reduceSub, Nat.not_lt_zero, Nat.zero_le, Nat.le_refl, and_self, Nat.succ_ne_zero, Nat.add_sub_cancel, or_true, true_or, or_false, false_or, L0, L1, L2, L3, L4, L5, L6, L7, L8, L9, L10, L11, L12, L13, L14, L15, L16, L17, L18, L19, L20, L21, L22, L23, L24, L25, L26, L27, L28, L29, L30, L50, L60, L100, L144, L300, J0, J1, J2, J5, J6, J7, J8, J11, J12, J18, J29, J50, mO_e, oL_e, nI_mO, mO_nI, mO_lt, nlt_mO, mO_le, nle_mO, nI_add, nI_subn, nI_muln, e_lt, e_le, e_eq, q_lt, q_le, q_eq, i_l, mO_l, oL_lt, nlt_oL, nI_oL, lN_sub, lN_i, lN_add]
    · have h12 : ¬ 12 ≤ i := by omega
      obtain ⟨c', h3, f3, h4⟩ := ih (i + 1) (s_J c 7 (b * 12 + i) (lN 0)) wc (by omega) (by omega)
      refine ⟨c', ?_, Fr_t (Fr_j (Fr_r ..) (by omega)) f3, fun j => ?_⟩
      · simp (disch := omega) only [fX5_renew_b58, h12, h3, lt_e, bs_e, b2_e, if_true, if_false, ↓reduceIte, Nat.reduceEqDiff, Nat.reduceLeDiff, Nat.reduceLT, Nat.reduceAdd, Nat.reduceMul, Nat.reduceSub, Nat.not_lt_zero, Nat.zero_le, Nat.le_refl, and_self, Nat.succ_ne_zero, Nat.add_sub_cancel, or_true, true_or, or_false, false_or, L0, L1, L2, L3, L4, L5, L6, L7, L8, L9, L10, L11, L12, L13, L14, L15, L16, L17, L18, L19, L20, L21, L22, L23, L24, L25, L26, L27, L28, L29, L30, L50, L60, L100, L144, L300, J0, J1, J2, J5, J6, J7, J8, J11, J12, J18, J29, J50, mO_e, oL_e, nI_mO, mO_nI, mO_lt, nlt_mO, mO_le, nle_mO, nI_add, nI_subn, nI_muln, e_lt, e_le, e_eq, q_lt, q_le, q_eq, i_l, mO_l, oL_lt, nlt_oL, nI_oL, lN_sub, lN_i, lN_add, rI_s, rI_a, rI_k, rJ_s, rJ_a, rJ_k, rD_s, rD_a, rD_k, rJI, rDI, rRI, rIJ, rDJ, rRJ, rID, rJD, rRD, rIR, rJR, rDR, C0_t, kC_0, C1_t, kC_1, C2_t, kC_2, C3_t, kC_3, C3_a, C3_w, C4_t, kC_4, C4_a, C4_w, C5_t, kC_5, C5_a, C5_w, C6_t, kC_6, C6_a, C6_w, C7_t, kC_7, C7_a, C7_w, C8_t, kC_8, C9_t, kC_9, C9_a, C9_w, C10_t, kC_10, C10_a, C10_w, C11_t, kC_11, C11_a, C11_w, C12_t, kC_12, C12_a, C12_w, C13_t, kC_13, C13_a, C13_w, C14_t, kC_14, C15_t, kC_15, C15_a, C16_t, kC_16, C16_a, C53_t, kC_53, C53_a, C54_t, kC_54, C54_a, C55_t, kC_55, C55_a, C55_w, C56_t, kC_56, w_0_0 wc, w_1_0 wc, w_1_1 wc, w_1_2 wc, w_1_3 wc, w_1_5 wc, w_1_6 wc, w_1_7 wc, w_2_0 wc, w_2_1 wc, w_2_2 wc, w_2_3 wc, w_2_4 wc, w_8_0 wc, w_8_1 wc, w_8_2 wc, w_8_3 wc, w_8_4 wc, w_14_0 wc, w_14_1 wc]
      · rw [h4 j, rJ_f]
        by_cases ej : j = b * 12 + i
        · rw [if_neg (by omega), if_pos (by omega)]
          show (if j = _ then _ else _) = _
          rw [if_pos ej]
        · by_cases e2 : 12 * b + (i + 1) ≤ j ∧ j < 12 * b + 12
          · rw [if_pos e2, if_pos (by omega)]
          · rw [if_neg e2, if_neg (by omega)]
            show (if j = _ then _ else _) = _
            rw [if_neg ej]
theorem m_zR {b : Nat} (hb : b < 12) : ∀ N i r, Wr r → i ≤ 12 → 13 - i ≤ N → ∃ r', fX10_make_b34 kR 0 (nI b) N (nI i) r = some r' ∧ Fr 4 5 r r' ∧ (∀ j, g_J r' 4 j = if 12 * b + i ≤ j ∧ j < 12 * b + 12 then lN 0 else g_J r 4 j) ∧ ∀ j, g_D r' 5 j = if 12 * b + i ≤ j ∧ j < 12 * b + 12 then FP.dconst0 else g_D r 5 j := by
  intro N
  induction N with
  | zero => intro i c wc h1 h2; omega
  | succ N ih =>
    intro i r ur h1 h2
    by_cases e : i = 12
    · subst e
      refine ⟨r, ?_, Fr_r .., fun j => by rw [if_neg (by omega)], fun j => by rw [if_neg (by omega)]⟩
      simp (disch := omega) only [fX10_make_b34, lt_e, bs_e, b2_e, if_true, if_false, ↓reduceIte, Nat.reduceEqDiff, Nat.reduceLeDiff, Nat.reduceLT, Nat.reduceAdd, Nat.reduceMul, Nat.reduceSub, Nat.not_lt_zero, Nat.zero_le, Nat.le_refl, and_self, Nat.succ_ne_zero, Nat.add_sub_cancel, or_true, true_or, or_false, false_or, L0, L1, L2, L3, L4, L5, L6, L7, L8, L9, L10, L11, L12, L13, L14, L15, L16, L17, L18, L19, L20, L21, L22, L23, L24, L25, L26, L27, L28, L29, L30, L50, L60, L100, L144, L300, J0, J1, J2, J5, J6, J7, J8, J11, J12, J18, J29, J50, mO_e, oL_e, nI_mO, mO_nI, mO_lt, nlt_mO, mO_le, nle_mO, nI_add, nI_subn, nI_muln, e_lt, e_le, e_eq, q_lt, q_le, q_eq, i_l, mO_l, oL_lt, nlt_oL, nI_oL, lN_sub, lN_i, lN_add]
    · have h12 : ¬ 12 ≤ i := by omega
      obtain ⟨r', h3, f3, h4, h5⟩ := ih (i + 1) (s_D (s_J r 4 (12 * b + i) (lN 0)) 5 (12 * b + i) FP.dconst0) ur (by omega) (by omega)
      refine ⟨r', ?_, Fr_t (Fr_d (Fr_j (Fr_r ..) (by omega)) (by omega)) f3, fun j => ?_, fun j => ?_⟩
      · simp (disch := omega) only [fX10_make_b34, h12, h3, lt_e, bs_e, b2_e, if_true, if_false, ↓reduceIte, Nat.reduceEqDiff, Nat.reduceLeDiff, Nat.reduceLT, Nat.reduceAdd, Nat.reduceMul, Nat.reduceSub, Nat.not_lt_zero, Nat.zero_le, Nat.le_refl, and_self, Nat.succ_ne_zero, Nat.add_sub_cancel, or_true, true_or, or_false, false_or, L0, L1, L2, L3, L4, L5, L6, L7, L8, L9, L10, L11, L12, L13, L14, L15, L16, L17, L18, L19, L20, L21, L22, L23, L24, L25, L26, L27, L28, L29, L30, L50, L60, L100, L144, L300, J0, J1, J2, J5, J6, J7, J8, J11, J12, J18, J29, J50, mO_e, oL_e, nI_mO, mO_nI, mO_lt, nlt_mO, mO_le, nle_mO, nI_add, nI_subn, nI_muln, e_lt, e_le, e_eq, q_lt, q_le, q_eq, i_l, mO_l, oL_lt, nlt_oL, nI_oL, lN_sub, lN_i, lN_add, rI_s, rI_a, rI_k, rJ_s, rJ_a, rJ_k, rD_s, rD_a, rD_k, rJI, rDI, rRI, rIJ, rDJ, rRJ, rID, rJD, rRD, rIR, rJR, rDR, R0_t, kR_0, R1_t, kR_1, R1_a, R1_w, R2_t, kR_2, R2_a, R2_w, R3_t, kR_3, R3_a, R3_w, R4_t, kR_4, R4_a, R4_w, R5_t, kR_5, R5_a, R5_w, R6_t, kR_6, R6_a, R6_w, R7_t, kR_7, R7_a, R7_w, R8_t, kR_8, R8_a, R8_w, R9_t, kR_9, R9_a, R9_w, R10_t, kR_10, R10_a, R10_w, R11_t, kR_11, R11_a, R11_w, R12_t, kR_12, R12_a, R12_w, R13_t, kR_13, R13_a, R13_w, R14_t, kR_14, R14_a, R14_w, R15_t, kR_15, R15_a, R15_w, R16_t, kR_16, R16_a, R16_w, R17_t, kR_17, R17_a, R17_w, R18_t, kR_18, R18_a, R18_w, R19_t, kR_19, R19_a, R19_w, R20_t, kR_20, R20_a, R20_w, R21_t, kR_21, R21_a, R21_w, R22_t, kR_22, R22_a, R22_w, R23_t, kR_23, R23_a, R23_w, R24_t, kR_24, R24_a, R24_w, R25_t, kR_25, R25_a, R25_w, R26_t, kR_26, R26_a, R26_w, R27_t, kR_27, R27_a, R27_w, R28_t, kR_28, R28_a, R28_w, R29_t, kR_29, R29_a, R29_w, R30_t, kR_30, R30_a, R30_w, R31_t, kR_31, R31_a, R31_w, R32_t, kR_32, R32_a, R32_w, R33_t, kR_33, R33_a, R33_w, R34_t, kR_34, R34_a, R34_w, R35_t, kR_35, R35_a, R35_w, R36_t, kR_36, R36_a, R36_w, R37_t, kR_37, R37_a, R37_w, R38_t, kR_38, R38_a, R38_w, R39_t, kR_39, R39_a, R39_w, u_0 ur, u_1 ur, u_2 ur, u_3 ur, u_4 ur, u_6 ur, u_7 ur, u_8 ur, u_9 ur, u_10 ur, u_15 ur, u_16 ur, u_17 ur, u_18 ur, u_19 ur, u_20 ur, u_21 ur, u_22 ur, u_24 ur, u_25 ur, u_26 ur, u_27 ur, u_28 ur, u_29 ur, u_30 ur, u_31 ur, u_32 ur, u_33 ur, u_40 ur, u_53 ur, u_54 ur, u_55 ur, u_56 ur, u_57 ur, u_58 ur, u_59 ur, u_60 ur, u_61 ur, u_62 ur]
      · rw [h4 j, rJD, rJ_f]
        by_cases ej : j = 12 * b + i
        · rw [if_neg (by omega), if_pos (by omega)]
          show (if j = _ then _ else _) = _
          rw [if_pos ej]
        · by_cases e2 : 12 * b + (i + 1) ≤ j ∧ j < 12 * b + 12
          · rw [if_pos e2, if_pos (by omega)]
          · rw [if_neg e2, if_neg (by omega)]
            show (if j = _ then _ else _) = _
            rw [if_neg ej]
      · rw [h5 j, rD_f]
        by_cases ej : j = 12 * b + i
        · rw [if_neg (by omega), if_pos (by omega)]
          show (if j = _ then _ else _) = _
          rw [if_pos ej]
        · by_cases e2 : 12 * b + (i + 1) ≤ j ∧ j < 12 * b + 12
          · rw [if_pos e2, if_pos (by omega)]
          · rw [if_neg e2, if_neg (by omega)]
            show (if j = _ then _ else _) = _
            rw [if_neg ej, rDJ]
theorem Itm_0 {n : Nat} (hn : n < 8) : Itm (nI n) (lN 0) (lN 0) FP.dconst0 := by
  refine ⟨fun n' h1 h2 => ⟨rfl, ?_⟩, fun h => ⟨0, ?_⟩, fun h => ⟨0, ?_⟩⟩
  · rw [h2]
    have hc : n' = 0 ∨ n' = 1 ∨ n' = 2 ∨ n' = 3 ∨ n' = 4 ∨ n' = 5 := by omega
    rcases hc with rfl | rfl | rfl | rfl | rfl | rfl <;> decide +kernel
  · decide +kernel
  · decide +kernel
theorem m_renew (wc : Wc cnt rf c) (ur : Wr r) (m : Rm c r) {k l n : Nat} (hk : k < 12) (hl : l < 8) (hn : n ≤ 12) :
    ∃ c' r', fX5_renew (kC cnt) 2 (nI k) (nI l) (lN n) c = some (nI 0, c') ∧ fX10_make kR 0 (nI k) (nI l) (nI n) r = some r' ∧ Fr 3 7 c c' ∧ Fr 1 5 r r' ∧ Rm c' r' := by
  obtain ⟨c1, h1, f1, m1⟩ := m_drop wc m hk
  have wc1 := Fr_wc f1 wc
  obtain ⟨f, hf⟩ := Lf_ex (g_I (s_I r 1 k mO) 1) hk (rI_s ..)
  have hf2 : Lf (fun j => if j = k then mO else g_I r 1 j) f := by rw [← rI_f]; exact hf
  have hfl := hf.1
  have hfree : fX5_freeBody (kC cnt) 2 c1 = some (nI f) := by
    unfold fX5_freeBody
    rw [if_pos (by rw [kC_2])]
    exact m_free wc1 m1 hf fu_ 0 (by omega) (by omega) (by unfold fu_; omega)
  have hsp : fX10_spare kR 0 (nI k) r = some (nI f) := by
    unfold fX10_spare
    rw [if_pos (by rw [kR_0])]
    refine (m_spare ur hk hf2 fu_ 12 _ (by omega) (by unfold fu_; omega)).trans ?_
    rw [if_pos hfl]
  obtain ⟨c2, h2, f2, m2⟩ := m_attach wc1 m1 hk hfl (rI_s ..)
  have wc2 := Fr_wc f2 wc1
  obtain ⟨c3, h3, f3, z3⟩ := m_zC (cnt := cnt) (rf := rf) hfl fu_ 0 (s_I (s_I c2 5 f (nI l)) 6 f (nI n)) wc2 (by omega) (by unfold fu_; omega)
  obtain ⟨r3, h4, f4, z4, z5⟩ := m_zR hfl fu_ 0 (s_I (s_I (s_I r 1 k (nI f)) 2 f (nI l)) 3 f (nI n)) ur (by omega) (by unfold fu_; omega)
  refine ⟨c3, r3, ?_, ?_, ?_, ?_, ?_⟩
  · have g1 : lN 0 ≤ lN n := by rw [q_le (by omega) (by omega)]; omega
    have g2 : lN n ≤ lN 12 := by rw [q_le (by omega) (by omega)]; omega
    simp (disch := omega) only [fX5_renew, J0, J12, g1, g2, if_true, h1, b2_e, hfree, bs_e, h2, kC_2, w_2_2 wc2, w_2_3 wc2, C5_t, C5_w, C6_t, C6_w, rRI, lN_i, L0, h3]
  · simp (disch := omega) only [fX10_make, hsp, h4, lt_e, bs_e, b2_e, if_true, if_false, ↓reduceIte, Nat.reduceEqDiff, Nat.reduceLeDiff, Nat.reduceLT, Nat.reduceAdd, Nat.reduceMul, Nat.reduceSub, Nat.not_lt_zero, Nat.zero_le, Nat.le_refl, and_self, Nat.succ_ne_zero, Nat.add_sub_cancel, or_true, true_or, or_false, false_or, L0, L1, L2, L3, L4, L5, L6, L7, L8, L9, L10, L11, L12, L13, L14, L15, L16, L17, L18, L19, L20, L21, L22, L23, L24, L25, L26, L27, L28, L29, L30, L50, L60, L100, L144, L300, J0, J1, J2, J5, J6, J7, J8, J11, J12, J18, J29, J50, mO_e, oL_e, nI_mO, mO_nI, mO_lt, nlt_mO, mO_le, nle_mO, nI_add, nI_subn, nI_muln, e_lt, e_le, e_eq, q_lt, q_le, q_eq, i_l, mO_l, oL_lt, nlt_oL, nI_oL, lN_sub, lN_i, lN_add, rI_s, rI_a, rI_k, rJ_s, rJ_a, rJ_k, rD_s, rD_a, rD_k, rJI, rDI, rRI, rIJ, rDJ, rRJ, rID, rJD, rRD, rIR, rJR, rDR, R0_t, kR_0, R1_t, kR_1, R1_a, R1_w, R2_t, kR_2, R2_a, R2_w, R3_t, kR_3, R3_a, R3_w, R4_t, kR_4, R4_a, R4_w, R5_t, kR_5, R5_a, R5_w, R6_t, kR_6, R6_a, R6_w, R7_t, kR_7, R7_a, R7_w, R8_t, kR_8, R8_a, R8_w, R9_t, kR_9, R9_a, R9_w, R10_t, kR_10, R10_a, R10_w, R11_t, kR_11, R11_a, R11_w, R12_t, kR_12, R12_a, R12_w, R13_t, kR_13, R13_a, R13_w, R14_t, kR_14, R14_a, R14_w, R15_t, kR_15, R15_a, R15_w, R16_t, kR_16, R16_a, R16_w, R17_t, kR_17, R17_a, R17_w, R18_t, kR_18, R18_a, R18_w, R19_t, kR_19, R19_a, R19_w, R20_t, kR_20, R20_a, R20_w, R21_t, kR_21, R21_a, R21_w, R22_t, kR_22, R22_a, R22_w, R23_t, kR_23, R23_a, R23_w, R24_t, kR_24, R24_a, R24_w, R25_t, kR_25, R25_a, R25_w, R26_t, kR_26, R26_a, R26_w, R27_t, kR_27, R27_a, R27_w, R28_t, kR_28, R28_a, R28_w, R29_t, kR_29, R29_a, R29_w, R30_t, kR_30, R30_a, R30_w, R31_t, kR_31, R31_a, R31_w, R32_t, kR_32, R32_a, R32_w, R33_t, kR_33, R33_a, R33_w, R34_t, kR_34, R34_a, R34_w, R35_t, kR_35, R35_a, R35_w, R36_t, kR_36, R36_a, R36_w, R37_t, kR_37, R37_a, R37_w, R38_t, kR_38, R38_a, R38_w, R39_t, kR_39, R39_a, R39_w, u_0 ur, u_1 ur, u_2 ur, u_3 ur, u_4 ur, u_6 ur, u_7 ur, u_8 ur, u_9 ur, u_10 ur, u_15 ur, u_16 ur, u_17 ur, u_18 ur, u_19 ur, u_20 ur, u_21 ur, u_22 ur, u_24 ur, u_25 ur, u_26 ur, u_27 ur, u_28 ur, u_29 ur, u_30 ur, u_31 ur, u_32 ur, u_33 ur, u_40 ur, u_53 ur, u_54 ur, u_55 ur, u_56 ur, u_57 ur, u_58 ur, u_59 ur, u_60 ur, u_61 ur, u_62 ur]
  · exact Fr_t (Fr_t (Fr_w f1 (by omega) (by omega)) (Fr_w f2 (by omega) (by omega))) (Fr_t (Fr_i (Fr_i (Fr_r ..) (by omega)) (by omega)) (Fr_w f3 (by omega) (by omega)))
  · exact Fr_t (Fr_i (Fr_i (Fr_i (Fr_r ..) (by omega)) (by omega)) (by omega)) (Fr_w f4 (by omega) (by omega))
  · unfold Rm at m2 ⊢
    simp (disch := omega) only [rI_f, rI_a, rJI, rDI] at m2
    have hb2 : (fun j => if j = k then nI f else if j = k then mO else g_I r 1 j) = (fun j => if j = k then nI f else g_I r 1 j) := by
      funext j; split <;> rfl
    rw [hb2] at m2
    have x1 : g_I c3 3 = g_I c2 3 := by rw [(f3.2 3 (by omega)).1, rI_a _ _ _ _ (by omega), rI_a _ _ _ _ (by omega)]
    have x2 : g_I c3 4 = g_I c2 4 := by rw [(f3.2 4 (by omega)).1, rI_a _ _ _ _ (by omega), rI_a _ _ _ _ (by omega)]
    have x3 : g_I c3 5 = fun j => if j = f then nI l else g_I c2 5 j := by rw [(f3.2 5 (by omega)).1, rI_a _ _ _ _ (by omega), rI_f]
    have x4 : g_I c3 6 = fun j => if j = f then nI n else g_I c2 6 j := by rw [(f3.2 6 (by omega)).1, rI_f, rI_a _ _ _ _ (by omega)]
    have y1 : g_I r3 1 = fun j => if j = k then nI f else g_I r 1 j := by rw [(f4.2 1 (by omega)).1, rI_a _ _ _ _ (by omega), rI_a _ _ _ _ (by omega), rI_f]
    have y2 : g_I r3 2 = fun j => if j = f then nI l else g_I r 2 j := by rw [(f4.2 2 (by omega)).1, rI_a _ _ _ _ (by omega), rI_f, rI_a _ _ _ _ (by omega)]
    have y3 : g_I r3 3 = fun j => if j = f then nI n else g_I r 3 j := by rw [(f4.2 3 (by omega)).1, rI_f, rI_a _ _ _ _ (by omega), rI_a _ _ _ _ (by omega)]
    rw [x1, x2, x3, x4, y1, y2, y3]
    refine ⟨?_, ?_, ?_, ?_, ?_, ?_, ?_, ?_⟩
    · exact m2.eb
    · intro q hq
      show (if q = f then _ else _) = (if q = f then _ else _)
      rw [m2.el q hq]
    · intro q hq
      show (if q = f then _ else _) = (if q = f then _ else _)
      rw [m2.es q hq]
    · exact m2.sb
    · intro q hq
      show ∃ n, n < 8 ∧ (if q = f then _ else _) = _
      by_cases e : q = f
      · exact ⟨l, hl, by rw [if_pos e]⟩
      · rw [if_neg e]; exact m2.sl q hq
    · intro q hq
      show ∃ n, n ≤ 12 ∧ (if q = f then _ else _) = _
      by_cases e : q = f
      · exact ⟨n, hn, by rw [if_pos e]⟩
      · rw [if_neg e]; exact m2.ss q hq
    · exact m2.uu
    · intro q hq i hi
      show Itm (if q = f then _ else _) _ _ _
      rw [z3, z4, z5]
      simp (disch := omega) only [rJI, rDI]
      by_cases e : q = f
      · subst e
        rw [if_pos rfl, if_pos (by omega), if_pos (by omega), if_pos (by omega)]
        exact Itm_0 hl
      · rw [if_neg e, if_neg (by omega), if_neg (by omega), if_neg (by omega)]
        exact m2.ii q hq i hi
end PN
