/-! the memory's ways, side by side -/
theorem l_pre {x : Int64} {n : Nat} (h0 : ¬ x < lN 0) (h1 : ¬ x < lN n) (hn : n < 2147483648) : lN n - lN 1 < x := by
  match n with
  | 0 =>
    rw [Int64.lt_iff_toInt_lt, show (lN 0 - lN 1).toInt = -1 from rfl]
    rw [Int64.lt_iff_toInt_lt, tL_lN (by omega)] at h0; omega
  | n + 1 =>
    rw [lN_sub (by omega), Nat.add_sub_cancel]
    exact l_big h1 hn (by omega)
section PM
variable {cnt : Nat} {rf : Nat → Option Nat} {c r : Hp}
theorem m_reach (wc : Wc cnt rf c) (ur : Wr r) (m : Rm c r) {k : Nat} (hk : k < 12) (x : Int64) :
    (fX5_reach (kC cnt) 2 (nI k) x c = some (nI 1) ∧ fX10_against kR 0 (nI k) x r = some (nI 1) ∧ g_I r 1 k = mO) ∨
    (fX5_reach (kC cnt) 2 (nI k) x c = some (nI 2) ∧ fX10_against kR 0 (nI k) x r = some (nI 2) ∧ ∃ b, b < 12 ∧ g_I r 1 k = nI b) ∨
    (fX5_reach (kC cnt) 2 (nI k) x c = some (nI 0) ∧ fX10_against kR 0 (nI k) x r = some (nI 0) ∧ ∃ b n i, b < 12 ∧ n ≤ 12 ∧ i < n ∧ g_I r 1 k = nI b ∧ g_I r 3 b = nI n ∧ x = lN i) := by
  have e1 := m.eb k hk
  rcases m.sb k hk with e | ⟨b, hb, e⟩
  · refine Or.inl ⟨?_, ?_, e⟩
    · simp (disch := omega) only [fX5_reach, e1, e, lt_e, bs_e, b2_e, if_true, if_false, ↓reduceIte, Nat.reduceEqDiff, Nat.reduceLeDiff, Nat.reduceLT, Nat.reduceAdd, Nat.reduceMul, Nat.reduceSub, Nat.not_lt_zero, Nat.zero_le, Nat.le_refl, and_self, Nat.succ_ne_zero, Nat.add_sub_cancel, or_true, true_or, or_false, false_or, L0, L1, L2, L3, L4, L5, L6, L7, L8, L9, L10, L11, L12, L13, L14, L15, L16, L17, L18, L19, L20, L21, L22, L23, L24, L25, L26, L27, L28, L29, L30, L50, L60, L100, L144, L300, J0, J1, J2, J5, J6, J7, J8, J11, J12, J18, J29, J50, mO_e, oL_e, nI_mO, mO_nI, mO_lt, nlt_mO, mO_le, nle_mO, nI_add, nI_subn, nI_muln, e_lt, e_le, e_eq, q_lt, q_le, q_eq, i_l, mO_l, oL_lt, nlt_oL, nI_oL, lN_sub, lN_i, lN_add, rI_s, rI_a, rI_k, rJ_s, rJ_a, rJ_k, rD_s, rD_a, rD_k, rJI, rDI, rRI, rIJ, rDJ, rRJ, rID, rJD, rRD, rIR, rJR, rDR, C0_t, kC_0, C1_t, kC_1, C2_t, kC_2, C3_t, kC_3, C3_a, C3_w, C4_t, kC_4, C4_a, C4_w, C5_t, kC_5, C5_a, C5_w, C6_t, kC_6, C6_a, C6_w, C7_t, kC_7, C7_a, C7_w, C8_t, kC_8, C9_t, kC_9, C9_a, C9_w, C10_t, kC_10, C10_a, C10_w, C11_t, kC_11, C11_a, C11_w, C12_t, kC_12, C12_a, C12_w, C13_t, kC_13, C13_a, C13_w, C14_t, kC_14, C15_t, kC_15, C15_a, C16_t, kC_16, C16_a, C53_t, kC_53, C53_a, C54_t, kC_54, C54_a, C55_t, kC_55, C55_a, C55_w, C56_t, kC_56, w_0_0 wc, w_1_0 wc, w_1_1 wc, w_1_2 wc, w_1_3 wc, w_1_5 wc, w_1_6 wc, w_1_7 wc, w_2_0 wc, w_2_1 wc, w_2_2 wc, w_2_3 wc, w_2_4 wc, w_8_0 wc, w_8_1 wc, w_8_2 wc, w_8_3 wc, w_8_4 wc, w_14_0 wc, w_14_1 wc]
    · simp (disch := omega) only [fX10_against, e, lt_e, bs_e, b2_e, if_true, if_false, ↓reduceIte, Nat.reduceEqDiff, Nat.reduceLeDiff, Nat.reduceLT, Nat.reduceAdd, Nat.reduceMul, Nat.reduceSub, Nat.not_lt_zero, Nat.zero_le, Nat.le_refl, and_self, Nat.succ_ne_zero, Nat.add_sub_cancel, or_true, true_or, or_false, false_or, L0, L1, L2, L3, L4, L5, L6, L7, L8, L9, L10, L11, L12, L13, L14, L15, L16, L17, L18, L19, L20, L21, L22, L23, L24, L25, L26, L27, L28, L29, L30, L50, L60, L100, L144, L300, J0, J1, J2, J5, J6, J7, J8, J11, J12, J18, J29, J50, mO_e, oL_e, nI_mO, mO_nI, mO_lt, nlt_mO, mO_le, nle_mO, nI_add, nI_subn, nI_muln, e_lt, e_le, e_eq, q_lt, q_le, q_eq, i_l, mO_l, oL_lt, nlt_oL, nI_oL, lN_sub, lN_i, lN_add, rI_s, rI_a, rI_k, rJ_s, rJ_a, rJ_k, rD_s, rD_a, rD_k, rJI, rDI, rRI, rIJ, rDJ, rRJ, rID, rJD, rRD, rIR, rJR, rDR, R0_t, kR_0, R1_t, kR_1, R1_a, R1_w, R2_t, kR_2, R2_a, R2_w, R3_t, kR_3, R3_a, R3_w, R4_t, kR_4, R4_a, R4_w, R5_t, kR_5, R5_a, R5_w, R6_t, kR_6, R6_a, R6_w, R7_t, kR_7, R7_a, R7_w, R8_t, kR_8, R8_a, R8_w, R9_t, kR_9, R9_a, R9_w, R10_t, kR_10, R10_a, R10_w, R11_t, kR_11, R11_a, R11_w, R12_t, kR_12, R12_a, R12_w, R13_t, kR_13, R13_a, R13_w, R14_t, kR_14, R14_a, R14_w, R15_t, kR_15, R15_a, R15_w, R16_t, kR_16, R16_a, R16_w, R17_t, kR_17, R17_a, R17_w, R18_t, kR_18, R18_a, R18_w, R19_t, kR_19, R19_a, R19_w, R20_t, kR_20, R20_a, R20_w, R21_t, kR_21, R21_a, R21_w, R22_t, kR_22, R22_a, R22_w, R23_t, kR_23, R23_a, R23_w, R24_t, kR_24, R24_a, R24_w, R25_t, kR_25, R25_a, R25_w, R26_t, kR_26, R26_a, R26_w, R27_t, kR_27, R27_a, R27_w, R28_t, kR_28, R28_a, R28_w, R29_t, kR_29, R29_a, R29_w, R30_t, kR_30, R30_a, R30_w, R31_t, kR_31, R31_a, R31_w, R32_t, kR_32, R32_a, R32_w, R33_t, kR_33, R33_a, R33_w, R34_t, kR_34, R34_a, R34_w, R35_t, kR_35, R35_a, R35_w, R36_t, kR_36, R36_a, R36_w, R37_t, kR_37, R37_a, R37_w, R38_t, kR_38, R38_a, R38_w, R39_t, kR_39, R39_a, R39_w, u_0 ur, u_1 ur, u_2 ur, u_3 ur, u_4 ur, u_6 ur, u_7 ur, u_8 ur, u_9 ur, u_10 ur, u_15 ur, u_16 ur, u_17 ur, u_18 ur, u_19 ur, u_20 ur, u_21 ur, u_22 ur, u_24 ur, u_25 ur, u_26 ur, u_27 ur, u_28 ur, u_29 ur, u_30 ur, u_31 ur, u_32 ur, u_33 ur, u_40 ur, u_53 ur, u_54 ur, u_55 ur, u_56 ur, u_57 ur, u_58 ur, u_59 ur, u_60 ur, u_61 ur, u_62 ur]
  · obtain ⟨n, hn, en⟩ := m.ss b hb
    have e2 := m.es b hb
    rcases l_cs x n (by omega) with h0 | ⟨i, hi, rfl⟩ | ⟨h0, h1⟩
    · refine Or.inr (Or.inl ⟨?_, ?_, b, hb, e⟩)
      · simp (disch := omega) only [fX5_reach, e1, e, e2, en, h0, lt_e, bs_e, b2_e, if_true, if_false, ↓reduceIte, Nat.reduceEqDiff, Nat.reduceLeDiff, Nat.reduceLT, Nat.reduceAdd, Nat.reduceMul, Nat.reduceSub, Nat.not_lt_zero, Nat.zero_le, Nat.le_refl, and_self, Nat.succ_ne_zero, Nat.add_sub_cancel, or_true, true_or, or_false, false_or, L0, L1, L2, L3, L4, L5, L6, L7, L8, L9, L10, L11, L12, L13, L14, L15, L16, L17, L18, L19, L20, L21, L22, L23, L24, L25, L26, L27, L28, L29, L30, L50, L60, L100, L144, L300, J0, J1, J2, J5, J6, J7, J8, J11, J12, J18, J29, J50, mO_e, oL_e, nI_mO, mO_nI, mO_lt, nlt_mO, mO_le, nle_mO, nI_add, nI_subn, nI_muln, e_lt, e_le, e_eq, q_lt, q_le, q_eq, i_l, mO_l, oL_lt, nlt_oL, nI_oL, lN_sub, lN_i, lN_add, rI_s, rI_a, rI_k, rJ_s, rJ_a, rJ_k, rD_s, rD_a, rD_k, rJI, rDI, rRI, rIJ, rDJ, rRJ, rID, rJD, rRD, rIR, rJR, rDR, C0_t, kC_0, C1_t, kC_1, C2_t, kC_2, C3_t, kC_3, C3_a, C3_w, C4_t, kC_4, C4_a, C4_w, C5_t, kC_5, C5_a, C5_w, C6_t, kC_6, C6_a, C6_w, C7_t, kC_7, C7_a, C7_w, C8_t, kC_8, C9_t, kC_9, C9_a, C9_w, C10_t, kC_10, C10_a, C10_w, C11_t, kC_11, C11_a, C11_w, C12_t, kC_12, C12_a, C12_w, C13_t, kC_13, C13_a, C13_w, C14_t, kC_14, C15_t, kC_15, C15_a, C16_t, kC_16, C16_a, C53_t, kC_53, C53_a, C54_t, kC_54, C54_a, C55_t, kC_55, C55_a, C55_w, C56_t, kC_56, w_0_0 wc, w_1_0 wc, w_1_1 wc, w_1_2 wc, w_1_3 wc, w_1_5 wc, w_1_6 wc, w_1_7 wc, w_2_0 wc, w_2_1 wc, w_2_2 wc, w_2_3 wc, w_2_4 wc, w_8_0 wc, w_8_1 wc, w_8_2 wc, w_8_3 wc, w_8_4 wc, w_14_0 wc, w_14_1 wc]
      · simp (disch := omega) only [fX10_against, fX10_in, e, en, h0, lt_e, bs_e, b2_e, if_true, if_false, ↓reduceIte, Nat.reduceEqDiff, Nat.reduceLeDiff, Nat.reduceLT, Nat.reduceAdd, Nat.reduceMul, Nat.reduceSub, Nat.not_lt_zero, Nat.zero_le, Nat.le_refl, and_self, Nat.succ_ne_zero, Nat.add_sub_cancel, or_true, true_or, or_false, false_or, L0, L1, L2, L3, L4, L5, L6, L7, L8, L9, L10, L11, L12, L13, L14, L15, L16, L17, L18, L19, L20, L21, L22, L23, L24, L25, L26, L27, L28, L29, L30, L50, L60, L100, L144, L300, J0, J1, J2, J5, J6, J7, J8, J11, J12, J18, J29, J50, mO_e, oL_e, nI_mO, mO_nI, mO_lt, nlt_mO, mO_le, nle_mO, nI_add, nI_subn, nI_muln, e_lt, e_le, e_eq, q_lt, q_le, q_eq, i_l, mO_l, oL_lt, nlt_oL, nI_oL, lN_sub, lN_i, lN_add, rI_s, rI_a, rI_k, rJ_s, rJ_a, rJ_k, rD_s, rD_a, rD_k, rJI, rDI, rRI, rIJ, rDJ, rRJ, rID, rJD, rRD, rIR, rJR, rDR, R0_t, kR_0, R1_t, kR_1, R1_a, R1_w, R2_t, kR_2, R2_a, R2_w, R3_t, kR_3, R3_a, R3_w, R4_t, kR_4, R4_a, R4_w, R5_t, kR_5, R5_a, R5_w, R6_t, kR_6, R6_a, R6_w, R7_t, kR_7, R7_a, R7_w, R8_t, kR_8, R8_a, R8_w, R9_t, kR_9, R9_a, R9_w, R10_t, kR_10, R10_a, R10_w, R11_t, kR_11, R11_a, R11_w, R12_t, kR_12, R12_a, R12_w, R13_t, kR_13, R13_a, R13_w, R14_t, kR_14, R14_a, R14_w, R15_t, kR_15, R15_a, R15_w, R16_t, kR_16, R16_a, R16_w, R17_t, kR_17, R17_a, R17_w, R18_t, kR_18, R18_a, R18_w, R19_t, kR_19, R19_a, R19_w, R20_t, kR_20, R20_a, R20_w, R21_t, kR_21, R21_a, R21_w, R22_t, kR_22, R22_a, R22_w, R23_t, kR_23, R23_a, R23_w, R24_t, kR_24, R24_a, R24_w, R25_t, kR_25, R25_a, R25_w, R26_t, kR_26, R26_a, R26_w, R27_t, kR_27, R27_a, R27_w, R28_t, kR_28, R28_a, R28_w, R29_t, kR_29, R29_a, R29_w, R30_t, kR_30, R30_a, R30_w, R31_t, kR_31, R31_a, R31_w, R32_t, kR_32, R32_a, R32_w, R33_t, kR_33, R33_a, R33_w, R34_t, kR_34, R34_a, R34_w, R35_t, kR_35, R35_a, R35_w, R36_t, kR_36, R36_a, R36_w, R37_t, kR_37, R37_a, R37_w, R38_t, kR_38, R38_a, R38_w, R39_t, kR_39, R39_a, R39_w, u_0 ur, u_1 ur, u_2 ur, u_3 ur, u_4 ur, u_6 ur, u_7 ur, u_8 ur, u_9 ur, u_10 ur, u_15 ur, u_16 ur, u_17 ur, u_18 ur, u_19 ur, u_20 ur, u_21 ur, u_22 ur, u_24 ur, u_25 ur, u_26 ur, u_27 ur, u_28 ur, u_29 ur, u_30 ur, u_31 ur, u_32 ur, u_33 ur, u_40 ur, u_53 ur, u_54 ur, u_55 ur, u_56 ur, u_57 ur, u_58 ur, u_59 ur, u_60 ur, u_61 ur, u_62 ur]
    · refine Or.inr (Or.inr ⟨?_, ?_, b, n, i, hb, hn, hi, e, en, rfl⟩)
      · simp (disch := omega) only [fX5_reach, e1, e, e2, en, lt_e, bs_e, b2_e, if_true, if_false, ↓reduceIte, Nat.reduceEqDiff, Nat.reduceLeDiff, Nat.reduceLT, Nat.reduceAdd, Nat.reduceMul, Nat.reduceSub, Nat.not_lt_zero, Nat.zero_le, Nat.le_refl, and_self, Nat.succ_ne_zero, Nat.add_sub_cancel, or_true, true_or, or_false, false_or, L0, L1, L2, L3, L4, L5, L6, L7, L8, L9, L10, L11, L12, L13, L14, L15, L16, L17, L18, L19, L20, L21, L22, L23, L24, L25, L26, L27, L28, L29, L30, L50, L60, L100, L144, L300, J0, J1, J2, J5, J6, J7, J8, J11, J12, J18, J29, J50, mO_e, oL_e, nI_mO, mO_nI, mO_lt, nlt_mO, mO_le, nle_mO, nI_add, nI_subn, nI_muln, e_lt, e_le, e_eq, q_lt, q_le, q_eq, i_l, mO_l, oL_lt, nlt_oL, nI_oL, lN_sub, lN_i, lN_add, rI_s, rI_a, rI_k, rJ_s, rJ_a, rJ_k, rD_s, rD_a, rD_k, rJI, rDI, rRI, rIJ, rDJ, rRJ, rID, rJD, rRD, rIR, rJR, rDR, C0_t, kC_0, C1_t, kC_1, C2_t, kC_2, C3_t, kC_3, C3_a, C3_w, C4_t, kC_4, C4_a, C4_w, C5_t, kC_5, C5_a, C5_w, C6_t, kC_6, C6_a, C6_w, C7_t, kC_7, C7_a, C7_w, C8_t, kC_8, C9_t, kC_9, C9_a, C9_w, C10_t, kC_10, C10_a, C10_w, C11_t, kC_11, C11_a, C11_w, C12_t, kC_12, C12_a, C12_w, C13_t, kC_13, C13_a, C13_w, C14_t, kC_14, C15_t, kC_15, C15_a, C16_t, kC_16, C16_a, C53_t, kC_53, C53_a, C54_t, kC_54, C54_a, C55_t, kC_55, C55_a, C55_w, C56_t, kC_56, w_0_0 wc, w_1_0 wc, w_1_1 wc, w_1_2 wc, w_1_3 wc, w_1_5 wc, w_1_6 wc, w_1_7 wc, w_2_0 wc, w_2_1 wc, w_2_2 wc, w_2_3 wc, w_2_4 wc, w_8_0 wc, w_8_1 wc, w_8_2 wc, w_8_3 wc, w_8_4 wc, w_14_0 wc, w_14_1 wc]
        simp [hi]
      · simp (disch := omega) only [fX10_against, fX10_in, e, en, lt_e, bs_e, b2_e, if_true, if_false, ↓reduceIte, Nat.reduceEqDiff, Nat.reduceLeDiff, Nat.reduceLT, Nat.reduceAdd, Nat.reduceMul, Nat.reduceSub, Nat.not_lt_zero, Nat.zero_le, Nat.le_refl, and_self, Nat.succ_ne_zero, Nat.add_sub_cancel, or_true, true_or, or_false, false_or, L0, L1, L2, L3, L4, L5, L6, L7, L8, L9, L10, L11, L12, L13, L14, L15, L16, L17, L18, L19, L20, L21, L22, L23, L24, L25, L26, L27, L28, L29, L30, L50, L60, L100, L144, L300, J0, J1, J2, J5, J6, J7, J8, J11, J12, J18, J29, J50, mO_e, oL_e, nI_mO, mO_nI, mO_lt, nlt_mO, mO_le, nle_mO, nI_add, nI_subn, nI_muln, e_lt, e_le, e_eq, q_lt, q_le, q_eq, i_l, mO_l, oL_lt, nlt_oL, nI_oL, lN_sub, lN_i, lN_add, rI_s, rI_a, rI_k, rJ_s, rJ_a, rJ_k, rD_s, rD_a, rD_k, rJI, rDI, rRI, rIJ, rDJ, rRJ, rID, rJD, rRD, rIR, rJR, rDR, R0_t, kR_0, R1_t, kR_1, R1_a, R1_w, R2_t, kR_2, R2_a, R2_w, R3_t, kR_3, R3_a, R3_w, R4_t, kR_4, R4_a, R4_w, R5_t, kR_5, R5_a, R5_w, R6_t, kR_6, R6_a, R6_w, R7_t, kR_7, R7_a, R7_w, R8_t, kR_8, R8_a, R8_w, R9_t, kR_9, R9_a, R9_w, R10_t, kR_10, R10_a, R10_w, R11_t, kR_11, R11_a, R11_w, R12_t, kR_12, R12_a, R12_w, R13_t, kR_13, R13_a, R13_w, R14_t, kR_14, R14_a, R14_w, R15_t, kR_15, R15_a, R15_w, R16_t, kR_16, R16_a, R16_w, R17_t, kR_17, R17_a, R17_w, R18_t, kR_18, R18_a, R18_w, R19_t, kR_19, R19_a, R19_w, R20_t, kR_20, R20_a, R20_w, R21_t, kR_21, R21_a, R21_w, R22_t, kR_22, R22_a, R22_w, R23_t, kR_23, R23_a, R23_w, R24_t, kR_24, R24_a, R24_w, R25_t, kR_25, R25_a, R25_w, R26_t, kR_26, R26_a, R26_w, R27_t, kR_27, R27_a, R27_w, R28_t, kR_28, R28_a, R28_w, R29_t, kR_29, R29_a, R29_w, R30_t, kR_30, R30_a, R30_w, R31_t, kR_31, R31_a, R31_w, R32_t, kR_32, R32_a, R32_w, R33_t, kR_33, R33_a, R33_w, R34_t, kR_34, R34_a, R34_w, R35_t, kR_35, R35_a, R35_w, R36_t, kR_36, R36_a, R36_w, R37_t, kR_37, R37_a, R37_w, R38_t, kR_38, R38_a, R38_w, R39_t, kR_39, R39_a, R39_w, u_0 ur, u_1 ur, u_2 ur, u_3 ur, u_4 ur, u_6 ur, u_7 ur, u_8 ur, u_9 ur, u_10 ur, u_15 ur, u_16 ur, u_17 ur, u_18 ur, u_19 ur, u_20 ur, u_21 ur, u_22 ur, u_24 ur, u_25 ur, u_26 ur, u_27 ur, u_28 ur, u_29 ur, u_30 ur, u_31 ur, u_32 ur, u_33 ur, u_40 ur, u_53 ur, u_54 ur, u_55 ur, u_56 ur, u_57 ur, u_58 ur, u_59 ur, u_60 ur, u_61 ur, u_62 ur]
        rw [if_neg (by omega)]; rfl
    · refine Or.inr (Or.inl ⟨?_, ?_, b, hb, e⟩)
      · simp (disch := omega) only [fX5_reach, e1, e, e2, en, h0, h1, lt_e, bs_e, b2_e, if_true, if_false, ↓reduceIte, Nat.reduceEqDiff, Nat.reduceLeDiff, Nat.reduceLT, Nat.reduceAdd, Nat.reduceMul, Nat.reduceSub, Nat.not_lt_zero, Nat.zero_le, Nat.le_refl, and_self, Nat.succ_ne_zero, Nat.add_sub_cancel, or_true, true_or, or_false, false_or, L0, L1, L2, L3, L4, L5, L6, L7, L8, L9, L10, L11, L12, L13, L14, L15, L16, L17, L18, L19, L20, L21, L22, L23, L24, L25, L26, L27, L28, L29, L30, L50, L60, L100, L144, L300, J0, J1, J2, J5, J6, J7, J8, J11, J12, J18, J29, J50, mO_e, oL_e, nI_mO, mO_nI, mO_lt, nlt_mO, mO_le, nle_mO, nI_add, nI_subn, nI_muln, e_lt, e_le, e_eq, q_lt, q_le, q_eq, i_l, mO_l, oL_lt, nlt_oL, nI_oL, lN_sub, lN_i, lN_add, rI_s, rI_a, rI_k, rJ_s, rJ_a, rJ_k, rD_s, rD_a, rD_k, rJI, rDI, rRI, rIJ, rDJ, rRJ, rID, rJD, rRD, rIR, rJR, rDR, C0_t, kC_0, C1_t, kC_1, C2_t, kC_2, C3_t, kC_3, C3_a, C3_w, C4_t, kC_4, C4_a, C4_w, C5_t, kC_5, C5_a, C5_w, C6_t, kC_6, C6_a, C6_w, C7_t, kC_7, C7_a, C7_w, C8_t, kC_8, C9_t, kC_9, C9_a, C9_w, C10_t, kC_10, C10_a, C10_w, C11_t, kC_11, C11_a, C11_w, C12_t, kC_12, C12_a, C12_w, C13_t, kC_13, C13_a, C13_w, C14_t, kC_14, C15_t, kC_15, C15_a, C16_t, kC_16, C16_a, C53_t, kC_53, C53_a, C54_t, kC_54, C54_a, C55_t, kC_55, C55_a, C55_w, C56_t, kC_56, w_0_0 wc, w_1_0 wc, w_1_1 wc, w_1_2 wc, w_1_3 wc, w_1_5 wc, w_1_6 wc, w_1_7 wc, w_2_0 wc, w_2_1 wc, w_2_2 wc, w_2_3 wc, w_2_4 wc, w_8_0 wc, w_8_1 wc, w_8_2 wc, w_8_3 wc, w_8_4 wc, w_14_0 wc, w_14_1 wc]
      · simp (disch := omega) only [fX10_against, fX10_in, e, en, h0, lt_e, bs_e, b2_e, if_true, if_false, ↓reduceIte, Nat.reduceEqDiff, Nat.reduceLeDiff, Nat.reduceLT, Nat.reduceAdd, Nat.reduceMul, Nat.reduceSub, Nat.not_lt_zero, Nat.zero_le, Nat.le_refl, and_self, Nat.succ_ne_zero, Nat.add_sub_cancel, or_true, true_or, or_false, false_or, L0, L1, L2, L3, L4, L5, L6, L7, L8, L9, L10, L11, L12, L13, L14, L15, L16, L17, L18, L19, L20, L21, L22, L23, L24, L25, L26, L27, L28, L29, L30, L50, L60, L100, L144, L300, J0, J1, J2, J5, J6, J7, J8, J11, J12, J18, J29, J50, mO_e, oL_e, nI_mO, mO_nI, mO_lt, nlt_mO, mO_le, nle_mO, nI_add, nI_subn, nI_muln, e_lt, e_le, e_eq, q_lt, q_le, q_eq, i_l, mO_l, oL_lt, nlt_oL, nI_oL, lN_sub, lN_i, lN_add, rI_s, rI_a, rI_k, rJ_s, rJ_a, rJ_k, rD_s, rD_a, rD_k, rJI, rDI, rRI, rIJ, rDJ, rRJ, rID, rJD, rRD, rIR, rJR, rDR, R0_t, kR_0, R1_t, kR_1, R1_a, R1_w, R2_t, kR_2, R2_a, R2_w, R3_t, kR_3, R3_a, R3_w, R4_t, kR_4, R4_a, R4_w, R5_t, kR_5, R5_a, R5_w, R6_t, kR_6, R6_a, R6_w, R7_t, kR_7, R7_a, R7_w, R8_t, kR_8, R8_a, R8_w, R9_t, kR_9, R9_a, R9_w, R10_t, kR_10, R10_a, R10_w, R11_t, kR_11, R11_a, R11_w, R12_t, kR_12, R12_a, R12_w, R13_t, kR_13, R13_a, R13_w, R14_t, kR_14, R14_a, R14_w, R15_t, kR_15, R15_a, R15_w, R16_t, kR_16, R16_a, R16_w, R17_t, kR_17, R17_a, R17_w, R18_t, kR_18, R18_a, R18_w, R19_t, kR_19, R19_a, R19_w, R20_t, kR_20, R20_a, R20_w, R21_t, kR_21, R21_a, R21_w, R22_t, kR_22, R22_a, R22_w, R23_t, kR_23, R23_a, R23_w, R24_t, kR_24, R24_a, R24_w, R25_t, kR_25, R25_a, R25_w, R26_t, kR_26, R26_a, R26_w, R27_t, kR_27, R27_a, R27_w, R28_t, kR_28, R28_a, R28_w, R29_t, kR_29, R29_a, R29_w, R30_t, kR_30, R30_a, R30_w, R31_t, kR_31, R31_a, R31_w, R32_t, kR_32, R32_a, R32_w, R33_t, kR_33, R33_a, R33_w, R34_t, kR_34, R34_a, R34_w, R35_t, kR_35, R35_a, R35_w, R36_t, kR_36, R36_a, R36_w, R37_t, kR_37, R37_a, R37_w, R38_t, kR_38, R38_a, R38_w, R39_t, kR_39, R39_a, R39_w, u_0 ur, u_1 ur, u_2 ur, u_3 ur, u_4 ur, u_6 ur, u_7 ur, u_8 ur, u_9 ur, u_10 ur, u_15 ur, u_16 ur, u_17 ur, u_18 ur, u_19 ur, u_20 ur, u_21 ur, u_22 ur, u_24 ur, u_25 ur, u_26 ur, u_27 ur, u_28 ur, u_29 ur, u_30 ur, u_31 ur, u_32 ur, u_33 ur, u_40 ur, u_53 ur, u_54 ur, u_55 ur, u_56 ur, u_57 ur, u_58 ur, u_59 ur, u_60 ur, u_61 ur, u_62 ur]
        rw [if_pos (l_pre h0 h1 (by omega))]; rfl
theorem RM_set {b u l s : Nat → Int32} {it : Nat → Int64} {b' l' s' : Nat → Int32} {w : Nat → Int64} {re : Nat → UInt64} {u2 : Nat → Int32} (m : RM b u l s it b' l' s' w re) {k : Nat} {v : Int32} (hv : v = mO ∨ ∃ j, j < 12 ∧ v = nI j)
    (hu : ∀ i, i < 12 → u2 i = nI (cuN (fun j => if j = k then v else b' j) i 12)) : RM (fun j => if j = k then v else b j) u2 l s it (fun j => if j = k then v else b' j) l' s' w re := by
  refine ⟨fun r hr => ?_, m.el, m.es, fun r hr => ?_, m.sl, m.ss, hu, m.ii⟩
  · show (if r = k then v else b r) = (if r = k then v else b' r)
    rw [m.eb r hr]
  · show (if r = k then v else b' r) = mO ∨ ∃ k_1, k_1 < 12 ∧ (if r = k then v else b' r) = nI k_1
    split
    · exact hv
    · exact m.sb r hr
theorem m_drop (wc : Wc cnt rf c) (m : Rm c r) {k : Nat} (hk : k < 12) :
    ∃ c', fX5_drop (kC cnt) 2 (nI k) c = some (if g_I r 1 k = mO then nI 0 else nI 1, c') ∧ Fr 3 4 c c' ∧ Rm c' (s_I r 1 k mO) := by
  have e1 := m.eb k hk
  rcases m.sb k hk with e | ⟨b, hb, e⟩
  · refine ⟨c, ?_, Fr_r .., ?_⟩
    · simp (disch := omega) only [fX5_drop, e1, e, lt_e, bs_e, b2_e, if_true, if_false, ↓reduceIte, Nat.reduceEqDiff, Nat.reduceLeDiff, Nat.reduceLT, Nat.reduceAdd, Nat.reduceMul, Nat.reduceSub, Nat.not_lt_zero, Nat.zero_le, Nat.le_refl, and_self, Nat.succ_ne_zero, Nat.add_sub_cancel, or_true, true_or, or_false, false_or, L0, L1, L2, L3, L4, L5, L6, L7, L8, L9, L10, L11, L12, L13, L14, L15, L16, L17, L18, L19, L20, L21, L22, L23, L24, L25, L26, L27, L28, L29, L30, L50, L60, L100, L144, L300, J0, J1, J2, J5, J6, J7, J8, J11, J12, J18, J29, J50, mO_e, oL_e, nI_mO, mO_nI, mO_lt, nlt_mO, mO_le, nle_mO, nI_add, nI_subn, nI_muln, e_lt, e_le, e_eq, q_lt, q_le, q_eq, i_l, mO_l, oL_lt, nlt_oL, nI_oL, lN_sub, lN_i, lN_add, rI_s, rI_a, rI_k, rJ_s, rJ_a, rJ_k, rD_s, rD_a, rD_k, rJI, rDI, rRI, rIJ, rDJ, rRJ, rID, rJD, rRD, rIR, rJR, rDR, C0_t, kC_0, C1_t, kC_1, C2_t, kC_2, C3_t, kC_3, C3_a, C3_w, C4_t, kC_4, C4_a, C4_w, C5_t, kC_5, C5_a, C5_w, C6_t, kC_6, C6_a, C6_w, C7_t, kC_7, C7_a, C7_w, C8_t, kC_8, C9_t, kC_9, C9_a, C9_w, C10_t, kC_10, C10_a, C10_w, C11_t, kC_11, C11_a, C11_w, C12_t, kC_12, C12_a, C12_w, C13_t, kC_13, C13_a, C13_w, C14_t, kC_14, C15_t, kC_15, C15_a, C16_t, kC_16, C16_a, C53_t, kC_53, C53_a, C54_t, kC_54, C54_a, C55_t, kC_55, C55_a, C55_w, C56_t, kC_56, w_0_0 wc, w_1_0 wc, w_1_1 wc, w_1_2 wc, w_1_3 wc, w_1_5 wc, w_1_6 wc, w_1_7 wc, w_2_0 wc, w_2_1 wc, w_2_2 wc, w_2_3 wc, w_2_4 wc, w_8_0 wc, w_8_1 wc, w_8_2 wc, w_8_3 wc, w_8_4 wc, w_14_0 wc, w_14_1 wc]
    · unfold Rm at *
      rw [rI_f, rI_a _ _ _ _ (show 2 ≠ 1 by omega), rI_a _ _ _ _ (show 3 ≠ 1 by omega), rJI, rDI]
      have : (fun j => if j = k then mO else g_I r 1 j) = g_I r 1 := by
        funext j; split
        · rename_i h; rw [h, e]
        · rfl
      rw [this]; exact m
  · have hu := m.uu b hb
    have hc : 1 ≤ cuN (g_I r 1) b 12 := by
      refine Nat.one_le_iff_ne_zero.mpr fun h => ?_
      exact (cu_none 12).mp h k hk e
    have hl := cu_le (b := g_I r 1) (k := b) 12
    refine ⟨s_I (s_I c 4 b (nI (cuN (g_I r 1) b 12 - 1))) 3 k mO, ?_, Fr_i (Fr_i (Fr_r ..) (by omega)) (by omega), ?_⟩
    · simp (disch := omega) only [fX5_drop, e1, e, hu, lt_e, bs_e, b2_e, if_true, if_false, ↓reduceIte, Nat.reduceEqDiff, Nat.reduceLeDiff, Nat.reduceLT, Nat.reduceAdd, Nat.reduceMul, Nat.reduceSub, Nat.not_lt_zero, Nat.zero_le, Nat.le_refl, and_self, Nat.succ_ne_zero, Nat.add_sub_cancel, or_true, true_or, or_false, false_or, L0, L1, L2, L3, L4, L5, L6, L7, L8, L9, L10, L11, L12, L13, L14, L15, L16, L17, L18, L19, L20, L21, L22, L23, L24, L25, L26, L27, L28, L29, L30, L50, L60, L100, L144, L300, J0, J1, J2, J5, J6, J7, J8, J11, J12, J18, J29, J50, mO_e, oL_e, nI_mO, mO_nI, mO_lt, nlt_mO, mO_le, nle_mO, nI_add, nI_subn, nI_muln, e_lt, e_le, e_eq, q_lt, q_le, q_eq, i_l, mO_l, oL_lt, nlt_oL, nI_oL, lN_sub, lN_i, lN_add, rI_s, rI_a, rI_k, rJ_s, rJ_a, rJ_k, rD_s, rD_a, rD_k, rJI, rDI, rRI, rIJ, rDJ, rRJ, rID, rJD, rRD, rIR, rJR, rDR, C0_t, kC_0, C1_t, kC_1, C2_t, kC_2, C3_t, kC_3, C3_a, C3_w, C4_t, kC_4, C4_a, C4_w, C5_t, kC_5, C5_a, C5_w, C6_t, kC_6, C6_a, C6_w, C7_t, kC_7, C7_a, C7_w, C8_t, kC_8, C9_t, kC_9, C9_a, C9_w, C10_t, kC_10, C10_a, C10_w, C11_t, kC_11, C11_a, C11_w, C12_t, kC_12, C12_a, C12_w, C13_t, kC_13, C13_a, C13_w, C14_t, kC_14, C15_t, kC_15, C15_a, C16_t, kC_16, C16_a, C53_t, kC_53, C53_a, C54_t, kC_54, C54_a, C55_t, kC_55, C55_a, C55_w, C56_t, kC_56, w_0_0 wc, w_1_0 wc, w_1_1 wc, w_1_2 wc, w_1_3 wc, w_1_5 wc, w_1_6 wc, w_1_7 wc, w_2_0 wc, w_2_1 wc, w_2_2 wc, w_2_3 wc, w_2_4 wc, w_8_0 wc, w_8_1 wc, w_8_2 wc, w_8_3 wc, w_8_4 wc, w_14_0 wc, w_14_1 wc]
    · unfold Rm at *
      simp (disch := omega) only [rI_f, rI_a, rJI, rDI]
      refine RM_set m (Or.inl rfl) fun i hi => ?_
      have := cuN_u (g_I r 1) i k mO 12 hk
      simp (disch := omega) only [e, mO_nI, e_eq, if_false] at this
      show (if i = b then _ else g_I c 4 i) = _
      split
      · rename_i h
        subst h
        rw [if_pos rfl] at this
        congr 1; omega
      · rename_i h
        rw [if_neg (by omega)] at this
        rw [m.uu i hi]
        congr 1; omega
theorem m_attach (wc : Wc cnt rf c) (m : Rm c r) {k b : Nat} (hk : k < 12) (hb : b < 12) (e : g_I r 1 k = mO) :
    ∃ c', fX5_attach (kC cnt) 2 (nI k) (nI b) c = some c' ∧ Fr 3 4 c c' ∧ Rm c' (s_I r 1 k (nI b)) := by
  have hu := m.uu b hb
  have hl := cu_le (b := g_I r 1) (k := b) 12
  refine ⟨s_I (s_I c 3 k (nI b)) 4 b (nI (cuN (g_I r 1) b 12 + 1)), ?_, Fr_i (Fr_i (Fr_r ..) (by omega)) (by omega), ?_⟩
  · simp (disch := omega) only [fX5_attach, hu, lt_e, bs_e, b2_e, if_true, if_false, ↓reduceIte, Nat.reduceEqDiff, Nat.reduceLeDiff, Nat.reduceLT, Nat.reduceAdd, Nat.reduceMul, Nat.reduceSub, Nat.not_lt_zero, Nat.zero_le, Nat.le_refl, and_self, Nat.succ_ne_zero, Nat.add_sub_cancel, or_true, true_or, or_false, false_or, L0, L1, L2, L3, L4, L5, L6, L7, L8, L9, L10, L11, L12, L13, L14, L15, L16, L17, L18, L19, L20, L21, L22, L23, L24, L25, L26, L27, L28, L29, L30, L50, L60, L100, L144, L300, J0, J1, J2, J5, J6, J7, J8, J11, J12, J18, J29, J50, mO_e, oL_e, nI_mO, mO_nI, mO_lt, nlt_mO, mO_le, nle_mO, nI_add, nI_subn, nI_muln, e_lt, e_le, e_eq, q_lt, q_le, q_eq, i_l, mO_l, oL_lt, nlt_oL, nI_oL, lN_sub, lN_i, lN_add, rI_s, rI_a, rI_k, rJ_s, rJ_a, rJ_k, rD_s, rD_a, rD_k, rJI, rDI, rRI, rIJ, rDJ, rRJ, rID, rJD, rRD, rIR, rJR, rDR, C0_t, kC_0, C1_t, kC_1, C2_t, kC_2, C3_t, kC_3, C3_a, C3_w, C4_t, kC_4, C4_a, C4_w, C5_t, kC_5, C5_a, C5_w, C6_t, kC_6, C6_a, C6_w, C7_t, kC_7, C7_a, C7_w, C8_t, kC_8, C9_t, kC_9, C9_a, C9_w, C10_t, kC_10, C10_a, C10_w, C11_t, kC_11, C11_a, C11_w, C12_t, kC_12, C12_a, C12_w, C13_t, kC_13, C13_a, C13_w, C14_t, kC_14, C15_t, kC_15, C15_a, C16_t, kC_16, C16_a, C53_t, kC_53, C53_a, C54_t, kC_54, C54_a, C55_t, kC_55, C55_a, C55_w, C56_t, kC_56, w_0_0 wc, w_1_0 wc, w_1_1 wc, w_1_2 wc, w_1_3 wc, w_1_5 wc, w_1_6 wc, w_1_7 wc, w_2_0 wc, w_2_1 wc, w_2_2 wc, w_2_3 wc, w_2_4 wc, w_8_0 wc, w_8_1 wc, w_8_2 wc, w_8_3 wc, w_8_4 wc, w_14_0 wc, w_14_1 wc]
  · unfold Rm at *
    simp (disch := omega) only [rI_f, rI_a, rJI, rDI]
    refine RM_set m (Or.inr ⟨b, hb, rfl⟩) fun i hi => ?_
    have := cuN_u (g_I r 1) i k (nI b) 12 hk
    rw [e, if_neg (fun h => by rw [mO_nI (by omega)] at h; exact h)] at this
    show (if i = b then _ else g_I c 4 i) = _
    split
    · rename_i h
      subst h
      rw [if_pos rfl] at this
      congr 1; omega
    · rename_i h
      rw [if_neg (fun h2 => by rw [e_eq (by omega) (by omega)] at h2; omega)] at this
      rw [m.uu i hi]
      congr 1; omega
theorem m_join (wc : Wc cnt rf c) (ur : Wr r) (m : Rm c r) {k s : Nat} (hk : k < 12) (hs : s < 12) :
    ∃ c', fX5_join (kC cnt) 2 (nI k) (nI s) c = some (if g_I r 1 k = g_I r 1 s then nI 0 else nI 1, c') ∧ Fr 3 4 c c' ∧ Rm c' (s_I r 1 k (g_I r 1 s)) := by
  have e1 := m.eb k hk
  have e2 := m.eb s hs
  by_cases h : g_I r 1 k = g_I r 1 s
  · refine ⟨c, ?_, Fr_r .., ?_⟩
    · simp (disch := omega) only [fX5_join, e1, e2, h, lt_e, bs_e, b2_e, if_true, if_false, ↓reduceIte, Nat.reduceEqDiff, Nat.reduceLeDiff, Nat.reduceLT, Nat.reduceAdd, Nat.reduceMul, Nat.reduceSub, Nat.not_lt_zero, Nat.zero_le, Nat.le_refl, and_self, Nat.succ_ne_zero, Nat.add_sub_cancel, or_true, true_or, or_false, false_or, L0, L1, L2, L3, L4, L5, L6, L7, L8, L9, L10, L11, L12, L13, L14, L15, L16, L17, L18, L19, L20, L21, L22, L23, L24, L25, L26, L27, L28, L29, L30, L50, L60, L100, L144, L300, J0, J1, J2, J5, J6, J7, J8, J11, J12, J18, J29, J50, mO_e, oL_e, nI_mO, mO_nI, mO_lt, nlt_mO, mO_le, nle_mO, nI_add, nI_subn, nI_muln, e_lt, e_le, e_eq, q_lt, q_le, q_eq, i_l, mO_l, oL_lt, nlt_oL, nI_oL, lN_sub, lN_i, lN_add, rI_s, rI_a, rI_k, rJ_s, rJ_a, rJ_k, rD_s, rD_a, rD_k, rJI, rDI, rRI, rIJ, rDJ, rRJ, rID, rJD, rRD, rIR, rJR, rDR, C0_t, kC_0, C1_t, kC_1, C2_t, kC_2, C3_t, kC_3, C3_a, C3_w, C4_t, kC_4, C4_a, C4_w, C5_t, kC_5, C5_a, C5_w, C6_t, kC_6, C6_a, C6_w, C7_t, kC_7, C7_a, C7_w, C8_t, kC_8, C9_t, kC_9, C9_a, C9_w, C10_t, kC_10, C10_a, C10_w, C11_t, kC_11, C11_a, C11_w, C12_t, kC_12, C12_a, C12_w, C13_t, kC_13, C13_a, C13_w, C14_t, kC_14, C15_t, kC_15, C15_a, C16_t, kC_16, C16_a, C53_t, kC_53, C53_a, C54_t, kC_54, C54_a, C55_t, kC_55, C55_a, C55_w, C56_t, kC_56, w_0_0 wc, w_1_0 wc, w_1_1 wc, w_1_2 wc, w_1_3 wc, w_1_5 wc, w_1_6 wc, w_1_7 wc, w_2_0 wc, w_2_1 wc, w_2_2 wc, w_2_3 wc, w_2_4 wc, w_8_0 wc, w_8_1 wc, w_8_2 wc, w_8_3 wc, w_8_4 wc, w_14_0 wc, w_14_1 wc]
    · unfold Rm at *
      simp (disch := omega) only [rI_f, rI_a, rJI, rDI]
      have : (fun j => if j = k then g_I r 1 s else g_I r 1 j) = g_I r 1 := by
        funext j; split
        · rename_i h2; rw [h2, h]
        · rfl
      rw [this]; exact m
  · obtain ⟨c1, h1, f1, m1⟩ := m_drop wc m hk
    have hks : s ≠ k := fun h2 => h (by rw [h2])
    have e3 : g_I c1 3 s = g_I r 1 s := by
      have := m1.eb s hs
      rw [rI_k _ _ _ _ hks] at this; exact this
    have wc1 := Fr_wc f1 wc
    rcases m.sb s hs with e | ⟨b, hb, e⟩
    · refine ⟨c1, ?_, f1, ?_⟩
      · rw [e] at h
        simp (disch := omega) only [fX5_join, e1, e2, h1, e3, e, h, lt_e, bs_e, b2_e, if_true, if_false, ↓reduceIte, Nat.reduceEqDiff, Nat.reduceLeDiff, Nat.reduceLT, Nat.reduceAdd, Nat.reduceMul, Nat.reduceSub, Nat.not_lt_zero, Nat.zero_le, Nat.le_refl, and_self, Nat.succ_ne_zero, Nat.add_sub_cancel, or_true, true_or, or_false, false_or, L0, L1, L2, L3, L4, L5, L6, L7, L8, L9, L10, L11, L12, L13, L14, L15, L16, L17, L18, L19, L20, L21, L22, L23, L24, L25, L26, L27, L28, L29, L30, L50, L60, L100, L144, L300, J0, J1, J2, J5, J6, J7, J8, J11, J12, J18, J29, J50, mO_e, oL_e, nI_mO, mO_nI, mO_lt, nlt_mO, mO_le, nle_mO, nI_add, nI_subn, nI_muln, e_lt, e_le, e_eq, q_lt, q_le, q_eq, i_l, mO_l, oL_lt, nlt_oL, nI_oL, lN_sub, lN_i, lN_add, rI_s, rI_a, rI_k, rJ_s, rJ_a, rJ_k, rD_s, rD_a, rD_k, rJI, rDI, rRI, rIJ, rDJ, rRJ, rID, rJD, rRD, rIR, rJR, rDR, C0_t, kC_0, C1_t, kC_1, C2_t, kC_2, C3_t, kC_3, C3_a, C3_w, C4_t, kC_4, C4_a, C4_w, C5_t, kC_5, C5_a, C5_w, C6_t, kC_6, C6_a, C6_w, C7_t, kC_7, C7_a, C7_w, C8_t, kC_8, C9_t, kC_9, C9_a, C9_w, C10_t, kC_10, C10_a, C10_w, C11_t, kC_11, C11_a, C11_w, C12_t, kC_12, C12_a, C12_w, C13_t, kC_13, C13_a, C13_w, C14_t, kC_14, C15_t, kC_15, C15_a, C16_t, kC_16, C16_a, C53_t, kC_53, C53_a, C54_t, kC_54, C54_a, C55_t, kC_55, C55_a, C55_w, C56_t, kC_56, w_0_0 wc, w_1_0 wc, w_1_1 wc, w_1_2 wc, w_1_3 wc, w_1_5 wc, w_1_6 wc, w_1_7 wc, w_2_0 wc, w_2_1 wc, w_2_2 wc, w_2_3 wc, w_2_4 wc, w_8_0 wc, w_8_1 wc, w_8_2 wc, w_8_3 wc, w_8_4 wc, w_14_0 wc, w_14_1 wc, w_2_0 wc1]
      · rw [e]; exact m1
    · obtain ⟨c2, h2, f2, m2⟩ := m_attach wc1 m1 hk hb (rI_s ..)
      refine ⟨c2, ?_, Fr_t f1 f2, ?_⟩
      · rw [e] at h
        simp (disch := omega) only [fX5_join, e1, e2, h1, e3, e, h, h2, lt_e, bs_e, b2_e, if_true, if_false, ↓reduceIte, Nat.reduceEqDiff, Nat.reduceLeDiff, Nat.reduceLT, Nat.reduceAdd, Nat.reduceMul, Nat.reduceSub, Nat.not_lt_zero, Nat.zero_le, Nat.le_refl, and_self, Nat.succ_ne_zero, Nat.add_sub_cancel, or_true, true_or, or_false, false_or, L0, L1, L2, L3, L4, L5, L6, L7, L8, L9, L10, L11, L12, L13, L14, L15, L16, L17, L18, L19, L20, L21, L22, L23, L24, L25, L26, L27, L28, L29, L30, L50, L60, L100, L144, L300, J0, J1, J2, J5, J6, J7, J8, J11, J12, J18, J29, J50, mO_e, oL_e, nI_mO, mO_nI, mO_lt, nlt_mO, mO_le, nle_mO, nI_add, nI_subn, nI_muln, e_lt, e_le, e_eq, q_lt, q_le, q_eq, i_l, mO_l, oL_lt, nlt_oL, nI_oL, lN_sub, lN_i, lN_add, rI_s, rI_a, rI_k, rJ_s, rJ_a, rJ_k, rD_s, rD_a, rD_k, rJI, rDI, rRI, rIJ, rDJ, rRJ, rID, rJD, rRD, rIR, rJR, rDR, C0_t, kC_0, C1_t, kC_1, C2_t, kC_2, C3_t, kC_3, C3_a, C3_w, C4_t, kC_4, C4_a, C4_w, C5_t, kC_5, C5_a, C5_w, C6_t, kC_6, C6_a, C6_w, C7_t, kC_7, C7_a, C7_w, C8_t, kC_8, C9_t, kC_9, C9_a, C9_w, C10_t, kC_10, C10_a, C10_w, C11_t, kC_11, C11_a, C11_w, C12_t, kC_12, C12_a, C12_w, C13_t, kC_13, C13_a, C13_w, C14_t, kC_14, C15_t, kC_15, C15_a, C16_t, kC_16, C16_a, C53_t, kC_53, C53_a, C54_t, kC_54, C54_a, C55_t, kC_55, C55_a, C55_w, C56_t, kC_56, w_0_0 wc, w_1_0 wc, w_1_1 wc, w_1_2 wc, w_1_3 wc, w_1_5 wc, w_1_6 wc, w_1_7 wc, w_2_0 wc, w_2_1 wc, w_2_2 wc, w_2_3 wc, w_2_4 wc, w_8_0 wc, w_8_1 wc, w_8_2 wc, w_8_3 wc, w_8_4 wc, w_14_0 wc, w_14_1 wc, w_2_0 wc1]
      · rw [e]
        unfold Rm at *
        simp (disch := omega) only [rI_f, rI_a, rJI, rDI] at m2 ⊢
        have : (fun j => if j = k then nI b else if j = k then mO else g_I r 1 j) = (fun j => if j = k then nI b else g_I r 1 j) := by
          funext j; split <;> rfl
        rw [this] at m2
        exact m2
/-! the least body that no row uses -/
def Lf (b : Nat → Int32) (f : Nat) : Prop := f < 12 ∧ cuN b f 12 = 0 ∧ ∀ j, j < f → cuN b j 12 ≠ 0
theorem Lf_ex (b : Nat → Int32) {k : Nat} (hk : k < 12) (hb : b k = mO) : ∃ f, Lf b f := by
  obtain ⟨f0, h1, h2⟩ := cu_free b hk hb
  have : ∀ n, n ≤ 12 → (∃ f, Lf b f) ∨ ∀ j, j < n → cuN b j 12 ≠ 0 := by
    intro n
    induction n with
    | zero => exact fun _ => Or.inr fun j hj => by omega
    | succ n ih =>
      intro hn
      rcases ih (by omega) with h | h
      · exact Or.inl h
      · by_cases e : cuN b n 12 = 0
        · exact Or.inl ⟨n, by omega, e, h⟩
        · refine Or.inr fun j hj => ?_
          by_cases ej : j = n
          · rw [ej]; exact e
          · exact h j (by omega)
  rcases this 12 (by omega) with h | h
  · exact h
  · exact absurd h2 (h f0 h1)
theorem m_free (wc : Wc cnt rf c) (m : Rm c r) {f : Nat} (hf : Lf (g_I r 1) f) : ∀ N i, i ≤ 11 → i ≤ f → 12 - i ≤ N → fX5_freeBody_b2 (kC cnt) 2 N (nI i) c = some (nI f) := by
  intro N
  induction N with
  | zero => intro i h1 h2 h3; omega
  | succ N ih =>
    intro i h1 h2 h3
    have hl := hf.1
    by_cases e : i = 11
    · have : f = 11 := by omega
      subst this; subst e
      simp (disch := omega) only [fX5_freeBody_b2, lt_e, bs_e, b2_e, if_true, if_false, ↓reduceIte, Nat.reduceEqDiff, Nat.reduceLeDiff, Nat.reduceLT, Nat.reduceAdd, Nat.reduceMul, Nat.reduceSub, Nat.not_lt_zero, Nat.zero_le, Nat.le_refl, and_self, Nat.succ_ne_zero, Nat.add_sub_cancel, or_true, true_or, or_false, false_or, L0, L1, L2, L3, L4, L5, L6, L7, L8, L9, L10, L11, L12, L13, L14, L15, L16, L17, L18, L19, L20, L21, L22, L23, L24, L25, L26, L27, L28, L29, L30, L50, L60, L100, L144, L300, J0, J1, J2, J5, J6, J7, J8, J11, J12, J18, J29, J50, mO_e, oL_e, nI_mO, mO_nI, mO_lt, nlt_mO, mO_le, nle_mO, nI_add, nI_subn, nI_muln, e_lt, e_le, e_eq, q_lt, q_le, q_eq, i_l, mO_l, oL_lt, nlt_oL, nI_oL, lN_sub, lN_i, lN_add]
    · have hu := m.uu i (by omega)
      have hcl := cu_le (b := g_I r 1) (k := i) 12
      have h11 : ¬ 11 ≤ i := by omega
      by_cases e2 : i = f
      · subst e2
        have h0 := hf.2.1
        simp (disch := omega) only [fX5_freeBody_b2, hu, h0, h11, lt_e, bs_e, b2_e, if_true, if_false, ↓reduceIte, Nat.reduceEqDiff, Nat.reduceLeDiff, Nat.reduceLT, Nat.reduceAdd, Nat.reduceMul, Nat.reduceSub, Nat.not_lt_zero, Nat.zero_le, Nat.le_refl, and_self, Nat.succ_ne_zero, Nat.add_sub_cancel, or_true, true_or, or_false, false_or, L0, L1, L2, L3, L4, L5, L6, L7, L8, L9, L10, L11, L12, L13, L14, L15, L16, L17, L18, L19, L20, L21, L22, L23, L24, L25, L26, L27, L28, L29, L30, L50, L60, L100, L144, L300, J0, J1, J2, J5, J6, J7, J8, J11, J12, J18, J29, J50, mO_e, oL_e, nI_mO, mO_nI, mO_lt, nlt_mO, mO_le, nle_mO, nI_add, nI_subn, nI_muln, e_lt, e_le, e_eq, q_lt, q_le, q_eq, i_l, mO_l, oL_lt, nlt_oL, nI_oL, lN_sub, lN_i, lN_add, rI_s, rI_a, rI_k, rJ_s, rJ_a, rJ_k, rD_s, rD_a, rD_k, rJI, rDI, rRI, rIJ, rDJ, rRJ, rID, rJD, rRD, rIR, rJR, rDR, C0_t, kC_0, C1_t, kC_1, C2_t, kC_2, C3_t, kC_3, C3_a, C3_w, C4_t, kC_4, C4_a, C4_w, C5_t, kC_5, C5_a, C5_w, C6_t, kC_6, C6_a, C6_w, C7_t, kC_7, C7_a, C7_w, C8_t, kC_8, C9_t, kC_9, C9_a, C9_w, C10_t, kC_10, C10_a, C10_w, C11_t, kC_11, C11_a, C11_w, C12_t, kC_12, C12_a, C12_w, C13_t, kC_13, C13_a, C13_w, C14_t, kC_14, C15_t, kC_15, C15_a, C16_t, kC_16, C16_a, C53_t, kC_53, C53_a, C54_t, kC_54, C54_a, C55_t, kC_55, C55_a, C55_w, C56_t, kC_56, w_0_0 wc, w_1_0 wc, w_1_1 wc, w_1_2 wc, w_1_3 wc, w_1_5 wc, w_1_6 wc, w_1_7 wc, w_2_0 wc, w_2_1 wc, w_2_2 wc, w_2_3 wc, w_2_4 wc, w_8_0 wc, w_8_1 wc, w_8_2 wc, w_8_3 wc, w_8_4 wc, w_14_0 wc, w_14_1 wc]
      · have h0 := hf.2.2 i (by omega)
        have := ih (i + 1) (by omega) (by omega) (by omega)
        simp (disch := omega) only [fX5_freeBody_b2, hu, h0, h11, this, lt_e, bs_e, b2_e, if_true, if_false, ↓reduceIte, Nat.reduceEqDiff, Nat.reduceLeDiff, Nat.reduceLT, Nat.reduceAdd, Nat.reduceMul, Nat.reduceSub, Nat.not_lt_zero, Nat.zero_le, Nat.le_refl, and_self, Nat.succ_ne_zero, Nat.add_sub_cancel, or_true, true_or, or_false, false_or, L0, L1, L2, L3, L4, L5, L6, L7, L8, L9, L10, L11, L12, L13, L14, L15, L16, L17, L18, L19, L20, L21, L22, L23, L24, L25, L26, L27, L28, L29, L30, L50, L60, L100, L144, L300, J0, J1, J2, J5, J6, J7, J8, J11, J12, J18, J29, J50, mO_e, oL_e, nI_mO, mO_nI, mO_lt, nlt_mO, mO_le, nle_mO, nI_add, nI_subn, nI_muln, e_lt, e_le, e_eq, q_lt, q_le, q_eq, i_l, mO_l, oL_lt, nlt_oL, nI_oL, lN_sub, lN_i, lN_add, rI_s, rI_a, rI_k, rJ_s, rJ_a, rJ_k, rD_s, rD_a, rD_k, rJI, rDI, rRI, rIJ, rDJ, rRJ, rID, rJD, rRD, rIR, rJR, rDR, C0_t, kC_0, C1_t, kC_1, C2_t, kC_2, C3_t, kC_3, C3_a, C3_w, C4_t, kC_4, C4_a, C4_w, C5_t, kC_5, C5_a, C5_w, C6_t, kC_6, C6_a, C6_w, C7_t, kC_7, C7_a, C7_w, C8_t, kC_8, C9_t, kC_9, C9_a, C9_w, C10_t, kC_10, C10_a, C10_w, C11_t, kC_11, C11_a, C11_w, C12_t, kC_12, C12_a, C12_w, C13_t, kC_13, C13_a, C13_w, C14_t, kC_14, C15_t, kC_15, C15_a, C16_t, kC_16, C16_a, C53_t, kC_53, C53_a, C54_t, kC_54, C54_a, C55_t, kC_55, C55_a, C55_w, C56_t, kC_56, w_0_0 wc, w_1_0 wc, w_1_1 wc, w_1_2 wc, w_1_3 wc, w_1_5 wc, w_1_6 wc, w_1_7 wc, w_2_0 wc, w_2_1 wc, w_2_2 wc, w_2_3 wc, w_2_4 wc, w_8_0 wc, w_8_1 wc, w_8_2 wc, w_8_3 wc, w_8_4 wc, w_14_0 wc, w_14_1 wc]
theorem m_sp1 {K : Int32 → Hp → Option Int32} {l1 l2 l3 : Int32} : ∀ N j, j ≤ 12 → 13 - j ≤ N → fX10_spare_b15 kR 0 l1 l2 l3 K N (nI 1) (nI j) r = K (nI 1) r := by
  intro N
  induction N with
  | zero => intro j h1 h2; omega
  | succ N ih =>
    intro j h1 h2
    by_cases e : j = 12
    · subst e
      simp (disch := omega) only [fX10_spare_b15, lt_e, bs_e, b2_e, if_true, if_false, ↓reduceIte, Nat.reduceEqDiff, Nat.reduceLeDiff, Nat.reduceLT, Nat.reduceAdd, Nat.reduceMul, Nat.reduceSub, Nat.not_lt_zero, Nat.zero_le, Nat.le_refl, and_self, Nat.succ_ne_zero, Nat.add_sub_cancel, or_true, true_or, or_false, false_or, L0, L1, L2, L3, L4, L5, L6, L7, L8, L9, L10, L11, L12, L13, L14, L15, L16, L17, L18, L19, L20, L21, L22, L23, L24, L25, L26, L27, L28, L29, L30, L50, L60, L100, L144, L300, J0, J1, J2, J5, J6, J7, J8, J11, J12, J18, J29, J50, mO_e, oL_e, nI_mO, mO_nI, mO_lt, nlt_mO, mO_le, nle_mO, nI_add, nI_subn, nI_muln, e_lt, e_le, e_eq, q_lt, q_le, q_eq, i_l, mO_l, oL_lt, nlt_oL, nI_oL, lN_sub, lN_i, lN_add]
    · have h12 : ¬ 12 ≤ j := by omega
      have := ih (j + 1) (by omega) (by omega)
      simp (disch := omega) only [fX10_spare_b15, h12, this, lt_e, bs_e, b2_e, if_true, if_false, ↓reduceIte, Nat.reduceEqDiff, Nat.reduceLeDiff, Nat.reduceLT, Nat.reduceAdd, Nat.reduceMul, Nat.reduceSub, Nat.not_lt_zero, Nat.zero_le, Nat.le_refl, and_self, Nat.succ_ne_zero, Nat.add_sub_cancel, or_true, true_or, or_false, false_or, L0, L1, L2, L3, L4, L5, L6, L7, L8, L9, L10, L11, L12, L13, L14, L15, L16, L17, L18, L19, L20, L21, L22, L23, L24, L25, L26, L27, L28, L29, L30, L50, L60, L100, L144, L300, J0, J1, J2, J5, J6, J7, J8, J11, J12, J18, J29, J50, mO_e, oL_e, nI_mO, mO_nI, mO_lt, nlt_mO, mO_le, nle_mO, nI_add, nI_subn, nI_muln, e_lt, e_le, e_eq, q_lt, q_le, q_eq, i_l, mO_l, oL_lt, nlt_oL, nI_oL, lN_sub, lN_i, lN_add]
theorem m_sp0 (ur : Wr r) {K : Int32 → Hp → Option Int32} {k b : Nat} {l2 : Int32} (hk : k < 12) (hb : b < 12) : ∀ N j, j ≤ 12 → 13 - j ≤ N →
    ((∀ q, j ≤ q → q < 12 → q ≠ k → g_I r 1 q ≠ nI b) → fX10_spare_b15 kR 0 (nI k) l2 (nI b) K N (nI 0) (nI j) r = K (nI 0) r) ∧
    ((∃ q, j ≤ q ∧ q < 12 ∧ q ≠ k ∧ g_I r 1 q = nI b) → fX10_spare_b15 kR 0 (nI k) l2 (nI b) K N (nI 0) (nI j) r = K (nI 1) r) := by
  intro N
  induction N with
  | zero => intro j h1 h2; omega
  | succ N ih =>
    intro j h1 h2
    by_cases e : j = 12
    · subst e
      refine ⟨fun _ => ?_, fun ⟨q, h3, h4, _⟩ => by omega⟩
      simp (disch := omega) only [fX10_spare_b15, lt_e, bs_e, b2_e, if_true, if_false, ↓reduceIte, Nat.reduceEqDiff, Nat.reduceLeDiff, Nat.reduceLT, Nat.reduceAdd, Nat.reduceMul, Nat.reduceSub, Nat.not_lt_zero, Nat.zero_le, Nat.le_refl, and_self, Nat.succ_ne_zero, Nat.add_sub_cancel, or_true, true_or, or_false, false_or, L0, L1, L2, L3, L4, L5, L6, L7, L8, L9, L10, L11, L12, L13, L14, L15, L16, L17, L18, L19, L20, L21, L22, L23, L24, L25, L26, L27, L28, L29, L30, L50, L60, L100, L144, L300, J0, J1, J2, J5, J6, J7, J8, J11, J12, J18, J29, J50, mO_e, oL_e, nI_mO, mO_nI, mO_lt, nlt_mO, mO_le, nle_mO, nI_add, nI_subn, nI_muln, e_lt, e_le, e_eq, q_lt, q_le, q_eq, i_l, mO_l, oL_lt, nlt_oL, nI_oL, lN_sub, lN_i, lN_add]
    · have h12 : ¬ 12 ≤ j := by omega
      have h3 := ih (j + 1) (by omega) (by omega)
      have h4 := m_sp1 (r := r) (K := K) (l1 := nI k) (l2 := l2) (l3 := nI b) N (j + 1) (by omega) (by omega)
      by_cases ek : j = k
      · subst ek
        constructor
        · intro hq
          have h5 := h3.1 fun q h6 h7 h8 => hq q (by omega) h7 h8
          simp (disch := omega) only [fX10_spare_b15, h12, h5, lt_e, bs_e, b2_e, if_true, if_false, ↓reduceIte, Nat.reduceEqDiff, Nat.reduceLeDiff, Nat.reduceLT, Nat.reduceAdd, Nat.reduceMul, Nat.reduceSub, Nat.not_lt_zero, Nat.zero_le, Nat.le_refl, and_self, Nat.succ_ne_zero, Nat.add_sub_cancel, or_true, true_or, or_false, false_or, L0, L1, L2, L3, L4, L5, L6, L7, L8, L9, L10, L11, L12, L13, L14, L15, L16, L17, L18, L19, L20, L21, L22, L23, L24, L25, L26, L27, L28, L29, L30, L50, L60, L100, L144, L300, J0, J1, J2, J5, J6, J7, J8, J11, J12, J18, J29, J50, mO_e, oL_e, nI_mO, mO_nI, mO_lt, nlt_mO, mO_le, nle_mO, nI_add, nI_subn, nI_muln, e_lt, e_le, e_eq, q_lt, q_le, q_eq, i_l, mO_l, oL_lt, nlt_oL, nI_oL, lN_sub, lN_i, lN_add, rI_s, rI_a, rI_k, rJ_s, rJ_a, rJ_k, rD_s, rD_a, rD_k, rJI, rDI, rRI, rIJ, rDJ, rRJ, rID, rJD, rRD, rIR, rJR, rDR, R0_t, kR_0, R1_t, kR_1, R1_a, R1_w, R2_t, kR_2, R2_a, R2_w, R3_t, kR_3, R3_a, R3_w, R4_t, kR_4, R4_a, R4_w, R5_t, kR_5, R5_a, R5_w, R6_t, kR_6, R6_a, R6_w, R7_t, kR_7, R7_a, R7_w, R8_t, kR_8, R8_a, R8_w, R9_t, kR_9, R9_a, R9_w, R10_t, kR_10, R10_a, R10_w, R11_t, kR_11, R11_a, R11_w, R12_t, kR_12, R12_a, R12_w, R13_t, kR_13, R13_a, R13_w, R14_t, kR_14, R14_a, R14_w, R15_t, kR_15, R15_a, R15_w, R16_t, kR_16, R16_a, R16_w, R17_t, kR_17, R17_a, R17_w, R18_t, kR_18, R18_a, R18_w, R19_t, kR_19, R19_a, R19_w, R20_t, kR_20, R20_a, R20_w, R21_t, kR_21, R21_a, R21_w, R22_t, kR_22, R22_a, R22_w, R23_t, kR_23, R23_a, R23_w, R24_t, kR_24, R24_a, R24_w, R25_t, kR_25, R25_a, R25_w, R26_t, kR_26, R26_a, R26_w, R27_t, kR_27, R27_a, R27_w, R28_t, kR_28, R28_a, R28_w, R29_t, kR_29, R29_a, R29_w, R30_t, kR_30, R30_a, R30_w, R31_t, kR_31, R31_a, R31_w, R32_t, kR_32, R32_a, R32_w, R33_t, kR_33, R33_a, R33_w, R34_t, kR_34, R34_a, R34_w, R35_t, kR_35, R35_a, R35_w, R36_t, kR_36, R36_a, R36_w, R37_t, kR_37, R37_a, R37_w, R38_t, kR_38, R38_a, R38_w, R39_t, kR_39, R39_a, R39_w, u_0 ur, u_1 ur, u_2 ur, u_3 ur, u_4 ur, u_6 ur, u_7 ur, u_8 ur, u_9 ur, u_10 ur, u_15 ur, u_16 ur, u_17 ur, u_18 ur, u_19 ur, u_20 ur, u_21 ur, u_22 ur, u_24 ur, u_25 ur, u_26 ur, u_27 ur, u_28 ur, u_29 ur, u_30 ur, u_31 ur, u_32 ur, u_33 ur, u_40 ur, u_53 ur, u_54 ur, u_55 ur, u_56 ur, u_57 ur, u_58 ur, u_59 ur, u_60 ur, u_61 ur, u_62 ur]
        · rintro ⟨q, h6, h7, h8, h9⟩
          have h5 := h3.2 ⟨q, by omega, h7, h8, h9⟩
          simp (disch := omega) only [fX10_spare_b15, h12, h5, lt_e, bs_e, b2_e, if_true, if_false, ↓reduceIte, Nat.reduceEqDiff, Nat.reduceLeDiff, Nat.reduceLT, Nat.reduceAdd, Nat.reduceMul, Nat.reduceSub, Nat.not_lt_zero, Nat.zero_le, Nat.le_refl, and_self, Nat.succ_ne_zero, Nat.add_sub_cancel, or_true, true_or, or_false, false_or, L0, L1, L2, L3, L4, L5, L6, L7, L8, L9, L10, L11, L12, L13, L14, L15, L16, L17, L18, L19, L20, L21, L22, L23, L24, L25, L26, L27, L28, L29, L30, L50, L60, L100, L144, L300, J0, J1, J2, J5, J6, J7, J8, J11, J12, J18, J29, J50, mO_e, oL_e, nI_mO, mO_nI, mO_lt, nlt_mO, mO_le, nle_mO, nI_add, nI_subn, nI_muln, e_lt, e_le, e_eq, q_lt, q_le, q_eq, i_l, mO_l, oL_lt, nlt_oL, nI_oL, lN_sub, lN_i, lN_add, rI_s, rI_a, rI_k, rJ_s, rJ_a, rJ_k, rD_s, rD_a, rD_k, rJI, rDI, rRI, rIJ, rDJ, rRJ, rID, rJD, rRD, rIR, rJR, rDR, R0_t, kR_0, R1_t, kR_1, R1_a, R1_w, R2_t, kR_2, R2_a, R2_w, R3_t, kR_3, R3_a, R3_w, R4_t, kR_4, R4_a, R4_w, R5_t, kR_5, R5_a, R5_w, R6_t, kR_6, R6_a, R6_w, R7_t, kR_7, R7_a, R7_w, R8_t, kR_8, R8_a, R8_w, R9_t, kR_9, R9_a, R9_w, R10_t, kR_10, R10_a, R10_w, R11_t, kR_11, R11_a, R11_w, R12_t, kR_12, R12_a, R12_w, R13_t, kR_13, R13_a, R13_w, R14_t, kR_14, R14_a, R14_w, R15_t, kR_15, R15_a, R15_w, R16_t, kR_16, R16_a, R16_w, R17_t, kR_17, R17_a, R17_w, R18_t, kR_18, R18_a, R18_w, R19_t, kR_19, R19_a, R19_w, R20_t, kR_20, R20_a, R20_w, R21_t, kR_21, R21_a, R21_w, R22_t, kR_22, R22_a, R22_w, R23_t, kR_23, R23_a, R23_w, R24_t, kR_24, R24_a, R24_w, R25_t, kR_25, R25_a, R25_w, R26_t, kR_26, R26_a, R26_w, R27_t, kR_27, R27_a, R27_w, R28_t, kR_28, R28_a, R28_w, R29_t, kR_29, R29_a, R29_w, R30_t, kR_30, R30_a, R30_w, R31_t, kR_31, R31_a, R31_w, R32_t, kR_32, R32_a, R32_w, R33_t, kR_33, R33_a, R33_w, R34_t, kR_34, R34_a, R34_w, R35_t, kR_35, R35_a, R35_w, R36_t, kR_36, R36_a, R36_w, R37_t, kR_37, R37_a, R37_w, R38_t, kR_38, R38_a, R38_w, R39_t, kR_39, R39_a, R39_w, u_0 ur, u_1 ur, u_2 ur, u_3 ur, u_4 ur, u_6 ur, u_7 ur, u_8 ur, u_9 ur, u_10 ur, u_15 ur, u_16 ur, u_17 ur, u_18 ur, u_19 ur, u_20 ur, u_21 ur, u_22 ur, u_24 ur, u_25 ur, u_26 ur, u_27 ur, u_28 ur, u_29 ur, u_30 ur, u_31 ur, u_32 ur, u_33 ur, u_40 ur, u_53 ur, u_54 ur, u_55 ur, u_56 ur, u_57 ur, u_58 ur, u_59 ur, u_60 ur, u_61 ur, u_62 ur]
      · by_cases es : g_I r 1 j = nI b
        · constructor
          · intro hq; exact absurd es (hq j (by omega) (by omega) ek)
          · intro _
            simp (disch := omega) only [fX10_spare_b15, h12, ek, es, h4, lt_e, bs_e, b2_e, if_true, if_false, ↓reduceIte, Nat.reduceEqDiff, Nat.reduceLeDiff, Nat.reduceLT, Nat.reduceAdd, Nat.reduceMul, Nat.reduceSub, Nat.not_lt_zero, Nat.zero_le, Nat.le_refl, and_self, Nat.succ_ne_zero, Nat.add_sub_cancel, or_true, true_or, or_false, false_or, L0, L1, L2, L3, L4, L5, L6, L7, L8, L9, L10, L11, L12, L13, L14, L15, L16, L17, L18, L19, L20, L21, L22, L23, L24, L25, L26, L27, L28, L29, L30, L50, L60, L100, L144, L300, J0, J1, J2, J5, J6, J7, J8, J11, J12, J18, J29, J50, mO_e, oL_e, nI_mO, mO_nI, mO_lt, nlt_mO, mO_le, nle_mO, nI_add, nI_subn, nI_muln, e_lt, e_le, e_eq, q_lt, q_le, q_eq, i_l, mO_l, oL_lt, nlt_oL, nI_oL, lN_sub, lN_i, lN_add, rI_s, rI_a, rI_k, rJ_s, rJ_a, rJ_k, rD_s, rD_a, rD_k, rJI, rDI, rRI, rIJ, rDJ, rRJ, rID, rJD, rRD, rIR, rJR, rDR, R0_t, kR_0, R1_t, kR_1, R1_a, R1_w, R2_t, kR_2, R2_a, R2_w, R3_t, kR_3, R3_a, R3_w, R4_t, kR_4, R4_a, R4_w, R5_t, kR_5, R5_a, R5_w, R6_t, kR_6, R6_a, R6_w, R7_t, kR_7, R7_a, R7_w, R8_t, kR_8, R8_a, R8_w, R9_t, kR_9, R9_a, R9_w, R10_t, kR_10, R10_a, R10_w, R11_t, kR_11, R11_a, R11_w, R12_t, kR_12, R12_a, R12_w, R13_t, kR_13, R13_a, R13_w, R14_t, kR_14, R14_a, R14_w, R15_t, kR_15, R15_a, R15_w, R16_t, kR_16, R16_a, R16_w, R17_t, kR_17, R17_a, R17_w, R18_t, kR_18, R18_a, R18_w, R19_t, kR_19, R19_a, R19_w, R20_t, kR_20, R20_a, R20_w, R21_t, kR_21, R21_a, R21_w, R22_t, kR_22, R22_a, R22_w, R23_t, kR_23, R23_a, R23_w, R24_t, kR_24, R24_a, R24_w, R25_t, kR_25, R25_a, R25_w, R26_t, kR_26, R26_a, R26_w, R27_t, kR_27, R27_a, R27_w, R28_t, kR_28, R28_a, R28_w, R29_t, kR_29, R29_a, R29_w, R30_t, kR_30, R30_a, R30_w, R31_t, kR_31, R31_a, R31_w, R32_t, kR_32, R32_a, R32_w, R33_t, kR_33, R33_a, R33_w, R34_t, kR_34, R34_a, R34_w, R35_t, kR_35, R35_a, R35_w, R36_t, kR_36, R36_a, R36_w, R37_t, kR_37, R37_a, R37_w, R38_t, kR_38, R38_a, R38_w, R39_t, kR_39, R39_a, R39_w, u_0 ur, u_1 ur, u_2 ur, u_3 ur, u_4 ur, u_6 ur, u_7 ur, u_8 ur, u_9 ur, u_10 ur, u_15 ur, u_16 ur, u_17 ur, u_18 ur, u_19 ur, u_20 ur, u_21 ur, u_22 ur, u_24 ur, u_25 ur, u_26 ur, u_27 ur, u_28 ur, u_29 ur, u_30 ur, u_31 ur, u_32 ur, u_33 ur, u_40 ur, u_53 ur, u_54 ur, u_55 ur, u_56 ur, u_57 ur, u_58 ur, u_59 ur, u_60 ur, u_61 ur, u_62 ur]
        · constructor
          · intro hq
            have h5 := h3.1 fun q h6 h7 h8 => hq q (by omega) h7 h8
            simp (disch := omega) only [fX10_spare_b15, h12, ek, es, h5, lt_e, bs_e, b2_e, if_true, if_false, ↓reduceIte, Nat.reduceEqDiff, Nat.reduceLeDiff, Nat.reduceLT, Nat.reduceAdd, Nat.reduceMul, Nat.reduceSub, Nat.not_lt_zero, Nat.zero_le, Nat.le_refl, and_self, Nat.succ_ne_zero, Nat.add_sub_cancel, or_true, true_or, or_false, false_or, L0, L1, L2, L3, L4, L5, L6, L7, L8, L9, L10, L11, L12, L13, L14, L15, L16, L17, L18, L19, L20, L21, L22, L23, L24, L25, L26, L27, L28, L29, L30, L50, L60, L100, L144, L300, J0, J1, J2, J5, J6, J7, J8, J11, J12, J18, J29, J50, mO_e, oL_e, nI_mO, mO_nI, mO_lt, nlt_mO, mO_le, nle_mO, nI_add, nI_subn, nI_muln, e_lt, e_le, e_eq, q_lt, q_le, q_eq, i_l, mO_l, oL_lt, nlt_oL, nI_oL, lN_sub, lN_i, lN_add, rI_s, rI_a, rI_k, rJ_s, rJ_a, rJ_k, rD_s, rD_a, rD_k, rJI, rDI, rRI, rIJ, rDJ, rRJ, rID, rJD, rRD, rIR, rJR, rDR, R0_t, kR_0, R1_t, kR_1, R1_a, R1_w, R2_t, kR_2, R2_a, R2_w, R3_t, kR_3, R3_a, R3_w, R4_t, kR_4, R4_a, R4_w, R5_t, kR_5, R5_a, R5_w, R6_t, kR_6, R6_a, R6_w, R7_t, kR_7, R7_a, R7_w, R8_t, kR_8, R8_a, R8_w, R9_t, kR_9, R9_a, R9_w, R10_t, kR_10, R10_a, R10_w, R11_t, kR_11, R11_a, R11_w, R12_t, kR_12, R12_a, R12_w, R13_t, kR_13, R13_a, R13_w, R14_t, kR_14, R14_a, R14_w, R15_t, kR_15, R15_a, R15_w, R16_t, kR_16, R16_a, R16_w, R17_t, kR_17, R17_a, R17_w, R18_t, kR_18, R18_a, R18_w, R19_t, kR_19, R19_a, R19_w, R20_t, kR_20, R20_a, R20_w, R21_t, kR_21, R21_a, R21_w, R22_t, kR_22, R22_a, R22_w, R23_t, kR_23, R23_a, R23_w, R24_t, kR_24, R24_a, R24_w, R25_t, kR_25, R25_a, R25_w, R26_t, kR_26, R26_a, R26_w, R27_t, kR_27, R27_a, R27_w, R28_t, kR_28, R28_a, R28_w, R29_t, kR_29, R29_a, R29_w, R30_t, kR_30, R30_a, R30_w, R31_t, kR_31, R31_a, R31_w, R32_t, kR_32, R32_a, R32_w, R33_t, kR_33, R33_a, R33_w, R34_t, kR_34, R34_a, R34_w, R35_t, kR_35, R35_a, R35_w, R36_t, kR_36, R36_a, R36_w, R37_t, kR_37, R37_a, R37_w, R38_t, kR_38, R38_a, R38_w, R39_t, kR_39, R39_a, R39_w, u_0 ur, u_1 ur, u_2 ur, u_3 ur, u_4 ur, u_6 ur, u_7 ur, u_8 ur, u_9 ur, u_10 ur, u_15 ur, u_16 ur, u_17 ur, u_18 ur, u_19 ur, u_20 ur, u_21 ur, u_22 ur, u_24 ur, u_25 ur, u_26 ur, u_27 ur, u_28 ur, u_29 ur, u_30 ur, u_31 ur, u_32 ur, u_33 ur, u_40 ur, u_53 ur, u_54 ur, u_55 ur, u_56 ur, u_57 ur, u_58 ur, u_59 ur, u_60 ur, u_61 ur, u_62 ur]
          · rintro ⟨q, h6, h7, h8, h9⟩
            have hqj : q ≠ j := fun e => es (by rw [← e]; exact h9)
            have h5 := h3.2 ⟨q, by omega, h7, h8, h9⟩
            simp (disch := omega) only [fX10_spare_b15, h12, ek, es, h5, lt_e, bs_e, b2_e, if_true, if_false, ↓reduceIte, Nat.reduceEqDiff, Nat.reduceLeDiff, Nat.reduceLT, Nat.reduceAdd, Nat.reduceMul, Nat.reduceSub, Nat.not_lt_zero, Nat.zero_le, Nat.le_refl, and_self, Nat.succ_ne_zero, Nat.add_sub_cancel, or_true, true_or, or_false, false_or, L0, L1, L2, L3, L4, L5, L6, L7, L8, L9, L10, L11, L12, L13, L14, L15, L16, L17, L18, L19, L20, L21, L22, L23, L24, L25, L26, L27, L28, L29, L30, L50, L60, L100, L144, L300, J0, J1, J2, J5, J6, J7, J8, J11, J12, J18, J29, J50, mO_e, oL_e, nI_mO, mO_nI, mO_lt, nlt_mO, mO_le, nle_mO, nI_add, nI_subn, nI_muln, e_lt, e_le, e_eq, q_lt, q_le, q_eq, i_l, mO_l, oL_lt, nlt_oL, nI_oL, lN_sub, lN_i, lN_add, rI_s, rI_a, rI_k, rJ_s, rJ_a, rJ_k, rD_s, rD_a, rD_k, rJI, rDI, rRI, rIJ, rDJ, rRJ, rID, rJD, rRD, rIR, rJR, rDR, R0_t, kR_0, R1_t, kR_1, R1_a, R1_w, R2_t, kR_2, R2_a, R2_w, R3_t, kR_3, R3_a, R3_w, R4_t, kR_4, R4_a, R4_w, R5_t, kR_5, R5_a, R5_w, R6_t, kR_6, R6_a, R6_w, R7_t, kR_7, R7_a, R7_w, R8_t, kR_8, R8_a, R8_w, R9_t, kR_9, R9_a, R9_w, R10_t, kR_10, R10_a, R10_w, R11_t, kR_11, R11_a, R11_w, R12_t, kR_12, R12_a, R12_w, R13_t, kR_13, R13_a, R13_w, R14_t, kR_14, R14_a, R14_w, R15_t, kR_15, R15_a, R15_w, R16_t, kR_16, R16_a, R16_w, R17_t, kR_17, R17_a, R17_w, R18_t, kR_18, R18_a, R18_w, R19_t, kR_19, R19_a, R19_w, R20_t, kR_20, R20_a, R20_w, R21_t, kR_21, R21_a, R21_w, R22_t, kR_22, R22_a, R22_w, R23_t, kR_23, R23_a, R23_w, R24_t, kR_24, R24_a, R24_w, R25_t, kR_25, R25_a, R25_w, R26_t, kR_26, R26_a, R26_w, R27_t, kR_27, R27_a, R27_w, R28_t, kR_28, R28_a, R28_w, R29_t, kR_29, R29_a, R29_w, R30_t, kR_30, R30_a, R30_w, R31_t, kR_31, R31_a, R31_w, R32_t, kR_32, R32_a, R32_w, R33_t, kR_33, R33_a, R33_w, R34_t, kR_34, R34_a, R34_w, R35_t, kR_35, R35_a, R35_w, R36_t, kR_36, R36_a, R36_w, R37_t, kR_37, R37_a, R37_w, R38_t, kR_38, R38_a, R38_w, R39_t, kR_39, R39_a, R39_w, u_0 ur, u_1 ur, u_2 ur, u_3 ur, u_4 ur, u_6 ur, u_7 ur, u_8 ur, u_9 ur, u_10 ur, u_15 ur, u_16 ur, u_17 ur, u_18 ur, u_19 ur, u_20 ur, u_21 ur, u_22 ur, u_24 ur, u_25 ur, u_26 ur, u_27 ur, u_28 ur, u_29 ur, u_30 ur, u_31 ur, u_32 ur, u_33 ur, u_40 ur, u_53 ur, u_54 ur, u_55 ur, u_56 ur, u_57 ur, u_58 ur, u_59 ur, u_60 ur, u_61 ur, u_62 ur]
theorem cu_but {b : Nat → Int32} {k q : Nat} (hk : k < 12) (hq : q < 12) : cuN (fun j => if j = k then mO else b j) q 12 = 0 ↔ ∀ j, j < 12 → j ≠ k → b j ≠ nI q := by
  rw [cu_none]
  constructor
  · intro h j hj ej e
    exact h j hj (by show (if j = k then mO else b j) = _; rw [if_neg ej]; exact e)
  · intro h j hj e
    by_cases ej : j = k
    · rw [if_pos ej, mO_nI (by omega)] at e; exact e
    · rw [if_neg ej] at e; exact h j hj ej e
theorem m_spare (ur : Wr r) {k f : Nat} (hk : k < 12) (hf : Lf (fun j => if j = k then mO else g_I r 1 j) f) : ∀ N i (l2 : Int32), i ≤ 12 → i + 1 ≤ N →
    fX10_spare_b5 kR 0 (nI k) N l2 (if i = 0 then mO else nI (i - 1)) r = some (if f < i then nI f else l2) := by
  intro N
  induction N with
  | zero => intro i l2 h1 h2; omega
  | succ N ih =>
    intro i l2 h1 h2
    match i with
    | 0 =>
      rw [if_pos rfl, if_neg (by omega)]
      simp (disch := omega) only [fX10_spare_b5, lt_e, bs_e, b2_e, if_true, if_false, ↓reduceIte, Nat.reduceEqDiff, Nat.reduceLeDiff, Nat.reduceLT, Nat.reduceAdd, Nat.reduceMul, Nat.reduceSub, Nat.not_lt_zero, Nat.zero_le, Nat.le_refl, and_self, Nat.succ_ne_zero, Nat.add_sub_cancel, or_true, true_or, or_false, false_or, L0, L1, L2, L3, L4, L5, L6, L7, L8, L9, L10, L11, L12, L13, L14, L15, L16, L17, L18, L19, L20, L21, L22, L23, L24, L25, L26, L27, L28, L29, L30, L50, L60, L100, L144, L300, J0, J1, J2, J5, J6, J7, J8, J11, J12, J18, J29, J50, mO_e, oL_e, nI_mO, mO_nI, mO_lt, nlt_mO, mO_le, nle_mO, nI_add, nI_subn, nI_muln, e_lt, e_le, e_eq, q_lt, q_le, q_eq, i_l, mO_l, oL_lt, nlt_oL, nI_oL, lN_sub, lN_i, lN_add]
    | i + 1 =>
      rw [if_neg (by omega), Nat.add_sub_cancel]
      have hneg : ¬ (nI i < nI 0) := by rw [e_lt (by omega) (by omega)]; omega
      have hnext : nI i + -nI 1 = (if i = 0 then mO else nI (i - 1)) := by
        by_cases e : i = 0
        · subst e; rfl
        · rw [if_neg e, ← nI_subn (by omega)]
          exact (Int32.sub_eq_add_neg ..).symm
      have h3 := ih i (nI i) (by omega) (by omega)
      have h4 := ih i l2 (by omega) (by omega)
      by_cases hu : cuN (fun j => if j = k then mO else g_I r 1 j) i 12 = 0
      · have hfi : f ≤ i := Nat.not_lt.mp fun hlt => hf.2.2 i hlt hu
        have h5 := (m_sp0 ur (K := fun x4 h3 => if x4 = 0 then fX10_spare_b5 kR 0 (nI k) N (nI i) (nI i + -1) h3 else fX10_spare_b5 kR 0 (nI k) N l2 (nI i + -1) h3) (l2 := l2) hk (b := i) (by omega) fu_ 0 (by omega) (by unfold fu_; omega)).1 fun q _ h7 h8 => (cu_but hk (by omega)).mp hu q h7 h8
        unfold fX10_spare_b5
        rw [show ((0 : Int32)) = nI 0 from rfl, if_neg hneg]
        refine h5.trans ?_
        rw [show (-1 : Int32) = -nI 1 from rfl, hnext]
        refine (if_pos rfl).trans (h3.trans ?_)
        by_cases e : f = i
        · subst e; rw [if_neg (by omega), if_pos (by omega)]
        · rw [if_pos (by omega), if_pos (by omega)]
      · have hfi : f ≠ i := fun e => hu (e ▸ hf.2.1)
        have hq : ∃ q, 0 ≤ q ∧ q < 12 ∧ q ≠ k ∧ g_I r 1 q = nI i := by
          refine Classical.byContradiction fun hn => hu ((cu_but hk (by omega)).mpr fun j hj ej e => hn ⟨j, by omega, hj, ej, e⟩)
        have h5 := (m_sp0 ur (K := fun x4 h3 => if x4 = 0 then fX10_spare_b5 kR 0 (nI k) N (nI i) (nI i + -1) h3 else fX10_spare_b5 kR 0 (nI k) N l2 (nI i + -1) h3) (l2 := l2) hk (b := i) (by omega) fu_ 0 (by omega) (by unfold fu_; omega)).2 hq
        unfold fX10_spare_b5
        rw [show ((0 : Int32)) = nI 0 from rfl, if_neg hneg]
        refine h5.trans ?_
        rw [show (-1 : Int32) = -nI 1 from rfl, hnext]
        refine (if_neg (by decide)).trans (h4.trans ?_)
        by_cases e : f < i
        · rw [if_pos (by omega), if_pos (by omega)]
        · rw [if_neg (by omega), if_neg (by omega)]
end PM
