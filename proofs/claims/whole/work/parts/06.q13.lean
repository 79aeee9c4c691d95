section PY
def KP (K M a : Nat) (r r' : Hp) : Prop := g_R r' = g_R r ∧ (∀ x, (x < 30 ∨ 39 < x) → x ≠ 0 → g_I r' x = g_I r x ∧ g_J r' x = g_J r x ∧ g_D r' x = g_D r x) ∧ (∀ k, k ≠ 52 → g_I r' 0 k = g_I r 0 k) ∧ g_J r' 0 = g_J r 0 ∧ g_I r' 0 52 = nI (K + 1) ∧ (∀ j, g_I r' 35 j = if j = K then nI M else g_I r 35 j) ∧
  (∀ j, g_I r' 30 j = if 12 * K + a ≤ j ∧ j < 12 * K + 12 then g_I r 1 (j - 12 * K) else g_I r 30 j) ∧
  (∀ j, g_I r' 31 j = if 12 * K + a ≤ j ∧ j < 12 * K + 12 then g_I r 2 (j - 12 * K) else g_I r 31 j) ∧
  (∀ j, g_I r' 32 j = if 12 * K + a ≤ j ∧ j < 12 * K + 12 then g_I r 3 (j - 12 * K) else g_I r 32 j) ∧
  (∀ j, g_I r' 36 j = if 12 * K + a ≤ j ∧ j < 12 * K + 12 then g_I r 7 (j - 12 * K) else g_I r 36 j) ∧
  (∀ j, g_I r' 37 j = if 12 * K + a ≤ j ∧ j < 12 * K + 12 then g_I r 8 (j - 12 * K) else g_I r 37 j) ∧
  (∀ j, g_I r' 38 j = if 12 * K + a ≤ j ∧ j < 12 * K + 12 then g_I r 9 (j - 12 * K) else g_I r 38 j) ∧
  (∀ j, g_J r' 33 j = if 144 * K + 12 * a ≤ j ∧ j < 144 * K + 144 then g_J r 4 (j - 144 * K) else g_J r 33 j) ∧
  (∀ j, g_D r' 34 j = if 144 * K + 12 * a ≤ j ∧ j < 144 * K + 144 then g_D r 5 (j - 144 * K) else g_D r 34 j) ∧
  (∀ j, g_I r' 39 j = if 48 * K + 4 * a ≤ j ∧ j < 48 * K + 48 then g_I r 10 (j - 48 * K) else g_I r 39 j)
theorem Wr_e {r r' : Hp} (h : g_R r' = g_R r) (ur : Wr r) : Wr r' := by
  unfold Wr at *; rw [h]; exact ur
theorem keep_e {K M : Nat} (hK : K < 3) : ∀ F a r, Wr r → g_I r 0 52 = nI K → g_I r 0 5 = nI M → a ≤ 12 → 13 - a ≤ F → ∃ r', fX10_keep_b2 kR 0 F (nI a) r = some r' ∧ KP K M a r r' := by
  intro F
  induction F with
  | zero => intro a r ur k1 k2 h1 h2; omega
  | succ F ih =>
    intro a r ur k1 k2 h1 h2
    by_cases e : a = 12
    · subst e
      refine ⟨s_I (s_I r 35 K (nI M)) 0 52 (nI (K + 1)), ?_, rfl, fun x hx h0 => ⟨?_, rfl, rfl⟩, fun k hk => ?_, rfl, rI_s .., fun j => ?_, fun j => ?_, fun j => ?_, fun j => ?_, fun j => ?_, fun j => ?_, fun j => ?_, fun j => ?_, fun j => ?_, fun j => ?_⟩
      · simp (disch := omega) only [fX10_keep_b2, k1, k2, ↓lt_e, ↓bs_e, ↓b2_e, ↓tsI, ↓tsJ, ↓tsD, lt_e, bs_e, b2_e, if_true, if_false, ↓reduceIte, Nat.reduceEqDiff, Nat.reduceLeDiff, Nat.reduceLT, Nat.reduceAdd, Nat.reduceMul, Nat.reduceSub, Nat.not_lt_zero, Nat.zero_le, Nat.le_refl, and_self, Nat.succ_ne_zero, Nat.add_sub_cancel, or_true, true_or, or_false, false_or, L0, L1, L2, L3, L4, L5, L6, L7, L8, L9, L10, L11, L12, L13, L14, L15, L16, L17, L18, L19, L20, L21, L22, L23, L24, L25, L26, L27, L28, L29, L30, L50, L60, L100, L144, L300, J0, J1, J2, J5, J6, J7, J8, J11, J12, J18, J29, J50, mO_e, oL_e, nI_mO, mO_nI, mO_lt, nlt_mO, mO_le, nle_mO, nI_add, nI_subn, nI_muln, e_lt, e_le, e_eq, q_lt, q_le, q_eq, i_l, mO_l, oL_lt, nlt_oL, nI_oL, lN_sub, lN_i, lN_add, rI_s, rI_a, rI_k, rJ_s, rJ_a, rJ_k, rD_s, rD_a, rD_k, rJI, rDI, rRI, rIJ, rDJ, rRJ, rID, rJD, rRD, rIR, rJR, rDR, ↓R0_t, kR_0, ↓R1_t, kR_1, ↓R1_a, ↓R1_w, ↓R2_t, kR_2, ↓R2_a, ↓R2_w, ↓R3_t, kR_3, ↓R3_a, ↓R3_w, ↓R4_t, kR_4, ↓R4_a, ↓R4_w, ↓R5_t, kR_5, ↓R5_a, ↓R5_w, ↓R6_t, kR_6, ↓R6_a, ↓R6_w, ↓R7_t, kR_7, ↓R7_a, ↓R7_w, ↓R8_t, kR_8, ↓R8_a, ↓R8_w, ↓R9_t, kR_9, ↓R9_a, ↓R9_w, ↓R10_t, kR_10, ↓R10_a, ↓R10_w, ↓R11_t, kR_11, ↓R11_a, ↓R11_w, ↓R12_t, kR_12, ↓R12_a, ↓R12_w, ↓R13_t, kR_13, ↓R13_a, ↓R13_w, ↓R14_t, kR_14, ↓R14_a, ↓R14_w, ↓R15_t, kR_15, ↓R15_a, ↓R15_w, ↓R16_t, kR_16, ↓R16_a, ↓R16_w, ↓R17_t, kR_17, ↓R17_a, ↓R17_w, ↓R18_t, kR_18, ↓R18_a, ↓R18_w, ↓R19_t, kR_19, ↓R19_a, ↓R19_w, ↓R20_t, kR_20, ↓R20_a, ↓R20_w, ↓R21_t, kR_21, ↓R21_a, ↓R21_w, ↓R22_t, kR_22, ↓R22_a, ↓R22_w, ↓R23_t, kR_23, ↓R23_a, ↓R23_w, ↓R24_t, kR_24, ↓R24_a, ↓R24_w, ↓R25_t, kR_25, ↓R25_a, ↓R25_w, ↓R26_t, kR_26, ↓R26_a, ↓R26_w, ↓R27_t, kR_27, ↓R27_a, ↓R27_w, ↓R28_t, kR_28, ↓R28_a, ↓R28_w, ↓R29_t, kR_29, ↓R29_a, ↓R29_w, ↓R30_t, kR_30, ↓R30_a, ↓R30_w, ↓R31_t, kR_31, ↓R31_a, ↓R31_w, ↓R32_t, kR_32, ↓R32_a, ↓R32_w, ↓R33_t, kR_33, ↓R33_a, ↓R33_w, ↓R34_t, kR_34, ↓R34_a, ↓R34_w, ↓R35_t, kR_35, ↓R35_a, ↓R35_w, ↓R36_t, kR_36, ↓R36_a, ↓R36_w, ↓R37_t, kR_37, ↓R37_a, ↓R37_w, ↓R38_t, kR_38, ↓R38_a, ↓R38_w, ↓R39_t, kR_39, ↓R39_a, ↓R39_w, ↓tu_0 ur, ↓tu_1 ur, ↓tu_2 ur, ↓tu_3 ur, ↓tu_4 ur, ↓tu_6 ur, ↓tu_7 ur, ↓tu_8 ur, ↓tu_9 ur, ↓tu_10 ur, ↓tu_15 ur, ↓tu_16 ur, ↓tu_17 ur, ↓tu_18 ur, ↓tu_19 ur, ↓tu_20 ur, ↓tu_21 ur, ↓tu_22 ur, ↓tu_24 ur, ↓tu_25 ur, ↓tu_26 ur, ↓tu_27 ur, ↓tu_28 ur, ↓tu_29 ur, ↓tu_30 ur, ↓tu_31 ur, ↓tu_32 ur, ↓tu_33 ur, ↓tu_40 ur, ↓tu_53 ur, ↓tu_54 ur, ↓tu_55 ur, ↓tu_56 ur, ↓tu_57 ur, ↓tu_58 ur, ↓tu_59 ur, ↓tu_60 ur, ↓tu_61 ur, ↓tu_62 ur, u_0 ur, u_1 ur, u_2 ur, u_3 ur, u_4 ur, u_6 ur, u_7 ur, u_8 ur, u_9 ur, u_10 ur, u_15 ur, u_16 ur, u_17 ur, u_18 ur, u_19 ur, u_20 ur, u_21 ur, u_22 ur, u_24 ur, u_25 ur, u_26 ur, u_27 ur, u_28 ur, u_29 ur, u_30 ur, u_31 ur, u_32 ur, u_33 ur, u_40 ur, u_53 ur, u_54 ur, u_55 ur, u_56 ur, u_57 ur, u_58 ur, u_59 ur, u_60 ur, u_61 ur, u_62 ur]
      · rw [rI_a _ _ _ _ h0, rI_a _ _ _ _ (by omega)]
      · rw [rI_k _ _ _ _ hk, rI_a _ _ _ _ (by omega)]
      · rw [rI_a _ _ _ _ (by omega), rI_f]
      all_goals (rw [if_neg (by omega)]; try rw [rI_a _ _ _ _ (by omega), rI_a _ _ _ _ (by omega)])
      · rfl
      · rfl
    · have h12 : ¬ 12 ≤ a := by omega
      obtain ⟨r2, g2, b1, b2', b3, b4, b5, b6⟩ := fX10_keep_b56_e (a := a) (b := 12 * K + a) (by omega) (by omega) fu_ 0 (s_I (s_I (s_I r 30 (12 * K + a) (g_I r 1 a)) 31 (12 * K + a) (g_I r 2 a)) 32 (12 * K + a) (g_I r 3 a)) ur (by omega) (by unfold fu_; omega)
      have ur2 : Wr r2 := Wr_e b1 ur
      obtain ⟨r4, g4, c1, c2, c3, c4, c5⟩ := fX10_keep_b150_e (a := a) (b := 12 * K + a) (by omega) (by omega) fu_ 0 (s_I (s_I (s_I r2 36 (12 * K + a) (g_I r2 7 a)) 37 (12 * K + a) (g_I r2 8 a)) 38 (12 * K + a) (g_I r2 9 a)) ur2 (by omega) (by unfold fu_; omega)
      have ur4 : Wr r4 := Wr_e c1 ur2
      have eI : ∀ x, (x < 30 ∨ 39 < x) → g_I r4 x = g_I r x := by
        intro x hx
        rw [c4 x (by omega), rI_a _ _ _ _ (by omega), rI_a _ _ _ _ (by omega), rI_a _ _ _ _ (by omega), b2', rI_a _ _ _ _ (by omega), rI_a _ _ _ _ (by omega), rI_a _ _ _ _ (by omega)]
      have e2I : ∀ x, (x < 30 ∨ 39 < x) → g_I r2 x = g_I r x := by
        intro x hx
        rw [b2', rI_a _ _ _ _ (by omega), rI_a _ _ _ _ (by omega), rI_a _ _ _ _ (by omega)]
      have eJ : ∀ x, x ≠ 33 → g_J r4 x = g_J r x := by
        intro x hx
        rw [c2]; exact b3 x hx
      have eD : ∀ x, x ≠ 34 → g_D r4 x = g_D r x := by
        intro x hx
        rw [c3]; exact b4 x hx
      obtain ⟨r', h3, p1, p2, p3, p4, p5, p6, q1, q2, q3, q4, q5, q6, q7, q8, q9⟩ := ih (a + 1) r4 ur4 (by rw [eI 0 (by omega)]; exact k1) (by rw [eI 0 (by omega)]; exact k2) (by omega) (by omega)
      refine ⟨r', ?_, p1.trans (c1.trans b1), fun x hx h0 => ⟨(p2 x hx h0).1.trans (eI x hx), (p2 x hx h0).2.1.trans (eJ x (by omega)), (p2 x hx h0).2.2.trans (eD x (by omega))⟩, fun k hk => (p3 k hk).trans (by rw [eI 0 (by omega)]), p4.trans (eJ 0 (by omega)), p5, fun j => ?_, ?_, ?_, ?_, ?_, ?_, ?_, ?_, ?_, ?_⟩
      · simp (disch := omega) only [fX10_keep_b2, k1, h12, g2, ↓lt_e, ↓bs_e, ↓b2_e, ↓tsI, ↓tsJ, ↓tsD, lt_e, bs_e, b2_e, if_true, if_false, ↓reduceIte, Nat.reduceEqDiff, Nat.reduceLeDiff, Nat.reduceLT, Nat.reduceAdd, Nat.reduceMul, Nat.reduceSub, Nat.not_lt_zero, Nat.zero_le, Nat.le_refl, and_self, Nat.succ_ne_zero, Nat.add_sub_cancel, or_true, true_or, or_false, false_or, L0, L1, L2, L3, L4, L5, L6, L7, L8, L9, L10, L11, L12, L13, L14, L15, L16, L17, L18, L19, L20, L21, L22, L23, L24, L25, L26, L27, L28, L29, L30, L50, L60, L100, L144, L300, J0, J1, J2, J5, J6, J7, J8, J11, J12, J18, J29, J50, mO_e, oL_e, nI_mO, mO_nI, mO_lt, nlt_mO, mO_le, nle_mO, nI_add, nI_subn, nI_muln, e_lt, e_le, e_eq, q_lt, q_le, q_eq, i_l, mO_l, oL_lt, nlt_oL, nI_oL, lN_sub, lN_i, lN_add, rI_s, rI_a, rI_k, rJ_s, rJ_a, rJ_k, rD_s, rD_a, rD_k, rJI, rDI, rRI, rIJ, rDJ, rRJ, rID, rJD, rRD, rIR, rJR, rDR, ↓R0_t, kR_0, ↓R1_t, kR_1, ↓R1_a, ↓R1_w, ↓R2_t, kR_2, ↓R2_a, ↓R2_w, ↓R3_t, kR_3, ↓R3_a, ↓R3_w, ↓R4_t, kR_4, ↓R4_a, ↓R4_w, ↓R5_t, kR_5, ↓R5_a, ↓R5_w, ↓R6_t, kR_6, ↓R6_a, ↓R6_w, ↓R7_t, kR_7, ↓R7_a, ↓R7_w, ↓R8_t, kR_8, ↓R8_a, ↓R8_w, ↓R9_t, kR_9, ↓R9_a, ↓R9_w, ↓R10_t, kR_10, ↓R10_a, ↓R10_w, ↓R11_t, kR_11, ↓R11_a, ↓R11_w, ↓R12_t, kR_12, ↓R12_a, ↓R12_w, ↓R13_t, kR_13, ↓R13_a, ↓R13_w, ↓R14_t, kR_14, ↓R14_a, ↓R14_w, ↓R15_t, kR_15, ↓R15_a, ↓R15_w, ↓R16_t, kR_16, ↓R16_a, ↓R16_w, ↓R17_t, kR_17, ↓R17_a, ↓R17_w, ↓R18_t, kR_18, ↓R18_a, ↓R18_w, ↓R19_t, kR_19, ↓R19_a, ↓R19_w, ↓R20_t, kR_20, ↓R20_a, ↓R20_w, ↓R21_t, kR_21, ↓R21_a, ↓R21_w, ↓R22_t, kR_22, ↓R22_a, ↓R22_w, ↓R23_t, kR_23, ↓R23_a, ↓R23_w, ↓R24_t, kR_24, ↓R24_a, ↓R24_w, ↓R25_t, kR_25, ↓R25_a, ↓R25_w, ↓R26_t, kR_26, ↓R26_a, ↓R26_w, ↓R27_t, kR_27, ↓R27_a, ↓R27_w, ↓R28_t, kR_28, ↓R28_a, ↓R28_w, ↓R29_t, kR_29, ↓R29_a, ↓R29_w, ↓R30_t, kR_30, ↓R30_a, ↓R30_w, ↓R31_t, kR_31, ↓R31_a, ↓R31_w, ↓R32_t, kR_32, ↓R32_a, ↓R32_w, ↓R33_t, kR_33, ↓R33_a, ↓R33_w, ↓R34_t, kR_34, ↓R34_a, ↓R34_w, ↓R35_t, kR_35, ↓R35_a, ↓R35_w, ↓R36_t, kR_36, ↓R36_a, ↓R36_w, ↓R37_t, kR_37, ↓R37_a, ↓R37_w, ↓R38_t, kR_38, ↓R38_a, ↓R38_w, ↓R39_t, kR_39, ↓R39_a, ↓R39_w, ↓tu_0 ur, ↓tu_1 ur, ↓tu_2 ur, ↓tu_3 ur, ↓tu_4 ur, ↓tu_6 ur, ↓tu_7 ur, ↓tu_8 ur, ↓tu_9 ur, ↓tu_10 ur, ↓tu_15 ur, ↓tu_16 ur, ↓tu_17 ur, ↓tu_18 ur, ↓tu_19 ur, ↓tu_20 ur, ↓tu_21 ur, ↓tu_22 ur, ↓tu_24 ur, ↓tu_25 ur, ↓tu_26 ur, ↓tu_27 ur, ↓tu_28 ur, ↓tu_29 ur, ↓tu_30 ur, ↓tu_31 ur, ↓tu_32 ur, ↓tu_33 ur, ↓tu_40 ur, ↓tu_53 ur, ↓tu_54 ur, ↓tu_55 ur, ↓tu_56 ur, ↓tu_57 ur, ↓tu_58 ur, ↓tu_59 ur, ↓tu_60 ur, ↓tu_61 ur, ↓tu_62 ur, u_0 ur, u_1 ur, u_2 ur, u_3 ur, u_4 ur, u_6 ur, u_7 ur, u_8 ur, u_9 ur, u_10 ur, u_15 ur, u_16 ur, u_17 ur, u_18 ur, u_19 ur, u_20 ur, u_21 ur, u_22 ur, u_24 ur, u_25 ur, u_26 ur, u_27 ur, u_28 ur, u_29 ur, u_30 ur, u_31 ur, u_32 ur, u_33 ur, u_40 ur, u_53 ur, u_54 ur, u_55 ur, u_56 ur, u_57 ur, u_58 ur, u_59 ur, u_60 ur, u_61 ur, u_62 ur]
        simp (disch := omega) only [g4, h3, ↓lt_e, ↓bs_e, ↓b2_e, ↓tsI, ↓tsJ, ↓tsD, lt_e, bs_e, b2_e, if_true, if_false, ↓reduceIte, Nat.reduceEqDiff, Nat.reduceLeDiff, Nat.reduceLT, Nat.reduceAdd, Nat.reduceMul, Nat.reduceSub, Nat.not_lt_zero, Nat.zero_le, Nat.le_refl, and_self, Nat.succ_ne_zero, Nat.add_sub_cancel, or_true, true_or, or_false, false_or, L0, L1, L2, L3, L4, L5, L6, L7, L8, L9, L10, L11, L12, L13, L14, L15, L16, L17, L18, L19, L20, L21, L22, L23, L24, L25, L26, L27, L28, L29, L30, L50, L60, L100, L144, L300, J0, J1, J2, J5, J6, J7, J8, J11, J12, J18, J29, J50, mO_e, oL_e, nI_mO, mO_nI, mO_lt, nlt_mO, mO_le, nle_mO, nI_add, nI_subn, nI_muln, e_lt, e_le, e_eq, q_lt, q_le, q_eq, i_l, mO_l, oL_lt, nlt_oL, nI_oL, lN_sub, lN_i, lN_add, rI_s, rI_a, rI_k, rJ_s, rJ_a, rJ_k, rD_s, rD_a, rD_k, rJI, rDI, rRI, rIJ, rDJ, rRJ, rID, rJD, rRD, rIR, rJR, rDR, ↓R0_t, kR_0, ↓R1_t, kR_1, ↓R1_a, ↓R1_w, ↓R2_t, kR_2, ↓R2_a, ↓R2_w, ↓R3_t, kR_3, ↓R3_a, ↓R3_w, ↓R4_t, kR_4, ↓R4_a, ↓R4_w, ↓R5_t, kR_5, ↓R5_a, ↓R5_w, ↓R6_t, kR_6, ↓R6_a, ↓R6_w, ↓R7_t, kR_7, ↓R7_a, ↓R7_w, ↓R8_t, kR_8, ↓R8_a, ↓R8_w, ↓R9_t, kR_9, ↓R9_a, ↓R9_w, ↓R10_t, kR_10, ↓R10_a, ↓R10_w, ↓R11_t, kR_11, ↓R11_a, ↓R11_w, ↓R12_t, kR_12, ↓R12_a, ↓R12_w, ↓R13_t, kR_13, ↓R13_a, ↓R13_w, ↓R14_t, kR_14, ↓R14_a, ↓R14_w, ↓R15_t, kR_15, ↓R15_a, ↓R15_w, ↓R16_t, kR_16, ↓R16_a, ↓R16_w, ↓R17_t, kR_17, ↓R17_a, ↓R17_w, ↓R18_t, kR_18, ↓R18_a, ↓R18_w, ↓R19_t, kR_19, ↓R19_a, ↓R19_w, ↓R20_t, kR_20, ↓R20_a, ↓R20_w, ↓R21_t, kR_21, ↓R21_a, ↓R21_w, ↓R22_t, kR_22, ↓R22_a, ↓R22_w, ↓R23_t, kR_23, ↓R23_a, ↓R23_w, ↓R24_t, kR_24, ↓R24_a, ↓R24_w, ↓R25_t, kR_25, ↓R25_a, ↓R25_w, ↓R26_t, kR_26, ↓R26_a, ↓R26_w, ↓R27_t, kR_27, ↓R27_a, ↓R27_w, ↓R28_t, kR_28, ↓R28_a, ↓R28_w, ↓R29_t, kR_29, ↓R29_a, ↓R29_w, ↓R30_t, kR_30, ↓R30_a, ↓R30_w, ↓R31_t, kR_31, ↓R31_a, ↓R31_w, ↓R32_t, kR_32, ↓R32_a, ↓R32_w, ↓R33_t, kR_33, ↓R33_a, ↓R33_w, ↓R34_t, kR_34, ↓R34_a, ↓R34_w, ↓R35_t, kR_35, ↓R35_a, ↓R35_w, ↓R36_t, kR_36, ↓R36_a, ↓R36_w, ↓R37_t, kR_37, ↓R37_a, ↓R37_w, ↓R38_t, kR_38, ↓R38_a, ↓R38_w, ↓R39_t, kR_39, ↓R39_a, ↓R39_w, ↓tu_0 ur2, ↓tu_1 ur2, ↓tu_2 ur2, ↓tu_3 ur2, ↓tu_4 ur2, ↓tu_6 ur2, ↓tu_7 ur2, ↓tu_8 ur2, ↓tu_9 ur2, ↓tu_10 ur2, ↓tu_15 ur2, ↓tu_16 ur2, ↓tu_17 ur2, ↓tu_18 ur2, ↓tu_19 ur2, ↓tu_20 ur2, ↓tu_21 ur2, ↓tu_22 ur2, ↓tu_24 ur2, ↓tu_25 ur2, ↓tu_26 ur2, ↓tu_27 ur2, ↓tu_28 ur2, ↓tu_29 ur2, ↓tu_30 ur2, ↓tu_31 ur2, ↓tu_32 ur2, ↓tu_33 ur2, ↓tu_40 ur2, ↓tu_53 ur2, ↓tu_54 ur2, ↓tu_55 ur2, ↓tu_56 ur2, ↓tu_57 ur2, ↓tu_58 ur2, ↓tu_59 ur2, ↓tu_60 ur2, ↓tu_61 ur2, ↓tu_62 ur2, u_0 ur2, u_1 ur2, u_2 ur2, u_3 ur2, u_4 ur2, u_6 ur2, u_7 ur2, u_8 ur2, u_9 ur2, u_10 ur2, u_15 ur2, u_16 ur2, u_17 ur2, u_18 ur2, u_19 ur2, u_20 ur2, u_21 ur2, u_22 ur2, u_24 ur2, u_25 ur2, u_26 ur2, u_27 ur2, u_28 ur2, u_29 ur2, u_30 ur2, u_31 ur2, u_32 ur2, u_33 ur2, u_40 ur2, u_53 ur2, u_54 ur2, u_55 ur2, u_56 ur2, u_57 ur2, u_58 ur2, u_59 ur2, u_60 ur2, u_61 ur2, u_62 ur2]
      · rw [p6 j, c4 35 (by omega), rI_a _ _ _ _ (by omega), rI_a _ _ _ _ (by omega), rI_a _ _ _ _ (by omega), b2', rI_a _ _ _ _ (by omega), rI_a _ _ _ _ (by omega), rI_a _ _ _ _ (by omega)]
      · refine st1 (s := g_I r 1) (d := g_I r 30) (d4 := g_I r4 30) (fun j => ?_) (fun j => ?_) (by omega)
        · rw [c4 30 (by omega)]
          simp (disch := omega) only [rI_f, rI_a, b2', e2I]
        · rw [q1 j, eI 1 (by omega)]
      · refine st1 (s := g_I r 2) (d := g_I r 31) (d4 := g_I r4 31) (fun j => ?_) (fun j => ?_) (by omega)
        · rw [c4 31 (by omega)]
          simp (disch := omega) only [rI_f, rI_a, b2', e2I]
        · rw [q2 j, eI 2 (by omega)]
      · refine st1 (s := g_I r 3) (d := g_I r 32) (d4 := g_I r4 32) (fun j => ?_) (fun j => ?_) (by omega)
        · rw [c4 32 (by omega)]
          simp (disch := omega) only [rI_f, rI_a, b2', e2I]
        · rw [q3 j, eI 3 (by omega)]
      · refine st1 (s := g_I r 7) (d := g_I r 36) (d4 := g_I r4 36) (fun j => ?_) (fun j => ?_) (by omega)
        · rw [c4 36 (by omega)]
          simp (disch := omega) only [rI_f, rI_a, b2', e2I]
        · rw [q4 j, eI 7 (by omega)]
      · refine st1 (s := g_I r 8) (d := g_I r 37) (d4 := g_I r4 37) (fun j => ?_) (fun j => ?_) (by omega)
        · rw [c4 37 (by omega)]
          simp (disch := omega) only [rI_f, rI_a, b2', e2I]
        · rw [q5 j, eI 8 (by omega)]
      · refine st1 (s := g_I r 9) (d := g_I r 38) (d4 := g_I r4 38) (fun j => ?_) (fun j => ?_) (by omega)
        · rw [c4 38 (by omega)]
          simp (disch := omega) only [rI_f, rI_a, b2', e2I]
        · rw [q6 j, eI 9 (by omega)]
      · refine st12 (s := g_J r 4) (d := g_J r 33) (d4 := g_J r4 33) (fun j => ?_) (fun j => ?_) (by omega)
        · rw [c2]
          refine (b5 j).trans ?_
          by_cases e2 : 144 * K + 12 * a ≤ j ∧ j < 144 * K + 12 * a + 12
          · rw [if_pos e2, if_pos (by omega), rJI, rJI, rJI]
            congr 1; omega
          · rw [if_neg e2, if_neg (by omega)]; rfl
        · rw [q7 j, eJ 4 (by omega)]
      · refine st12 (s := g_D r 5) (d := g_D r 34) (d4 := g_D r4 34) (fun j => ?_) (fun j => ?_) (by omega)
        · rw [c3]
          refine (b6 j).trans ?_
          by_cases e2 : 144 * K + 12 * a ≤ j ∧ j < 144 * K + 12 * a + 12
          · rw [if_pos e2, if_pos (by omega), rDI, rDI, rDI]
            congr 1; omega
          · rw [if_neg e2, if_neg (by omega)]; rfl
        · rw [q8 j, eD 5 (by omega)]
      · refine st4 (s := g_I r 10) (d := g_I r 39) (d4 := g_I r4 39) (fun j => ?_) (fun j => ?_) (by omega)
        · refine (c5 j).trans ?_
          simp (disch := omega) only [rI_a, b2']
          by_cases e2 : 48 * K + 4 * a ≤ j ∧ j < 48 * K + 4 * a + 4
          · rw [if_pos e2, if_pos (by omega)]
            congr 1; omega
          · rw [if_neg e2, if_neg (by omega)]
        · rw [q9 j, eI 10 (by omega)]
end PY
