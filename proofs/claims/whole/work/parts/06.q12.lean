/-! keeping and bringing back, the reference's loops -/
theorem st1 {α : Type} {s d d4 d' : Nat → α} {o a m : Nat} (h4 : ∀ j, d4 j = if j = o + a then s a else d j) (h' : ∀ j, d' j = if o + (a + 1) ≤ j ∧ j < o + m then s (j - o) else d4 j) (ha : a < m) : ∀ j, d' j = if o + a ≤ j ∧ j < o + m then s (j - o) else d j := by
  intro j
  rw [h' j, h4 j]
  by_cases e : j = o + a
  · rw [if_neg (by omega), if_pos e, if_pos (by omega), e, Nat.add_sub_cancel_left]
  · by_cases e2 : o + (a + 1) ≤ j ∧ j < o + m
    · rw [if_pos e2, if_pos (by omega)]
    · rw [if_neg e2, if_neg e, if_neg (by omega)]
theorem st12 {α : Type} {s d d4 d' : Nat → α} {o a : Nat} (h4 : ∀ j, d4 j = if o + 12 * a ≤ j ∧ j < o + 12 * a + 12 then s (j - o) else d j) (h' : ∀ j, d' j = if o + 12 * (a + 1) ≤ j ∧ j < o + 144 then s (j - o) else d4 j) (ha : a < 12) : ∀ j, d' j = if o + 12 * a ≤ j ∧ j < o + 144 then s (j - o) else d j := by
  intro j
  rw [h' j, h4 j]
  by_cases e : o + 12 * a ≤ j ∧ j < o + 12 * a + 12
  · rw [if_neg (by omega), if_pos e, if_pos (by omega)]
  · by_cases e2 : o + 12 * (a + 1) ≤ j ∧ j < o + 144
    · rw [if_pos e2, if_pos (by omega)]
    · rw [if_neg e2, if_neg e, if_neg (by omega)]
theorem st4 {α : Type} {s d d4 d' : Nat → α} {o a : Nat} (h4 : ∀ j, d4 j = if o + 4 * a ≤ j ∧ j < o + 4 * a + 4 then s (j - o) else d j) (h' : ∀ j, d' j = if o + 4 * (a + 1) ≤ j ∧ j < o + 48 then s (j - o) else d4 j) (ha : a < 12) : ∀ j, d' j = if o + 4 * a ≤ j ∧ j < o + 48 then s (j - o) else d j := by
  intro j
  rw [h' j, h4 j]
  by_cases e : o + 4 * a ≤ j ∧ j < o + 4 * a + 4
  · rw [if_neg (by omega), if_pos e, if_pos (by omega)]
  · by_cases e2 : o + 4 * (a + 1) ≤ j ∧ j < o + 48
    · rw [if_pos e2, if_pos (by omega)]
    · rw [if_neg e2, if_neg e, if_neg (by omega)]
/-- one step of a block's copy -/
theorem sti {α : Type} {s d d1 d' : Nat → α} {x y i m : Nat} (h1 : ∀ j, d1 j = if j = x + i then s (y + i) else d j) (h' : ∀ j, d' j = if x + (i + 1) ≤ j ∧ j < x + m then s (j - x + y) else d1 j) (hi : i < m) : ∀ j, d' j = if x + i ≤ j ∧ j < x + m then s (j - x + y) else d j := by
  intro j
  rw [h' j, h1 j]
  by_cases e : j = x + i
  · rw [if_neg (by omega), if_pos e, if_pos (by omega), show j - x + y = y + i by omega]
  · by_cases e2 : x + (i + 1) ≤ j ∧ j < x + m
    · rw [if_pos e2, if_pos (by omega)]
    · rw [if_neg e2, if_neg e, if_neg (by omega)]
section PX
def Bk (src dst srcD dstD : Nat) (y x i : Nat) (r r' : Hp) : Prop := g_R r' = g_R r ∧ g_I r' = g_I r ∧ (∀ a, a ≠ dst → g_J r' a = g_J r a) ∧ (∀ a, a ≠ dstD → g_D r' a = g_D r a) ∧ (∀ j, g_J r' dst j = if x + i ≤ j ∧ j < x + 12 then g_J r src (j - x + y) else g_J r dst j) ∧ (∀ j, g_D r' dstD j = if x + i ≤ j ∧ j < x + 12 then g_D r srcD (j - x + y) else g_D r dstD j)
def Bi (src dst : Nat) (y x i : Nat) (r r' : Hp) : Prop := g_R r' = g_R r ∧ g_J r' = g_J r ∧ g_D r' = g_D r ∧ (∀ a, a ≠ dst → g_I r' a = g_I r a) ∧ (∀ j, g_I r' dst j = if x + i ≤ j ∧ j < x + 4 then g_I r src (j - x + y) else g_I r dst j)
theorem fX10_keep_b56_e {a b : Nat} (ha : a < 12) (hb : b < 36) : ∀ N i r, Wr r → i ≤ 12 → 13 - i ≤ N → ∃ r', (∀ K, fX10_keep_b56 kR 0 (nI a) (nI b) K N (nI i) r = K r') ∧ Bk 4 33 5 34 (12 * a) (12 * b) i r r' := by
  intro N
  induction N with
  | zero => intro i r ur h1 h2; omega
  | succ N ih =>
    intro i r ur h1 h2
    by_cases e : i = 12
    · subst e
      refine ⟨r, fun K => ?_, rfl, rfl, fun _ _ => rfl, fun _ _ => rfl, fun j => by rw [if_neg (by omega)], fun j => by rw [if_neg (by omega)]⟩
      simp (disch := omega) only [fX10_keep_b56, ↓lt_e, ↓bs_e, ↓b2_e, ↓tsI, ↓tsJ, ↓tsD, lt_e, bs_e, b2_e, if_true, if_false, ↓reduceIte, Nat.reduceEqDiff, Nat.reduceLeDiff, Nat.reduceLT, Nat.reduceAdd, Nat.reduceMul, Nat.reduceSub, Nat.not_lt_zero, Nat.zero_le, Nat.le_refl, and_self, Nat.succ_ne_zero, Nat.add_sub_cancel, or_true, true_or, or_false, false_or, L0, L1, L2, L3, L4, L5, L6, L7, L8, L9, L10, L11, L12, L13, L14, L15, L16, L17, L18, L19, L20, L21, L22, L23, L24, L25, L26, L27, L28, L29, L30, L50, L60, L100, L144, L300, J0, J1, J2, J5, J6, J7, J8, J11, J12, J18, J29, J50, mO_e, oL_e, nI_mO, mO_nI, mO_lt, nlt_mO, mO_le, nle_mO, nI_add, nI_subn, nI_muln, e_lt, e_le, e_eq, q_lt, q_le, q_eq, i_l, mO_l, oL_lt, nlt_oL, nI_oL, lN_sub, lN_i, lN_add]
    · have h12 : ¬ 12 ≤ i := by omega
      obtain ⟨r', h3, f1, f2, f3, f4, f5, f6⟩ := ih (i + 1) (s_D (s_J r 33 (12 * b + i) (g_J r 4 (12 * a + i))) 34 (12 * b + i) (g_D r 5 (12 * a + i))) ur (by omega) (by omega)
      refine ⟨r', fun K => ?_, f1, f2, fun q hq => ?_, fun q hq => ?_, ?_, ?_⟩
      · simp (disch := omega) only [fX10_keep_b56, h12, h3, ↓lt_e, ↓bs_e, ↓b2_e, ↓tsI, ↓tsJ, ↓tsD, lt_e, bs_e, b2_e, if_true, if_false, ↓reduceIte, Nat.reduceEqDiff, Nat.reduceLeDiff, Nat.reduceLT, Nat.reduceAdd, Nat.reduceMul, Nat.reduceSub, Nat.not_lt_zero, Nat.zero_le, Nat.le_refl, and_self, Nat.succ_ne_zero, Nat.add_sub_cancel, or_true, true_or, or_false, false_or, L0, L1, L2, L3, L4, L5, L6, L7, L8, L9, L10, L11, L12, L13, L14, L15, L16, L17, L18, L19, L20, L21, L22, L23, L24, L25, L26, L27, L28, L29, L30, L50, L60, L100, L144, L300, J0, J1, J2, J5, J6, J7, J8, J11, J12, J18, J29, J50, mO_e, oL_e, nI_mO, mO_nI, mO_lt, nlt_mO, mO_le, nle_mO, nI_add, nI_subn, nI_muln, e_lt, e_le, e_eq, q_lt, q_le, q_eq, i_l, mO_l, oL_lt, nlt_oL, nI_oL, lN_sub, lN_i, lN_add, rI_s, rI_a, rI_k, rJ_s, rJ_a, rJ_k, rD_s, rD_a, rD_k, rJI, rDI, rRI, rIJ, rDJ, rRJ, rID, rJD, rRD, rIR, rJR, rDR, ↓R0_t, kR_0, ↓R1_t, kR_1, ↓R1_a, ↓R1_w, ↓R2_t, kR_2, ↓R2_a, ↓R2_w, ↓R3_t, kR_3, ↓R3_a, ↓R3_w, ↓R4_t, kR_4, ↓R4_a, ↓R4_w, ↓R5_t, kR_5, ↓R5_a, ↓R5_w, ↓R6_t, kR_6, ↓R6_a, ↓R6_w, ↓R7_t, kR_7, ↓R7_a, ↓R7_w, ↓R8_t, kR_8, ↓R8_a, ↓R8_w, ↓R9_t, kR_9, ↓R9_a, ↓R9_w, ↓R10_t, kR_10, ↓R10_a, ↓R10_w, ↓R11_t, kR_11, ↓R11_a, ↓R11_w, ↓R12_t, kR_12, ↓R12_a, ↓R12_w, ↓R13_t, kR_13, ↓R13_a, ↓R13_w, ↓R14_t, kR_14, ↓R14_a, ↓R14_w, ↓R15_t, kR_15, ↓R15_a, ↓R15_w, ↓R16_t, kR_16, ↓R16_a, ↓R16_w, ↓R17_t, kR_17, ↓R17_a, ↓R17_w, ↓R18_t, kR_18, ↓R18_a, ↓R18_w, ↓R19_t, kR_19, ↓R19_a, ↓R19_w, ↓R20_t, kR_20, ↓R20_a, ↓R20_w, ↓R21_t, kR_21, ↓R21_a, ↓R21_w, ↓R22_t, kR_22, ↓R22_a, ↓R22_w, ↓R23_t, kR_23, ↓R23_a, ↓R23_w, ↓R24_t, kR_24, ↓R24_a, ↓R24_w, ↓R25_t, kR_25, ↓R25_a, ↓R25_w, ↓R26_t, kR_26, ↓R26_a, ↓R26_w, ↓R27_t, kR_27, ↓R27_a, ↓R27_w, ↓R28_t, kR_28, ↓R28_a, ↓R28_w, ↓R29_t, kR_29, ↓R29_a, ↓R29_w, ↓R30_t, kR_30, ↓R30_a, ↓R30_w, ↓R31_t, kR_31, ↓R31_a, ↓R31_w, ↓R32_t, kR_32, ↓R32_a, ↓R32_w, ↓R33_t, kR_33, ↓R33_a, ↓R33_w, ↓R34_t, kR_34, ↓R34_a, ↓R34_w, ↓R35_t, kR_35, ↓R35_a, ↓R35_w, ↓R36_t, kR_36, ↓R36_a, ↓R36_w, ↓R37_t, kR_37, ↓R37_a, ↓R37_w, ↓R38_t, kR_38, ↓R38_a, ↓R38_w, ↓R39_t, kR_39, ↓R39_a, ↓R39_w, ↓tu_0 ur, ↓tu_1 ur, ↓tu_2 ur, ↓tu_3 ur, ↓tu_4 ur, ↓tu_6 ur, ↓tu_7 ur, ↓tu_8 ur, ↓tu_9 ur, ↓tu_10 ur, ↓tu_15 ur, ↓tu_16 ur, ↓tu_17 ur, ↓tu_18 ur, ↓tu_19 ur, ↓tu_20 ur, ↓tu_21 ur, ↓tu_22 ur, ↓tu_24 ur, ↓tu_25 ur, ↓tu_26 ur, ↓tu_27 ur, ↓tu_28 ur, ↓tu_29 ur, ↓tu_30 ur, ↓tu_31 ur, ↓tu_32 ur, ↓tu_33 ur, ↓tu_40 ur, ↓tu_53 ur, ↓tu_54 ur, ↓tu_55 ur, ↓tu_56 ur, ↓tu_57 ur, ↓tu_58 ur, ↓tu_59 ur, ↓tu_60 ur, ↓tu_61 ur, ↓tu_62 ur, u_0 ur, u_1 ur, u_2 ur, u_3 ur, u_4 ur, u_6 ur, u_7 ur, u_8 ur, u_9 ur, u_10 ur, u_15 ur, u_16 ur, u_17 ur, u_18 ur, u_19 ur, u_20 ur, u_21 ur, u_22 ur, u_24 ur, u_25 ur, u_26 ur, u_27 ur, u_28 ur, u_29 ur, u_30 ur, u_31 ur, u_32 ur, u_33 ur, u_40 ur, u_53 ur, u_54 ur, u_55 ur, u_56 ur, u_57 ur, u_58 ur, u_59 ur, u_60 ur, u_61 ur, u_62 ur, bso]
      · rw [f3 q hq, rJD, rJ_a _ _ _ _ hq]
      · rw [f4 q hq, rD_a _ _ _ _ hq, rDJ]
      · refine sti (d1 := g_J (s_D (s_J r 33 (12 * b + i) (g_J r 4 (12 * a + i))) 34 (12 * b + i) (g_D r 5 (12 * a + i))) 33) (fun j => ?_) (fun j => (f5 j).trans ?_) (by omega)
        · rw [rJD, rJ_f]
        · rw [show g_J (s_D (s_J r 33 (12 * b + i) (g_J r 4 (12 * a + i))) 34 (12 * b + i) (g_D r 5 (12 * a + i))) 4 = g_J r 4 by rw [rJD, rJ_a _ _ _ _ (by omega)]]
      · refine sti (d1 := g_D (s_D (s_J r 33 (12 * b + i) (g_J r 4 (12 * a + i))) 34 (12 * b + i) (g_D r 5 (12 * a + i))) 34) (fun j => ?_) (fun j => (f6 j).trans ?_) (by omega)
        · rw [rD_f, rDJ]
        · rw [show g_D (s_D (s_J r 33 (12 * b + i) (g_J r 4 (12 * a + i))) 34 (12 * b + i) (g_D r 5 (12 * a + i))) 5 = g_D r 5 by rw [rD_a _ _ _ _ (by omega), rDJ]]
theorem fX10_bringBack_b66_e {a b : Nat} (ha : a < 12) (hb : b < 36) : ∀ N i r, Wr r → i ≤ 12 → 13 - i ≤ N → ∃ r', (∀ K, fX10_bringBack_b66 kR 0 (nI a) (nI b) K N (nI i) r = K r') ∧ Bk 33 4 34 5 (12 * b) (12 * a) i r r' := by
  intro N
  induction N with
  | zero => intro i r ur h1 h2; omega
  | succ N ih =>
    intro i r ur h1 h2
    by_cases e : i = 12
    · subst e
      refine ⟨r, fun K => ?_, rfl, rfl, fun _ _ => rfl, fun _ _ => rfl, fun j => by rw [if_neg (by omega)], fun j => by rw [if_neg (by omega)]⟩
      simp (disch := omega) only [fX10_bringBack_b66, ↓lt_e, ↓bs_e, ↓b2_e, ↓tsI, ↓tsJ, ↓tsD, lt_e, bs_e, b2_e, if_true, if_false, ↓reduceIte, Nat.reduceEqDiff, Nat.reduceLeDiff, Nat.reduceLT, Nat.reduceAdd, Nat.reduceMul, Nat.reduceSub, Nat.not_lt_zero, Nat.zero_le, Nat.le_refl, and_self, Nat.succ_ne_zero, Nat.add_sub_cancel, or_true, true_or, or_false, false_or, L0, L1, L2, L3, L4, L5, L6, L7, L8, L9, L10, L11, L12, L13, L14, L15, L16, L17, L18, L19, L20, L21, L22, L23, L24, L25, L26, L27, L28, L29, L30, L50, L60, L100, L144, L300, J0, J1, J2, J5, J6, J7, J8, J11, J12, J18, J29, J50, mO_e, oL_e, nI_mO, mO_nI, mO_lt, nlt_mO, mO_le, nle_mO, nI_add, nI_subn, nI_muln, e_lt, e_le, e_eq, q_lt, q_le, q_eq, i_l, mO_l, oL_lt, nlt_oL, nI_oL, lN_sub, lN_i, lN_add]
    · have h12 : ¬ 12 ≤ i := by omega
      obtain ⟨r', h3, f1, f2, f3, f4, f5, f6⟩ := ih (i + 1) (s_D (s_J r 4 (12 * a + i) (g_J r 33 (12 * b + i))) 5 (12 * a + i) (g_D r 34 (12 * b + i))) ur (by omega) (by omega)
      refine ⟨r', fun K => ?_, f1, f2, fun q hq => ?_, fun q hq => ?_, ?_, ?_⟩
      · simp (disch := omega) only [fX10_bringBack_b66, h12, h3, ↓lt_e, ↓bs_e, ↓b2_e, ↓tsI, ↓tsJ, ↓tsD, lt_e, bs_e, b2_e, if_true, if_false, ↓reduceIte, Nat.reduceEqDiff, Nat.reduceLeDiff, Nat.reduceLT, Nat.reduceAdd, Nat.reduceMul, Nat.reduceSub, Nat.not_lt_zero, Nat.zero_le, Nat.le_refl, and_self, Nat.succ_ne_zero, Nat.add_sub_cancel, or_true, true_or, or_false, false_or, L0, L1, L2, L3, L4, L5, L6, L7, L8, L9, L10, L11, L12, L13, L14, L15, L16, L17, L18, L19, L20, L21, L22, L23, L24, L25, L26, L27, L28, L29, L30, L50, L60, L100, L144, L300, J0, J1, J2, J5, J6, J7, J8, J11, J12, J18, J29, J50, mO_e, oL_e, nI_mO, mO_nI, mO_lt, nlt_mO, mO_le, nle_mO, nI_add, nI_subn, nI_muln, e_lt, e_le, e_eq, q_lt, q_le, q_eq, i_l, mO_l, oL_lt, nlt_oL, nI_oL, lN_sub, lN_i, lN_add, rI_s, rI_a, rI_k, rJ_s, rJ_a, rJ_k, rD_s, rD_a, rD_k, rJI, rDI, rRI, rIJ, rDJ, rRJ, rID, rJD, rRD, rIR, rJR, rDR, ↓R0_t, kR_0, ↓R1_t, kR_1, ↓R1_a, ↓R1_w, ↓R2_t, kR_2, ↓R2_a, ↓R2_w, ↓R3_t, kR_3, ↓R3_a, ↓R3_w, ↓R4_t, kR_4, ↓R4_a, ↓R4_w, ↓R5_t, kR_5, ↓R5_a, ↓R5_w, ↓R6_t, kR_6, ↓R6_a, ↓R6_w, ↓R7_t, kR_7, ↓R7_a, ↓R7_w, ↓R8_t, kR_8, ↓R8_a, ↓R8_w, ↓R9_t, kR_9, ↓R9_a, ↓R9_w, ↓R10_t, kR_10, ↓R10_a, ↓R10_w, ↓R11_t, kR_11, ↓R11_a, ↓R11_w, ↓R12_t, kR_12, ↓R12_a, ↓R12_w, ↓R13_t, kR_13, ↓R13_a, ↓R13_w, ↓R14_t, kR_14, ↓R14_a, ↓R14_w, ↓R15_t, kR_15, ↓R15_a, ↓R15_w, ↓R16_t, kR_16, ↓R16_a, ↓R16_w, ↓R17_t, kR_17, ↓R17_a, ↓R17_w, ↓R18_t, kR_18, ↓R18_a, ↓R18_w, ↓R19_t, kR_19, ↓R19_a, ↓R19_w, ↓R20_t, kR_20, ↓R20_a, ↓R20_w, ↓R21_t, kR_21, ↓R21_a, ↓R21_w, ↓R22_t, kR_22, ↓R22_a, ↓R22_w, ↓R23_t, kR_23, ↓R23_a, ↓R23_w, ↓R24_t, kR_24, ↓R24_a, ↓R24_w, ↓R25_t, kR_25, ↓R25_a, ↓R25_w, ↓R26_t, kR_26, ↓R26_a, ↓R26_w, ↓R27_t, kR_27, ↓R27_a, ↓R27_w, ↓R28_t, kR_28, ↓R28_a, ↓R28_w, ↓R29_t, kR_29, ↓R29_a, ↓R29_w, ↓R30_t, kR_30, ↓R30_a, ↓R30_w, ↓R31_t, kR_31, ↓R31_a, ↓R31_w, ↓R32_t, kR_32, ↓R32_a, ↓R32_w, ↓R33_t, kR_33, ↓R33_a, ↓R33_w, ↓R34_t, kR_34, ↓R34_a, ↓R34_w, ↓R35_t, kR_35, ↓R35_a, ↓R35_w, ↓R36_t, kR_36, ↓R36_a, ↓R36_w, ↓R37_t, kR_37, ↓R37_a, ↓R37_w, ↓R38_t, kR_38, ↓R38_a, ↓R38_w, ↓R39_t, kR_39, ↓R39_a, ↓R39_w, ↓tu_0 ur, ↓tu_1 ur, ↓tu_2 ur, ↓tu_3 ur, ↓tu_4 ur, ↓tu_6 ur, ↓tu_7 ur, ↓tu_8 ur, ↓tu_9 ur, ↓tu_10 ur, ↓tu_15 ur, ↓tu_16 ur, ↓tu_17 ur, ↓tu_18 ur, ↓tu_19 ur, ↓tu_20 ur, ↓tu_21 ur, ↓tu_22 ur, ↓tu_24 ur, ↓tu_25 ur, ↓tu_26 ur, ↓tu_27 ur, ↓tu_28 ur, ↓tu_29 ur, ↓tu_30 ur, ↓tu_31 ur, ↓tu_32 ur, ↓tu_33 ur, ↓tu_40 ur, ↓tu_53 ur, ↓tu_54 ur, ↓tu_55 ur, ↓tu_56 ur, ↓tu_57 ur, ↓tu_58 ur, ↓tu_59 ur, ↓tu_60 ur, ↓tu_61 ur, ↓tu_62 ur, u_0 ur, u_1 ur, u_2 ur, u_3 ur, u_4 ur, u_6 ur, u_7 ur, u_8 ur, u_9 ur, u_10 ur, u_15 ur, u_16 ur, u_17 ur, u_18 ur, u_19 ur, u_20 ur, u_21 ur, u_22 ur, u_24 ur, u_25 ur, u_26 ur, u_27 ur, u_28 ur, u_29 ur, u_30 ur, u_31 ur, u_32 ur, u_33 ur, u_40 ur, u_53 ur, u_54 ur, u_55 ur, u_56 ur, u_57 ur, u_58 ur, u_59 ur, u_60 ur, u_61 ur, u_62 ur, bso]
      · rw [f3 q hq, rJD, rJ_a _ _ _ _ hq]
      · rw [f4 q hq, rD_a _ _ _ _ hq, rDJ]
      · refine sti (d1 := g_J (s_D (s_J r 4 (12 * a + i) (g_J r 33 (12 * b + i))) 5 (12 * a + i) (g_D r 34 (12 * b + i))) 4) (fun j => ?_) (fun j => (f5 j).trans ?_) (by omega)
        · rw [rJD, rJ_f]
        · rw [show g_J (s_D (s_J r 4 (12 * a + i) (g_J r 33 (12 * b + i))) 5 (12 * a + i) (g_D r 34 (12 * b + i))) 33 = g_J r 33 by rw [rJD, rJ_a _ _ _ _ (by omega)]]
      · refine sti (d1 := g_D (s_D (s_J r 4 (12 * a + i) (g_J r 33 (12 * b + i))) 5 (12 * a + i) (g_D r 34 (12 * b + i))) 5) (fun j => ?_) (fun j => (f6 j).trans ?_) (by omega)
        · rw [rD_f, rDJ]
        · rw [show g_D (s_D (s_J r 4 (12 * a + i) (g_J r 33 (12 * b + i))) 5 (12 * a + i) (g_D r 34 (12 * b + i))) 34 = g_D r 34 by rw [rD_a _ _ _ _ (by omega), rDJ]]
theorem fX10_keep_b150_e {a b : Nat} (ha : a < 12) (hb : b < 36) : ∀ N i r, Wr r → i ≤ 4 → 5 - i ≤ N → ∃ r', (∀ K, fX10_keep_b150 kR 0 (nI a) (nI b) K N (nI i) r = K r') ∧ Bi 10 39 (4 * a) (4 * b) i r r' := by
  intro N
  induction N with
  | zero => intro i r ur h1 h2; omega
  | succ N ih =>
    intro i r ur h1 h2
    by_cases e : i = 4
    · subst e
      refine ⟨r, fun K => ?_, rfl, rfl, rfl, fun _ _ => rfl, fun j => by rw [if_neg (by omega)]⟩
      simp (disch := omega) only [fX10_keep_b150, ↓lt_e, ↓bs_e, ↓b2_e, ↓tsI, ↓tsJ, ↓tsD, lt_e, bs_e, b2_e, if_true, if_false, ↓reduceIte, Nat.reduceEqDiff, Nat.reduceLeDiff, Nat.reduceLT, Nat.reduceAdd, Nat.reduceMul, Nat.reduceSub, Nat.not_lt_zero, Nat.zero_le, Nat.le_refl, and_self, Nat.succ_ne_zero, Nat.add_sub_cancel, or_true, true_or, or_false, false_or, L0, L1, L2, L3, L4, L5, L6, L7, L8, L9, L10, L11, L12, L13, L14, L15, L16, L17, L18, L19, L20, L21, L22, L23, L24, L25, L26, L27, L28, L29, L30, L50, L60, L100, L144, L300, J0, J1, J2, J5, J6, J7, J8, J11, J12, J18, J29, J50, mO_e, oL_e, nI_mO, mO_nI, mO_lt, nlt_mO, mO_le, nle_mO, nI_add, nI_subn, nI_muln, e_lt, e_le, e_eq, q_lt, q_le, q_eq, i_l, mO_l, oL_lt, nlt_oL, nI_oL, lN_sub, lN_i, lN_add]
    · have h12 : ¬ 4 ≤ i := by omega
      obtain ⟨r', h3, f1, f2, f3, f4, f5⟩ := ih (i + 1) (s_I r 39 (4 * b + i) (g_I r 10 (4 * a + i))) ur (by omega) (by omega)
      refine ⟨r', fun K => ?_, f1, f2, f3, fun q hq => ?_, ?_⟩
      · simp (disch := omega) only [fX10_keep_b150, h12, h3, ↓lt_e, ↓bs_e, ↓b2_e, ↓tsI, ↓tsJ, ↓tsD, lt_e, bs_e, b2_e, if_true, if_false, ↓reduceIte, Nat.reduceEqDiff, Nat.reduceLeDiff, Nat.reduceLT, Nat.reduceAdd, Nat.reduceMul, Nat.reduceSub, Nat.not_lt_zero, Nat.zero_le, Nat.le_refl, and_self, Nat.succ_ne_zero, Nat.add_sub_cancel, or_true, true_or, or_false, false_or, L0, L1, L2, L3, L4, L5, L6, L7, L8, L9, L10, L11, L12, L13, L14, L15, L16, L17, L18, L19, L20, L21, L22, L23, L24, L25, L26, L27, L28, L29, L30, L50, L60, L100, L144, L300, J0, J1, J2, J5, J6, J7, J8, J11, J12, J18, J29, J50, mO_e, oL_e, nI_mO, mO_nI, mO_lt, nlt_mO, mO_le, nle_mO, nI_add, nI_subn, nI_muln, e_lt, e_le, e_eq, q_lt, q_le, q_eq, i_l, mO_l, oL_lt, nlt_oL, nI_oL, lN_sub, lN_i, lN_add, rI_s, rI_a, rI_k, rJ_s, rJ_a, rJ_k, rD_s, rD_a, rD_k, rJI, rDI, rRI, rIJ, rDJ, rRJ, rID, rJD, rRD, rIR, rJR, rDR, ↓R0_t, kR_0, ↓R1_t, kR_1, ↓R1_a, ↓R1_w, ↓R2_t, kR_2, ↓R2_a, ↓R2_w, ↓R3_t, kR_3, ↓R3_a, ↓R3_w, ↓R4_t, kR_4, ↓R4_a, ↓R4_w, ↓R5_t, kR_5, ↓R5_a, ↓R5_w, ↓R6_t, kR_6, ↓R6_a, ↓R6_w, ↓R7_t, kR_7, ↓R7_a, ↓R7_w, ↓R8_t, kR_8, ↓R8_a, ↓R8_w, ↓R9_t, kR_9, ↓R9_a, ↓R9_w, ↓R10_t, kR_10, ↓R10_a, ↓R10_w, ↓R11_t, kR_11, ↓R11_a, ↓R11_w, ↓R12_t, kR_12, ↓R12_a, ↓R12_w, ↓R13_t, kR_13, ↓R13_a, ↓R13_w, ↓R14_t, kR_14, ↓R14_a, ↓R14_w, ↓R15_t, kR_15, ↓R15_a, ↓R15_w, ↓R16_t, kR_16, ↓R16_a, ↓R16_w, ↓R17_t, kR_17, ↓R17_a, ↓R17_w, ↓R18_t, kR_18, ↓R18_a, ↓R18_w, ↓R19_t, kR_19, ↓R19_a, ↓R19_w, ↓R20_t, kR_20, ↓R20_a, ↓R20_w, ↓R21_t, kR_21, ↓R21_a, ↓R21_w, ↓R22_t, kR_22, ↓R22_a, ↓R22_w, ↓R23_t, kR_23, ↓R23_a, ↓R23_w, ↓R24_t, kR_24, ↓R24_a, ↓R24_w, ↓R25_t, kR_25, ↓R25_a, ↓R25_w, ↓R26_t, kR_26, ↓R26_a, ↓R26_w, ↓R27_t, kR_27, ↓R27_a, ↓R27_w, ↓R28_t, kR_28, ↓R28_a, ↓R28_w, ↓R29_t, kR_29, ↓R29_a, ↓R29_w, ↓R30_t, kR_30, ↓R30_a, ↓R30_w, ↓R31_t, kR_31, ↓R31_a, ↓R31_w, ↓R32_t, kR_32, ↓R32_a, ↓R32_w, ↓R33_t, kR_33, ↓R33_a, ↓R33_w, ↓R34_t, kR_34, ↓R34_a, ↓R34_w, ↓R35_t, kR_35, ↓R35_a, ↓R35_w, ↓R36_t, kR_36, ↓R36_a, ↓R36_w, ↓R37_t, kR_37, ↓R37_a, ↓R37_w, ↓R38_t, kR_38, ↓R38_a, ↓R38_w, ↓R39_t, kR_39, ↓R39_a, ↓R39_w, ↓tu_0 ur, ↓tu_1 ur, ↓tu_2 ur, ↓tu_3 ur, ↓tu_4 ur, ↓tu_6 ur, ↓tu_7 ur, ↓tu_8 ur, ↓tu_9 ur, ↓tu_10 ur, ↓tu_15 ur, ↓tu_16 ur, ↓tu_17 ur, ↓tu_18 ur, ↓tu_19 ur, ↓tu_20 ur, ↓tu_21 ur, ↓tu_22 ur, ↓tu_24 ur, ↓tu_25 ur, ↓tu_26 ur, ↓tu_27 ur, ↓tu_28 ur, ↓tu_29 ur, ↓tu_30 ur, ↓tu_31 ur, ↓tu_32 ur, ↓tu_33 ur, ↓tu_40 ur, ↓tu_53 ur, ↓tu_54 ur, ↓tu_55 ur, ↓tu_56 ur, ↓tu_57 ur, ↓tu_58 ur, ↓tu_59 ur, ↓tu_60 ur, ↓tu_61 ur, ↓tu_62 ur, u_0 ur, u_1 ur, u_2 ur, u_3 ur, u_4 ur, u_6 ur, u_7 ur, u_8 ur, u_9 ur, u_10 ur, u_15 ur, u_16 ur, u_17 ur, u_18 ur, u_19 ur, u_20 ur, u_21 ur, u_22 ur, u_24 ur, u_25 ur, u_26 ur, u_27 ur, u_28 ur, u_29 ur, u_30 ur, u_31 ur, u_32 ur, u_33 ur, u_40 ur, u_53 ur, u_54 ur, u_55 ur, u_56 ur, u_57 ur, u_58 ur, u_59 ur, u_60 ur, u_61 ur, u_62 ur, bso]
      · rw [f4 q hq, rI_a _ _ _ _ hq]
      · refine sti (d1 := g_I (s_I r 39 (4 * b + i) (g_I r 10 (4 * a + i))) 39) (fun j => ?_) (fun j => (f5 j).trans ?_) (by omega)
        · rw [rI_f]
        · rw [show g_I (s_I r 39 (4 * b + i) (g_I r 10 (4 * a + i))) 10 = g_I r 10 by rw [rI_a _ _ _ _ (by omega)]]
theorem fX10_bringBack_b173_e {a b : Nat} (ha : a < 12) (hb : b < 36) : ∀ N i r, Wr r → i ≤ 4 → 5 - i ≤ N → ∃ r', (∀ K, fX10_bringBack_b173 kR 0 (nI a) (nI b) K N (nI i) r = K r') ∧ Bi 39 10 (4 * b) (4 * a) i r r' := by
  intro N
  induction N with
  | zero => intro i r ur h1 h2; omega
  | succ N ih =>
    intro i r ur h1 h2
    by_cases e : i = 4
    · subst e
      refine ⟨r, fun K => ?_, rfl, rfl, rfl, fun _ _ => rfl, fun j => by rw [if_neg (by omega)]⟩
      simp (disch := omega) only [fX10_bringBack_b173, ↓lt_e, ↓bs_e, ↓b2_e, ↓tsI, ↓tsJ, ↓tsD, lt_e, bs_e, b2_e, if_true, if_false, ↓reduceIte, Nat.reduceEqDiff, Nat.reduceLeDiff, Nat.reduceLT, Nat.reduceAdd, Nat.reduceMul, Nat.reduceSub, Nat.not_lt_zero, Nat.zero_le, Nat.le_refl, and_self, Nat.succ_ne_zero, Nat.add_sub_cancel, or_true, true_or, or_false, false_or, L0, L1, L2, L3, L4, L5, L6, L7, L8, L9, L10, L11, L12, L13, L14, L15, L16, L17, L18, L19, L20, L21, L22, L23, L24, L25, L26, L27, L28, L29, L30, L50, L60, L100, L144, L300, J0, J1, J2, J5, J6, J7, J8, J11, J12, J18, J29, J50, mO_e, oL_e, nI_mO, mO_nI, mO_lt, nlt_mO, mO_le, nle_mO, nI_add, nI_subn, nI_muln, e_lt, e_le, e_eq, q_lt, q_le, q_eq, i_l, mO_l, oL_lt, nlt_oL, nI_oL, lN_sub, lN_i, lN_add]
    · have h12 : ¬ 4 ≤ i := by omega
      obtain ⟨r', h3, f1, f2, f3, f4, f5⟩ := ih (i + 1) (s_I r 10 (4 * a + i) (g_I r 39 (4 * b + i))) ur (by omega) (by omega)
      refine ⟨r', fun K => ?_, f1, f2, f3, fun q hq => ?_, ?_⟩
      · simp (disch := omega) only [fX10_bringBack_b173, h12, h3, ↓lt_e, ↓bs_e, ↓b2_e, ↓tsI, ↓tsJ, ↓tsD, lt_e, bs_e, b2_e, if_true, if_false, ↓reduceIte, Nat.reduceEqDiff, Nat.reduceLeDiff, Nat.reduceLT, Nat.reduceAdd, Nat.reduceMul, Nat.reduceSub, Nat.not_lt_zero, Nat.zero_le, Nat.le_refl, and_self, Nat.succ_ne_zero, Nat.add_sub_cancel, or_true, true_or, or_false, false_or, L0, L1, L2, L3, L4, L5, L6, L7, L8, L9, L10, L11, L12, L13, L14, L15, L16, L17, L18, L19, L20, L21, L22, L23, L24, L25, L26, L27, L28, L29, L30, L50, L60, L100, L144, L300, J0, J1, J2, J5, J6, J7, J8, J11, J12, J18, J29, J50, mO_e, oL_e, nI_mO, mO_nI, mO_lt, nlt_mO, mO_le, nle_mO, nI_add, nI_subn, nI_muln, e_lt, e_le, e_eq, q_lt, q_le, q_eq, i_l, mO_l, oL_lt, nlt_oL, nI_oL, lN_sub, lN_i, lN_add, rI_s, rI_a, rI_k, rJ_s, rJ_a, rJ_k, rD_s, rD_a, rD_k, rJI, rDI, rRI, rIJ, rDJ, rRJ, rID, rJD, rRD, rIR, rJR, rDR, ↓R0_t, kR_0, ↓R1_t, kR_1, ↓R1_a, ↓R1_w, ↓R2_t, kR_2, ↓R2_a, ↓R2_w, ↓R3_t, kR_3, ↓R3_a, ↓R3_w, ↓R4_t, kR_4, ↓R4_a, ↓R4_w, ↓R5_t, kR_5, ↓R5_a, ↓R5_w, ↓R6_t, kR_6, ↓R6_a, ↓R6_w, ↓R7_t, kR_7, ↓R7_a, ↓R7_w, ↓R8_t, kR_8, ↓R8_a, ↓R8_w, ↓R9_t, kR_9, ↓R9_a, ↓R9_w, ↓R10_t, kR_10, ↓R10_a, ↓R10_w, ↓R11_t, kR_11, ↓R11_a, ↓R11_w, ↓R12_t, kR_12, ↓R12_a, ↓R12_w, ↓R13_t, kR_13, ↓R13_a, ↓R13_w, ↓R14_t, kR_14, ↓R14_a, ↓R14_w, ↓R15_t, kR_15, ↓R15_a, ↓R15_w, ↓R16_t, kR_16, ↓R16_a, ↓R16_w, ↓R17_t, kR_17, ↓R17_a, ↓R17_w, ↓R18_t, kR_18, ↓R18_a, ↓R18_w, ↓R19_t, kR_19, ↓R19_a, ↓R19_w, ↓R20_t, kR_20, ↓R20_a, ↓R20_w, ↓R21_t, kR_21, ↓R21_a, ↓R21_w, ↓R22_t, kR_22, ↓R22_a, ↓R22_w, ↓R23_t, kR_23, ↓R23_a, ↓R23_w, ↓R24_t, kR_24, ↓R24_a, ↓R24_w, ↓R25_t, kR_25, ↓R25_a, ↓R25_w, ↓R26_t, kR_26, ↓R26_a, ↓R26_w, ↓R27_t, kR_27, ↓R27_a, ↓R27_w, ↓R28_t, kR_28, ↓R28_a, ↓R28_w, ↓R29_t, kR_29, ↓R29_a, ↓R29_w, ↓R30_t, kR_30, ↓R30_a, ↓R30_w, ↓R31_t, kR_31, ↓R31_a, ↓R31_w, ↓R32_t, kR_32, ↓R32_a, ↓R32_w, ↓R33_t, kR_33, ↓R33_a, ↓R33_w, ↓R34_t, kR_34, ↓R34_a, ↓R34_w, ↓R35_t, kR_35, ↓R35_a, ↓R35_w, ↓R36_t, kR_36, ↓R36_a, ↓R36_w, ↓R37_t, kR_37, ↓R37_a, ↓R37_w, ↓R38_t, kR_38, ↓R38_a, ↓R38_w, ↓R39_t, kR_39, ↓R39_a, ↓R39_w, ↓tu_0 ur, ↓tu_1 ur, ↓tu_2 ur, ↓tu_3 ur, ↓tu_4 ur, ↓tu_6 ur, ↓tu_7 ur, ↓tu_8 ur, ↓tu_9 ur, ↓tu_10 ur, ↓tu_15 ur, ↓tu_16 ur, ↓tu_17 ur, ↓tu_18 ur, ↓tu_19 ur, ↓tu_20 ur, ↓tu_21 ur, ↓tu_22 ur, ↓tu_24 ur, ↓tu_25 ur, ↓tu_26 ur, ↓tu_27 ur, ↓tu_28 ur, ↓tu_29 ur, ↓tu_30 ur, ↓tu_31 ur, ↓tu_32 ur, ↓tu_33 ur, ↓tu_40 ur, ↓tu_53 ur, ↓tu_54 ur, ↓tu_55 ur, ↓tu_56 ur, ↓tu_57 ur, ↓tu_58 ur, ↓tu_59 ur, ↓tu_60 ur, ↓tu_61 ur, ↓tu_62 ur, u_0 ur, u_1 ur, u_2 ur, u_3 ur, u_4 ur, u_6 ur, u_7 ur, u_8 ur, u_9 ur, u_10 ur, u_15 ur, u_16 ur, u_17 ur, u_18 ur, u_19 ur, u_20 ur, u_21 ur, u_22 ur, u_24 ur, u_25 ur, u_26 ur, u_27 ur, u_28 ur, u_29 ur, u_30 ur, u_31 ur, u_32 ur, u_33 ur, u_40 ur, u_53 ur, u_54 ur, u_55 ur, u_56 ur, u_57 ur, u_58 ur, u_59 ur, u_60 ur, u_61 ur, u_62 ur, bso]
      · rw [f4 q hq, rI_a _ _ _ _ hq]
      · refine sti (d1 := g_I (s_I r 10 (4 * a + i) (g_I r 39 (4 * b + i))) 10) (fun j => ?_) (fun j => (f5 j).trans ?_) (by omega)
        · rw [rI_f]
        · rw [show g_I (s_I r 10 (4 * a + i) (g_I r 39 (4 * b + i))) 39 = g_I r 39 by rw [rI_a _ _ _ _ (by omega)]]
end PX
