section PRi
variable {cnt K N s d : Nat} {rf : Nat → Option Nat} {c r : Hp}
theorem tsR {ρ : Type} {κ : Kd} {h : Hp} {a k x y kd : Nat} {v : Option Nat} {f : Nat → Option ρ} (hn : ¬ (x = a ∧ y = k)) : to_ κ (g_R (s_R h a k v) x y) kd f = to_ κ (g_R h x y) kd f := by rw [sRR, if_neg hn]
def Z_ (A lo hi : Nat) (f : Nat → Int64) (c c' : Hp) : Prop := g_R c' = g_R c ∧ g_I c' = g_I c ∧ g_D c' = g_D c ∧ (∀ a, a ≠ A → g_J c' a = g_J c a) ∧ ∀ j, g_J c' A j = if lo ≤ j ∧ j < hi then f j else g_J c A j
theorem Z_s {A lo hi : Nat} {f : Nat → Int64} {c c' : Hp} {v : Int64} (h : lo < hi) (hv : v = f lo) (z : Z_ A (lo + 1) hi f (s_J c A lo v) c') : Z_ A lo hi f c c' := by
  obtain ⟨z1, z2, z3, z4, z5⟩ := z
  refine ⟨z1.trans (rRJ ..), z2.trans (rIJ ..), z3.trans (rDJ ..), fun a ha => by rw [z4 a ha, rJ_a _ _ _ _ ha], fun j => ?_⟩
  rw [z5 j]
  by_cases e : j = lo
  · subst e; rw [if_neg (by omega), if_pos (by omega), rJ_s]; exact hv
  · by_cases h1 : lo + 1 ≤ j ∧ j < hi
    · rw [if_pos h1, if_pos (by omega)]
    · rw [if_neg h1, if_neg (by omega), rJ_k _ _ _ _ e]
theorem Z_0 (A hi : Nat) (f : Nat → Int64) (c : Hp) : Z_ A hi hi f c c := ⟨rfl, rfl, rfl, fun _ _ => rfl, fun j => by rw [if_neg (by omega)]⟩
theorem Z_C {A lo hi : Nat} {f : Nat → Int64} {c c' : Hp} (z : Z_ A lo hi f c c') (h : 55 ≤ A ∧ A ≤ 104) : FC_ c c' :=
  ⟨z.1, fun a ha h0 => ⟨by rw [z.2.1], z.2.2.2.1 a (by omega), by rw [z.2.2.1]⟩, fun k hk => ⟨by rw [z.2.1], by rw [z.2.2.2.1 1 (by omega)]⟩⟩
theorem Z_R {A lo hi : Nat} {f : Nat → Int64} {c c' : Hp} (z : Z_ A lo hi f c c') (h : 19 ≤ A ∧ A ≤ 29) : FR_ c c' :=
  ⟨z.1, fun a ha h0 => ⟨by rw [z.2.1], z.2.2.2.1 a (by omega), by rw [z.2.2.1]⟩, fun k hk => ⟨by rw [z.2.1], by rw [z.2.2.2.1 0 (by omega)]⟩⟩
theorem gI_s {c c' : Hp} (h : g_I c = g_I c') (a k : Nat) (v : Int32) : g_I (s_I c a k v) = g_I (s_I c' a k v) := by
  funext x j
  by_cases e : x = a
  · subst e
    by_cases e2 : j = k
    · subst e2; rw [rI_s, rI_s]
    · rw [rI_k _ _ _ _ e2, rI_k _ _ _ _ e2, h]
  · rw [rI_a _ _ _ _ e, rI_a _ _ _ _ e, h]
theorem fl_e {e : Nat} (he : e < 12) : ∀ F i (c : Hp), i ≤ 6 → 7 - i ≤ F → ∃ c', fJ7_fill_d0a16_b6 (kC cnt) (57 + 4 * e + 1) (lN 0) (nI 6) F (nI i) c = some c' ∧ Z_ (57 + 4 * e + 1) i 6 (fun _ => lN 0) c c' := by
  intro F
  induction F with
  | zero => intro i c h1 h2; omega
  | succ F ih =>
    intro i c h1 h2
    by_cases h : i = 6
    · subst h
      exact ⟨c, by simp (disch := omega) only [fJ7_fill_d0a16_b6, ↓lt_e, ↓bs_e, ↓b2_e, ↓tsI, ↓tsJ, ↓tsD, lt_e, bs_e, b2_e, if_true, if_false, ↓reduceIte, Nat.reduceEqDiff, Nat.reduceLeDiff, Nat.reduceLT, Nat.reduceAdd, Nat.reduceMul, Nat.reduceSub, Nat.not_lt_zero, Nat.zero_le, Nat.le_refl, and_self, Nat.succ_ne_zero, Nat.add_sub_cancel, or_true, true_or, or_false, false_or, L0, L1, L2, L3, L4, L5, L6, L7, L8, L9, L10, L11, L12, L13, L14, L15, L16, L17, L18, L19, L20, L21, L22, L23, L24, L25, L26, L27, L28, L29, L30, L50, L60, L100, L144, L300, J0, J1, J2, J5, J6, J7, J8, J11, J12, J18, J29, J50, mO_e, oL_e, nI_mO, mO_nI, mO_lt, nlt_mO, mO_le, nle_mO, nI_add, nI_subn, nI_muln, e_lt, e_le, e_eq, q_lt, q_le, q_eq, i_l, mO_l, oL_lt, nlt_oL, nI_oL, lN_sub, lN_i, lN_add, rI_s, rI_a, rI_k, rJ_s, rJ_a, rJ_k, rD_s, rD_a, rD_k, rJI, rDI, rRI, rIJ, rDJ, rRJ, rID, rJD, rRD, rIR, rJR, rDR], Z_0 ..⟩
    · have h6 : ¬ 6 ≤ i := by omega
      have e1 : fJ7_fill_d0a16_b6 (kC cnt) (57 + 4 * e + 1) (lN 0) (nI 6) (F + 1) (nI i) c = fJ7_fill_d0a16_b6 (kC cnt) (57 + 4 * e + 1) (lN 0) (nI 6) F (nI (i + 1)) (s_J c (57 + 4 * e + 1) i (lN 0)) := by
        simp (disch := omega) only [fJ7_fill_d0a16_b6, h6, ↓F1_w, ↓lt_e, ↓bs_e, ↓b2_e, ↓tsI, ↓tsJ, ↓tsD, lt_e, bs_e, b2_e, if_true, if_false, ↓reduceIte, Nat.reduceEqDiff, Nat.reduceLeDiff, Nat.reduceLT, Nat.reduceAdd, Nat.reduceMul, Nat.reduceSub, Nat.not_lt_zero, Nat.zero_le, Nat.le_refl, and_self, Nat.succ_ne_zero, Nat.add_sub_cancel, or_true, true_or, or_false, false_or, L0, L1, L2, L3, L4, L5, L6, L7, L8, L9, L10, L11, L12, L13, L14, L15, L16, L17, L18, L19, L20, L21, L22, L23, L24, L25, L26, L27, L28, L29, L30, L50, L60, L100, L144, L300, J0, J1, J2, J5, J6, J7, J8, J11, J12, J18, J29, J50, mO_e, oL_e, nI_mO, mO_nI, mO_lt, nlt_mO, mO_le, nle_mO, nI_add, nI_subn, nI_muln, e_lt, e_le, e_eq, q_lt, q_le, q_eq, i_l, mO_l, oL_lt, nlt_oL, nI_oL, lN_sub, lN_i, lN_add, rI_s, rI_a, rI_k, rJ_s, rJ_a, rJ_k, rD_s, rD_a, rD_k, rJI, rDI, rRI, rIJ, rDJ, rRJ, rID, rJD, rRD, rIR, rJR, rDR]
      rw [e1]
      obtain ⟨c', x1, x2⟩ := ih (i + 1) (s_J c (57 + 4 * e + 1) i (lN 0)) (by omega) (by omega)
      exact ⟨c', x1, Z_s (by omega) rfl x2⟩
theorem en_e {e : Nat} (he : e < 12) : ∀ F i (r : Hp), Wr r → i ≤ 6 → 7 - i ≤ F → ∃ r', fX10_enter_b71 kR 0 (nI e) F (nI i) r = some r' ∧ Z_ 21 (6 * e + i) (6 * e + 6) (fun _ => lN 0) r r' := by
  intro F
  induction F with
  | zero => intro i c ur h1 h2; omega
  | succ F ih =>
    intro i r ur h1 h2
    by_cases h : i = 6
    · subst h
      exact ⟨r, by simp (disch := omega) only [fX10_enter_b71, ↓lt_e, ↓bs_e, ↓b2_e, ↓tsI, ↓tsJ, ↓tsD, lt_e, bs_e, b2_e, if_true, if_false, ↓reduceIte, Nat.reduceEqDiff, Nat.reduceLeDiff, Nat.reduceLT, Nat.reduceAdd, Nat.reduceMul, Nat.reduceSub, Nat.not_lt_zero, Nat.zero_le, Nat.le_refl, and_self, Nat.succ_ne_zero, Nat.add_sub_cancel, or_true, true_or, or_false, false_or, L0, L1, L2, L3, L4, L5, L6, L7, L8, L9, L10, L11, L12, L13, L14, L15, L16, L17, L18, L19, L20, L21, L22, L23, L24, L25, L26, L27, L28, L29, L30, L50, L60, L100, L144, L300, J0, J1, J2, J5, J6, J7, J8, J11, J12, J18, J29, J50, mO_e, oL_e, nI_mO, mO_nI, mO_lt, nlt_mO, mO_le, nle_mO, nI_add, nI_subn, nI_muln, e_lt, e_le, e_eq, q_lt, q_le, q_eq, i_l, mO_l, oL_lt, nlt_oL, nI_oL, lN_sub, lN_i, lN_add, rI_s, rI_a, rI_k, rJ_s, rJ_a, rJ_k, rD_s, rD_a, rD_k, rJI, rDI, rRI, rIJ, rDJ, rRJ, rID, rJD, rRD, rIR, rJR, rDR], Z_0 ..⟩
    · have h6 : ¬ 6 ≤ i := by omega
      have e1 : fX10_enter_b71 kR 0 (nI e) (F + 1) (nI i) r = fX10_enter_b71 kR 0 (nI e) F (nI (i + 1)) (s_J r 21 (6 * e + i) (lN 0)) := by
        simp (disch := omega) only [fX10_enter_b71, h6, ↓lt_e, ↓bs_e, ↓b2_e, ↓tsI, ↓tsJ, ↓tsD, lt_e, bs_e, b2_e, if_true, if_false, ↓reduceIte, Nat.reduceEqDiff, Nat.reduceLeDiff, Nat.reduceLT, Nat.reduceAdd, Nat.reduceMul, Nat.reduceSub, Nat.not_lt_zero, Nat.zero_le, Nat.le_refl, and_self, Nat.succ_ne_zero, Nat.add_sub_cancel, or_true, true_or, or_false, false_or, L0, L1, L2, L3, L4, L5, L6, L7, L8, L9, L10, L11, L12, L13, L14, L15, L16, L17, L18, L19, L20, L21, L22, L23, L24, L25, L26, L27, L28, L29, L30, L50, L60, L100, L144, L300, J0, J1, J2, J5, J6, J7, J8, J11, J12, J18, J29, J50, mO_e, oL_e, nI_mO, mO_nI, mO_lt, nlt_mO, mO_le, nle_mO, nI_add, nI_subn, nI_muln, e_lt, e_le, e_eq, q_lt, q_le, q_eq, i_l, mO_l, oL_lt, nlt_oL, nI_oL, lN_sub, lN_i, lN_add, rI_s, rI_a, rI_k, rJ_s, rJ_a, rJ_k, rD_s, rD_a, rD_k, rJI, rDI, rRI, rIJ, rDJ, rRJ, rID, rJD, rRD, rIR, rJR, rDR, ↓R0_t, kR_0, ↓R1_t, kR_1, ↓R1_a, ↓R1_w, ↓R2_t, kR_2, ↓R2_a, ↓R2_w, ↓R3_t, kR_3, ↓R3_a, ↓R3_w, ↓R4_t, kR_4, ↓R4_a, ↓R4_w, ↓R5_t, kR_5, ↓R5_a, ↓R5_w, ↓R6_t, kR_6, ↓R6_a, ↓R6_w, ↓R7_t, kR_7, ↓R7_a, ↓R7_w, ↓R8_t, kR_8, ↓R8_a, ↓R8_w, ↓R9_t, kR_9, ↓R9_a, ↓R9_w, ↓R10_t, kR_10, ↓R10_a, ↓R10_w, ↓R11_t, kR_11, ↓R11_a, ↓R11_w, ↓R12_t, kR_12, ↓R12_a, ↓R12_w, ↓R13_t, kR_13, ↓R13_a, ↓R13_w, ↓R14_t, kR_14, ↓R14_a, ↓R14_w, ↓R15_t, kR_15, ↓R15_a, ↓R15_w, ↓R16_t, kR_16, ↓R16_a, ↓R16_w, ↓R17_t, kR_17, ↓R17_a, ↓R17_w, ↓R18_t, kR_18, ↓R18_a, ↓R18_w, ↓R19_t, kR_19, ↓R19_a, ↓R19_w, ↓R20_t, kR_20, ↓R20_a, ↓R20_w, ↓R21_t, kR_21, ↓R21_a, ↓R21_w, ↓R22_t, kR_22, ↓R22_a, ↓R22_w, ↓R23_t, kR_23, ↓R23_a, ↓R23_w, ↓R24_t, kR_24, ↓R24_a, ↓R24_w, ↓R25_t, kR_25, ↓R25_a, ↓R25_w, ↓R26_t, kR_26, ↓R26_a, ↓R26_w, ↓R27_t, kR_27, ↓R27_a, ↓R27_w, ↓R28_t, kR_28, ↓R28_a, ↓R28_w, ↓R29_t, kR_29, ↓R29_a, ↓R29_w, ↓R30_t, kR_30, ↓R30_a, ↓R30_w, ↓R31_t, kR_31, ↓R31_a, ↓R31_w, ↓R32_t, kR_32, ↓R32_a, ↓R32_w, ↓R33_t, kR_33, ↓R33_a, ↓R33_w, ↓R34_t, kR_34, ↓R34_a, ↓R34_w, ↓R35_t, kR_35, ↓R35_a, ↓R35_w, ↓R36_t, kR_36, ↓R36_a, ↓R36_w, ↓R37_t, kR_37, ↓R37_a, ↓R37_w, ↓R38_t, kR_38, ↓R38_a, ↓R38_w, ↓R39_t, kR_39, ↓R39_a, ↓R39_w, ↓tu_0 ur, ↓tu_1 ur, ↓tu_2 ur, ↓tu_3 ur, ↓tu_4 ur, ↓tu_6 ur, ↓tu_7 ur, ↓tu_8 ur, ↓tu_9 ur, ↓tu_10 ur, ↓tu_15 ur, ↓tu_16 ur, ↓tu_17 ur, ↓tu_18 ur, ↓tu_19 ur, ↓tu_20 ur, ↓tu_21 ur, ↓tu_22 ur, ↓tu_24 ur, ↓tu_25 ur, ↓tu_26 ur, ↓tu_27 ur, ↓tu_28 ur, ↓tu_29 ur, ↓tu_30 ur, ↓tu_31 ur, ↓tu_32 ur, ↓tu_33 ur, ↓tu_40 ur, ↓tu_53 ur, ↓tu_54 ur, ↓tu_55 ur, ↓tu_56 ur, ↓tu_57 ur, ↓tu_58 ur, ↓tu_59 ur, ↓tu_60 ur, ↓tu_61 ur, ↓tu_62 ur, u_0 ur, u_1 ur, u_2 ur, u_3 ur, u_4 ur, u_6 ur, u_7 ur, u_8 ur, u_9 ur, u_10 ur, u_15 ur, u_16 ur, u_17 ur, u_18 ur, u_19 ur, u_20 ur, u_21 ur, u_22 ur, u_24 ur, u_25 ur, u_26 ur, u_27 ur, u_28 ur, u_29 ur, u_30 ur, u_31 ur, u_32 ur, u_33 ur, u_40 ur, u_53 ur, u_54 ur, u_55 ur, u_56 ur, u_57 ur, u_58 ur, u_59 ur, u_60 ur, u_61 ur, u_62 ur]
      rw [e1]
      obtain ⟨r', x1, x2⟩ := ih (i + 1) (s_J r 21 (6 * e + i) (lN 0)) (by unfold Wr at *; rw [rRJ]; exact ur) (by omega) (by omega)
      exact ⟨r', x1, Z_s (by omega) rfl x2⟩
theorem ca_e {e b H : Nat} (hd : d < 12) (he : e < 12) (hde : d ≠ e) (hb : b ≤ 6) (hHb : H + b ≤ 8) (p : Nat → Int64) : ∀ F i (c : Hp), Wc cnt rf c → g_I c (57 + 4 * d) 7 = nI H → (∀ j, j < 8 → g_J c (57 + 4 * d + 2) j = p j) → i ≤ b → b + 1 - i ≤ F → ∃ c', fX4_callRoutine_b74 (kC cnt) (57 + 4 * d) (nI b) (57 + 4 * e) F (nI i) c = some (nI 0, c') ∧ Z_ (57 + 4 * e + 1) i b (fun j => p (H + j)) c c' := by
  intro F
  induction F with
  | zero => intro i c wc a7 hp h1 h2; omega
  | succ F ih =>
    intro i c wc a7 hp h1 h2
    by_cases h : i = b
    · subst h
      exact ⟨c, by simp (disch := omega) only [fX4_callRoutine_b74, ↓lt_e, ↓bs_e, ↓b2_e, ↓tsI, ↓tsJ, ↓tsD, lt_e, bs_e, b2_e, if_true, if_false, ↓reduceIte, Nat.reduceEqDiff, Nat.reduceLeDiff, Nat.reduceLT, Nat.reduceAdd, Nat.reduceMul, Nat.reduceSub, Nat.not_lt_zero, Nat.zero_le, Nat.le_refl, and_self, Nat.succ_ne_zero, Nat.add_sub_cancel, or_true, true_or, or_false, false_or, L0, L1, L2, L3, L4, L5, L6, L7, L8, L9, L10, L11, L12, L13, L14, L15, L16, L17, L18, L19, L20, L21, L22, L23, L24, L25, L26, L27, L28, L29, L30, L50, L60, L100, L144, L300, J0, J1, J2, J5, J6, J7, J8, J11, J12, J18, J29, J50, mO_e, oL_e, nI_mO, mO_nI, mO_lt, nlt_mO, mO_le, nle_mO, nI_add, nI_subn, nI_muln, e_lt, e_le, e_eq, q_lt, q_le, q_eq, i_l, mO_l, oL_lt, nlt_oL, nI_oL, lN_sub, lN_i, lN_add, rI_s, rI_a, rI_k, rJ_s, rJ_a, rJ_k, rD_s, rD_a, rD_k, rJI, rDI, rRI, rIJ, rDJ, rRJ, rID, rJD, rRD, rIR, rJR, rDR], Z_0 ..⟩
    · have h6 : ¬ b ≤ i := by omega
      have h7 : ¬ 6 ≤ i := by omega
      have tk := tk_e wc hd (H := H) (k := i) a7 (by omega)
      rw [hp (H + i) (by omega)] at tk
      have e1 : fX4_callRoutine_b74 (kC cnt) (57 + 4 * d) (nI b) (57 + 4 * e) (F + 1) (nI i) c = fX4_callRoutine_b74 (kC cnt) (57 + 4 * d) (nI b) (57 + 4 * e) F (nI (i + 1)) (s_J c (57 + 4 * e + 1) i (p (H + i))) := by
        simp (disch := omega) only [fX4_callRoutine_b74, fX1_setLocal, h6, h7, tk, Nat.not_lt_zero, ↓lt_e, ↓bs_e, ↓b2_e, ↓tsI, ↓tsJ, ↓tsD, lt_e, bs_e, b2_e, if_true, if_false, ↓reduceIte, Nat.reduceEqDiff, Nat.reduceLeDiff, Nat.reduceLT, Nat.reduceAdd, Nat.reduceMul, Nat.reduceSub, Nat.not_lt_zero, Nat.zero_le, Nat.le_refl, and_self, Nat.succ_ne_zero, Nat.add_sub_cancel, or_true, true_or, or_false, false_or, L0, L1, L2, L3, L4, L5, L6, L7, L8, L9, L10, L11, L12, L13, L14, L15, L16, L17, L18, L19, L20, L21, L22, L23, L24, L25, L26, L27, L28, L29, L30, L50, L60, L100, L144, L300, J0, J1, J2, J5, J6, J7, J8, J11, J12, J18, J29, J50, mO_e, oL_e, nI_mO, mO_nI, mO_lt, nlt_mO, mO_le, nle_mO, nI_add, nI_subn, nI_muln, e_lt, e_le, e_eq, q_lt, q_le, q_eq, i_l, mO_l, oL_lt, nlt_oL, nI_oL, lN_sub, lN_i, lN_add, rI_s, rI_a, rI_k, rJ_s, rJ_a, rJ_k, rD_s, rD_a, rD_k, rJI, rDI, rRI, rIJ, rDJ, rRJ, rID, rJD, rRD, rIR, rJR, rDR, ↓C0_t, kC_0, ↓C1_t, kC_1, ↓C2_t, kC_2, ↓C3_t, kC_3, ↓C3_a, ↓C3_w, ↓C4_t, kC_4, ↓C4_a, ↓C4_w, ↓C5_t, kC_5, ↓C5_a, ↓C5_w, ↓C6_t, kC_6, ↓C6_a, ↓C6_w, ↓C7_t, kC_7, ↓C7_a, ↓C7_w, ↓C8_t, kC_8, ↓C9_t, kC_9, ↓C9_a, ↓C9_w, ↓C10_t, kC_10, ↓C10_a, ↓C10_w, ↓C11_t, kC_11, ↓C11_a, ↓C11_w, ↓C12_t, kC_12, ↓C12_a, ↓C12_w, ↓C13_t, kC_13, ↓C13_a, ↓C13_w, ↓C14_t, kC_14, ↓C15_t, kC_15, ↓C15_a, ↓C16_t, kC_16, ↓C16_a, ↓C53_t, kC_53, ↓C53_a, ↓C54_t, kC_54, ↓C54_a, ↓C55_t, kC_55, ↓C55_a, ↓C55_w, ↓C56_t, kC_56, ↓tw_0_0 wc, ↓tw_1_0 wc, ↓tw_1_1 wc, ↓tw_1_2 wc, ↓tw_1_3 wc, ↓tw_1_5 wc, ↓tw_1_6 wc, ↓tw_1_7 wc, ↓tw_2_0 wc, ↓tw_2_1 wc, ↓tw_2_2 wc, ↓tw_2_3 wc, ↓tw_2_4 wc, ↓tw_8_0 wc, ↓tw_8_1 wc, ↓tw_8_2 wc, ↓tw_8_3 wc, ↓tw_8_4 wc, ↓tw_14_0 wc, ↓tw_14_1 wc, w_0_0 wc, w_1_0 wc, w_1_1 wc, w_1_2 wc, w_1_3 wc, w_1_5 wc, w_1_6 wc, w_1_7 wc, w_2_0 wc, w_2_1 wc, w_2_2 wc, w_2_3 wc, w_2_4 wc, w_8_0 wc, w_8_1 wc, w_8_2 wc, w_8_3 wc, w_8_4 wc, w_14_0 wc, w_14_1 wc, ↓F0_t, F0_k, ↓F1_t, F1_k, ↓F1_a, ↓F1_w, ↓F2_t, F2_k, ↓F2_a, ↓F2_w, ↓F3_t, F3_k, ↓tf_0 wc, ↓tf_1 wc, ↓tf_2 wc, wf_0 wc, wf_1 wc, wf_2 wc, ↓T0_t, T0_k, ↓T1_t, T1_k, ↓T1_a, ↓T1_w, ↓T2_t, T2_k, ↓T2_a, ↓T2_w, ↓T3_t, T3_k, ↓T3_a, ↓T3_w, ↓T4_t, T4_k, ↓T4_a, ↓T4_w, ↓T5_t, T5_k, ↓T5_a, ↓T5_w, ↓T6_t, T6_k, ↓T6_a, ↓T6_w, ↓T7_t, T7_k, ↓T7_a, ↓T7_w, ↓tt_1 wc, ↓tt_2 wc, ↓tt_3 wc, ↓tt_4 wc, ↓tt_5 wc, ↓tt_6 wc, ↓tt_7 wc, wt_1 wc, wt_2 wc, wt_3 wc, wt_4 wc, wt_5 wc, wt_6 wc, wt_7 wc]
      rw [e1]
      obtain ⟨c', x1, x2⟩ := ih (i + 1) (s_J c (57 + 4 * e + 1) i (p (H + i))) (by unfold Wc at *; rw [rRJ]; exact wc) (by rw [rIJ]; exact a7) (fun j hj => by rw [rJ_a _ _ _ _ (by omega)]; exact hp j hj) (by omega) (by omega)
      exact ⟨c', x1, Z_s (by omega) rfl x2⟩
theorem cr_e {e b H : Nat} (hd : d < 12) (he : e < 12) (hb : b ≤ 6) (hHb : H + b ≤ 8) (p : Nat → Int64) : ∀ F i (r : Hp), Wr r → g_I r 23 d = nI H → g_I r 0 23 = nI (e + 1) → (∀ j, j < 8 → g_J r 22 (8 * d + j) = p j) → i ≤ b → b + 1 - i ≤ F → ∃ r', fX10_ways_b131 kR 0 (nI b) (nI d) F (nI i) r = some r' ∧ Z_ 21 (6 * e + i) (6 * e + b) (fun j => p (H + (j - 6 * e))) r r' := by
  intro F
  induction F with
  | zero => intro i r ur r23 e23 hp h1 h2; omega
  | succ F ih =>
    intro i r ur r23 e23 hp h1 h2
    by_cases h : i = b
    · subst h
      exact ⟨r, by simp (disch := omega) only [fX10_ways_b131, ↓lt_e, ↓bs_e, ↓b2_e, ↓tsI, ↓tsJ, ↓tsD, lt_e, bs_e, b2_e, if_true, if_false, ↓reduceIte, Nat.reduceEqDiff, Nat.reduceLeDiff, Nat.reduceLT, Nat.reduceAdd, Nat.reduceMul, Nat.reduceSub, Nat.not_lt_zero, Nat.zero_le, Nat.le_refl, and_self, Nat.succ_ne_zero, Nat.add_sub_cancel, or_true, true_or, or_false, false_or, L0, L1, L2, L3, L4, L5, L6, L7, L8, L9, L10, L11, L12, L13, L14, L15, L16, L17, L18, L19, L20, L21, L22, L23, L24, L25, L26, L27, L28, L29, L30, L50, L60, L100, L144, L300, J0, J1, J2, J5, J6, J7, J8, J11, J12, J18, J29, J50, mO_e, oL_e, nI_mO, mO_nI, mO_lt, nlt_mO, mO_le, nle_mO, nI_add, nI_subn, nI_muln, e_lt, e_le, e_eq, q_lt, q_le, q_eq, i_l, mO_l, oL_lt, nlt_oL, nI_oL, lN_sub, lN_i, lN_add, rI_s, rI_a, rI_k, rJ_s, rJ_a, rJ_k, rD_s, rD_a, rD_k, rJI, rDI, rRI, rIJ, rDJ, rRJ, rID, rJD, rRD, rIR, rJR, rDR], Z_0 ..⟩
    · have h6 : ¬ b ≤ i := by omega
      have hpi := hp (H + i) (by omega)
      rw [← Nat.add_assoc] at hpi
      have x6 : 6 * (e + 1) - 6 + i = 6 * e + i := by omega
      have e1 : fX10_ways_b131 kR 0 (nI b) (nI d) (F + 1) (nI i) r = fX10_ways_b131 kR 0 (nI b) (nI d) F (nI (i + 1)) (s_J r 21 (6 * (e + 1) - 6 + i) (p (H + i))) := by
        simp (disch := omega) only [fX10_ways_b131, h6, r23, e23, hpi, ↓lt_e, ↓bs_e, ↓b2_e, ↓tsI, ↓tsJ, ↓tsD, lt_e, bs_e, b2_e, if_true, if_false, ↓reduceIte, Nat.reduceEqDiff, Nat.reduceLeDiff, Nat.reduceLT, Nat.reduceAdd, Nat.reduceMul, Nat.reduceSub, Nat.not_lt_zero, Nat.zero_le, Nat.le_refl, and_self, Nat.succ_ne_zero, Nat.add_sub_cancel, or_true, true_or, or_false, false_or, L0, L1, L2, L3, L4, L5, L6, L7, L8, L9, L10, L11, L12, L13, L14, L15, L16, L17, L18, L19, L20, L21, L22, L23, L24, L25, L26, L27, L28, L29, L30, L50, L60, L100, L144, L300, J0, J1, J2, J5, J6, J7, J8, J11, J12, J18, J29, J50, mO_e, oL_e, nI_mO, mO_nI, mO_lt, nlt_mO, mO_le, nle_mO, nI_add, nI_subn, nI_muln, e_lt, e_le, e_eq, q_lt, q_le, q_eq, i_l, mO_l, oL_lt, nlt_oL, nI_oL, lN_sub, lN_i, lN_add, rI_s, rI_a, rI_k, rJ_s, rJ_a, rJ_k, rD_s, rD_a, rD_k, rJI, rDI, rRI, rIJ, rDJ, rRJ, rID, rJD, rRD, rIR, rJR, rDR, ↓R0_t, kR_0, ↓R1_t, kR_1, ↓R1_a, ↓R1_w, ↓R2_t, kR_2, ↓R2_a, ↓R2_w, ↓R3_t, kR_3, ↓R3_a, ↓R3_w, ↓R4_t, kR_4, ↓R4_a, ↓R4_w, ↓R5_t, kR_5, ↓R5_a, ↓R5_w, ↓R6_t, kR_6, ↓R6_a, ↓R6_w, ↓R7_t, kR_7, ↓R7_a, ↓R7_w, ↓R8_t, kR_8, ↓R8_a, ↓R8_w, ↓R9_t, kR_9, ↓R9_a, ↓R9_w, ↓R10_t, kR_10, ↓R10_a, ↓R10_w, ↓R11_t, kR_11, ↓R11_a, ↓R11_w, ↓R12_t, kR_12, ↓R12_a, ↓R12_w, ↓R13_t, kR_13, ↓R13_a, ↓R13_w, ↓R14_t, kR_14, ↓R14_a, ↓R14_w, ↓R15_t, kR_15, ↓R15_a, ↓R15_w, ↓R16_t, kR_16, ↓R16_a, ↓R16_w, ↓R17_t, kR_17, ↓R17_a, ↓R17_w, ↓R18_t, kR_18, ↓R18_a, ↓R18_w, ↓R19_t, kR_19, ↓R19_a, ↓R19_w, ↓R20_t, kR_20, ↓R20_a, ↓R20_w, ↓R21_t, kR_21, ↓R21_a, ↓R21_w, ↓R22_t, kR_22, ↓R22_a, ↓R22_w, ↓R23_t, kR_23, ↓R23_a, ↓R23_w, ↓R24_t, kR_24, ↓R24_a, ↓R24_w, ↓R25_t, kR_25, ↓R25_a, ↓R25_w, ↓R26_t, kR_26, ↓R26_a, ↓R26_w, ↓R27_t, kR_27, ↓R27_a, ↓R27_w, ↓R28_t, kR_28, ↓R28_a, ↓R28_w, ↓R29_t, kR_29, ↓R29_a, ↓R29_w, ↓R30_t, kR_30, ↓R30_a, ↓R30_w, ↓R31_t, kR_31, ↓R31_a, ↓R31_w, ↓R32_t, kR_32, ↓R32_a, ↓R32_w, ↓R33_t, kR_33, ↓R33_a, ↓R33_w, ↓R34_t, kR_34, ↓R34_a, ↓R34_w, ↓R35_t, kR_35, ↓R35_a, ↓R35_w, ↓R36_t, kR_36, ↓R36_a, ↓R36_w, ↓R37_t, kR_37, ↓R37_a, ↓R37_w, ↓R38_t, kR_38, ↓R38_a, ↓R38_w, ↓R39_t, kR_39, ↓R39_a, ↓R39_w, ↓tu_0 ur, ↓tu_1 ur, ↓tu_2 ur, ↓tu_3 ur, ↓tu_4 ur, ↓tu_6 ur, ↓tu_7 ur, ↓tu_8 ur, ↓tu_9 ur, ↓tu_10 ur, ↓tu_15 ur, ↓tu_16 ur, ↓tu_17 ur, ↓tu_18 ur, ↓tu_19 ur, ↓tu_20 ur, ↓tu_21 ur, ↓tu_22 ur, ↓tu_24 ur, ↓tu_25 ur, ↓tu_26 ur, ↓tu_27 ur, ↓tu_28 ur, ↓tu_29 ur, ↓tu_30 ur, ↓tu_31 ur, ↓tu_32 ur, ↓tu_33 ur, ↓tu_40 ur, ↓tu_53 ur, ↓tu_54 ur, ↓tu_55 ur, ↓tu_56 ur, ↓tu_57 ur, ↓tu_58 ur, ↓tu_59 ur, ↓tu_60 ur, ↓tu_61 ur, ↓tu_62 ur, u_0 ur, u_1 ur, u_2 ur, u_3 ur, u_4 ur, u_6 ur, u_7 ur, u_8 ur, u_9 ur, u_10 ur, u_15 ur, u_16 ur, u_17 ur, u_18 ur, u_19 ur, u_20 ur, u_21 ur, u_22 ur, u_24 ur, u_25 ur, u_26 ur, u_27 ur, u_28 ur, u_29 ur, u_30 ur, u_31 ur, u_32 ur, u_33 ur, u_40 ur, u_53 ur, u_54 ur, u_55 ur, u_56 ur, u_57 ur, u_58 ur, u_59 ur, u_60 ur, u_61 ur, u_62 ur]
      rw [e1, x6]
      obtain ⟨r', x1, x2⟩ := ih (i + 1) (s_J r 21 (6 * e + i) (p (H + i))) (by unfold Wr at *; rw [rRJ]; exact ur) (by rw [rIJ]; exact r23) (by rw [rIJ]; exact e23) (fun j hj => by rw [rJ_a _ _ _ _ (by omega)]; exact hp j hj) (by omega) (by omega)
      exact ⟨r', x1, Z_s (by omega) (by rw [Nat.add_sub_cancel_left]) x2⟩
theorem Wc_s {e q : Nat} (he : e < 12) (wc : Wc cnt rf c) : Wc cnt (fun x => if x = e then some (105 + 8 * q) else rf x) (s_R c (57 + 4 * e) 3 (some (105 + 8 * q))) := by
  intro a k ha hk
  rw [sRR]
  by_cases h : a = 57 + 4 * e ∧ k = 3
  · rw [if_pos h]
    obtain ⟨rfl, rfl⟩ := h
    unfold wC
    rw [if_neg (by omega), if_pos (by omega), if_pos (by omega), if_neg (by omega), if_pos rfl]
    dsimp only
    rw [if_pos (by omega)]
  · rw [if_neg h, wc a k ha hk]
    unfold wC
    by_cases h1 : a < 57
    · rw [if_pos h1, if_pos h1]
    · rw [if_neg h1, if_neg h1]
      by_cases h2 : a < 105
      · rw [if_pos h2, if_pos h2]
        by_cases h3 : (a - 57) % 4 = 0
        · rw [if_pos h3, if_pos h3]
          by_cases h4 : k < 3
          · rw [if_pos h4, if_pos h4]
          · rw [if_neg h4, if_neg h4]
            by_cases h5 : k = 3
            · rw [if_pos h5, if_pos h5]
              dsimp only
              rw [if_neg (by omega)]
            · rw [if_neg h5, if_neg h5]
        · rw [if_neg h3, if_neg h3]
      · rw [if_neg h2, if_neg h2]
theorem RU_r {e q o : Nat} (he : e < 12) (ho : o ≤ e) (m : RU_ cnt K N rf s o c r) : RU_ cnt K N (fun x => if x = e then some (105 + 8 * q) else rf x) s o (s_R c (57 + 4 * e) 3 (some (105 + 8 * q))) r := by
  obtain ⟨⟨m1, m1'⟩, m2, m3, m4, m5, m6, m7, m8⟩ := m
  refine ⟨⟨Wc_s he m1, m1'⟩, m2, m3, m4, m5, m6, fun x hx => ?_, m8⟩
  have l : LO_ o c (s_R c (57 + 4 * e) 3 (some (105 + 8 * q))) r r := ⟨fun a _ _ => ⟨by rw [rIR], by rw [rJR]⟩, fun e he => ⟨rfl, rfl, rfl, rfl, rfl, rfl, rfl, rfl⟩, fun j hj => rfl, rfl, rfl⟩
  exact LO_RF l (fun x hx => if_neg (by omega)) m7 x hx
theorem RU_push {c' r' : Hp} (m : RU_ cnt K N rf s (d + 1) c r) (nx : g_I c (57 + 4 * d) 6 = g_I r 20 d + nI 1) (hd : d + 1 < 12) (f : FC_ c c') (g : FR_ r r') (lo : LO_ (d + 1) c c' r r') (ks : KS_ c c' r r') (pi : PI_ c' r')
    (k14 : g_I c' 1 14 = g_I r' 0 49) (k15 : g_I c' 1 15 = g_I r' 0 50) (k16 : g_I c' 1 16 = g_I r' 0 51) (k17 : g_J c' 1 17 = g_J c 1 17 ∧ g_J r' 0 42 = g_J r 0 42)
    (k10 : g_I c' 1 10 = g_I c 1 10 ∧ g_I r' 0 38 = g_I r 0 38) (kf : g_I c' 1 13 = g_I c 1 13 ∧ g_I r' 0 48 = g_I r 0 48) (ke : g_I r' 0 43 = g_I r 0 43 ∧ g_J r' 0 44 = g_J r 0 44 ∧ g_I r' 0 45 = g_I r 0 45 ∧ g_I r' 0 46 = g_I r 0 46)
    (k8 : g_I c' 1 8 = nI (d + 2) ∧ g_I r' 0 23 = nI (d + 2)) (top : RF_ cnt rf (d + 1) c' r') : RU_ cnt K N rf s (d + 2) c' r' := by
  obtain ⟨m1, m2, m3, m4, m5, m6, m7, m8⟩ := m
  refine ⟨GG_f m1 f g, CM_c m2 ks pi k14 k15 k16 ?_, ?_, ?_, ?_, ⟨by omega, k8.1, k8.2⟩, ?_, ?_⟩
  · rw [k17.1, k17.2]; exact m2.2.2.2.2.2
  · unfold EN_ at *
    rw [ke.1, ke.2.1, ke.2.2.1, ke.2.2.2]; exact m3
  · rw [k10.1, k10.2]; exact m4
  · rw [kf.1, kf.2]; exact m5
  · intro e he
    by_cases h : e = d + 1
    · subst h; exact top
    · exact LO_RF lo (fun _ _ => rfl) m7 e (by omega)
  · intro e he
    rw [(lo.1 (57 + 4 * e) (by omega) (by omega)).1, (lo.2.1 e (by omega)).2.1]
    by_cases h : e = d
    · subst h; exact nx
    · exact m8 e (by omega)
end PRi
