section PO
variable {cnt : Nat} {rf : Nat → Option Nat} {c r : Hp}
theorem m_rea7 (v : Int64) : rea (nI 7) v = FP.l2d v := by simp [rea, e_eq]
theorem m_rea6 (v : Int64) : rea (nI 6) v = FP.f2d (FP.l2f v) := by simp [rea]
/-- a number laid into an item -/
theorem m_put (m : Rm c r) {b i n : Nat} {v : Int64} {w : UInt64} {x : Int64} (hb : b < 12) (hi : i < 12) (el : g_I r 2 b = nI n) (hn : n < 8) (hx : x = thr (nI n) v) (h6 : n = 6 → w = FP.f2d (FP.l2f v)) (h7 : n = 7 → ∃ z, w = FP.l2d z ∧ x = FP.d2l w) :
    Rm (s_J c 7 (12 * b + i) x) (if n < 6 then s_J r 4 (12 * b + i) x else s_D r 5 (12 * b + i) w) := by
  unfold Rm at *
  have hit : ∀ w' re', (n < 6 → w' = fun j => if j = 12 * b + i then x else g_J r 4 j) → (¬ n < 6 → re' = fun j => if j = 12 * b + i then w else g_D r 5 j) → (n < 6 → re' = g_D r 5) → (¬ n < 6 → w' = g_J r 4) →
      RM (g_I c 3) (g_I c 4) (g_I c 5) (g_I c 6) (fun j => if j = 12 * b + i then x else g_J c 7 j) (g_I r 1) (g_I r 2) (g_I r 3) w' re' := by
    intro w' re' a1 a2 a3 a4
    refine ⟨m.eb, m.el, m.es, m.sb, m.sl, m.ss, m.uu, fun q hq j hj => ?_⟩
    have old := m.ii q hq j hj
    show Itm _ (if 12 * q + j = 12 * b + i then x else g_J c 7 (12 * q + j)) _ _
    by_cases e : 12 * q + j = 12 * b + i
    · have eq : q = b := by omega
      have ej : j = i := by omega
      subst eq; subst ej
      rw [if_pos rfl, el]
      refine ⟨fun n' h1 h2 => ?_, fun h => ?_, fun h => ?_⟩
      · rw [e_eq (by omega) (by omega)] at h2
        subst h2
        refine ⟨?_, ?_⟩
        · rw [a1 h1]; exact (if_pos rfl).symm
        · rw [hx, thr_idem (by omega)]
      · rw [e_eq (by omega) (by omega)] at h
        have hre : re' (12 * q + j) = w := by rw [a2 (by omega)]; exact if_pos rfl
        rw [hre]
        refine ⟨v, h6 h, ?_⟩
        rw [h6 h, hx, h, thr_6, m_rea6]
      · rw [e_eq (by omega) (by omega)] at h
        have hre : re' (12 * q + j) = w := by rw [a2 (by omega)]; exact if_pos rfl
        rw [hre]
        exact h7 h
    · rw [if_neg e]
      by_cases hlt : n < 6
      · rw [a3 hlt, a1 hlt]
        show Itm _ _ (if _ then x else _) _
        rw [if_neg e]; exact old
      · rw [a4 hlt, a2 hlt]
        show Itm _ _ _ (if _ then w else _)
        rw [if_neg e]; exact old
  split
  · rename_i h
    simp (disch := omega) only [rJ_f, rIJ, rDJ]
    exact hit _ _ (fun _ => rfl) (fun h' => absurd h h') (fun _ => rfl) (fun h' => absurd h h')
  · rename_i h
    simp (disch := omega) only [rJ_f, rIJ, rD_f, rID, rJD]
    exact hit _ _ (fun h' => absurd h' h) (fun _ => rfl) (fun h' => absurd h' h) (fun _ => rfl)
theorem m_storeC (wc : Wc cnt rf c) (m : Rm c r) {k b n i l : Nat} (hk : k < 12) (hb : b < 12) (hn : n ≤ 12) (hi : i < n) (eb : g_I r 1 k = nI b) (en : g_I r 3 b = nI n) (el : g_I r 2 b = nI l) (v : Int64) :
    fX5_store (kC cnt) 2 (nI k) (lN i) v c = some (s_J c 7 (12 * b + i) (thr (nI l) v)) := by
  have e1 := m.eb k hk
  have e2 := m.es b hb
  have e3 := m.el b hb
  simp (disch := omega) only [fX5_store, fX5_reach, e1, e2, e3, eb, en, el, hi, thr_e, Nat.not_lt_zero, lt_e, bs_e, b2_e, if_true, if_false, ↓reduceIte, Nat.reduceEqDiff, Nat.reduceLeDiff, Nat.reduceLT, Nat.reduceAdd, Nat.reduceMul, Nat.reduceSub, Nat.not_lt_zero, Nat.zero_le, Nat.le_refl, and_self, Nat.succ_ne_zero, Nat.add_sub_cancel, or_true, true_or, or_false, false_or, L0, L1, L2, L3, L4, L5, L6, L7, L8, L9, L10, L11, L12, L13, L14, L15, L16, L17, L18, L19, L20, L21, L22, L23, L24, L25, L26, L27, L28, L29, L30, L50, L60, L100, L144, L300, J0, J1, J2, J5, J6, J7, J8, J11, J12, J18, J29, J50, mO_e, oL_e, nI_mO, mO_nI, mO_lt, nlt_mO, mO_le, nle_mO, nI_add, nI_subn, nI_muln, e_lt, e_le, e_eq, q_lt, q_le, q_eq, i_l, mO_l, oL_lt, nlt_oL, nI_oL, lN_sub, lN_i, lN_add, rI_s, rI_a, rI_k, rJ_s, rJ_a, rJ_k, rD_s, rD_a, rD_k, rJI, rDI, rRI, rIJ, rDJ, rRJ, rID, rJD, rRD, rIR, rJR, rDR, C0_t, kC_0, C1_t, kC_1, C2_t, kC_2, C3_t, kC_3, C3_a, C3_w, C4_t, kC_4, C4_a, C4_w, C5_t, kC_5, C5_a, C5_w, C6_t, kC_6, C6_a, C6_w, C7_t, kC_7, C7_a, C7_w, C8_t, kC_8, C9_t, kC_9, C9_a, C9_w, C10_t, kC_10, C10_a, C10_w, C11_t, kC_11, C11_a, C11_w, C12_t, kC_12, C12_a, C12_w, C13_t, kC_13, C13_a, C13_w, C14_t, kC_14, C15_t, kC_15, C15_a, C16_t, kC_16, C16_a, C53_t, kC_53, C53_a, C54_t, kC_54, C54_a, C55_t, kC_55, C55_a, C55_w, C56_t, kC_56, w_0_0 wc, w_1_0 wc, w_1_1 wc, w_1_2 wc, w_1_3 wc, w_1_5 wc, w_1_6 wc, w_1_7 wc, w_2_0 wc, w_2_1 wc, w_2_2 wc, w_2_3 wc, w_2_4 wc, w_8_0 wc, w_8_1 wc, w_8_2 wc, w_8_3 wc, w_8_4 wc, w_14_0 wc, w_14_1 wc]
  rw [Nat.mul_comm b 12]
theorem m_valueC (wc : Wc cnt rf c) (m : Rm c r) {k b n i : Nat} (hk : k < 12) (hb : b < 12) (hn : n ≤ 12) (hi : i < n) (eb : g_I r 1 k = nI b) (en : g_I r 3 b = nI n) :
    fX5_valueAt (kC cnt) 2 (nI k) (lN i) c = some (g_J c 7 (12 * b + i)) := by
  have e1 := m.eb k hk
  have e2 := m.es b hb
  simp (disch := omega) only [fX5_valueAt, fX5_reach, e1, e2, eb, en, hi, Nat.not_lt_zero, lt_e, bs_e, b2_e, if_true, if_false, ↓reduceIte, Nat.reduceEqDiff, Nat.reduceLeDiff, Nat.reduceLT, Nat.reduceAdd, Nat.reduceMul, Nat.reduceSub, Nat.not_lt_zero, Nat.zero_le, Nat.le_refl, and_self, Nat.succ_ne_zero, Nat.add_sub_cancel, or_true, true_or, or_false, false_or, L0, L1, L2, L3, L4, L5, L6, L7, L8, L9, L10, L11, L12, L13, L14, L15, L16, L17, L18, L19, L20, L21, L22, L23, L24, L25, L26, L27, L28, L29, L30, L50, L60, L100, L144, L300, J0, J1, J2, J5, J6, J7, J8, J11, J12, J18, J29, J50, mO_e, oL_e, nI_mO, mO_nI, mO_lt, nlt_mO, mO_le, nle_mO, nI_add, nI_subn, nI_muln, e_lt, e_le, e_eq, q_lt, q_le, q_eq, i_l, mO_l, oL_lt, nlt_oL, nI_oL, lN_sub, lN_i, lN_add, rI_s, rI_a, rI_k, rJ_s, rJ_a, rJ_k, rD_s, rD_a, rD_k, rJI, rDI, rRI, rIJ, rDJ, rRJ, rID, rJD, rRD, rIR, rJR, rDR, C0_t, kC_0, C1_t, kC_1, C2_t, kC_2, C3_t, kC_3, C3_a, C3_w, C4_t, kC_4, C4_a, C4_w, C5_t, kC_5, C5_a, C5_w, C6_t, kC_6, C6_a, C6_w, C7_t, kC_7, C7_a, C7_w, C8_t, kC_8, C9_t, kC_9, C9_a, C9_w, C10_t, kC_10, C10_a, C10_w, C11_t, kC_11, C11_a, C11_w, C12_t, kC_12, C12_a, C12_w, C13_t, kC_13, C13_a, C13_w, C14_t, kC_14, C15_t, kC_15, C15_a, C16_t, kC_16, C16_a, C53_t, kC_53, C53_a, C54_t, kC_54, C54_a, C55_t, kC_55, C55_a, C55_w, C56_t, kC_56, w_0_0 wc, w_1_0 wc, w_1_1 wc, w_1_2 wc, w_1_3 wc, w_1_5 wc, w_1_6 wc, w_1_7 wc, w_2_0 wc, w_2_1 wc, w_2_2 wc, w_2_3 wc, w_2_4 wc, w_8_0 wc, w_8_1 wc, w_8_2 wc, w_8_3 wc, w_8_4 wc, w_14_0 wc, w_14_1 wc]
  rw [Nat.mul_comm b 12]
theorem m_layR (ur : Wr r) {b i l : Nat} (hb : b < 12) (hi : i < 12) (el : g_I r 2 b = nI l) (hl : l < 8) (v : Int64) :
    fX10_lay kR 0 (nI b) (nI i) v r = some (if l < 6 then s_J r 4 (12 * b + i) (thr (nI l) v) else s_D r 5 (12 * b + i) (rea (nI l) v)) := by
  by_cases h : l < 6
  · have h6 : ¬ 6 ≤ l := by omega
    simp (disch := omega) only [fX10_lay, el, h, h6, as_e, lt_e, bs_e, b2_e, if_true, if_false, ↓reduceIte, Nat.reduceEqDiff, Nat.reduceLeDiff, Nat.reduceLT, Nat.reduceAdd, Nat.reduceMul, Nat.reduceSub, Nat.not_lt_zero, Nat.zero_le, Nat.le_refl, and_self, Nat.succ_ne_zero, Nat.add_sub_cancel, or_true, true_or, or_false, false_or, L0, L1, L2, L3, L4, L5, L6, L7, L8, L9, L10, L11, L12, L13, L14, L15, L16, L17, L18, L19, L20, L21, L22, L23, L24, L25, L26, L27, L28, L29, L30, L50, L60, L100, L144, L300, J0, J1, J2, J5, J6, J7, J8, J11, J12, J18, J29, J50, mO_e, oL_e, nI_mO, mO_nI, mO_lt, nlt_mO, mO_le, nle_mO, nI_add, nI_subn, nI_muln, e_lt, e_le, e_eq, q_lt, q_le, q_eq, i_l, mO_l, oL_lt, nlt_oL, nI_oL, lN_sub, lN_i, lN_add, rI_s, rI_a, rI_k, rJ_s, rJ_a, rJ_k, rD_s, rD_a, rD_k, rJI, rDI, rRI, rIJ, rDJ, rRJ, rID, rJD, rRD, rIR, rJR, rDR, R0_t, kR_0, R1_t, kR_1, R1_a, R1_w, R2_t, kR_2, R2_a, R2_w, R3_t, kR_3, R3_a, R3_w, R4_t, kR_4, R4_a, R4_w, R5_t, kR_5, R5_a, R5_w, R6_t, kR_6, R6_a, R6_w, R7_t, kR_7, R7_a, R7_w, R8_t, kR_8, R8_a, R8_w, R9_t, kR_9, R9_a, R9_w, R10_t, kR_10, R10_a, R10_w, R11_t, kR_11, R11_a, R11_w, R12_t, kR_12, R12_a, R12_w, R13_t, kR_13, R13_a, R13_w, R14_t, kR_14, R14_a, R14_w, R15_t, kR_15, R15_a, R15_w, R16_t, kR_16, R16_a, R16_w, R17_t, kR_17, R17_a, R17_w, R18_t, kR_18, R18_a, R18_w, R19_t, kR_19, R19_a, R19_w, R20_t, kR_20, R20_a, R20_w, R21_t, kR_21, R21_a, R21_w, R22_t, kR_22, R22_a, R22_w, R23_t, kR_23, R23_a, R23_w, R24_t, kR_24, R24_a, R24_w, R25_t, kR_25, R25_a, R25_w, R26_t, kR_26, R26_a, R26_w, R27_t, kR_27, R27_a, R27_w, R28_t, kR_28, R28_a, R28_w, R29_t, kR_29, R29_a, R29_w, R30_t, kR_30, R30_a, R30_w, R31_t, kR_31, R31_a, R31_w, R32_t, kR_32, R32_a, R32_w, R33_t, kR_33, R33_a, R33_w, R34_t, kR_34, R34_a, R34_w, R35_t, kR_35, R35_a, R35_w, R36_t, kR_36, R36_a, R36_w, R37_t, kR_37, R37_a, R37_w, R38_t, kR_38, R38_a, R38_w, R39_t, kR_39, R39_a, R39_w, u_0 ur, u_1 ur, u_2 ur, u_3 ur, u_4 ur, u_6 ur, u_7 ur, u_8 ur, u_9 ur, u_10 ur, u_15 ur, u_16 ur, u_17 ur, u_18 ur, u_19 ur, u_20 ur, u_21 ur, u_22 ur, u_24 ur, u_25 ur, u_26 ur, u_27 ur, u_28 ur, u_29 ur, u_30 ur, u_31 ur, u_32 ur, u_33 ur, u_40 ur, u_53 ur, u_54 ur, u_55 ur, u_56 ur, u_57 ur, u_58 ur, u_59 ur, u_60 ur, u_61 ur, u_62 ur]
  · have h6 : 6 ≤ l := by omega
    simp (disch := omega) only [fX10_lay, el, h, h6, asReal_e, lt_e, bs_e, b2_e, if_true, if_false, ↓reduceIte, Nat.reduceEqDiff, Nat.reduceLeDiff, Nat.reduceLT, Nat.reduceAdd, Nat.reduceMul, Nat.reduceSub, Nat.not_lt_zero, Nat.zero_le, Nat.le_refl, and_self, Nat.succ_ne_zero, Nat.add_sub_cancel, or_true, true_or, or_false, false_or, L0, L1, L2, L3, L4, L5, L6, L7, L8, L9, L10, L11, L12, L13, L14, L15, L16, L17, L18, L19, L20, L21, L22, L23, L24, L25, L26, L27, L28, L29, L30, L50, L60, L100, L144, L300, J0, J1, J2, J5, J6, J7, J8, J11, J12, J18, J29, J50, mO_e, oL_e, nI_mO, mO_nI, mO_lt, nlt_mO, mO_le, nle_mO, nI_add, nI_subn, nI_muln, e_lt, e_le, e_eq, q_lt, q_le, q_eq, i_l, mO_l, oL_lt, nlt_oL, nI_oL, lN_sub, lN_i, lN_add, rI_s, rI_a, rI_k, rJ_s, rJ_a, rJ_k, rD_s, rD_a, rD_k, rJI, rDI, rRI, rIJ, rDJ, rRJ, rID, rJD, rRD, rIR, rJR, rDR, R0_t, kR_0, R1_t, kR_1, R1_a, R1_w, R2_t, kR_2, R2_a, R2_w, R3_t, kR_3, R3_a, R3_w, R4_t, kR_4, R4_a, R4_w, R5_t, kR_5, R5_a, R5_w, R6_t, kR_6, R6_a, R6_w, R7_t, kR_7, R7_a, R7_w, R8_t, kR_8, R8_a, R8_w, R9_t, kR_9, R9_a, R9_w, R10_t, kR_10, R10_a, R10_w, R11_t, kR_11, R11_a, R11_w, R12_t, kR_12, R12_a, R12_w, R13_t, kR_13, R13_a, R13_w, R14_t, kR_14, R14_a, R14_w, R15_t, kR_15, R15_a, R15_w, R16_t, kR_16, R16_a, R16_w, R17_t, kR_17, R17_a, R17_w, R18_t, kR_18, R18_a, R18_w, R19_t, kR_19, R19_a, R19_w, R20_t, kR_20, R20_a, R20_w, R21_t, kR_21, R21_a, R21_w, R22_t, kR_22, R22_a, R22_w, R23_t, kR_23, R23_a, R23_w, R24_t, kR_24, R24_a, R24_w, R25_t, kR_25, R25_a, R25_w, R26_t, kR_26, R26_a, R26_w, R27_t, kR_27, R27_a, R27_w, R28_t, kR_28, R28_a, R28_w, R29_t, kR_29, R29_a, R29_w, R30_t, kR_30, R30_a, R30_w, R31_t, kR_31, R31_a, R31_w, R32_t, kR_32, R32_a, R32_w, R33_t, kR_33, R33_a, R33_w, R34_t, kR_34, R34_a, R34_w, R35_t, kR_35, R35_a, R35_w, R36_t, kR_36, R36_a, R36_w, R37_t, kR_37, R37_a, R37_w, R38_t, kR_38, R38_a, R38_w, R39_t, kR_39, R39_a, R39_w, u_0 ur, u_1 ur, u_2 ur, u_3 ur, u_4 ur, u_6 ur, u_7 ur, u_8 ur, u_9 ur, u_10 ur, u_15 ur, u_16 ur, u_17 ur, u_18 ur, u_19 ur, u_20 ur, u_21 ur, u_22 ur, u_24 ur, u_25 ur, u_26 ur, u_27 ur, u_28 ur, u_29 ur, u_30 ur, u_31 ur, u_32 ur, u_33 ur, u_40 ur, u_53 ur, u_54 ur, u_55 ur, u_56 ur, u_57 ur, u_58 ur, u_59 ur, u_60 ur, u_61 ur, u_62 ur]
/-- put and lay -/
theorem m_store (wc : Wc cnt rf c) (ur : Wr r) (m : Rm c r) {k b n i : Nat} (hk : k < 12) (hb : b < 12) (hn : n ≤ 12) (hi : i < n) (eb : g_I r 1 k = nI b) (en : g_I r 3 b = nI n) (v : Int64) :
    ∃ c' r', fX5_store (kC cnt) 2 (nI k) (lN i) v c = some c' ∧ fX10_lay kR 0 (nI b) (nI i) v r = some r' ∧ Fr 3 7 c c' ∧ Fr 1 5 r r' ∧ Rm c' r' := by
  obtain ⟨l, hl, el⟩ := m.sl b hb
  refine ⟨_, _, m_storeC wc m hk hb hn hi eb en el v, m_layR ur hb (by omega) el hl v, Fr_j (Fr_r ..) (by omega), ?_, ?_⟩
  · split
    · exact Fr_j (Fr_r ..) (by omega)
    · exact Fr_d (Fr_r ..) (by omega)
  · refine m_put m hb (by omega) el hl rfl (fun h => ?_) (fun h => ?_)
    · subst h; exact m_rea6 v
    · subst h; exact ⟨v, m_rea7 v, thr_7 v⟩
theorem m_valueR (ur : Wr r) (m : Rm c r) {b i : Nat} (hb : b < 12) (hi : i < 12) :
    fX10_valueAt kR 0 (nI b) (nI i) r = some (g_J c 7 (12 * b + i)) := by
  obtain ⟨l, hl, el⟩ := m.sl b hb
  have hit := m.ii b hb i hi
  by_cases h : l < 6
  · have h6 : ¬ 6 ≤ l := by omega
    rw [(hit.1 l h el).1]
    simp (disch := omega) only [fX10_valueAt, el, h6, lt_e, bs_e, b2_e, if_true, if_false, ↓reduceIte, Nat.reduceEqDiff, Nat.reduceLeDiff, Nat.reduceLT, Nat.reduceAdd, Nat.reduceMul, Nat.reduceSub, Nat.not_lt_zero, Nat.zero_le, Nat.le_refl, and_self, Nat.succ_ne_zero, Nat.add_sub_cancel, or_true, true_or, or_false, false_or, L0, L1, L2, L3, L4, L5, L6, L7, L8, L9, L10, L11, L12, L13, L14, L15, L16, L17, L18, L19, L20, L21, L22, L23, L24, L25, L26, L27, L28, L29, L30, L50, L60, L100, L144, L300, J0, J1, J2, J5, J6, J7, J8, J11, J12, J18, J29, J50, mO_e, oL_e, nI_mO, mO_nI, mO_lt, nlt_mO, mO_le, nle_mO, nI_add, nI_subn, nI_muln, e_lt, e_le, e_eq, q_lt, q_le, q_eq, i_l, mO_l, oL_lt, nlt_oL, nI_oL, lN_sub, lN_i, lN_add, rI_s, rI_a, rI_k, rJ_s, rJ_a, rJ_k, rD_s, rD_a, rD_k, rJI, rDI, rRI, rIJ, rDJ, rRJ, rID, rJD, rRD, rIR, rJR, rDR, R0_t, kR_0, R1_t, kR_1, R1_a, R1_w, R2_t, kR_2, R2_a, R2_w, R3_t, kR_3, R3_a, R3_w, R4_t, kR_4, R4_a, R4_w, R5_t, kR_5, R5_a, R5_w, R6_t, kR_6, R6_a, R6_w, R7_t, kR_7, R7_a, R7_w, R8_t, kR_8, R8_a, R8_w, R9_t, kR_9, R9_a, R9_w, R10_t, kR_10, R10_a, R10_w, R11_t, kR_11, R11_a, R11_w, R12_t, kR_12, R12_a, R12_w, R13_t, kR_13, R13_a, R13_w, R14_t, kR_14, R14_a, R14_w, R15_t, kR_15, R15_a, R15_w, R16_t, kR_16, R16_a, R16_w, R17_t, kR_17, R17_a, R17_w, R18_t, kR_18, R18_a, R18_w, R19_t, kR_19, R19_a, R19_w, R20_t, kR_20, R20_a, R20_w, R21_t, kR_21, R21_a, R21_w, R22_t, kR_22, R22_a, R22_w, R23_t, kR_23, R23_a, R23_w, R24_t, kR_24, R24_a, R24_w, R25_t, kR_25, R25_a, R25_w, R26_t, kR_26, R26_a, R26_w, R27_t, kR_27, R27_a, R27_w, R28_t, kR_28, R28_a, R28_w, R29_t, kR_29, R29_a, R29_w, R30_t, kR_30, R30_a, R30_w, R31_t, kR_31, R31_a, R31_w, R32_t, kR_32, R32_a, R32_w, R33_t, kR_33, R33_a, R33_w, R34_t, kR_34, R34_a, R34_w, R35_t, kR_35, R35_a, R35_w, R36_t, kR_36, R36_a, R36_w, R37_t, kR_37, R37_a, R37_w, R38_t, kR_38, R38_a, R38_w, R39_t, kR_39, R39_a, R39_w, u_0 ur, u_1 ur, u_2 ur, u_3 ur, u_4 ur, u_6 ur, u_7 ur, u_8 ur, u_9 ur, u_10 ur, u_15 ur, u_16 ur, u_17 ur, u_18 ur, u_19 ur, u_20 ur, u_21 ur, u_22 ur, u_24 ur, u_25 ur, u_26 ur, u_27 ur, u_28 ur, u_29 ur, u_30 ur, u_31 ur, u_32 ur, u_33 ur, u_40 ur, u_53 ur, u_54 ur, u_55 ur, u_56 ur, u_57 ur, u_58 ur, u_59 ur, u_60 ur, u_61 ur, u_62 ur]
  · have h6 : 6 ≤ l := by omega
    have hx : g_J c 7 (12 * b + i) = FP.d2l (g_D r 5 (12 * b + i)) := by
      rcases (show l = 6 ∨ l = 7 by omega) with e | e
      · obtain ⟨v, _, h2⟩ := hit.2.1 (by rw [el, e]); exact h2
      · obtain ⟨v, _, h2⟩ := hit.2.2 (by rw [el, e]); exact h2
    rw [hx]
    simp (disch := omega) only [fX10_valueAt, el, h6, lt_e, bs_e, b2_e, if_true, if_false, ↓reduceIte, Nat.reduceEqDiff, Nat.reduceLeDiff, Nat.reduceLT, Nat.reduceAdd, Nat.reduceMul, Nat.reduceSub, Nat.not_lt_zero, Nat.zero_le, Nat.le_refl, and_self, Nat.succ_ne_zero, Nat.add_sub_cancel, or_true, true_or, or_false, false_or, L0, L1, L2, L3, L4, L5, L6, L7, L8, L9, L10, L11, L12, L13, L14, L15, L16, L17, L18, L19, L20, L21, L22, L23, L24, L25, L26, L27, L28, L29, L30, L50, L60, L100, L144, L300, J0, J1, J2, J5, J6, J7, J8, J11, J12, J18, J29, J50, mO_e, oL_e, nI_mO, mO_nI, mO_lt, nlt_mO, mO_le, nle_mO, nI_add, nI_subn, nI_muln, e_lt, e_le, e_eq, q_lt, q_le, q_eq, i_l, mO_l, oL_lt, nlt_oL, nI_oL, lN_sub, lN_i, lN_add, rI_s, rI_a, rI_k, rJ_s, rJ_a, rJ_k, rD_s, rD_a, rD_k, rJI, rDI, rRI, rIJ, rDJ, rRJ, rID, rJD, rRD, rIR, rJR, rDR, R0_t, kR_0, R1_t, kR_1, R1_a, R1_w, R2_t, kR_2, R2_a, R2_w, R3_t, kR_3, R3_a, R3_w, R4_t, kR_4, R4_a, R4_w, R5_t, kR_5, R5_a, R5_w, R6_t, kR_6, R6_a, R6_w, R7_t, kR_7, R7_a, R7_w, R8_t, kR_8, R8_a, R8_w, R9_t, kR_9, R9_a, R9_w, R10_t, kR_10, R10_a, R10_w, R11_t, kR_11, R11_a, R11_w, R12_t, kR_12, R12_a, R12_w, R13_t, kR_13, R13_a, R13_w, R14_t, kR_14, R14_a, R14_w, R15_t, kR_15, R15_a, R15_w, R16_t, kR_16, R16_a, R16_w, R17_t, kR_17, R17_a, R17_w, R18_t, kR_18, R18_a, R18_w, R19_t, kR_19, R19_a, R19_w, R20_t, kR_20, R20_a, R20_w, R21_t, kR_21, R21_a, R21_w, R22_t, kR_22, R22_a, R22_w, R23_t, kR_23, R23_a, R23_w, R24_t, kR_24, R24_a, R24_w, R25_t, kR_25, R25_a, R25_w, R26_t, kR_26, R26_a, R26_w, R27_t, kR_27, R27_a, R27_w, R28_t, kR_28, R28_a, R28_w, R29_t, kR_29, R29_a, R29_w, R30_t, kR_30, R30_a, R30_w, R31_t, kR_31, R31_a, R31_w, R32_t, kR_32, R32_a, R32_w, R33_t, kR_33, R33_a, R33_w, R34_t, kR_34, R34_a, R34_w, R35_t, kR_35, R35_a, R35_w, R36_t, kR_36, R36_a, R36_w, R37_t, kR_37, R37_a, R37_w, R38_t, kR_38, R38_a, R38_w, R39_t, kR_39, R39_a, R39_w, u_0 ur, u_1 ur, u_2 ur, u_3 ur, u_4 ur, u_6 ur, u_7 ur, u_8 ur, u_9 ur, u_10 ur, u_15 ur, u_16 ur, u_17 ur, u_18 ur, u_19 ur, u_20 ur, u_21 ur, u_22 ur, u_24 ur, u_25 ur, u_26 ur, u_27 ur, u_28 ur, u_29 ur, u_30 ur, u_31 ur, u_32 ur, u_33 ur, u_40 ur, u_53 ur, u_54 ur, u_55 ur, u_56 ur, u_57 ur, u_58 ur, u_59 ur, u_60 ur, u_61 ur, u_62 ur]
/-- goesInto, on lanes -/
theorem m_goes (κ : Kd) (h h' : Hp) {a b : Nat} (ha : a < 8) (hb : b < 8) : ∃ x, x < 2 ∧ fX3_goesInto κ (nI a) (nI b) h = some (nI x) ∧ fX10_goesInto kR (nI a) (nI b) h' = some (nI x) ∧
    (x = 1 → (a = 1 ∧ (b = 2 ∨ b = 4 ∨ b = 5)) ∨ (a = 2 ∧ (b = 4 ∨ b = 5)) ∨ (a = 3 ∧ (b = 4 ∨ b = 5)) ∨ (a = 4 ∧ b = 5) ∨ (1 ≤ a ∧ a < 6 ∧ 5 < b) ∨ (a = 6 ∧ b = 7)) := by
  have hA : a = 0 ∨ a = 1 ∨ a = 2 ∨ a = 3 ∨ a = 4 ∨ a = 5 ∨ a = 6 ∨ a = 7 := by omega
  have hB : b = 0 ∨ b = 1 ∨ b = 2 ∨ b = 3 ∨ b = 4 ∨ b = 5 ∨ b = 6 ∨ b = 7 := by omega
  rcases hA with rfl | rfl | rfl | rfl | rfl | rfl | rfl | rfl <;> rcases hB with rfl | rfl | rfl | rfl | rfl | rfl | rfl | rfl <;>
    first
      | exact ⟨0, by omega, rfl, rfl, fun h => absurd h (by omega)⟩
      | exact ⟨1, by omega, rfl, rfl, fun _ => by omega⟩
/-- an item asked for as something of a lane -/
theorem m_asked (ur : Wr r) (m : Rm c r) {b i a l : Nat} (hb : b < 12) (hi : i < 12) (el : g_I r 2 b = nI a) (ha : a < 8) (hl : l < 8)
    (ok : a = l ∨ (a = 1 ∧ (l = 2 ∨ l = 4 ∨ l = 5)) ∨ (a = 2 ∧ (l = 4 ∨ l = 5)) ∨ (a = 3 ∧ (l = 4 ∨ l = 5)) ∨ (a = 4 ∧ l = 5) ∨ (1 ≤ a ∧ a < 6 ∧ 5 < l) ∨ (a = 6 ∧ l = 7)) :
    fX10_asked kR 0 (nI b) (nI i) (nI l) r = some (thr (nI l) (g_J c 7 (12 * b + i))) := by
  have hit := m.ii b hb i hi
  have hv := m_valueR ur m hb hi
  by_cases h : a < 6
  · have h6 : ¬ 6 ≤ a := by omega
    by_cases h5 : l ≤ 5
    · simp (disch := omega) only [fX10_asked, el, h6, h5, hv, lt_e, bs_e, b2_e, if_true, if_false, ↓reduceIte, Nat.reduceEqDiff, Nat.reduceLeDiff, Nat.reduceLT, Nat.reduceAdd, Nat.reduceMul, Nat.reduceSub, Nat.not_lt_zero, Nat.zero_le, Nat.le_refl, and_self, Nat.succ_ne_zero, Nat.add_sub_cancel, or_true, true_or, or_false, false_or, L0, L1, L2, L3, L4, L5, L6, L7, L8, L9, L10, L11, L12, L13, L14, L15, L16, L17, L18, L19, L20, L21, L22, L23, L24, L25, L26, L27, L28, L29, L30, L50, L60, L100, L144, L300, J0, J1, J2, J5, J6, J7, J8, J11, J12, J18, J29, J50, mO_e, oL_e, nI_mO, mO_nI, mO_lt, nlt_mO, mO_le, nle_mO, nI_add, nI_subn, nI_muln, e_lt, e_le, e_eq, q_lt, q_le, q_eq, i_l, mO_l, oL_lt, nlt_oL, nI_oL, lN_sub, lN_i, lN_add, rI_s, rI_a, rI_k, rJ_s, rJ_a, rJ_k, rD_s, rD_a, rD_k, rJI, rDI, rRI, rIJ, rDJ, rRJ, rID, rJD, rRD, rIR, rJR, rDR, R0_t, kR_0, R1_t, kR_1, R1_a, R1_w, R2_t, kR_2, R2_a, R2_w, R3_t, kR_3, R3_a, R3_w, R4_t, kR_4, R4_a, R4_w, R5_t, kR_5, R5_a, R5_w, R6_t, kR_6, R6_a, R6_w, R7_t, kR_7, R7_a, R7_w, R8_t, kR_8, R8_a, R8_w, R9_t, kR_9, R9_a, R9_w, R10_t, kR_10, R10_a, R10_w, R11_t, kR_11, R11_a, R11_w, R12_t, kR_12, R12_a, R12_w, R13_t, kR_13, R13_a, R13_w, R14_t, kR_14, R14_a, R14_w, R15_t, kR_15, R15_a, R15_w, R16_t, kR_16, R16_a, R16_w, R17_t, kR_17, R17_a, R17_w, R18_t, kR_18, R18_a, R18_w, R19_t, kR_19, R19_a, R19_w, R20_t, kR_20, R20_a, R20_w, R21_t, kR_21, R21_a, R21_w, R22_t, kR_22, R22_a, R22_w, R23_t, kR_23, R23_a, R23_w, R24_t, kR_24, R24_a, R24_w, R25_t, kR_25, R25_a, R25_w, R26_t, kR_26, R26_a, R26_w, R27_t, kR_27, R27_a, R27_w, R28_t, kR_28, R28_a, R28_w, R29_t, kR_29, R29_a, R29_w, R30_t, kR_30, R30_a, R30_w, R31_t, kR_31, R31_a, R31_w, R32_t, kR_32, R32_a, R32_w, R33_t, kR_33, R33_a, R33_w, R34_t, kR_34, R34_a, R34_w, R35_t, kR_35, R35_a, R35_w, R36_t, kR_36, R36_a, R36_w, R37_t, kR_37, R37_a, R37_w, R38_t, kR_38, R38_a, R38_w, R39_t, kR_39, R39_a, R39_w, u_0 ur, u_1 ur, u_2 ur, u_3 ur, u_4 ur, u_6 ur, u_7 ur, u_8 ur, u_9 ur, u_10 ur, u_15 ur, u_16 ur, u_17 ur, u_18 ur, u_19 ur, u_20 ur, u_21 ur, u_22 ur, u_24 ur, u_25 ur, u_26 ur, u_27 ur, u_28 ur, u_29 ur, u_30 ur, u_31 ur, u_32 ur, u_33 ur, u_40 ur, u_53 ur, u_54 ur, u_55 ur, u_56 ur, u_57 ur, u_58 ur, u_59 ur, u_60 ur, u_61 ur, u_62 ur]
      have h2 := (hit.1 a h el).2
      rw [el] at h2
      rcases ok with e | e | e | e | e | e | e
      · subst e; rw [h2]
      · rw [thr_wide (Or.inl e) _ h2]
      · rw [thr_wide (Or.inr (Or.inl e)) _ h2]
      · rw [thr_wide (Or.inr (Or.inr (Or.inl e))) _ h2]
      · rw [thr_wide (Or.inr (Or.inr (Or.inr e))) _ h2]
      · omega
      · omega
    · simp (disch := omega) only [fX10_asked, el, h6, h5, asReal_e, lt_e, bs_e, b2_e, if_true, if_false, ↓reduceIte, Nat.reduceEqDiff, Nat.reduceLeDiff, Nat.reduceLT, Nat.reduceAdd, Nat.reduceMul, Nat.reduceSub, Nat.not_lt_zero, Nat.zero_le, Nat.le_refl, and_self, Nat.succ_ne_zero, Nat.add_sub_cancel, or_true, true_or, or_false, false_or, L0, L1, L2, L3, L4, L5, L6, L7, L8, L9, L10, L11, L12, L13, L14, L15, L16, L17, L18, L19, L20, L21, L22, L23, L24, L25, L26, L27, L28, L29, L30, L50, L60, L100, L144, L300, J0, J1, J2, J5, J6, J7, J8, J11, J12, J18, J29, J50, mO_e, oL_e, nI_mO, mO_nI, mO_lt, nlt_mO, mO_le, nle_mO, nI_add, nI_subn, nI_muln, e_lt, e_le, e_eq, q_lt, q_le, q_eq, i_l, mO_l, oL_lt, nlt_oL, nI_oL, lN_sub, lN_i, lN_add, rI_s, rI_a, rI_k, rJ_s, rJ_a, rJ_k, rD_s, rD_a, rD_k, rJI, rDI, rRI, rIJ, rDJ, rRJ, rID, rJD, rRD, rIR, rJR, rDR, R0_t, kR_0, R1_t, kR_1, R1_a, R1_w, R2_t, kR_2, R2_a, R2_w, R3_t, kR_3, R3_a, R3_w, R4_t, kR_4, R4_a, R4_w, R5_t, kR_5, R5_a, R5_w, R6_t, kR_6, R6_a, R6_w, R7_t, kR_7, R7_a, R7_w, R8_t, kR_8, R8_a, R8_w, R9_t, kR_9, R9_a, R9_w, R10_t, kR_10, R10_a, R10_w, R11_t, kR_11, R11_a, R11_w, R12_t, kR_12, R12_a, R12_w, R13_t, kR_13, R13_a, R13_w, R14_t, kR_14, R14_a, R14_w, R15_t, kR_15, R15_a, R15_w, R16_t, kR_16, R16_a, R16_w, R17_t, kR_17, R17_a, R17_w, R18_t, kR_18, R18_a, R18_w, R19_t, kR_19, R19_a, R19_w, R20_t, kR_20, R20_a, R20_w, R21_t, kR_21, R21_a, R21_w, R22_t, kR_22, R22_a, R22_w, R23_t, kR_23, R23_a, R23_w, R24_t, kR_24, R24_a, R24_w, R25_t, kR_25, R25_a, R25_w, R26_t, kR_26, R26_a, R26_w, R27_t, kR_27, R27_a, R27_w, R28_t, kR_28, R28_a, R28_w, R29_t, kR_29, R29_a, R29_w, R30_t, kR_30, R30_a, R30_w, R31_t, kR_31, R31_a, R31_w, R32_t, kR_32, R32_a, R32_w, R33_t, kR_33, R33_a, R33_w, R34_t, kR_34, R34_a, R34_w, R35_t, kR_35, R35_a, R35_w, R36_t, kR_36, R36_a, R36_w, R37_t, kR_37, R37_a, R37_w, R38_t, kR_38, R38_a, R38_w, R39_t, kR_39, R39_a, R39_w, u_0 ur, u_1 ur, u_2 ur, u_3 ur, u_4 ur, u_6 ur, u_7 ur, u_8 ur, u_9 ur, u_10 ur, u_15 ur, u_16 ur, u_17 ur, u_18 ur, u_19 ur, u_20 ur, u_21 ur, u_22 ur, u_24 ur, u_25 ur, u_26 ur, u_27 ur, u_28 ur, u_29 ur, u_30 ur, u_31 ur, u_32 ur, u_33 ur, u_40 ur, u_53 ur, u_54 ur, u_55 ur, u_56 ur, u_57 ur, u_58 ur, u_59 ur, u_60 ur, u_61 ur, u_62 ur]
      rw [(hit.1 a h el).1]
      rcases (show l = 6 ∨ l = 7 by omega) with e | e
      · subst e; rw [thr_6]
      · subst e; rw [thr_7]
  · have h6 : 6 ≤ a := by omega
    simp (disch := omega) only [fX10_asked, el, h6, hv, lt_e, bs_e, b2_e, if_true, if_false, ↓reduceIte, Nat.reduceEqDiff, Nat.reduceLeDiff, Nat.reduceLT, Nat.reduceAdd, Nat.reduceMul, Nat.reduceSub, Nat.not_lt_zero, Nat.zero_le, Nat.le_refl, and_self, Nat.succ_ne_zero, Nat.add_sub_cancel, or_true, true_or, or_false, false_or, L0, L1, L2, L3, L4, L5, L6, L7, L8, L9, L10, L11, L12, L13, L14, L15, L16, L17, L18, L19, L20, L21, L22, L23, L24, L25, L26, L27, L28, L29, L30, L50, L60, L100, L144, L300, J0, J1, J2, J5, J6, J7, J8, J11, J12, J18, J29, J50, mO_e, oL_e, nI_mO, mO_nI, mO_lt, nlt_mO, mO_le, nle_mO, nI_add, nI_subn, nI_muln, e_lt, e_le, e_eq, q_lt, q_le, q_eq, i_l, mO_l, oL_lt, nlt_oL, nI_oL, lN_sub, lN_i, lN_add, rI_s, rI_a, rI_k, rJ_s, rJ_a, rJ_k, rD_s, rD_a, rD_k, rJI, rDI, rRI, rIJ, rDJ, rRJ, rID, rJD, rRD, rIR, rJR, rDR, R0_t, kR_0, R1_t, kR_1, R1_a, R1_w, R2_t, kR_2, R2_a, R2_w, R3_t, kR_3, R3_a, R3_w, R4_t, kR_4, R4_a, R4_w, R5_t, kR_5, R5_a, R5_w, R6_t, kR_6, R6_a, R6_w, R7_t, kR_7, R7_a, R7_w, R8_t, kR_8, R8_a, R8_w, R9_t, kR_9, R9_a, R9_w, R10_t, kR_10, R10_a, R10_w, R11_t, kR_11, R11_a, R11_w, R12_t, kR_12, R12_a, R12_w, R13_t, kR_13, R13_a, R13_w, R14_t, kR_14, R14_a, R14_w, R15_t, kR_15, R15_a, R15_w, R16_t, kR_16, R16_a, R16_w, R17_t, kR_17, R17_a, R17_w, R18_t, kR_18, R18_a, R18_w, R19_t, kR_19, R19_a, R19_w, R20_t, kR_20, R20_a, R20_w, R21_t, kR_21, R21_a, R21_w, R22_t, kR_22, R22_a, R22_w, R23_t, kR_23, R23_a, R23_w, R24_t, kR_24, R24_a, R24_w, R25_t, kR_25, R25_a, R25_w, R26_t, kR_26, R26_a, R26_w, R27_t, kR_27, R27_a, R27_w, R28_t, kR_28, R28_a, R28_w, R29_t, kR_29, R29_a, R29_w, R30_t, kR_30, R30_a, R30_w, R31_t, kR_31, R31_a, R31_w, R32_t, kR_32, R32_a, R32_w, R33_t, kR_33, R33_a, R33_w, R34_t, kR_34, R34_a, R34_w, R35_t, kR_35, R35_a, R35_w, R36_t, kR_36, R36_a, R36_w, R37_t, kR_37, R37_a, R37_w, R38_t, kR_38, R38_a, R38_w, R39_t, kR_39, R39_a, R39_w, u_0 ur, u_1 ur, u_2 ur, u_3 ur, u_4 ur, u_6 ur, u_7 ur, u_8 ur, u_9 ur, u_10 ur, u_15 ur, u_16 ur, u_17 ur, u_18 ur, u_19 ur, u_20 ur, u_21 ur, u_22 ur, u_24 ur, u_25 ur, u_26 ur, u_27 ur, u_28 ur, u_29 ur, u_30 ur, u_31 ur, u_32 ur, u_33 ur, u_40 ur, u_53 ur, u_54 ur, u_55 ur, u_56 ur, u_57 ur, u_58 ur, u_59 ur, u_60 ur, u_61 ur, u_62 ur]
    have hcase : (a = 6 ∧ l = 6) ∨ (a = 6 ∧ l = 7) ∨ (a = 7 ∧ l = 7) := by omega
    rcases hcase with ⟨e1, e2⟩ | ⟨e1, e2⟩ | ⟨e1, e2⟩
    · subst e1; subst e2
      obtain ⟨v, h1, h2⟩ := hit.2.1 el
      rw [h2, h1, thr_6, m_rea6]
      exact congrArg some (congrArg (fun z => FP.d2l (FP.f2d z)) (fp_2 v)).symm
    · subst e1; subst e2
      obtain ⟨v, h1, h2⟩ := hit.2.1 el
      rw [h2, h1, thr_7, m_rea7]
      exact congrArg some (congrArg FP.d2l (fp_3 v)).symm
    · subst e1; subst e2
      obtain ⟨v, h1, h2⟩ := hit.2.2 el
      rw [h2, h1, thr_7, m_rea7]
      exact congrArg some (congrArg FP.d2l (fp_1 v)).symm
/-- an item put as something of a lane -/
theorem m_isPut (wc : Wc cnt rf c) (ur : Wr r) (m : Rm c r) {k b n i a l : Nat} (hk : k < 12) (hb : b < 12) (hn : n ≤ 12) (hi : i < n) (eb : g_I r 1 k = nI b) (en : g_I r 3 b = nI n) (el : g_I r 2 b = nI a) (ha : a < 8) (hl : l < 8)
    (ok : l = a ∨ (l = 1 ∧ (a = 2 ∨ a = 4 ∨ a = 5)) ∨ (l = 2 ∧ (a = 4 ∨ a = 5)) ∨ (l = 3 ∧ (a = 4 ∨ a = 5)) ∨ (l = 4 ∧ a = 5) ∨ (1 ≤ l ∧ l < 6 ∧ 5 < a) ∨ (l = 6 ∧ a = 7)) (v : Int64) :
    ∃ c' r', fX5_store (kC cnt) 2 (nI k) (lN i) (thr (nI l) v) c = some c' ∧ fX10_isPut kR 0 (nI b) (nI i) (nI l) v r = some r' ∧ Fr 3 7 c c' ∧ Fr 1 5 r r' ∧ Rm c' r' := by
  by_cases h : l < 6
  · obtain ⟨c', r', h1, h2, h3⟩ := m_store wc ur m hk hb hn hi eb en (thr (nI l) v)
    refine ⟨c', r', h1, ?_, h3⟩
    have h6 : ¬ 6 ≤ l := by omega
    simp (disch := omega) only [fX10_isPut, h6, as_e, h2, lt_e, bs_e, b2_e, if_true, if_false, ↓reduceIte, Nat.reduceEqDiff, Nat.reduceLeDiff, Nat.reduceLT, Nat.reduceAdd, Nat.reduceMul, Nat.reduceSub, Nat.not_lt_zero, Nat.zero_le, Nat.le_refl, and_self, Nat.succ_ne_zero, Nat.add_sub_cancel, or_true, true_or, or_false, false_or, L0, L1, L2, L3, L4, L5, L6, L7, L8, L9, L10, L11, L12, L13, L14, L15, L16, L17, L18, L19, L20, L21, L22, L23, L24, L25, L26, L27, L28, L29, L30, L50, L60, L100, L144, L300, J0, J1, J2, J5, J6, J7, J8, J11, J12, J18, J29, J50, mO_e, oL_e, nI_mO, mO_nI, mO_lt, nlt_mO, mO_le, nle_mO, nI_add, nI_subn, nI_muln, e_lt, e_le, e_eq, q_lt, q_le, q_eq, i_l, mO_l, oL_lt, nlt_oL, nI_oL, lN_sub, lN_i, lN_add, rI_s, rI_a, rI_k, rJ_s, rJ_a, rJ_k, rD_s, rD_a, rD_k, rJI, rDI, rRI, rIJ, rDJ, rRJ, rID, rJD, rRD, rIR, rJR, rDR, R0_t, kR_0, R1_t, kR_1, R1_a, R1_w, R2_t, kR_2, R2_a, R2_w, R3_t, kR_3, R3_a, R3_w, R4_t, kR_4, R4_a, R4_w, R5_t, kR_5, R5_a, R5_w, R6_t, kR_6, R6_a, R6_w, R7_t, kR_7, R7_a, R7_w, R8_t, kR_8, R8_a, R8_w, R9_t, kR_9, R9_a, R9_w, R10_t, kR_10, R10_a, R10_w, R11_t, kR_11, R11_a, R11_w, R12_t, kR_12, R12_a, R12_w, R13_t, kR_13, R13_a, R13_w, R14_t, kR_14, R14_a, R14_w, R15_t, kR_15, R15_a, R15_w, R16_t, kR_16, R16_a, R16_w, R17_t, kR_17, R17_a, R17_w, R18_t, kR_18, R18_a, R18_w, R19_t, kR_19, R19_a, R19_w, R20_t, kR_20, R20_a, R20_w, R21_t, kR_21, R21_a, R21_w, R22_t, kR_22, R22_a, R22_w, R23_t, kR_23, R23_a, R23_w, R24_t, kR_24, R24_a, R24_w, R25_t, kR_25, R25_a, R25_w, R26_t, kR_26, R26_a, R26_w, R27_t, kR_27, R27_a, R27_w, R28_t, kR_28, R28_a, R28_w, R29_t, kR_29, R29_a, R29_w, R30_t, kR_30, R30_a, R30_w, R31_t, kR_31, R31_a, R31_w, R32_t, kR_32, R32_a, R32_w, R33_t, kR_33, R33_a, R33_w, R34_t, kR_34, R34_a, R34_w, R35_t, kR_35, R35_a, R35_w, R36_t, kR_36, R36_a, R36_w, R37_t, kR_37, R37_a, R37_w, R38_t, kR_38, R38_a, R38_w, R39_t, kR_39, R39_a, R39_w, u_0 ur, u_1 ur, u_2 ur, u_3 ur, u_4 ur, u_6 ur, u_7 ur, u_8 ur, u_9 ur, u_10 ur, u_15 ur, u_16 ur, u_17 ur, u_18 ur, u_19 ur, u_20 ur, u_21 ur, u_22 ur, u_24 ur, u_25 ur, u_26 ur, u_27 ur, u_28 ur, u_29 ur, u_30 ur, u_31 ur, u_32 ur, u_33 ur, u_40 ur, u_53 ur, u_54 ur, u_55 ur, u_56 ur, u_57 ur, u_58 ur, u_59 ur, u_60 ur, u_61 ur, u_62 ur]
  · have h6 : 6 ≤ l := by omega
    refine ⟨_, s_D r 5 (12 * b + i) (rea (nI l) v), m_storeC wc m hk hb hn hi eb en el _, ?_, Fr_j (Fr_r ..) (by omega), Fr_d (Fr_r ..) (by omega), ?_⟩
    · simp (disch := omega) only [fX10_isPut, h6, asReal_e, lt_e, bs_e, b2_e, if_true, if_false, ↓reduceIte, Nat.reduceEqDiff, Nat.reduceLeDiff, Nat.reduceLT, Nat.reduceAdd, Nat.reduceMul, Nat.reduceSub, Nat.not_lt_zero, Nat.zero_le, Nat.le_refl, and_self, Nat.succ_ne_zero, Nat.add_sub_cancel, or_true, true_or, or_false, false_or, L0, L1, L2, L3, L4, L5, L6, L7, L8, L9, L10, L11, L12, L13, L14, L15, L16, L17, L18, L19, L20, L21, L22, L23, L24, L25, L26, L27, L28, L29, L30, L50, L60, L100, L144, L300, J0, J1, J2, J5, J6, J7, J8, J11, J12, J18, J29, J50, mO_e, oL_e, nI_mO, mO_nI, mO_lt, nlt_mO, mO_le, nle_mO, nI_add, nI_subn, nI_muln, e_lt, e_le, e_eq, q_lt, q_le, q_eq, i_l, mO_l, oL_lt, nlt_oL, nI_oL, lN_sub, lN_i, lN_add, rI_s, rI_a, rI_k, rJ_s, rJ_a, rJ_k, rD_s, rD_a, rD_k, rJI, rDI, rRI, rIJ, rDJ, rRJ, rID, rJD, rRD, rIR, rJR, rDR, R0_t, kR_0, R1_t, kR_1, R1_a, R1_w, R2_t, kR_2, R2_a, R2_w, R3_t, kR_3, R3_a, R3_w, R4_t, kR_4, R4_a, R4_w, R5_t, kR_5, R5_a, R5_w, R6_t, kR_6, R6_a, R6_w, R7_t, kR_7, R7_a, R7_w, R8_t, kR_8, R8_a, R8_w, R9_t, kR_9, R9_a, R9_w, R10_t, kR_10, R10_a, R10_w, R11_t, kR_11, R11_a, R11_w, R12_t, kR_12, R12_a, R12_w, R13_t, kR_13, R13_a, R13_w, R14_t, kR_14, R14_a, R14_w, R15_t, kR_15, R15_a, R15_w, R16_t, kR_16, R16_a, R16_w, R17_t, kR_17, R17_a, R17_w, R18_t, kR_18, R18_a, R18_w, R19_t, kR_19, R19_a, R19_w, R20_t, kR_20, R20_a, R20_w, R21_t, kR_21, R21_a, R21_w, R22_t, kR_22, R22_a, R22_w, R23_t, kR_23, R23_a, R23_w, R24_t, kR_24, R24_a, R24_w, R25_t, kR_25, R25_a, R25_w, R26_t, kR_26, R26_a, R26_w, R27_t, kR_27, R27_a, R27_w, R28_t, kR_28, R28_a, R28_w, R29_t, kR_29, R29_a, R29_w, R30_t, kR_30, R30_a, R30_w, R31_t, kR_31, R31_a, R31_w, R32_t, kR_32, R32_a, R32_w, R33_t, kR_33, R33_a, R33_w, R34_t, kR_34, R34_a, R34_w, R35_t, kR_35, R35_a, R35_w, R36_t, kR_36, R36_a, R36_w, R37_t, kR_37, R37_a, R37_w, R38_t, kR_38, R38_a, R38_w, R39_t, kR_39, R39_a, R39_w, u_0 ur, u_1 ur, u_2 ur, u_3 ur, u_4 ur, u_6 ur, u_7 ur, u_8 ur, u_9 ur, u_10 ur, u_15 ur, u_16 ur, u_17 ur, u_18 ur, u_19 ur, u_20 ur, u_21 ur, u_22 ur, u_24 ur, u_25 ur, u_26 ur, u_27 ur, u_28 ur, u_29 ur, u_30 ur, u_31 ur, u_32 ur, u_33 ur, u_40 ur, u_53 ur, u_54 ur, u_55 ur, u_56 ur, u_57 ur, u_58 ur, u_59 ur, u_60 ur, u_61 ur, u_62 ur]
    · have hcase : (l = 6 ∧ a = 6) ∨ (l = 6 ∧ a = 7) ∨ (l = 7 ∧ a = 7) := by omega
      have ha6 : ¬ a < 6 := by omega
      rcases hcase with ⟨e1, e2⟩ | ⟨e1, e2⟩ | ⟨e1, e2⟩
      · subst e1; subst e2
        have := m_put (v := v) (w := rea (nI 6) v) (x := thr (nI 6) v) m hb (show i < 12 by omega) el (by omega) rfl (fun _ => m_rea6 v) (fun h => by omega)
        rw [if_neg ha6] at this
        rw [thr_idem (by omega)]; exact this
      · subst e1; subst e2
        have hx : thr (nI 7) (thr (nI 6) v) = FP.d2l (rea (nI 6) v) := by
          rw [thr_7, m_rea7, thr_6, m_rea6]
          exact congrArg FP.d2l (fp_3 v)
        have := m_put (v := thr (nI 6) v) (w := rea (nI 6) v) (x := thr (nI 7) (thr (nI 6) v)) m hb (show i < 12 by omega) el (by omega) rfl (fun h => by omega) (fun _ => ⟨thr (nI 6) v, by
          rw [thr_6, m_rea6]; exact (fp_3 v).symm, hx⟩)
        rw [if_neg ha6] at this
        exact this
      · subst e1; subst e2
        have := m_put (v := v) (w := rea (nI 7) v) (x := thr (nI 7) v) m hb (show i < 12 by omega) el (by omega) rfl (fun h => by omega) (fun _ => ⟨v, m_rea7 v, thr_7 v⟩)
        rw [if_neg ha6] at this
        rw [thr_idem (by omega)]; exact this
end PO
