section PKc
variable {cnt K N : Nat} {rf : Nat → Option Nat} {c r : Hp}
theorem k_bring (wc : Wc cnt rf c) (ur : Wr r) (mm : Rm c r) (mt : Rt N c r) (mk : Rk (K + 1) N c r) :
    ∃ c' r', fX2_bringBack (kC cnt) 14 2 8 c = some (nI 1, c') ∧ fX10_bringBack kR 0 r = some r' ∧ Rk K N c' r' ∧ Rm c' r' ∧ Rt N c' r' ∧ Fq 1 3 14 (fun _ => False) c c' ∧ Fq 0 1 10 (fun k => k = 52) r r' := by
  obtain ⟨k1, k2, k3, k4⟩ := mk
  obtain ⟨t1, t2, t3⟩ := mt
  have hN := t3.n12
  have hK : K < 3 := by omega
  obtain ⟨km, n, hn, n1, n2, n3, n4⟩ := k4 K (by omega)
  obtain ⟨r', h1, p1, p2, q1, q2, q3, q4, q5, q6, q7, q8, q9⟩ := bring_e (K := K) (n := n) hK (by omega) fu_ 0 (s_I r 0 52 (nI K)) ur (rI_s ..) (by rw [rI_a _ _ _ _ (by omega)]; exact n2) (by omega) (by unfold fu_; omega)
  have hcf := cfB (c := (s_I c 14 2 (nI K))) wc hK
  have hch := chB (c := (cp_J (cp_I (cp_I (cp_I (cp_I (s_I c 14 2 (nI K)) (17 + 12 * K + 1) 0 3 0 12) (17 + 12 * K + 2) 0 4 0 12) (17 + 12 * K + 3) 0 5 0 12) (17 + 12 * K + 4) 0 6 0 12) (17 + 12 * K + 5) 0 7 0 144)) (n := n) wc hK (by omega)
  have z1 : ∀ x, x ≠ 0 → g_I (s_I r 0 52 (nI K)) x = g_I r x := fun x hx => rI_a _ _ _ _ hx
  refine ⟨(cp_I (cp_I (cp_I (cp_I (cp_J (cp_I (cp_I (cp_I (cp_I (s_I c 14 2 (nI K)) (17 + 12 * K + 1) 0 3 0 12) (17 + 12 * K + 2) 0 4 0 12) (17 + 12 * K + 3) 0 5 0 12) (17 + 12 * K + 4) 0 6 0 12) (17 + 12 * K + 5) 0 7 0 144) (23 + 12 * K + 2) 0 10 0 n) (23 + 12 * K + 3) 0 11 0 n) (23 + 12 * K + 4) 0 12 0 n) (23 + 12 * K + 5) 0 13 0 (n * 4)), r', ?_, ?_, ?_, ?_, ⟨?_, ?_, ?_⟩, ?_, ?_⟩
  · simp (disch := omega) only [fX2_bringBack, k2, hcf, ↓lt_e, ↓bs_e, ↓b2_e, ↓tsI, ↓tsJ, ↓tsD, lt_e, bs_e, b2_e, if_true, if_false, ↓reduceIte, Nat.reduceEqDiff, Nat.reduceLeDiff, Nat.reduceLT, Nat.reduceAdd, Nat.reduceMul, Nat.reduceSub, Nat.not_lt_zero, Nat.zero_le, Nat.le_refl, and_self, Nat.succ_ne_zero, Nat.add_sub_cancel, or_true, true_or, or_false, false_or, L0, L1, L2, L3, L4, L5, L6, L7, L8, L9, L10, L11, L12, L13, L14, L15, L16, L17, L18, L19, L20, L21, L22, L23, L24, L25, L26, L27, L28, L29, L30, L50, L60, L100, L144, L300, J0, J1, J2, J5, J6, J7, J8, J11, J12, J18, J29, J50, mO_e, oL_e, nI_mO, mO_nI, mO_lt, nlt_mO, mO_le, nle_mO, nI_add, nI_subn, nI_muln, e_lt, e_le, e_eq, q_lt, q_le, q_eq, i_l, mO_l, oL_lt, nlt_oL, nI_oL, lN_sub, lN_i, lN_add, rI_s, rI_a, rI_k, rJ_s, rJ_a, rJ_k, rD_s, rD_a, rD_k, rJI, rDI, rRI, rIJ, rDJ, rRJ, rID, rJD, rRD, rIR, rJR, rDR, ↓C0_t, kC_0, ↓C1_t, kC_1, ↓C2_t, kC_2, ↓C3_t, kC_3, ↓C3_a, ↓C3_w, ↓C4_t, kC_4, ↓C4_a, ↓C4_w, ↓C5_t, kC_5, ↓C5_a, ↓C5_w, ↓C6_t, kC_6, ↓C6_a, ↓C6_w, ↓C7_t, kC_7, ↓C7_a, ↓C7_w, ↓C8_t, kC_8, ↓C9_t, kC_9, ↓C9_a, ↓C9_w, ↓C10_t, kC_10, ↓C10_a, ↓C10_w, ↓C11_t, kC_11, ↓C11_a, ↓C11_w, ↓C12_t, kC_12, ↓C12_a, ↓C12_w, ↓C13_t, kC_13, ↓C13_a, ↓C13_w, ↓C14_t, kC_14, ↓C15_t, kC_15, ↓C15_a, ↓C16_t, kC_16, ↓C16_a, ↓C53_t, kC_53, ↓C53_a, ↓C54_t, kC_54, ↓C54_a, ↓C55_t, kC_55, ↓C55_a, ↓C55_w, ↓C56_t, kC_56, ↓tw_0_0 wc, ↓tw_1_0 wc, ↓tw_1_1 wc, ↓tw_1_2 wc, ↓tw_1_3 wc, ↓tw_1_5 wc, ↓tw_1_6 wc, ↓tw_1_7 wc, ↓tw_2_0 wc, ↓tw_2_1 wc, ↓tw_2_2 wc, ↓tw_2_3 wc, ↓tw_2_4 wc, ↓tw_8_0 wc, ↓tw_8_1 wc, ↓tw_8_2 wc, ↓tw_8_3 wc, ↓tw_8_4 wc, ↓tw_14_0 wc, ↓tw_14_1 wc, w_0_0 wc, w_1_0 wc, w_1_1 wc, w_1_2 wc, w_1_3 wc, w_1_5 wc, w_1_6 wc, w_1_7 wc, w_2_0 wc, w_2_1 wc, w_2_2 wc, w_2_3 wc, w_2_4 wc, w_8_0 wc, w_8_1 wc, w_8_2 wc, w_8_3 wc, w_8_4 wc, w_14_0 wc, w_14_1 wc, ↓tcI, ↓tcJ, ↓cK1, ↓cB1, ↓cK2, ↓cB2, ↓cK3, ↓cB3, ↓cK4, ↓cB4, ↓cK5, ↓cB5, ↓cKh2, ↓cBh2, ↓cKh3, ↓cBh3, ↓cKh4, ↓cBh4, ↓cKh5, ↓cBh5, ↓tm_0 wc, ↓th_0 wc, ↓tm_1 wc, ↓th_1 wc, ↓tm_2 wc, ↓th_2 wc, ↓tm_3 wc, ↓th_3 wc, ↓tm_4 wc, ↓th_4 wc, ↓t15 wc, ↓t16 wc, M0_k, H0_k, rcJI, rcDI, rcRI, rcI_a, rcIJ, rcRJ, rcJ_a]
    simp (disch := omega) only [n1, hch, ↓lt_e, ↓bs_e, ↓b2_e, ↓tsI, ↓tsJ, ↓tsD, lt_e, bs_e, b2_e, if_true, if_false, ↓reduceIte, Nat.reduceEqDiff, Nat.reduceLeDiff, Nat.reduceLT, Nat.reduceAdd, Nat.reduceMul, Nat.reduceSub, Nat.not_lt_zero, Nat.zero_le, Nat.le_refl, and_self, Nat.succ_ne_zero, Nat.add_sub_cancel, or_true, true_or, or_false, false_or, L0, L1, L2, L3, L4, L5, L6, L7, L8, L9, L10, L11, L12, L13, L14, L15, L16, L17, L18, L19, L20, L21, L22, L23, L24, L25, L26, L27, L28, L29, L30, L50, L60, L100, L144, L300, J0, J1, J2, J5, J6, J7, J8, J11, J12, J18, J29, J50, mO_e, oL_e, nI_mO, mO_nI, mO_lt, nlt_mO, mO_le, nle_mO, nI_add, nI_subn, nI_muln, e_lt, e_le, e_eq, q_lt, q_le, q_eq, i_l, mO_l, oL_lt, nlt_oL, nI_oL, lN_sub, lN_i, lN_add, rI_s, rI_a, rI_k, rJ_s, rJ_a, rJ_k, rD_s, rD_a, rD_k, rJI, rDI, rRI, rIJ, rDJ, rRJ, rID, rJD, rRD, rIR, rJR, rDR, ↓C0_t, kC_0, ↓C1_t, kC_1, ↓C2_t, kC_2, ↓C3_t, kC_3, ↓C3_a, ↓C3_w, ↓C4_t, kC_4, ↓C4_a, ↓C4_w, ↓C5_t, kC_5, ↓C5_a, ↓C5_w, ↓C6_t, kC_6, ↓C6_a, ↓C6_w, ↓C7_t, kC_7, ↓C7_a, ↓C7_w, ↓C8_t, kC_8, ↓C9_t, kC_9, ↓C9_a, ↓C9_w, ↓C10_t, kC_10, ↓C10_a, ↓C10_w, ↓C11_t, kC_11, ↓C11_a, ↓C11_w, ↓C12_t, kC_12, ↓C12_a, ↓C12_w, ↓C13_t, kC_13, ↓C13_a, ↓C13_w, ↓C14_t, kC_14, ↓C15_t, kC_15, ↓C15_a, ↓C16_t, kC_16, ↓C16_a, ↓C53_t, kC_53, ↓C53_a, ↓C54_t, kC_54, ↓C54_a, ↓C55_t, kC_55, ↓C55_a, ↓C55_w, ↓C56_t, kC_56, ↓tw_0_0 wc, ↓tw_1_0 wc, ↓tw_1_1 wc, ↓tw_1_2 wc, ↓tw_1_3 wc, ↓tw_1_5 wc, ↓tw_1_6 wc, ↓tw_1_7 wc, ↓tw_2_0 wc, ↓tw_2_1 wc, ↓tw_2_2 wc, ↓tw_2_3 wc, ↓tw_2_4 wc, ↓tw_8_0 wc, ↓tw_8_1 wc, ↓tw_8_2 wc, ↓tw_8_3 wc, ↓tw_8_4 wc, ↓tw_14_0 wc, ↓tw_14_1 wc, w_0_0 wc, w_1_0 wc, w_1_1 wc, w_1_2 wc, w_1_3 wc, w_1_5 wc, w_1_6 wc, w_1_7 wc, w_2_0 wc, w_2_1 wc, w_2_2 wc, w_2_3 wc, w_2_4 wc, w_8_0 wc, w_8_1 wc, w_8_2 wc, w_8_3 wc, w_8_4 wc, w_14_0 wc, w_14_1 wc, ↓tcI, ↓tcJ, ↓cK1, ↓cB1, ↓cK2, ↓cB2, ↓cK3, ↓cB3, ↓cK4, ↓cB4, ↓cK5, ↓cB5, ↓cKh2, ↓cBh2, ↓cKh3, ↓cBh3, ↓cKh4, ↓cBh4, ↓cKh5, ↓cBh5, ↓tm_0 wc, ↓th_0 wc, ↓tm_1 wc, ↓th_1 wc, ↓tm_2 wc, ↓th_2 wc, ↓tm_3 wc, ↓th_3 wc, ↓tm_4 wc, ↓th_4 wc, ↓t15 wc, ↓t16 wc, M0_k, H0_k, rcJI, rcDI, rcRI, rcI_a, rcIJ, rcRJ, rcJ_a]
  · have e0 : g_I r 0 52 - (1 : Int32) = nI K := by rw [k3]; exact nI_pred K
    unfold fX10_bringBack lt_
    rw [if_pos (by rw [kR_0]), e0]
    exact h1
  · refine ⟨by omega, ?_, ?_, fun q hq => ?_⟩
    · simp (disch := omega) only [rcI_a, rcIJ, rI_s]
    · rw [(p2 0 (by omega)).1]; exact rI_s ..
    · have hc : ∀ a, 17 + 12 * q ≤ a → a < 29 + 12 * q → g_I (cp_I (cp_I (cp_I (cp_I (cp_J (cp_I (cp_I (cp_I (cp_I (s_I c 14 2 (nI K)) (17 + 12 * K + 1) 0 3 0 12) (17 + 12 * K + 2) 0 4 0 12) (17 + 12 * K + 3) 0 5 0 12) (17 + 12 * K + 4) 0 6 0 12) (17 + 12 * K + 5) 0 7 0 144) (23 + 12 * K + 2) 0 10 0 n) (23 + 12 * K + 3) 0 11 0 n) (23 + 12 * K + 4) 0 12 0 n) (23 + 12 * K + 5) 0 13 0 (n * 4)) a = g_I c a ∧ g_J (cp_I (cp_I (cp_I (cp_I (cp_J (cp_I (cp_I (cp_I (cp_I (s_I c 14 2 (nI K)) (17 + 12 * K + 1) 0 3 0 12) (17 + 12 * K + 2) 0 4 0 12) (17 + 12 * K + 3) 0 5 0 12) (17 + 12 * K + 4) 0 6 0 12) (17 + 12 * K + 5) 0 7 0 144) (23 + 12 * K + 2) 0 10 0 n) (23 + 12 * K + 3) 0 11 0 n) (23 + 12 * K + 4) 0 12 0 n) (23 + 12 * K + 5) 0 13 0 (n * 4)) a = g_J c a := by
        intro a h1 h2
        simp (disch := omega) only [rI_a, rI_f, rcI_a, rcI_f, rcIJ, rcJI, rJI, rcJ_a, rcJ_f, rIJ, and_self]
      have hrI : ∀ x, 10 < x → g_I r' x = g_I r x := fun x hx => by rw [(p2 x (by omega)).1, z1 x (by omega)]
      refine ⟨KM_c hc ?_ ?_ ?_ ?_ ?_ (k4 q (by omega)).1, KT_c (Nat.le_refl N) hN hc ?_ ?_ ?_ ?_ ?_ (k4 q (by omega)).2⟩
      · intro j hj; rw [hrI 30 (by omega)]
      · intro j hj; rw [hrI 31 (by omega)]
      · intro j hj; rw [hrI 32 (by omega)]
      · intro j hj; rw [(p2 33 (by omega)).2.1, rJI]
      · intro j hj; rw [(p2 34 (by omega)).2.2, rDI]
      · rw [hrI 35 (by omega)]
      · intro j hj; rw [hrI 36 (by omega)]
      · intro j hj; rw [hrI 37 (by omega)]
      · intro j hj; rw [hrI 38 (by omega)]
      · intro j hj; rw [hrI 39 (by omega)]
  · refine RM_c km ?_ ?_ ?_ ?_ ?_ ?_ ?_ ?_ ?_ ?_
    · intro j hj; simp (disch := omega) only [rI_a, rI_f, rcI_a, rcI_f, rcIJ, rcJI, rJI, rcJ_a, rcJ_f, rIJ, hj, if_true]
    · intro j hj; simp (disch := omega) only [rI_a, rI_f, rcI_a, rcI_f, rcIJ, rcJI, rJI, rcJ_a, rcJ_f, rIJ, hj, if_true]
    · intro j hj; simp (disch := omega) only [rI_a, rI_f, rcI_a, rcI_f, rcIJ, rcJI, rJI, rcJ_a, rcJ_f, rIJ, hj, if_true]
    · intro j hj; simp (disch := omega) only [rI_a, rI_f, rcI_a, rcI_f, rcIJ, rcJI, rJI, rcJ_a, rcJ_f, rIJ, hj, if_true]
    · intro j hj; simp (disch := omega) only [rI_a, rI_f, rcI_a, rcI_f, rcIJ, rcJI, rJI, rcJ_a, rcJ_f, rIJ, hj, if_true]
    · intro j hj; rw [q1, if_pos (by omega), z1 30 (by omega)]; simp only [Nat.sub_zero]
    · intro j hj; rw [q2, if_pos (by omega), z1 31 (by omega)]; simp only [Nat.sub_zero]
    · intro j hj; rw [q3, if_pos (by omega), z1 32 (by omega)]; simp only [Nat.sub_zero]
    · intro j hj; rw [q7, if_pos (by omega)]; simp only [Nat.sub_zero, rJI]
    · intro j hj; rw [q8, if_pos (by omega)]; simp only [Nat.sub_zero, rDI]
  · simp (disch := omega) only [rI_a, rI_f, rcI_a, rcI_f, rcIJ, rcJI, rJI, rcJ_a, rcJ_f, rIJ]; exact t1
  · rw [(p2 0 (by omega)).1, rI_k _ _ _ _ (by omega)]; exact t2
  · refine ⟨hN, ?_, ?_, ?_, ?_, ?_, ?_, ?_, ?_⟩
    · intro t ht
      rw [(p2 6 (by omega)).1, z1 6 (by omega)]
      simp (disch := omega) only [rI_a, rI_f, rcI_a, rcI_f, rcIJ, rcJI, rJI, rcJ_a, rcJ_f, rIJ]
      exact t3.ek t ht
    · intro t ht
      rw [(p2 6 (by omega)).1, z1 6 (by omega)]
      exact t3.sk t ht
    · intro t ht
      rw [q4, z1 36 (by omega), z1 7 (by omega)]
      simp (disch := omega) only [rI_a, rI_f, rcI_a, rcI_f, rcIJ, rcJI, rJI, rcJ_a, rcJ_f, rIJ]
      by_cases e : t < n
      · rw [if_pos e, if_pos (by omega)]; simp only [Nat.sub_zero]; exact (n3 t e).1
      · rw [if_neg e, if_neg (by omega)]; exact t3.ec t ht
    · intro t ht
      rw [q5, z1 37 (by omega), z1 8 (by omega)]
      simp (disch := omega) only [rI_a, rI_f, rcI_a, rcI_f, rcIJ, rcJI, rJI, rcJ_a, rcJ_f, rIJ]
      by_cases e : t < n
      · rw [if_pos e, if_pos (by omega)]; simp only [Nat.sub_zero]; exact (n3 t e).2.1
      · rw [if_neg e, if_neg (by omega)]; exact t3.em t ht
    · intro t ht
      rw [q6, z1 38 (by omega), z1 9 (by omega)]
      simp (disch := omega) only [rI_a, rI_f, rcI_a, rcI_f, rcIJ, rcJI, rJI, rcJ_a, rcJ_f, rIJ]
      by_cases e : t < n
      · rw [if_pos e, if_pos (by omega)]; simp only [Nat.sub_zero]; exact (n3 t e).2.2
      · rw [if_neg e, if_neg (by omega)]; exact t3.eo t ht
    · intro t ht i hi
      rw [q9, z1 39 (by omega), z1 10 (by omega)]
      simp (disch := omega) only [rI_a, rI_f, rcI_a, rcI_f, rcIJ, rcJI, rJI, rcJ_a, rcJ_f, rIJ]
      by_cases e : t < n
      · rw [if_pos (by omega), if_pos (by omega)]; simp only [Nat.sub_zero]; exact n4 t e i hi
      · rw [if_neg (by omega), if_neg (by omega)]; exact t3.es t ht i hi
    · intro t h1 h2
      have e : ¬ t < n := by omega
      simp (disch := omega) only [rI_a, rI_f, rcI_a, rcI_f, rcIJ, rcJI, rJI, rcJ_a, rcJ_f, rIJ, e, if_false]
      exact t3.zc t h1 h2
    · intro t h1 h2 i hi
      have e : ¬ 4 * t + i < n * 4 := by omega
      simp (disch := omega) only [rI_a, rI_f, rcI_a, rcI_f, rcIJ, rcJI, rJI, rcJ_a, rcJ_f, rIJ, e, if_false]
      exact t3.zs t h1 h2 i hi
  · refine ⟨rfl, fun a ha h0 => ?_, fun k _ => ?_⟩
    · simp (disch := omega) only [rI_a, rI_f, rcI_a, rcI_f, rcIJ, rcJI, rJI, rcJ_a, rcJ_f, rIJ, true_and]; rfl
    · simp (disch := omega) only [rI_a, rI_f, rcI_a, rcI_f, rcIJ, rcJI, rJI, rcJ_a, rcJ_f, rIJ, and_self]
  · refine ⟨p1, fun a ha h0 => ⟨?_, (p2 a (by omega)).2.1, (p2 a (by omega)).2.2⟩, fun k hk => ⟨?_, ?_⟩⟩
    · rw [(p2 a (by omega)).1, z1 a h0]
    · rw [(p2 0 (by omega)).1, rI_k _ _ _ _ hk]
    · rw [(p2 0 (by omega)).2.1, rJI]
theorem P_forget (wc : Wc cnt rf c) (ur : Wr r) (mk : Rk K N c r) : fX9_forget (kC cnt) 0 c = some (nI K, s_I c 14 2 (nI 0)) ∧ fX10_forget kR 0 r = some (nI K, s_I r 0 52 (nI 0)) ∧ Rk 0 N (s_I c 14 2 (nI 0)) (s_I r 0 52 (nI 0)) := by
  obtain ⟨k1, k2, k3, k4⟩ := mk
  refine ⟨?_, ?_, by omega, rI_s .., rI_s .., fun q hq => by omega⟩
  · simp (disch := omega) only [fX9_forget, fX2_clear, k2, ↓lt_e, ↓bs_e, ↓b2_e, ↓tsI, ↓tsJ, ↓tsD, lt_e, bs_e, b2_e, if_true, if_false, ↓reduceIte, Nat.reduceEqDiff, Nat.reduceLeDiff, Nat.reduceLT, Nat.reduceAdd, Nat.reduceMul, Nat.reduceSub, Nat.not_lt_zero, Nat.zero_le, Nat.le_refl, and_self, Nat.succ_ne_zero, Nat.add_sub_cancel, or_true, true_or, or_false, false_or, L0, L1, L2, L3, L4, L5, L6, L7, L8, L9, L10, L11, L12, L13, L14, L15, L16, L17, L18, L19, L20, L21, L22, L23, L24, L25, L26, L27, L28, L29, L30, L50, L60, L100, L144, L300, J0, J1, J2, J5, J6, J7, J8, J11, J12, J18, J29, J50, mO_e, oL_e, nI_mO, mO_nI, mO_lt, nlt_mO, mO_le, nle_mO, nI_add, nI_subn, nI_muln, e_lt, e_le, e_eq, q_lt, q_le, q_eq, i_l, mO_l, oL_lt, nlt_oL, nI_oL, lN_sub, lN_i, lN_add, rI_s, rI_a, rI_k, rJ_s, rJ_a, rJ_k, rD_s, rD_a, rD_k, rJI, rDI, rRI, rIJ, rDJ, rRJ, rID, rJD, rRD, rIR, rJR, rDR, ↓C0_t, kC_0, ↓C1_t, kC_1, ↓C2_t, kC_2, ↓C3_t, kC_3, ↓C3_a, ↓C3_w, ↓C4_t, kC_4, ↓C4_a, ↓C4_w, ↓C5_t, kC_5, ↓C5_a, ↓C5_w, ↓C6_t, kC_6, ↓C6_a, ↓C6_w, ↓C7_t, kC_7, ↓C7_a, ↓C7_w, ↓C8_t, kC_8, ↓C9_t, kC_9, ↓C9_a, ↓C9_w, ↓C10_t, kC_10, ↓C10_a, ↓C10_w, ↓C11_t, kC_11, ↓C11_a, ↓C11_w, ↓C12_t, kC_12, ↓C12_a, ↓C12_w, ↓C13_t, kC_13, ↓C13_a, ↓C13_w, ↓C14_t, kC_14, ↓C15_t, kC_15, ↓C15_a, ↓C16_t, kC_16, ↓C16_a, ↓C53_t, kC_53, ↓C53_a, ↓C54_t, kC_54, ↓C54_a, ↓C55_t, kC_55, ↓C55_a, ↓C55_w, ↓C56_t, kC_56, ↓tw_0_0 wc, ↓tw_1_0 wc, ↓tw_1_1 wc, ↓tw_1_2 wc, ↓tw_1_3 wc, ↓tw_1_5 wc, ↓tw_1_6 wc, ↓tw_1_7 wc, ↓tw_2_0 wc, ↓tw_2_1 wc, ↓tw_2_2 wc, ↓tw_2_3 wc, ↓tw_2_4 wc, ↓tw_8_0 wc, ↓tw_8_1 wc, ↓tw_8_2 wc, ↓tw_8_3 wc, ↓tw_8_4 wc, ↓tw_14_0 wc, ↓tw_14_1 wc, w_0_0 wc, w_1_0 wc, w_1_1 wc, w_1_2 wc, w_1_3 wc, w_1_5 wc, w_1_6 wc, w_1_7 wc, w_2_0 wc, w_2_1 wc, w_2_2 wc, w_2_3 wc, w_2_4 wc, w_8_0 wc, w_8_1 wc, w_8_2 wc, w_8_3 wc, w_8_4 wc, w_14_0 wc, w_14_1 wc]
  · simp (disch := omega) only [fX10_forget, k3, ↓lt_e, ↓bs_e, ↓b2_e, ↓tsI, ↓tsJ, ↓tsD, lt_e, bs_e, b2_e, if_true, if_false, ↓reduceIte, Nat.reduceEqDiff, Nat.reduceLeDiff, Nat.reduceLT, Nat.reduceAdd, Nat.reduceMul, Nat.reduceSub, Nat.not_lt_zero, Nat.zero_le, Nat.le_refl, and_self, Nat.succ_ne_zero, Nat.add_sub_cancel, or_true, true_or, or_false, false_or, L0, L1, L2, L3, L4, L5, L6, L7, L8, L9, L10, L11, L12, L13, L14, L15, L16, L17, L18, L19, L20, L21, L22, L23, L24, L25, L26, L27, L28, L29, L30, L50, L60, L100, L144, L300, J0, J1, J2, J5, J6, J7, J8, J11, J12, J18, J29, J50, mO_e, oL_e, nI_mO, mO_nI, mO_lt, nlt_mO, mO_le, nle_mO, nI_add, nI_subn, nI_muln, e_lt, e_le, e_eq, q_lt, q_le, q_eq, i_l, mO_l, oL_lt, nlt_oL, nI_oL, lN_sub, lN_i, lN_add, rI_s, rI_a, rI_k, rJ_s, rJ_a, rJ_k, rD_s, rD_a, rD_k, rJI, rDI, rRI, rIJ, rDJ, rRJ, rID, rJD, rRD, rIR, rJR, rDR, ↓R0_t, kR_0, ↓R1_t, kR_1, ↓R1_a, ↓R1_w, ↓R2_t, kR_2, ↓R2_a, ↓R2_w, ↓R3_t, kR_3, ↓R3_a, ↓R3_w, ↓R4_t, kR_4, ↓R4_a, ↓R4_w, ↓R5_t, kR_5, ↓R5_a, ↓R5_w, ↓R6_t, kR_6, ↓R6_a, ↓R6_w, ↓R7_t, kR_7, ↓R7_a, ↓R7_w, ↓R8_t, kR_8, ↓R8_a, ↓R8_w, ↓R9_t, kR_9, ↓R9_a, ↓R9_w, ↓R10_t, kR_10, ↓R10_a, ↓R10_w, ↓R11_t, kR_11, ↓R11_a, ↓R11_w, ↓R12_t, kR_12, ↓R12_a, ↓R12_w, ↓R13_t, kR_13, ↓R13_a, ↓R13_w, ↓R14_t, kR_14, ↓R14_a, ↓R14_w, ↓R15_t, kR_15, ↓R15_a, ↓R15_w, ↓R16_t, kR_16, ↓R16_a, ↓R16_w, ↓R17_t, kR_17, ↓R17_a, ↓R17_w, ↓R18_t, kR_18, ↓R18_a, ↓R18_w, ↓R19_t, kR_19, ↓R19_a, ↓R19_w, ↓R20_t, kR_20, ↓R20_a, ↓R20_w, ↓R21_t, kR_21, ↓R21_a, ↓R21_w, ↓R22_t, kR_22, ↓R22_a, ↓R22_w, ↓R23_t, kR_23, ↓R23_a, ↓R23_w, ↓R24_t, kR_24, ↓R24_a, ↓R24_w, ↓R25_t, kR_25, ↓R25_a, ↓R25_w, ↓R26_t, kR_26, ↓R26_a, ↓R26_w, ↓R27_t, kR_27, ↓R27_a, ↓R27_w, ↓R28_t, kR_28, ↓R28_a, ↓R28_w, ↓R29_t, kR_29, ↓R29_a, ↓R29_w, ↓R30_t, kR_30, ↓R30_a, ↓R30_w, ↓R31_t, kR_31, ↓R31_a, ↓R31_w, ↓R32_t, kR_32, ↓R32_a, ↓R32_w, ↓R33_t, kR_33, ↓R33_a, ↓R33_w, ↓R34_t, kR_34, ↓R34_a, ↓R34_w, ↓R35_t, kR_35, ↓R35_a, ↓R35_w, ↓R36_t, kR_36, ↓R36_a, ↓R36_w, ↓R37_t, kR_37, ↓R37_a, ↓R37_w, ↓R38_t, kR_38, ↓R38_a, ↓R38_w, ↓R39_t, kR_39, ↓R39_a, ↓R39_w, ↓tu_0 ur, ↓tu_1 ur, ↓tu_2 ur, ↓tu_3 ur, ↓tu_4 ur, ↓tu_6 ur, ↓tu_7 ur, ↓tu_8 ur, ↓tu_9 ur, ↓tu_10 ur, ↓tu_15 ur, ↓tu_16 ur, ↓tu_17 ur, ↓tu_18 ur, ↓tu_19 ur, ↓tu_20 ur, ↓tu_21 ur, ↓tu_22 ur, ↓tu_24 ur, ↓tu_25 ur, ↓tu_26 ur, ↓tu_27 ur, ↓tu_28 ur, ↓tu_29 ur, ↓tu_30 ur, ↓tu_31 ur, ↓tu_32 ur, ↓tu_33 ur, ↓tu_40 ur, ↓tu_53 ur, ↓tu_54 ur, ↓tu_55 ur, ↓tu_56 ur, ↓tu_57 ur, ↓tu_58 ur, ↓tu_59 ur, ↓tu_60 ur, ↓tu_61 ur, ↓tu_62 ur, u_0 ur, u_1 ur, u_2 ur, u_3 ur, u_4 ur, u_6 ur, u_7 ur, u_8 ur, u_9 ur, u_10 ur, u_15 ur, u_16 ur, u_17 ur, u_18 ur, u_19 ur, u_20 ur, u_21 ur, u_22 ur, u_24 ur, u_25 ur, u_26 ur, u_27 ur, u_28 ur, u_29 ur, u_30 ur, u_31 ur, u_32 ur, u_33 ur, u_40 ur, u_53 ur, u_54 ur, u_55 ur, u_56 ur, u_57 ur, u_58 ur, u_59 ur, u_60 ur, u_61 ur, u_62 ur]
end PKc
