/-! what is kept -/
abbrev KM (q : Nat) (c r : Hp) : Prop := RM (g_I c (17 + 12 * q + 1)) (g_I c (17 + 12 * q + 2)) (g_I c (17 + 12 * q + 3)) (g_I c (17 + 12 * q + 4)) (g_J c (17 + 12 * q + 5)) (fun j => g_I r 30 (12 * q + j)) (fun j => g_I r 31 (12 * q + j)) (fun j => g_I r 32 (12 * q + j)) (fun j => g_J r 33 (144 * q + j)) (fun j => g_D r 34 (144 * q + j))
def KT (N q : Nat) (c r : Hp) : Prop := ∃ n, n ≤ N ∧ g_I c (23 + 12 * q) 5 = nI n ∧ g_I r 35 q = nI n ∧ (∀ t, t < n → g_I c (23 + 12 * q + 2) t = g_I r 36 (12 * q + t) ∧ g_I c (23 + 12 * q + 3) t = g_I r 37 (12 * q + t) ∧ g_I c (23 + 12 * q + 4) t = g_I r 38 (12 * q + t)) ∧ ∀ t, t < n → ∀ i, i < 4 → g_I c (23 + 12 * q + 5) (4 * t + i) = g_I r 39 (48 * q + (4 * t + i))
def Rk (K N : Nat) (c r : Hp) : Prop := K ≤ 3 ∧ g_I c 14 2 = nI K ∧ g_I r 0 52 = nI K ∧ ∀ q, q < K → KM q c r ∧ KT N q c r
theorem RM_c {b u l s b' l' s' b2 u2 l2 s2 b2' l2' s2' : Nat → Int32} {it w it2 w2 : Nat → Int64} {re re2 : Nat → UInt64} (m : RM b u l s it b' l' s' w re) (hb : ∀ j, j < 12 → b2 j = b j) (hu : ∀ j, j < 12 → u2 j = u j) (hl : ∀ j, j < 12 → l2 j = l j) (hs : ∀ j, j < 12 → s2 j = s j) (hi : ∀ j, j < 144 → it2 j = it j)
    (hb' : ∀ j, j < 12 → b2' j = b' j) (hl' : ∀ j, j < 12 → l2' j = l' j) (hs' : ∀ j, j < 12 → s2' j = s' j) (hw : ∀ j, j < 144 → w2 j = w j) (hr : ∀ j, j < 144 → re2 j = re j) : RM b2 u2 l2 s2 it2 b2' l2' s2' w2 re2 := by
  refine ⟨fun j hj => ?_, fun j hj => ?_, fun j hj => ?_, fun j hj => ?_, fun j hj => ?_, fun j hj => ?_, fun j hj => ?_, fun k hk i hi2 => ?_⟩
  · rw [hb j hj, hb' j hj]; exact m.eb j hj
  · rw [hl j hj, hl' j hj]; exact m.el j hj
  · rw [hs j hj, hs' j hj]; exact m.es j hj
  · rw [hb' j hj]; exact m.sb j hj
  · rw [hl' j hj]; exact m.sl j hj
  · rw [hs' j hj]; exact m.ss j hj
  · rw [hu j hj, m.uu j hj, cuN_c 12 (fun x hx => (hb' x hx).symm)]
  · rw [hl' k hk, hi _ (by omega), hw _ (by omega), hr _ (by omega)]
    exact m.ii k hk i hi2
theorem KM_c {q : Nat} {c c' r r' : Hp} (hc : ∀ a, 17 + 12 * q ≤ a → a < 29 + 12 * q → g_I c' a = g_I c a ∧ g_J c' a = g_J c a) (h30 : ∀ j, j < 12 → g_I r' 30 (12 * q + j) = g_I r 30 (12 * q + j)) (h31 : ∀ j, j < 12 → g_I r' 31 (12 * q + j) = g_I r 31 (12 * q + j)) (h32 : ∀ j, j < 12 → g_I r' 32 (12 * q + j) = g_I r 32 (12 * q + j)) (h33 : ∀ j, j < 144 → g_J r' 33 (144 * q + j) = g_J r 33 (144 * q + j)) (h34 : ∀ j, j < 144 → g_D r' 34 (144 * q + j) = g_D r 34 (144 * q + j)) (m : KM q c r) : KM q c' r' := by
  refine RM_c m ?_ ?_ ?_ ?_ ?_ h30 h31 h32 h33 h34
  · intro j _; rw [(hc _ (by omega) (by omega)).1]
  · intro j _; rw [(hc _ (by omega) (by omega)).1]
  · intro j _; rw [(hc _ (by omega) (by omega)).1]
  · intro j _; rw [(hc _ (by omega) (by omega)).1]
  · intro j _; rw [(hc _ (by omega) (by omega)).2]
theorem KT_c {N N' q : Nat} {c c' r r' : Hp} (hN : N ≤ N') (h12 : N ≤ 12) (hc : ∀ a, 17 + 12 * q ≤ a → a < 29 + 12 * q → g_I c' a = g_I c a ∧ g_J c' a = g_J c a) (h35 : g_I r' 35 q = g_I r 35 q) (h36 : ∀ j, j < 12 → g_I r' 36 (12 * q + j) = g_I r 36 (12 * q + j)) (h37 : ∀ j, j < 12 → g_I r' 37 (12 * q + j) = g_I r 37 (12 * q + j)) (h38 : ∀ j, j < 12 → g_I r' 38 (12 * q + j) = g_I r 38 (12 * q + j)) (h39 : ∀ j, j < 48 → g_I r' 39 (48 * q + j) = g_I r 39 (48 * q + j)) (m : KT N q c r) : KT N' q c' r' := by
  obtain ⟨n, h1, h2, h3, h4, h5⟩ := m
  refine ⟨n, by omega, by rw [(hc _ (by omega) (by omega)).1]; exact h2, by rw [h35]; exact h3, fun t ht => ?_, fun t ht i hi => ?_⟩
  · rw [(hc (23 + 12 * q + 2) (by omega) (by omega)).1, (hc (23 + 12 * q + 3) (by omega) (by omega)).1, (hc (23 + 12 * q + 4) (by omega) (by omega)).1, h36 t (by omega), h37 t (by omega), h38 t (by omega)]
    exact h4 t ht
  · rw [(hc (23 + 12 * q + 5) (by omega) (by omega)).1, h39 _ (by omega)]
    exact h5 t ht i hi
theorem Rk_f {K N N' : Nat} {c c' r r' : Hp} {lo hi lo' hi' : Nat} {k1 k2 : Nat → Prop} (m : Rk K N c r) (hN : N ≤ N') (h12 : N ≤ 12) (f : Fq 1 lo hi k1 c c') (g : Fq 0 lo' hi' k2 r r') (h1 : 52 < lo ∨ hi < 14) (h2 : 39 < lo' ∨ hi' < 30) (h3 : ¬ k2 52) : Rk K N' c' r' := by
  obtain ⟨m1, m2, m3, m4⟩ := m
  refine ⟨m1, by rw [(f.2.1 14 (by omega) (by omega)).1]; exact m2, by rw [(g.2.2 52 h3).1]; exact m3, fun q hq => ⟨?_, ?_⟩⟩
  · refine KM_c (fun a h1 h2 => ⟨(f.2.1 a (by omega) (by omega)).1, (f.2.1 a (by omega) (by omega)).2.1⟩) ?_ ?_ ?_ ?_ ?_ (m4 q hq).1
    · intro j _; rw [(g.2.1 30 (by omega) (by omega)).1]
    · intro j _; rw [(g.2.1 31 (by omega) (by omega)).1]
    · intro j _; rw [(g.2.1 32 (by omega) (by omega)).1]
    · intro j _; rw [(g.2.1 33 (by omega) (by omega)).2.1]
    · intro j _; rw [(g.2.1 34 (by omega) (by omega)).2.2]
  · refine KT_c hN h12 (fun a h1 h2 => ⟨(f.2.1 a (by omega) (by omega)).1, (f.2.1 a (by omega) (by omega)).2.1⟩) ?_ ?_ ?_ ?_ ?_ (m4 q hq).2
    · rw [(g.2.1 35 (by omega) (by omega)).1]
    · intro j _; rw [(g.2.1 36 (by omega) (by omega)).1]
    · intro j _; rw [(g.2.1 37 (by omega) (by omega)).1]
    · intro j _; rw [(g.2.1 38 (by omega) (by omega)).1]
    · intro j _; rw [(g.2.1 39 (by omega) (by omega)).1]
section PKb
variable {cnt K N : Nat} {rf : Nat → Option Nat} {c r : Hp}
theorem k_keep (wc : Wc cnt rf c) (ur : Wr r) (mm : Rm c r) (mt : Rt N c r) (mk : Rk K N c r) (hK : K < 3) :
    ∃ c' r', fX2_keep (kC cnt) 14 2 8 c = some c' ∧ fX10_keep kR 0 r = some r' ∧ Rk (K + 1) N c' r' ∧ Fq 1 14 52 (fun _ => False) c c' ∧ Fq 0 30 39 (fun k => k = 52) r r' := by
  obtain ⟨k1, k2, k3, k4⟩ := mk
  obtain ⟨t1, t2, t3⟩ := mt
  have hN := t3.n12
  obtain ⟨r', h1, p1, p2, p3, p4, p5, p6, q1, q2, q3, q4, q5, q6, q7, q8, q9⟩ := keep_e (K := K) (M := N) hK fu_ 0 r ur k3 t2 (by omega) (by unfold fu_; omega)
  have hcf := cfK wc hK
  have hch := chK (c := cp_J (cp_I (cp_I (cp_I (cp_I c 3 0 (17 + 12 * K + 1) 0 12) 4 0 (17 + 12 * K + 2) 0 12) 5 0 (17 + 12 * K + 3) 0 12) 6 0 (17 + 12 * K + 4) 0 12) 7 0 (17 + 12 * K + 5) 0 144) (n := N) wc hK hN
  refine ⟨s_I (s_I (cp_I (cp_I (cp_I (cp_I (cp_J (cp_I (cp_I (cp_I (cp_I c 3 0 (17 + 12 * K + 1) 0 12) 4 0 (17 + 12 * K + 2) 0 12) 5 0 (17 + 12 * K + 3) 0 12) 6 0 (17 + 12 * K + 4) 0 12) 7 0 (17 + 12 * K + 5) 0 144) 10 0 (23 + 12 * K + 2) 0 N) 11 0 (23 + 12 * K + 3) 0 N) 12 0 (23 + 12 * K + 4) 0 N) 13 0 (23 + 12 * K + 5) 0 (N * 4)) (23 + 12 * K) 5 (nI N)) 14 2 (nI (K + 1)), r', ?_, ?_, ?_, ?_, ?_⟩
  · simp (disch := omega) only [fX2_keep, fX2_isFull, hK, k2, hcf, t1, ↓lt_e, ↓bs_e, ↓b2_e, ↓tsI, ↓tsJ, ↓tsD, lt_e, bs_e, b2_e, if_true, if_false, ↓reduceIte, Nat.reduceEqDiff, Nat.reduceLeDiff, Nat.reduceLT, Nat.reduceAdd, Nat.reduceMul, Nat.reduceSub, Nat.not_lt_zero, Nat.zero_le, Nat.le_refl, and_self, Nat.succ_ne_zero, Nat.add_sub_cancel, or_true, true_or, or_false, false_or, L0, L1, L2, L3, L4, L5, L6, L7, L8, L9, L10, L11, L12, L13, L14, L15, L16, L17, L18, L19, L20, L21, L22, L23, L24, L25, L26, L27, L28, L29, L30, L50, L60, L100, L144, L300, J0, J1, J2, J5, J6, J7, J8, J11, J12, J18, J29, J50, mO_e, oL_e, nI_mO, mO_nI, mO_lt, nlt_mO, mO_le, nle_mO, nI_add, nI_subn, nI_muln, e_lt, e_le, e_eq, q_lt, q_le, q_eq, i_l, mO_l, oL_lt, nlt_oL, nI_oL, lN_sub, lN_i, lN_add, rI_s, rI_a, rI_k, rJ_s, rJ_a, rJ_k, rD_s, rD_a, rD_k, rJI, rDI, rRI, rIJ, rDJ, rRJ, rID, rJD, rRD, rIR, rJR, rDR, ↓C0_t, kC_0, ↓C1_t, kC_1, ↓C2_t, kC_2, ↓C3_t, kC_3, ↓C3_a, ↓C3_w, ↓C4_t, kC_4, ↓C4_a, ↓C4_w, ↓C5_t, kC_5, ↓C5_a, ↓C5_w, ↓C6_t, kC_6, ↓C6_a, ↓C6_w, ↓C7_t, kC_7, ↓C7_a, ↓C7_w, ↓C8_t, kC_8, ↓C9_t, kC_9, ↓C9_a, ↓C9_w, ↓C10_t, kC_10, ↓C10_a, ↓C10_w, ↓C11_t, kC_11, ↓C11_a, ↓C11_w, ↓C12_t, kC_12, ↓C12_a, ↓C12_w, ↓C13_t, kC_13, ↓C13_a, ↓C13_w, ↓C14_t, kC_14, ↓C15_t, kC_15, ↓C15_a, ↓C16_t, kC_16, ↓C16_a, ↓C53_t, kC_53, ↓C53_a, ↓C54_t, kC_54, ↓C54_a, ↓C55_t, kC_55, ↓C55_a, ↓C55_w, ↓C56_t, kC_56, ↓tw_0_0 wc, ↓tw_1_0 wc, ↓tw_1_1 wc, ↓tw_1_2 wc, ↓tw_1_3 wc, ↓tw_1_5 wc, ↓tw_1_6 wc, ↓tw_1_7 wc, ↓tw_2_0 wc, ↓tw_2_1 wc, ↓tw_2_2 wc, ↓tw_2_3 wc, ↓tw_2_4 wc, ↓tw_8_0 wc, ↓tw_8_1 wc, ↓tw_8_2 wc, ↓tw_8_3 wc, ↓tw_8_4 wc, ↓tw_14_0 wc, ↓tw_14_1 wc, w_0_0 wc, w_1_0 wc, w_1_1 wc, w_1_2 wc, w_1_3 wc, w_1_5 wc, w_1_6 wc, w_1_7 wc, w_2_0 wc, w_2_1 wc, w_2_2 wc, w_2_3 wc, w_2_4 wc, w_8_0 wc, w_8_1 wc, w_8_2 wc, w_8_3 wc, w_8_4 wc, w_14_0 wc, w_14_1 wc, ↓tcI, ↓tcJ, ↓cK1, ↓cB1, ↓cK2, ↓cB2, ↓cK3, ↓cB3, ↓cK4, ↓cB4, ↓cK5, ↓cB5, ↓cKh2, ↓cBh2, ↓cKh3, ↓cBh3, ↓cKh4, ↓cBh4, ↓cKh5, ↓cBh5, ↓tm_0 wc, ↓th_0 wc, ↓tm_1 wc, ↓th_1 wc, ↓tm_2 wc, ↓th_2 wc, ↓tm_3 wc, ↓th_3 wc, ↓tm_4 wc, ↓th_4 wc, ↓t15 wc, ↓t16 wc, M0_k, H0_k, rcJI, rcDI, rcRI, rcI_a, rcIJ, rcRJ, rcJ_a]
    simp (disch := omega) only [hch, k2, t1, ↓lt_e, ↓bs_e, ↓b2_e, ↓tsI, ↓tsJ, ↓tsD, lt_e, bs_e, b2_e, if_true, if_false, ↓reduceIte, Nat.reduceEqDiff, Nat.reduceLeDiff, Nat.reduceLT, Nat.reduceAdd, Nat.reduceMul, Nat.reduceSub, Nat.not_lt_zero, Nat.zero_le, Nat.le_refl, and_self, Nat.succ_ne_zero, Nat.add_sub_cancel, or_true, true_or, or_false, false_or, L0, L1, L2, L3, L4, L5, L6, L7, L8, L9, L10, L11, L12, L13, L14, L15, L16, L17, L18, L19, L20, L21, L22, L23, L24, L25, L26, L27, L28, L29, L30, L50, L60, L100, L144, L300, J0, J1, J2, J5, J6, J7, J8, J11, J12, J18, J29, J50, mO_e, oL_e, nI_mO, mO_nI, mO_lt, nlt_mO, mO_le, nle_mO, nI_add, nI_subn, nI_muln, e_lt, e_le, e_eq, q_lt, q_le, q_eq, i_l, mO_l, oL_lt, nlt_oL, nI_oL, lN_sub, lN_i, lN_add, rI_s, rI_a, rI_k, rJ_s, rJ_a, rJ_k, rD_s, rD_a, rD_k, rJI, rDI, rRI, rIJ, rDJ, rRJ, rID, rJD, rRD, rIR, rJR, rDR, ↓C0_t, kC_0, ↓C1_t, kC_1, ↓C2_t, kC_2, ↓C3_t, kC_3, ↓C3_a, ↓C3_w, ↓C4_t, kC_4, ↓C4_a, ↓C4_w, ↓C5_t, kC_5, ↓C5_a, ↓C5_w, ↓C6_t, kC_6, ↓C6_a, ↓C6_w, ↓C7_t, kC_7, ↓C7_a, ↓C7_w, ↓C8_t, kC_8, ↓C9_t, kC_9, ↓C9_a, ↓C9_w, ↓C10_t, kC_10, ↓C10_a, ↓C10_w, ↓C11_t, kC_11, ↓C11_a, ↓C11_w, ↓C12_t, kC_12, ↓C12_a, ↓C12_w, ↓C13_t, kC_13, ↓C13_a, ↓C13_w, ↓C14_t, kC_14, ↓C15_t, kC_15, ↓C15_a, ↓C16_t, kC_16, ↓C16_a, ↓C53_t, kC_53, ↓C53_a, ↓C54_t, kC_54, ↓C54_a, ↓C55_t, kC_55, ↓C55_a, ↓C55_w, ↓C56_t, kC_56, ↓tw_0_0 wc, ↓tw_1_0 wc, ↓tw_1_1 wc, ↓tw_1_2 wc, ↓tw_1_3 wc, ↓tw_1_5 wc, ↓tw_1_6 wc, ↓tw_1_7 wc, ↓tw_2_0 wc, ↓tw_2_1 wc, ↓tw_2_2 wc, ↓tw_2_3 wc, ↓tw_2_4 wc, ↓tw_8_0 wc, ↓tw_8_1 wc, ↓tw_8_2 wc, ↓tw_8_3 wc, ↓tw_8_4 wc, ↓tw_14_0 wc, ↓tw_14_1 wc, w_0_0 wc, w_1_0 wc, w_1_1 wc, w_1_2 wc, w_1_3 wc, w_1_5 wc, w_1_6 wc, w_1_7 wc, w_2_0 wc, w_2_1 wc, w_2_2 wc, w_2_3 wc, w_2_4 wc, w_8_0 wc, w_8_1 wc, w_8_2 wc, w_8_3 wc, w_8_4 wc, w_14_0 wc, w_14_1 wc, ↓tcI, ↓tcJ, ↓cK1, ↓cB1, ↓cK2, ↓cB2, ↓cK3, ↓cB3, ↓cK4, ↓cB4, ↓cK5, ↓cB5, ↓cKh2, ↓cBh2, ↓cKh3, ↓cBh3, ↓cKh4, ↓cBh4, ↓cKh5, ↓cBh5, ↓tm_0 wc, ↓th_0 wc, ↓tm_1 wc, ↓th_1 wc, ↓tm_2 wc, ↓th_2 wc, ↓tm_3 wc, ↓th_3 wc, ↓tm_4 wc, ↓th_4 wc, ↓t15 wc, ↓t16 wc, M0_k, H0_k, rcJI, rcDI, rcRI, rcI_a, rcIJ, rcRJ, rcJ_a]
  · simp (disch := omega) only [fX10_keep, h1, ↓lt_e, ↓bs_e, ↓b2_e, ↓tsI, ↓tsJ, ↓tsD, lt_e, bs_e, b2_e, if_true, if_false, ↓reduceIte, Nat.reduceEqDiff, Nat.reduceLeDiff, Nat.reduceLT, Nat.reduceAdd, Nat.reduceMul, Nat.reduceSub, Nat.not_lt_zero, Nat.zero_le, Nat.le_refl, and_self, Nat.succ_ne_zero, Nat.add_sub_cancel, or_true, true_or, or_false, false_or, L0, L1, L2, L3, L4, L5, L6, L7, L8, L9, L10, L11, L12, L13, L14, L15, L16, L17, L18, L19, L20, L21, L22, L23, L24, L25, L26, L27, L28, L29, L30, L50, L60, L100, L144, L300, J0, J1, J2, J5, J6, J7, J8, J11, J12, J18, J29, J50, mO_e, oL_e, nI_mO, mO_nI, mO_lt, nlt_mO, mO_le, nle_mO, nI_add, nI_subn, nI_muln, e_lt, e_le, e_eq, q_lt, q_le, q_eq, i_l, mO_l, oL_lt, nlt_oL, nI_oL, lN_sub, lN_i, lN_add, rI_s, rI_a, rI_k, rJ_s, rJ_a, rJ_k, rD_s, rD_a, rD_k, rJI, rDI, rRI, rIJ, rDJ, rRJ, rID, rJD, rRD, rIR, rJR, rDR, ↓R0_t, kR_0, ↓R1_t, kR_1, ↓R1_a, ↓R1_w, ↓R2_t, kR_2, ↓R2_a, ↓R2_w, ↓R3_t, kR_3, ↓R3_a, ↓R3_w, ↓R4_t, kR_4, ↓R4_a, ↓R4_w, ↓R5_t, kR_5, ↓R5_a, ↓R5_w, ↓R6_t, kR_6, ↓R6_a, ↓R6_w, ↓R7_t, kR_7, ↓R7_a, ↓R7_w, ↓R8_t, kR_8, ↓R8_a, ↓R8_w, ↓R9_t, kR_9, ↓R9_a, ↓R9_w, ↓R10_t, kR_10, ↓R10_a, ↓R10_w, ↓R11_t, kR_11, ↓R11_a, ↓R11_w, ↓R12_t, kR_12, ↓R12_a, ↓R12_w, ↓R13_t, kR_13, ↓R13_a, ↓R13_w, ↓R14_t, kR_14, ↓R14_a, ↓R14_w, ↓R15_t, kR_15, ↓R15_a, ↓R15_w, ↓R16_t, kR_16, ↓R16_a, ↓R16_w, ↓R17_t, kR_17, ↓R17_a, ↓R17_w, ↓R18_t, kR_18, ↓R18_a, ↓R18_w, ↓R19_t, kR_19, ↓R19_a, ↓R19_w, ↓R20_t, kR_20, ↓R20_a, ↓R20_w, ↓R21_t, kR_21, ↓R21_a, ↓R21_w, ↓R22_t, kR_22, ↓R22_a, ↓R22_w, ↓R23_t, kR_23, ↓R23_a, ↓R23_w, ↓R24_t, kR_24, ↓R24_a, ↓R24_w, ↓R25_t, kR_25, ↓R25_a, ↓R25_w, ↓R26_t, kR_26, ↓R26_a, ↓R26_w, ↓R27_t, kR_27, ↓R27_a, ↓R27_w, ↓R28_t, kR_28, ↓R28_a, ↓R28_w, ↓R29_t, kR_29, ↓R29_a, ↓R29_w, ↓R30_t, kR_30, ↓R30_a, ↓R30_w, ↓R31_t, kR_31, ↓R31_a, ↓R31_w, ↓R32_t, kR_32, ↓R32_a, ↓R32_w, ↓R33_t, kR_33, ↓R33_a, ↓R33_w, ↓R34_t, kR_34, ↓R34_a, ↓R34_w, ↓R35_t, kR_35, ↓R35_a, ↓R35_w, ↓R36_t, kR_36, ↓R36_a, ↓R36_w, ↓R37_t, kR_37, ↓R37_a, ↓R37_w, ↓R38_t, kR_38, ↓R38_a, ↓R38_w, ↓R39_t, kR_39, ↓R39_a, ↓R39_w, ↓tu_0 ur, ↓tu_1 ur, ↓tu_2 ur, ↓tu_3 ur, ↓tu_4 ur, ↓tu_6 ur, ↓tu_7 ur, ↓tu_8 ur, ↓tu_9 ur, ↓tu_10 ur, ↓tu_15 ur, ↓tu_16 ur, ↓tu_17 ur, ↓tu_18 ur, ↓tu_19 ur, ↓tu_20 ur, ↓tu_21 ur, ↓tu_22 ur, ↓tu_24 ur, ↓tu_25 ur, ↓tu_26 ur, ↓tu_27 ur, ↓tu_28 ur, ↓tu_29 ur, ↓tu_30 ur, ↓tu_31 ur, ↓tu_32 ur, ↓tu_33 ur, ↓tu_40 ur, ↓tu_53 ur, ↓tu_54 ur, ↓tu_55 ur, ↓tu_56 ur, ↓tu_57 ur, ↓tu_58 ur, ↓tu_59 ur, ↓tu_60 ur, ↓tu_61 ur, ↓tu_62 ur, u_0 ur, u_1 ur, u_2 ur, u_3 ur, u_4 ur, u_6 ur, u_7 ur, u_8 ur, u_9 ur, u_10 ur, u_15 ur, u_16 ur, u_17 ur, u_18 ur, u_19 ur, u_20 ur, u_21 ur, u_22 ur, u_24 ur, u_25 ur, u_26 ur, u_27 ur, u_28 ur, u_29 ur, u_30 ur, u_31 ur, u_32 ur, u_33 ur, u_40 ur, u_53 ur, u_54 ur, u_55 ur, u_56 ur, u_57 ur, u_58 ur, u_59 ur, u_60 ur, u_61 ur, u_62 ur]
  · refine ⟨by omega, by rw [rI_s], p5, fun q hq => ?_⟩
    by_cases e : q = K
    · subst e
      refine ⟨RM_c mm ?_ ?_ ?_ ?_ ?_ ?_ ?_ ?_ ?_ ?_, N, Nat.le_refl N, ?_, ?_, ?_, ?_⟩
      · intro j hj; simp (disch := omega) only [rI_a, rI_f, rcI_a, rcI_f, rcIJ, rcJI, rJI, rcJ_a, rcJ_f, rIJ, hj, if_true]
      · intro j hj; simp (disch := omega) only [rI_a, rI_f, rcI_a, rcI_f, rcIJ, rcJI, rJI, rcJ_a, rcJ_f, rIJ, hj, if_true]
      · intro j hj; simp (disch := omega) only [rI_a, rI_f, rcI_a, rcI_f, rcIJ, rcJI, rJI, rcJ_a, rcJ_f, rIJ, hj, if_true]
      · intro j hj; simp (disch := omega) only [rI_a, rI_f, rcI_a, rcI_f, rcIJ, rcJI, rJI, rcJ_a, rcJ_f, rIJ, hj, if_true]
      · intro j hj; simp (disch := omega) only [rI_a, rI_f, rcI_a, rcI_f, rcIJ, rcJI, rJI, rcJ_a, rcJ_f, rIJ, hj, if_true]
      · intro j hj; rw [q1, if_pos (by omega), Nat.add_sub_cancel_left]
      · intro j hj; rw [q2, if_pos (by omega), Nat.add_sub_cancel_left]
      · intro j hj; rw [q3, if_pos (by omega), Nat.add_sub_cancel_left]
      · intro j hj; rw [q7, if_pos (by omega), Nat.add_sub_cancel_left]
      · intro j hj; rw [q8, if_pos (by omega), Nat.add_sub_cancel_left]
      · simp (disch := omega) only [rI_a, rI_s]
      · rw [p6, if_pos rfl]
      · intro t ht
        rw [q4, q5, q6, if_pos (by omega), if_pos (by omega), if_pos (by omega), Nat.add_sub_cancel_left]
        simp (disch := omega) only [rI_a, rI_f, rcI_a, rcI_f, rcIJ, rcJI, rJI, rcJ_a, rcJ_f, rIJ, ht, if_true]
        exact ⟨t3.ec t ht, t3.em t ht, t3.eo t ht⟩
      · intro t ht i hi
        rw [q9, if_pos (by omega), Nat.add_sub_cancel_left]
        have h4 : 4 * t + i < N * 4 := by omega
        simp (disch := omega) only [rI_a, rI_f, rcI_a, rcI_f, rcIJ, rcJI, rJI, rcJ_a, rcJ_f, rIJ, h4, if_true]
        exact t3.es t ht i hi
    · have hq2 : q < K := by omega
      have hc : ∀ a, 17 + 12 * q ≤ a → a < 29 + 12 * q → g_I (s_I (s_I (cp_I (cp_I (cp_I (cp_I (cp_J (cp_I (cp_I (cp_I (cp_I c 3 0 (17 + 12 * K + 1) 0 12) 4 0 (17 + 12 * K + 2) 0 12) 5 0 (17 + 12 * K + 3) 0 12) 6 0 (17 + 12 * K + 4) 0 12) 7 0 (17 + 12 * K + 5) 0 144) 10 0 (23 + 12 * K + 2) 0 N) 11 0 (23 + 12 * K + 3) 0 N) 12 0 (23 + 12 * K + 4) 0 N) 13 0 (23 + 12 * K + 5) 0 (N * 4)) (23 + 12 * K) 5 (nI N)) 14 2 (nI (K + 1))) a = g_I c a ∧ g_J (s_I (s_I (cp_I (cp_I (cp_I (cp_I (cp_J (cp_I (cp_I (cp_I (cp_I c 3 0 (17 + 12 * K + 1) 0 12) 4 0 (17 + 12 * K + 2) 0 12) 5 0 (17 + 12 * K + 3) 0 12) 6 0 (17 + 12 * K + 4) 0 12) 7 0 (17 + 12 * K + 5) 0 144) 10 0 (23 + 12 * K + 2) 0 N) 11 0 (23 + 12 * K + 3) 0 N) 12 0 (23 + 12 * K + 4) 0 N) 13 0 (23 + 12 * K + 5) 0 (N * 4)) (23 + 12 * K) 5 (nI N)) 14 2 (nI (K + 1))) a = g_J c a := by
        intro a h1 h2
        simp (disch := omega) only [rI_a, rI_f, rcI_a, rcI_f, rcIJ, rcJI, rJI, rcJ_a, rcJ_f, rIJ, and_self]
      refine ⟨KM_c hc ?_ ?_ ?_ ?_ ?_ (k4 q hq2).1, KT_c (Nat.le_refl N) hN hc ?_ ?_ ?_ ?_ ?_ (k4 q hq2).2⟩
      · intro j hj; rw [q1, if_neg (by omega)]
      · intro j hj; rw [q2, if_neg (by omega)]
      · intro j hj; rw [q3, if_neg (by omega)]
      · intro j hj; rw [q7, if_neg (by omega)]
      · intro j hj; rw [q8, if_neg (by omega)]
      · rw [p6, if_neg (by omega)]
      · intro j hj; rw [q4, if_neg (by omega)]
      · intro j hj; rw [q5, if_neg (by omega)]
      · intro j hj; rw [q6, if_neg (by omega)]
      · intro j hj; rw [q9, if_neg (by omega)]
  · refine ⟨rfl, fun a ha h0 => ?_, fun k _ => ?_⟩
    · simp (disch := omega) only [rI_a, rI_f, rcI_a, rcI_f, rcIJ, rcJI, rJI, rcJ_a, rcJ_f, rIJ, true_and]; rfl
    · simp (disch := omega) only [rI_a, rI_f, rcI_a, rcI_f, rcIJ, rcJI, rJI, rcJ_a, rcJ_f, rIJ, and_self]
  · exact ⟨p1, fun a ha h0 => p2 a (by omega) h0, fun k hk => ⟨p3 k hk, by rw [p4]⟩⟩
end PKb
