theorem tt_in {w : Cond} (h1 : w ∈ lw_tbl) (h2 : goodWord w = true) : w ∈ TT := List.mem_filter.mpr ⟨h1, h2⟩
theorem to_r (ws : List Cond) (ps : List Nat) (hp : ws = ps.filterMap (fun i => lw_tbl[i]?)) (h : ws.all okW = true) : ∀ w ∈ ws, w ∈ TO_ := by
  intro w hw
  have h1 := List.all_eq_true.mp h w hw
  rw [hp] at hw
  obtain ⟨i, -, hi⟩ := List.mem_filterMap.mp hw
  exact TO_in (List.mem_of_getElem? hi) h1
theorem en0 (M : Mi) (κ : Kd) (n lim : Nat) : En_ M (κ, n, 0, lim) := ⟨Nat.zero_le _, by show 450 * 0 ≤ _; simp⟩
theorem c00 (M : Mi) : (0 : Nat) ≤ (mR M).cells ∧ 450 * 0 ≤ (mR M).slots := ⟨Nat.zero_le _, by simp⟩
set_option maxRecDepth 100000 in
theorem cl_0 : Cls_ 0 (RX0, TX0, 4) := ⟨rfl, by decide, to_r _ [194, 196, 198, 200] (by decide +kernel) (by decide +kernel), nmX0, tyX0, tyX0_ok, by decide +kernel, rfl⟩
set_option maxRecDepth 100000 in
theorem cl_1 : Cls_ 1 (RX1, TX1, 11) := ⟨rfl, by decide, to_r _ [230, 232, 234, 236, 238, 240, 242, 244, 246, 248, 250] (by decide +kernel) (by decide +kernel), nmX1, tyX1, tyX1_ok, by decide +kernel, rfl⟩
set_option maxRecDepth 100000 in
theorem cl_2 : Cls_ 2 (RX2, TX2, 3) := ⟨rfl, by decide, to_r _ [167, 169, 171] (by decide +kernel) (by decide +kernel), nmX2, tyX2, tyX2_ok, by decide +kernel, rfl⟩
set_option maxRecDepth 100000 in
theorem cl_3 : Cls_ 3 (RX4, TX4, 19) := ⟨rfl, by decide, to_r _ [285, 287, 289, 291, 293, 295, 297, 299, 301, 303, 305, 307, 309, 311, 313, 315, 317, 319, 321] (by decide +kernel) (by decide +kernel), nmX4, tyX4, tyX4_ok, by decide +kernel, rfl⟩
set_option maxRecDepth 100000 in
theorem cl_4 : Cls_ 4 (RX5, TX5, 5) := ⟨rfl, by decide, to_r _ [105, 107, 109, 111, 113] (by decide +kernel) (by decide +kernel), nmX5, tyX5, tyX5_ok, by decide +kernel, rfl⟩
set_option maxRecDepth 100000 in
theorem cl_5 : Cls_ 5 (RX7, TX7, 11) := ⟨rfl, by decide, to_r _ [475, 477, 479, 481, 483, 485, 487, 489, 491, 493, 495] (by decide +kernel) (by decide +kernel), nmX7, tyX7, tyX7_ok, by decide +kernel, rfl⟩
set_option maxRecDepth 100000 in
theorem cl_6 : Cls_ 6 (RX8, TX8, 7) := ⟨rfl, by decide, to_r _ [135, 137, 139, 141, 143, 145, 147] (by decide +kernel) (by decide +kernel), nmX8, tyX8, tyX8_ok, by decide +kernel, rfl⟩
set_option maxRecDepth 100000 in
theorem cl_7 : Cls_ 7 (RX9, TX9, 1) := ⟨rfl, by decide, to_r _ [325] (by decide +kernel) (by decide +kernel), nmX9, tyX9, tyX9_ok, by decide +kernel, rfl⟩
set_option maxRecDepth 100000 in
theorem cl_8 : Cls_ 8 (RX10, TX10, 63) := ⟨rfl, by decide, to_r _ [893, 895, 897, 899, 901, 903, 905, 907, 909, 911, 913, 915, 917, 919, 921, 923, 925, 927, 929, 931, 933, 935, 937, 939, 941, 943, 945, 947, 949, 951, 953, 955, 957, 959, 961, 963, 965, 967, 969, 971, 973, 975, 977, 979, 981, 983, 985, 987, 989, 991, 993, 995, 997, 999, 1001, 1003, 1005, 1007, 1009, 1011, 1013, 1015, 1017] (by decide +kernel) (by decide +kernel), nmX10, tyX10, tyX10_ok, by decide +kernel, rfl⟩
theorem rk_55 : RK 55 4 RX1 := ⟨by decide, fun _ => rfl⟩
theorem rk_58 : RK 58 5 RX5 := ⟨by decide, fun _ => rfl⟩
theorem rk_59 : RK 59 6 RX7 := ⟨by decide, fun _ => rfl⟩
theorem rk_60 : RK 60 7 RX8 := ⟨by decide, fun _ => rfl⟩
theorem pk_50 : PK .int 50 0 := ⟨by decide, by decide, fun _ => rfl, TO_in (List.mem_of_getElem? (i := 116) (by decide +kernel)) (by decide +kernel), fun ad h n N cA => by simp only [ar_, nw_, g_I, g_J, g_D, if_true]; rfl, by decide, fun U cA h => h⟩
theorem pk_51 : PK .long 51 1 := ⟨by decide, by decide, fun _ => rfl, TO_in (List.mem_of_getElem? (i := 117) (by decide +kernel)) (by decide +kernel), fun ad h n N cA => by simp only [ar_, nw_, g_I, g_J, g_D, if_true]; rfl, by decide, fun U cA h => h⟩
theorem pk_52 : PK .double 52 2 := ⟨by decide, by decide, fun _ => rfl, TO_in (List.mem_of_getElem? (i := 1020) (by decide +kernel)) (by decide +kernel), fun ad h n N cA => by simp only [ar_, nw_, g_I, g_J, g_D, if_true]; rfl, by decide, fun U cA h => h⟩
theorem pk_53 : PK .boolean 53 3 := ⟨by decide, by decide, fun _ => rfl, TO_in (List.mem_of_getElem? (i := 1021) (by decide +kernel)) (by decide +kernel), fun ad h n N cA => by simp only [ar_, nw_, g_I, g_J, g_D, if_true]; rfl, by decide, fun U cA h => h⟩
theorem fl_X5_9 : FL RX5 9 4 0 2 true := ⟨(RX5, TX5, 5), cl_4, by decide, rfl, rfl, rfl, Or.inl (TO_in (List.mem_of_getElem? (i := 100) (by decide +kernel)) (by decide +kernel))⟩
theorem ff_X5_9 : ∃ q, vwCl[4]? = some q ∧ q.1 = RX5 ∧ Cond.fieldLink RX5 9 q.1 (q.2.1 0).2.1 (q.2.1 0).2.2.1 ∈ TO_ := ⟨(RX5, TX5, 5), rfl, rfl, (TO_in (List.mem_of_getElem? (i := 100) (by decide +kernel)) (by decide +kernel))⟩
theorem fl_X5_15 : FL RX5 15 4 1 2 true := ⟨(RX5, TX5, 5), cl_4, by decide, rfl, rfl, rfl, Or.inl (TO_in (List.mem_of_getElem? (i := 101) (by decide +kernel)) (by decide +kernel))⟩
theorem ff_X5_15 : ∃ q, vwCl[4]? = some q ∧ q.1 = RX5 ∧ Cond.fieldLink RX5 15 q.1 (q.2.1 1).2.1 (q.2.1 1).2.2.1 ∈ TO_ := ⟨(RX5, TX5, 5), rfl, rfl, (TO_in (List.mem_of_getElem? (i := 101) (by decide +kernel)) (by decide +kernel))⟩
theorem fl_X5_18 : FL RX5 18 4 2 2 true := ⟨(RX5, TX5, 5), cl_4, by decide, rfl, rfl, rfl, Or.inl (TO_in (List.mem_of_getElem? (i := 102) (by decide +kernel)) (by decide +kernel))⟩
theorem ff_X5_18 : ∃ q, vwCl[4]? = some q ∧ q.1 = RX5 ∧ Cond.fieldLink RX5 18 q.1 (q.2.1 2).2.1 (q.2.1 2).2.2.1 ∈ TO_ := ⟨(RX5, TX5, 5), rfl, rfl, (TO_in (List.mem_of_getElem? (i := 102) (by decide +kernel)) (by decide +kernel))⟩
theorem fl_X5_21 : FL RX5 21 4 3 2 true := ⟨(RX5, TX5, 5), cl_4, by decide, rfl, rfl, rfl, Or.inl (TO_in (List.mem_of_getElem? (i := 103) (by decide +kernel)) (by decide +kernel))⟩
theorem ff_X5_21 : ∃ q, vwCl[4]? = some q ∧ q.1 = RX5 ∧ Cond.fieldLink RX5 21 q.1 (q.2.1 3).2.1 (q.2.1 3).2.2.1 ∈ TO_ := ⟨(RX5, TX5, 5), rfl, rfl, (TO_in (List.mem_of_getElem? (i := 103) (by decide +kernel)) (by decide +kernel))⟩
theorem fl_X5_24 : FL RX5 24 4 4 2 true := ⟨(RX5, TX5, 5), cl_4, by decide, rfl, rfl, rfl, Or.inl (TO_in (List.mem_of_getElem? (i := 104) (by decide +kernel)) (by decide +kernel))⟩
theorem ff_X5_24 : ∃ q, vwCl[4]? = some q ∧ q.1 = RX5 ∧ Cond.fieldLink RX5 24 q.1 (q.2.1 4).2.1 (q.2.1 4).2.2.1 ∈ TO_ := ⟨(RX5, TX5, 5), rfl, rfl, (TO_in (List.mem_of_getElem? (i := 104) (by decide +kernel)) (by decide +kernel))⟩
theorem fl_X8_9 : FL RX8 9 6 0 2 true := ⟨(RX8, TX8, 7), cl_6, by decide, rfl, rfl, rfl, Or.inl (TO_in (List.mem_of_getElem? (i := 125) (by decide +kernel)) (by decide +kernel))⟩
theorem ff_X8_9 : ∃ q, vwCl[6]? = some q ∧ q.1 = RX8 ∧ Cond.fieldLink RX8 9 q.1 (q.2.1 0).2.1 (q.2.1 0).2.2.1 ∈ TO_ := ⟨(RX8, TX8, 7), rfl, rfl, (TO_in (List.mem_of_getElem? (i := 125) (by decide +kernel)) (by decide +kernel))⟩
theorem fl_X8_15 : FL RX8 15 6 1 2 true := ⟨(RX8, TX8, 7), cl_6, by decide, rfl, rfl, rfl, Or.inl (TO_in (List.mem_of_getElem? (i := 126) (by decide +kernel)) (by decide +kernel))⟩
theorem ff_X8_15 : ∃ q, vwCl[6]? = some q ∧ q.1 = RX8 ∧ Cond.fieldLink RX8 15 q.1 (q.2.1 1).2.1 (q.2.1 1).2.2.1 ∈ TO_ := ⟨(RX8, TX8, 7), rfl, rfl, (TO_in (List.mem_of_getElem? (i := 126) (by decide +kernel)) (by decide +kernel))⟩
theorem fl_X8_18 : FL RX8 18 6 2 2 true := ⟨(RX8, TX8, 7), cl_6, by decide, rfl, rfl, rfl, Or.inl (TO_in (List.mem_of_getElem? (i := 127) (by decide +kernel)) (by decide +kernel))⟩
theorem ff_X8_18 : ∃ q, vwCl[6]? = some q ∧ q.1 = RX8 ∧ Cond.fieldLink RX8 18 q.1 (q.2.1 2).2.1 (q.2.1 2).2.2.1 ∈ TO_ := ⟨(RX8, TX8, 7), rfl, rfl, (TO_in (List.mem_of_getElem? (i := 127) (by decide +kernel)) (by decide +kernel))⟩
theorem fl_X8_21 : FL RX8 21 6 3 2 true := ⟨(RX8, TX8, 7), cl_6, by decide, rfl, rfl, rfl, Or.inl (TO_in (List.mem_of_getElem? (i := 128) (by decide +kernel)) (by decide +kernel))⟩
theorem ff_X8_21 : ∃ q, vwCl[6]? = some q ∧ q.1 = RX8 ∧ Cond.fieldLink RX8 21 q.1 (q.2.1 3).2.1 (q.2.1 3).2.2.1 ∈ TO_ := ⟨(RX8, TX8, 7), rfl, rfl, (TO_in (List.mem_of_getElem? (i := 128) (by decide +kernel)) (by decide +kernel))⟩
theorem fl_X8_24 : FL RX8 24 6 4 2 true := ⟨(RX8, TX8, 7), cl_6, by decide, rfl, rfl, rfl, Or.inl (TO_in (List.mem_of_getElem? (i := 129) (by decide +kernel)) (by decide +kernel))⟩
theorem ff_X8_24 : ∃ q, vwCl[6]? = some q ∧ q.1 = RX8 ∧ Cond.fieldLink RX8 24 q.1 (q.2.1 4).2.1 (q.2.1 4).2.2.1 ∈ TO_ := ⟨(RX8, TX8, 7), rfl, rfl, (TO_in (List.mem_of_getElem? (i := 129) (by decide +kernel)) (by decide +kernel))⟩
theorem fl_X8_33 : FL RX8 33 6 5 0 false := ⟨(RX8, TX8, 7), cl_6, by decide, rfl, rfl, rfl, Or.inl (TO_in (List.mem_of_getElem? (i := 130) (by decide +kernel)) (by decide +kernel))⟩
theorem fl_X2_37 : FL RX2 37 6 5 0 false := ⟨(RX8, TX8, 7), cl_6, by decide, rfl, rfl, rfl, Or.inr (TO_in (List.mem_of_getElem? (i := 131) (by decide +kernel)) (by decide +kernel))⟩
theorem fl_X9_159 : FL RX9 159 6 5 0 false := ⟨(RX8, TX8, 7), cl_6, by decide, rfl, rfl, rfl, Or.inr (TO_in (List.mem_of_getElem? (i := 132) (by decide +kernel)) (by decide +kernel))⟩
theorem fl_X8_72 : FL RX8 72 6 6 0 false := ⟨(RX8, TX8, 7), cl_6, by decide, rfl, rfl, rfl, Or.inl (TO_in (List.mem_of_getElem? (i := 133) (by decide +kernel)) (by decide +kernel))⟩
theorem fl_X4_342 : FL RX4 342 6 6 0 false := ⟨(RX8, TX8, 7), cl_6, by decide, rfl, rfl, rfl, Or.inr (TO_in (List.mem_of_getElem? (i := 134) (by decide +kernel)) (by decide +kernel))⟩
theorem fl_X2_11 : FL RX2 11 2 0 2 true := ⟨(RX2, TX2, 3), cl_2, by decide, rfl, rfl, rfl, Or.inl (TO_in (List.mem_of_getElem? (i := 162) (by decide +kernel)) (by decide +kernel))⟩
theorem ff_X2_11 : ∃ q, vwCl[2]? = some q ∧ q.1 = RX2 ∧ Cond.fieldLink RX2 11 q.1 (q.2.1 0).2.1 (q.2.1 0).2.2.1 ∈ TO_ := ⟨(RX2, TX2, 3), rfl, rfl, (TO_in (List.mem_of_getElem? (i := 162) (by decide +kernel)) (by decide +kernel))⟩
theorem fl_X2_19 : FL RX2 19 2 1 2 true := ⟨(RX2, TX2, 3), cl_2, by decide, rfl, rfl, rfl, Or.inl (TO_in (List.mem_of_getElem? (i := 163) (by decide +kernel)) (by decide +kernel))⟩
theorem ff_X2_19 : ∃ q, vwCl[2]? = some q ∧ q.1 = RX2 ∧ Cond.fieldLink RX2 19 q.1 (q.2.1 1).2.1 (q.2.1 1).2.2.1 ∈ TO_ := ⟨(RX2, TX2, 3), rfl, rfl, (TO_in (List.mem_of_getElem? (i := 163) (by decide +kernel)) (by decide +kernel))⟩
theorem fl_X2_25 : FL RX2 25 2 2 0 false := ⟨(RX2, TX2, 3), cl_2, by decide, rfl, rfl, rfl, Or.inl (TO_in (List.mem_of_getElem? (i := 164) (by decide +kernel)) (by decide +kernel))⟩
theorem fl_X9_169 : FL RX9 169 2 2 0 false := ⟨(RX2, TX2, 3), cl_2, by decide, rfl, rfl, rfl, Or.inr (TO_in (List.mem_of_getElem? (i := 165) (by decide +kernel)) (by decide +kernel))⟩
theorem fl_X4_359 : FL RX4 359 2 2 0 false := ⟨(RX2, TX2, 3), cl_2, by decide, rfl, rfl, rfl, Or.inr (TO_in (List.mem_of_getElem? (i := 166) (by decide +kernel)) (by decide +kernel))⟩
theorem fl_X0_18 : FL RX0 18 0 0 0 false := ⟨(RX0, TX0, 4), cl_0, by decide, rfl, rfl, rfl, Or.inl (TO_in (List.mem_of_getElem? (i := 184) (by decide +kernel)) (by decide +kernel))⟩
theorem fl_X4_168 : FL RX4 168 0 0 0 false := ⟨(RX0, TX0, 4), cl_0, by decide, rfl, rfl, rfl, Or.inr (TO_in (List.mem_of_getElem? (i := 185) (by decide +kernel)) (by decide +kernel))⟩
theorem fl_X9_123 : FL RX9 123 0 0 0 false := ⟨(RX0, TX0, 4), cl_0, by decide, rfl, rfl, rfl, Or.inr (TO_in (List.mem_of_getElem? (i := 186) (by decide +kernel)) (by decide +kernel))⟩
theorem fl_X0_21 : FL RX0 21 0 1 1 false := ⟨(RX0, TX0, 4), cl_0, by decide, rfl, rfl, rfl, Or.inl (TO_in (List.mem_of_getElem? (i := 187) (by decide +kernel)) (by decide +kernel))⟩
theorem fl_X4_189 : FL RX4 189 0 1 1 false := ⟨(RX0, TX0, 4), cl_0, by decide, rfl, rfl, rfl, Or.inr (TO_in (List.mem_of_getElem? (i := 188) (by decide +kernel)) (by decide +kernel))⟩
theorem fl_X9_149 : FL RX9 149 0 1 1 false := ⟨(RX0, TX0, 4), cl_0, by decide, rfl, rfl, rfl, Or.inr (TO_in (List.mem_of_getElem? (i := 189) (by decide +kernel)) (by decide +kernel))⟩
theorem fl_X0_9 : FL RX0 9 0 2 0 false := ⟨(RX0, TX0, 4), cl_0, by decide, rfl, rfl, rfl, Or.inl (TO_in (List.mem_of_getElem? (i := 190) (by decide +kernel)) (by decide +kernel))⟩
theorem fl_X9_128 : FL RX9 128 0 2 0 false := ⟨(RX0, TX0, 4), cl_0, by decide, rfl, rfl, rfl, Or.inr (TO_in (List.mem_of_getElem? (i := 191) (by decide +kernel)) (by decide +kernel))⟩
theorem fl_X0_15 : FL RX0 15 0 3 0 false := ⟨(RX0, TX0, 4), cl_0, by decide, rfl, rfl, rfl, Or.inl (TO_in (List.mem_of_getElem? (i := 192) (by decide +kernel)) (by decide +kernel))⟩
theorem fl_X9_131 : FL RX9 131 0 3 0 false := ⟨(RX0, TX0, 4), cl_0, by decide, rfl, rfl, rfl, Or.inr (TO_in (List.mem_of_getElem? (i := 193) (by decide +kernel)) (by decide +kernel))⟩
theorem fl_X1_9 : FL RX1 9 1 0 2 true := ⟨(RX1, TX1, 11), cl_1, by decide, rfl, rfl, rfl, Or.inl (TO_in (List.mem_of_getElem? (i := 210) (by decide +kernel)) (by decide +kernel))⟩
theorem ff_X1_9 : ∃ q, vwCl[1]? = some q ∧ q.1 = RX1 ∧ Cond.fieldLink RX1 9 q.1 (q.2.1 0).2.1 (q.2.1 0).2.2.1 ∈ TO_ := ⟨(RX1, TX1, 11), rfl, rfl, (TO_in (List.mem_of_getElem? (i := 210) (by decide +kernel)) (by decide +kernel))⟩
theorem fl_X1_15 : FL RX1 15 1 1 2 true := ⟨(RX1, TX1, 11), cl_1, by decide, rfl, rfl, rfl, Or.inl (TO_in (List.mem_of_getElem? (i := 211) (by decide +kernel)) (by decide +kernel))⟩
theorem ff_X1_15 : ∃ q, vwCl[1]? = some q ∧ q.1 = RX1 ∧ Cond.fieldLink RX1 15 q.1 (q.2.1 1).2.1 (q.2.1 1).2.2.1 ∈ TO_ := ⟨(RX1, TX1, 11), rfl, rfl, (TO_in (List.mem_of_getElem? (i := 211) (by decide +kernel)) (by decide +kernel))⟩
theorem fl_X1_21 : FL RX1 21 1 2 2 true := ⟨(RX1, TX1, 11), cl_1, by decide, rfl, rfl, rfl, Or.inl (TO_in (List.mem_of_getElem? (i := 212) (by decide +kernel)) (by decide +kernel))⟩
theorem ff_X1_21 : ∃ q, vwCl[1]? = some q ∧ q.1 = RX1 ∧ Cond.fieldLink RX1 21 q.1 (q.2.1 2).2.1 (q.2.1 2).2.2.1 ∈ TO_ := ⟨(RX1, TX1, 11), rfl, rfl, (TO_in (List.mem_of_getElem? (i := 212) (by decide +kernel)) (by decide +kernel))⟩
theorem fl_X4_327 : FL RX4 327 1 2 2 true := ⟨(RX1, TX1, 11), cl_1, by decide, rfl, rfl, rfl, Or.inr (TO_in (List.mem_of_getElem? (i := 213) (by decide +kernel)) (by decide +kernel))⟩
theorem fl_X1_25 : FL RX1 25 1 3 2 false := ⟨(RX1, TX1, 11), cl_1, by decide, rfl, rfl, rfl, Or.inl (TO_in (List.mem_of_getElem? (i := 214) (by decide +kernel)) (by decide +kernel))⟩
theorem fl_X4_129 : FL RX4 129 1 3 2 false := ⟨(RX1, TX1, 11), cl_1, by decide, rfl, rfl, rfl, Or.inr (TO_in (List.mem_of_getElem? (i := 215) (by decide +kernel)) (by decide +kernel))⟩
theorem fl_X1_29 : FL RX1 29 1 4 0 false := ⟨(RX1, TX1, 11), cl_1, by decide, rfl, rfl, rfl, Or.inl (TO_in (List.mem_of_getElem? (i := 216) (by decide +kernel)) (by decide +kernel))⟩
theorem fl_X4_161 : FL RX4 161 1 4 0 false := ⟨(RX1, TX1, 11), cl_1, by decide, rfl, rfl, rfl, Or.inr (TO_in (List.mem_of_getElem? (i := 217) (by decide +kernel)) (by decide +kernel))⟩
theorem fl_X1_33 : FL RX1 33 1 5 0 false := ⟨(RX1, TX1, 11), cl_1, by decide, rfl, rfl, rfl, Or.inl (TO_in (List.mem_of_getElem? (i := 218) (by decide +kernel)) (by decide +kernel))⟩
theorem fl_X4_123 : FL RX4 123 1 5 0 false := ⟨(RX1, TX1, 11), cl_1, by decide, rfl, rfl, rfl, Or.inr (TO_in (List.mem_of_getElem? (i := 219) (by decide +kernel)) (by decide +kernel))⟩
theorem fl_X1_36 : FL RX1 36 1 6 0 false := ⟨(RX1, TX1, 11), cl_1, by decide, rfl, rfl, rfl, Or.inl (TO_in (List.mem_of_getElem? (i := 220) (by decide +kernel)) (by decide +kernel))⟩
theorem fl_X4_126 : FL RX4 126 1 6 0 false := ⟨(RX1, TX1, 11), cl_1, by decide, rfl, rfl, rfl, Or.inr (TO_in (List.mem_of_getElem? (i := 221) (by decide +kernel)) (by decide +kernel))⟩
theorem fl_X1_39 : FL RX1 39 1 7 0 false := ⟨(RX1, TX1, 11), cl_1, by decide, rfl, rfl, rfl, Or.inl (TO_in (List.mem_of_getElem? (i := 222) (by decide +kernel)) (by decide +kernel))⟩
theorem fl_X4_186 : FL RX4 186 1 7 0 false := ⟨(RX1, TX1, 11), cl_1, by decide, rfl, rfl, rfl, Or.inr (TO_in (List.mem_of_getElem? (i := 223) (by decide +kernel)) (by decide +kernel))⟩
theorem fl_X1_42 : FL RX1 42 1 8 3 false := ⟨(RX1, TX1, 11), cl_1, by decide, rfl, rfl, rfl, Or.inl (TO_in (List.mem_of_getElem? (i := 224) (by decide +kernel)) (by decide +kernel))⟩
theorem fl_X4_317 : FL RX4 317 1 8 3 false := ⟨(RX1, TX1, 11), cl_1, by decide, rfl, rfl, rfl, Or.inr (TO_in (List.mem_of_getElem? (i := 225) (by decide +kernel)) (by decide +kernel))⟩
theorem fl_X1_61 : FL RX1 61 1 9 3 false := ⟨(RX1, TX1, 11), cl_1, by decide, rfl, rfl, rfl, Or.inl (TO_in (List.mem_of_getElem? (i := 226) (by decide +kernel)) (by decide +kernel))⟩
theorem fl_X4_321 : FL RX4 321 1 9 3 false := ⟨(RX1, TX1, 11), cl_1, by decide, rfl, rfl, rfl, Or.inr (TO_in (List.mem_of_getElem? (i := 227) (by decide +kernel)) (by decide +kernel))⟩
theorem fl_X1_64 : FL RX1 64 1 10 1 false := ⟨(RX1, TX1, 11), cl_1, by decide, rfl, rfl, rfl, Or.inl (TO_in (List.mem_of_getElem? (i := 228) (by decide +kernel)) (by decide +kernel))⟩
theorem fl_X4_324 : FL RX4 324 1 10 1 false := ⟨(RX1, TX1, 11), cl_1, by decide, rfl, rfl, rfl, Or.inr (TO_in (List.mem_of_getElem? (i := 229) (by decide +kernel)) (by decide +kernel))⟩
theorem fl_X4_12 : FL RX4 12 3 0 2 true := ⟨(RX4, TX4, 19), cl_3, by decide, rfl, rfl, rfl, Or.inl (TO_in (List.mem_of_getElem? (i := 253) (by decide +kernel)) (by decide +kernel))⟩
theorem ff_X4_12 : ∃ q, vwCl[3]? = some q ∧ q.1 = RX4 ∧ Cond.fieldLink RX4 12 q.1 (q.2.1 0).2.1 (q.2.1 0).2.2.1 ∈ TO_ := ⟨(RX4, TX4, 19), rfl, rfl, (TO_in (List.mem_of_getElem? (i := 253) (by decide +kernel)) (by decide +kernel))⟩
theorem fl_X9_24 : FL RX9 24 3 0 2 true := ⟨(RX4, TX4, 19), cl_3, by decide, rfl, rfl, rfl, Or.inr (TO_in (List.mem_of_getElem? (i := 254) (by decide +kernel)) (by decide +kernel))⟩
theorem fl_X4_21 : FL RX4 21 3 1 2 true := ⟨(RX4, TX4, 19), cl_3, by decide, rfl, rfl, rfl, Or.inl (TO_in (List.mem_of_getElem? (i := 255) (by decide +kernel)) (by decide +kernel))⟩
theorem ff_X4_21 : ∃ q, vwCl[3]? = some q ∧ q.1 = RX4 ∧ Cond.fieldLink RX4 21 q.1 (q.2.1 1).2.1 (q.2.1 1).2.2.1 ∈ TO_ := ⟨(RX4, TX4, 19), rfl, rfl, (TO_in (List.mem_of_getElem? (i := 255) (by decide +kernel)) (by decide +kernel))⟩
theorem fl_X9_63 : FL RX9 63 3 1 2 true := ⟨(RX4, TX4, 19), cl_3, by decide, rfl, rfl, rfl, Or.inr (TO_in (List.mem_of_getElem? (i := 256) (by decide +kernel)) (by decide +kernel))⟩
theorem fl_X4_28 : FL RX4 28 3 2 2 true := ⟨(RX4, TX4, 19), cl_3, by decide, rfl, rfl, rfl, Or.inl (TO_in (List.mem_of_getElem? (i := 257) (by decide +kernel)) (by decide +kernel))⟩
theorem ff_X4_28 : ∃ q, vwCl[3]? = some q ∧ q.1 = RX4 ∧ Cond.fieldLink RX4 28 q.1 (q.2.1 2).2.1 (q.2.1 2).2.2.1 ∈ TO_ := ⟨(RX4, TX4, 19), rfl, rfl, (TO_in (List.mem_of_getElem? (i := 257) (by decide +kernel)) (by decide +kernel))⟩
theorem fl_X9_165 : FL RX9 165 3 2 2 true := ⟨(RX4, TX4, 19), cl_3, by decide, rfl, rfl, rfl, Or.inr (TO_in (List.mem_of_getElem? (i := 258) (by decide +kernel)) (by decide +kernel))⟩
theorem fl_X4_34 : FL RX4 34 3 3 2 true := ⟨(RX4, TX4, 19), cl_3, by decide, rfl, rfl, rfl, Or.inl (TO_in (List.mem_of_getElem? (i := 259) (by decide +kernel)) (by decide +kernel))⟩
theorem ff_X4_34 : ∃ q, vwCl[3]? = some q ∧ q.1 = RX4 ∧ Cond.fieldLink RX4 34 q.1 (q.2.1 3).2.1 (q.2.1 3).2.2.1 ∈ TO_ := ⟨(RX4, TX4, 19), rfl, rfl, (TO_in (List.mem_of_getElem? (i := 259) (by decide +kernel)) (by decide +kernel))⟩
theorem fl_X4_56 : FL RX4 56 3 4 0 false := ⟨(RX4, TX4, 19), cl_3, by decide, rfl, rfl, rfl, Or.inl (TO_in (List.mem_of_getElem? (i := 260) (by decide +kernel)) (by decide +kernel))⟩
theorem fl_X9_162 : FL RX9 162 3 4 0 false := ⟨(RX4, TX4, 19), cl_3, by decide, rfl, rfl, rfl, Or.inr (TO_in (List.mem_of_getElem? (i := 261) (by decide +kernel)) (by decide +kernel))⟩
theorem fl_X4_40 : FL RX4 40 3 5 2 true := ⟨(RX4, TX4, 19), cl_3, by decide, rfl, rfl, rfl, Or.inl (TO_in (List.mem_of_getElem? (i := 262) (by decide +kernel)) (by decide +kernel))⟩
theorem ff_X4_40 : ∃ q, vwCl[3]? = some q ∧ q.1 = RX4 ∧ Cond.fieldLink RX4 40 q.1 (q.2.1 5).2.1 (q.2.1 5).2.2.1 ∈ TO_ := ⟨(RX4, TX4, 19), rfl, rfl, (TO_in (List.mem_of_getElem? (i := 262) (by decide +kernel)) (by decide +kernel))⟩
theorem fl_X4_44 : FL RX4 44 3 6 2 true := ⟨(RX4, TX4, 19), cl_3, by decide, rfl, rfl, rfl, Or.inl (TO_in (List.mem_of_getElem? (i := 263) (by decide +kernel)) (by decide +kernel))⟩
theorem ff_X4_44 : ∃ q, vwCl[3]? = some q ∧ q.1 = RX4 ∧ Cond.fieldLink RX4 44 q.1 (q.2.1 6).2.1 (q.2.1 6).2.2.1 ∈ TO_ := ⟨(RX4, TX4, 19), rfl, rfl, (TO_in (List.mem_of_getElem? (i := 263) (by decide +kernel)) (by decide +kernel))⟩
theorem fl_X9_155 : FL RX9 155 3 6 2 true := ⟨(RX4, TX4, 19), cl_3, by decide, rfl, rfl, rfl, Or.inr (TO_in (List.mem_of_getElem? (i := 264) (by decide +kernel)) (by decide +kernel))⟩
theorem fl_X4_51 : FL RX4 51 3 7 2 true := ⟨(RX4, TX4, 19), cl_3, by decide, rfl, rfl, rfl, Or.inl (TO_in (List.mem_of_getElem? (i := 265) (by decide +kernel)) (by decide +kernel))⟩
theorem ff_X4_51 : ∃ q, vwCl[3]? = some q ∧ q.1 = RX4 ∧ Cond.fieldLink RX4 51 q.1 (q.2.1 7).2.1 (q.2.1 7).2.2.1 ∈ TO_ := ⟨(RX4, TX4, 19), rfl, rfl, (TO_in (List.mem_of_getElem? (i := 265) (by decide +kernel)) (by decide +kernel))⟩
theorem fl_X9_119 : FL RX9 119 3 7 2 true := ⟨(RX4, TX4, 19), cl_3, by decide, rfl, rfl, rfl, Or.inr (TO_in (List.mem_of_getElem? (i := 266) (by decide +kernel)) (by decide +kernel))⟩
theorem fl_X4_78 : FL RX4 78 3 8 0 false := ⟨(RX4, TX4, 19), cl_3, by decide, rfl, rfl, rfl, Or.inl (TO_in (List.mem_of_getElem? (i := 267) (by decide +kernel)) (by decide +kernel))⟩
theorem fl_X4_88 : FL RX4 88 3 9 0 false := ⟨(RX4, TX4, 19), cl_3, by decide, rfl, rfl, rfl, Or.inl (TO_in (List.mem_of_getElem? (i := 268) (by decide +kernel)) (by decide +kernel))⟩
theorem fl_X9_152 : FL RX9 152 3 9 0 false := ⟨(RX4, TX4, 19), cl_3, by decide, rfl, rfl, rfl, Or.inr (TO_in (List.mem_of_getElem? (i := 269) (by decide +kernel)) (by decide +kernel))⟩
theorem fl_X4_75 : FL RX4 75 3 10 0 false := ⟨(RX4, TX4, 19), cl_3, by decide, rfl, rfl, rfl, Or.inl (TO_in (List.mem_of_getElem? (i := 270) (by decide +kernel)) (by decide +kernel))⟩
theorem fl_X4_91 : FL RX4 91 3 11 0 false := ⟨(RX4, TX4, 19), cl_3, by decide, rfl, rfl, rfl, Or.inl (TO_in (List.mem_of_getElem? (i := 271) (by decide +kernel)) (by decide +kernel))⟩
theorem fl_X4_94 : FL RX4 94 3 12 0 false := ⟨(RX4, TX4, 19), cl_3, by decide, rfl, rfl, rfl, Or.inl (TO_in (List.mem_of_getElem? (i := 272) (by decide +kernel)) (by decide +kernel))⟩
theorem fl_X9_134 : FL RX9 134 3 12 0 false := ⟨(RX4, TX4, 19), cl_3, by decide, rfl, rfl, rfl, Or.inr (TO_in (List.mem_of_getElem? (i := 273) (by decide +kernel)) (by decide +kernel))⟩
theorem fl_X4_97 : FL RX4 97 3 13 0 false := ⟨(RX4, TX4, 19), cl_3, by decide, rfl, rfl, rfl, Or.inl (TO_in (List.mem_of_getElem? (i := 274) (by decide +kernel)) (by decide +kernel))⟩
theorem fl_X9_137 : FL RX9 137 3 13 0 false := ⟨(RX4, TX4, 19), cl_3, by decide, rfl, rfl, rfl, Or.inr (TO_in (List.mem_of_getElem? (i := 275) (by decide +kernel)) (by decide +kernel))⟩
theorem fl_X4_100 : FL RX4 100 3 14 0 false := ⟨(RX4, TX4, 19), cl_3, by decide, rfl, rfl, rfl, Or.inl (TO_in (List.mem_of_getElem? (i := 276) (by decide +kernel)) (by decide +kernel))⟩
theorem fl_X9_140 : FL RX9 140 3 14 0 false := ⟨(RX4, TX4, 19), cl_3, by decide, rfl, rfl, rfl, Or.inr (TO_in (List.mem_of_getElem? (i := 277) (by decide +kernel)) (by decide +kernel))⟩
theorem fl_X4_103 : FL RX4 103 3 15 0 false := ⟨(RX4, TX4, 19), cl_3, by decide, rfl, rfl, rfl, Or.inl (TO_in (List.mem_of_getElem? (i := 278) (by decide +kernel)) (by decide +kernel))⟩
theorem fl_X9_143 : FL RX9 143 3 15 0 false := ⟨(RX4, TX4, 19), cl_3, by decide, rfl, rfl, rfl, Or.inr (TO_in (List.mem_of_getElem? (i := 279) (by decide +kernel)) (by decide +kernel))⟩
theorem fl_X4_106 : FL RX4 106 3 16 0 false := ⟨(RX4, TX4, 19), cl_3, by decide, rfl, rfl, rfl, Or.inl (TO_in (List.mem_of_getElem? (i := 280) (by decide +kernel)) (by decide +kernel))⟩
theorem fl_X9_146 : FL RX9 146 3 16 0 false := ⟨(RX4, TX4, 19), cl_3, by decide, rfl, rfl, rfl, Or.inr (TO_in (List.mem_of_getElem? (i := 281) (by decide +kernel)) (by decide +kernel))⟩
theorem fl_X4_109 : FL RX4 109 3 17 1 false := ⟨(RX4, TX4, 19), cl_3, by decide, rfl, rfl, rfl, Or.inl (TO_in (List.mem_of_getElem? (i := 282) (by decide +kernel)) (by decide +kernel))⟩
theorem fl_X9_115 : FL RX9 115 3 17 1 false := ⟨(RX4, TX4, 19), cl_3, by decide, rfl, rfl, rfl, Or.inr (TO_in (List.mem_of_getElem? (i := 283) (by decide +kernel)) (by decide +kernel))⟩
theorem fl_X4_158 : FL RX4 158 3 18 1 false := ⟨(RX4, TX4, 19), cl_3, by decide, rfl, rfl, rfl, Or.inl (TO_in (List.mem_of_getElem? (i := 284) (by decide +kernel)) (by decide +kernel))⟩
theorem fl_X9_10 : FL RX9 10 7 0 2 true := ⟨(RX9, TX9, 1), cl_7, by decide, rfl, rfl, rfl, Or.inl (TO_in (List.mem_of_getElem? (i := 324) (by decide +kernel)) (by decide +kernel))⟩
theorem ff_X9_10 : ∃ q, vwCl[7]? = some q ∧ q.1 = RX9 ∧ Cond.fieldLink RX9 10 q.1 (q.2.1 0).2.1 (q.2.1 0).2.2.1 ∈ TO_ := ⟨(RX9, TX9, 1), rfl, rfl, (TO_in (List.mem_of_getElem? (i := 324) (by decide +kernel)) (by decide +kernel))⟩
theorem sl_X8_49 : SL RX8 49 1 := ⟨by decide, (TO_in (List.mem_of_getElem? (i := 434) (by decide +kernel)) (by decide +kernel))⟩
theorem fl_X7_37 : FL RX7 37 5 0 0 true := ⟨(RX7, TX7, 11), cl_5, by decide, rfl, rfl, rfl, Or.inl (TO_in (List.mem_of_getElem? (i := 454) (by decide +kernel)) (by decide +kernel))⟩
theorem ff_X7_37 : ∃ q, vwCl[5]? = some q ∧ q.1 = RX7 ∧ Cond.fieldLink RX7 37 q.1 (q.2.1 0).2.1 (q.2.1 0).2.2.1 ∈ TO_ := ⟨(RX7, TX7, 11), rfl, rfl, (TO_in (List.mem_of_getElem? (i := 454) (by decide +kernel)) (by decide +kernel))⟩
theorem fl_X4_307 : FL RX4 307 5 0 0 true := ⟨(RX7, TX7, 11), cl_5, by decide, rfl, rfl, rfl, Or.inr (TO_in (List.mem_of_getElem? (i := 455) (by decide +kernel)) (by decide +kernel))⟩
theorem fl_X9_182 : FL RX9 182 5 0 0 true := ⟨(RX7, TX7, 11), cl_5, by decide, rfl, rfl, rfl, Or.inr (TO_in (List.mem_of_getElem? (i := 456) (by decide +kernel)) (by decide +kernel))⟩
theorem fl_X7_9 : FL RX7 9 5 1 2 true := ⟨(RX7, TX7, 11), cl_5, by decide, rfl, rfl, rfl, Or.inl (TO_in (List.mem_of_getElem? (i := 457) (by decide +kernel)) (by decide +kernel))⟩
theorem ff_X7_9 : ∃ q, vwCl[5]? = some q ∧ q.1 = RX7 ∧ Cond.fieldLink RX7 9 q.1 (q.2.1 1).2.1 (q.2.1 1).2.2.1 ∈ TO_ := ⟨(RX7, TX7, 11), rfl, rfl, (TO_in (List.mem_of_getElem? (i := 457) (by decide +kernel)) (by decide +kernel))⟩
theorem fl_X4_133 : FL RX4 133 5 1 2 true := ⟨(RX7, TX7, 11), cl_5, by decide, rfl, rfl, rfl, Or.inr (TO_in (List.mem_of_getElem? (i := 458) (by decide +kernel)) (by decide +kernel))⟩
theorem fl_X7_15 : FL RX7 15 5 2 2 true := ⟨(RX7, TX7, 11), cl_5, by decide, rfl, rfl, rfl, Or.inl (TO_in (List.mem_of_getElem? (i := 459) (by decide +kernel)) (by decide +kernel))⟩
theorem ff_X7_15 : ∃ q, vwCl[5]? = some q ∧ q.1 = RX7 ∧ Cond.fieldLink RX7 15 q.1 (q.2.1 2).2.1 (q.2.1 2).2.2.1 ∈ TO_ := ⟨(RX7, TX7, 11), rfl, rfl, (TO_in (List.mem_of_getElem? (i := 459) (by decide +kernel)) (by decide +kernel))⟩
theorem fl_X4_137 : FL RX4 137 5 2 2 true := ⟨(RX7, TX7, 11), cl_5, by decide, rfl, rfl, rfl, Or.inr (TO_in (List.mem_of_getElem? (i := 460) (by decide +kernel)) (by decide +kernel))⟩
theorem fl_X7_18 : FL RX7 18 5 3 2 true := ⟨(RX7, TX7, 11), cl_5, by decide, rfl, rfl, rfl, Or.inl (TO_in (List.mem_of_getElem? (i := 461) (by decide +kernel)) (by decide +kernel))⟩
theorem ff_X7_18 : ∃ q, vwCl[5]? = some q ∧ q.1 = RX7 ∧ Cond.fieldLink RX7 18 q.1 (q.2.1 3).2.1 (q.2.1 3).2.2.1 ∈ TO_ := ⟨(RX7, TX7, 11), rfl, rfl, (TO_in (List.mem_of_getElem? (i := 461) (by decide +kernel)) (by decide +kernel))⟩
theorem fl_X4_140 : FL RX4 140 5 3 2 true := ⟨(RX7, TX7, 11), cl_5, by decide, rfl, rfl, rfl, Or.inr (TO_in (List.mem_of_getElem? (i := 462) (by decide +kernel)) (by decide +kernel))⟩
theorem fl_X7_21 : FL RX7 21 5 4 2 true := ⟨(RX7, TX7, 11), cl_5, by decide, rfl, rfl, rfl, Or.inl (TO_in (List.mem_of_getElem? (i := 463) (by decide +kernel)) (by decide +kernel))⟩
theorem ff_X7_21 : ∃ q, vwCl[5]? = some q ∧ q.1 = RX7 ∧ Cond.fieldLink RX7 21 q.1 (q.2.1 4).2.1 (q.2.1 4).2.2.1 ∈ TO_ := ⟨(RX7, TX7, 11), rfl, rfl, (TO_in (List.mem_of_getElem? (i := 463) (by decide +kernel)) (by decide +kernel))⟩
theorem fl_X7_24 : FL RX7 24 5 5 2 true := ⟨(RX7, TX7, 11), cl_5, by decide, rfl, rfl, rfl, Or.inl (TO_in (List.mem_of_getElem? (i := 464) (by decide +kernel)) (by decide +kernel))⟩
theorem ff_X7_24 : ∃ q, vwCl[5]? = some q ∧ q.1 = RX7 ∧ Cond.fieldLink RX7 24 q.1 (q.2.1 5).2.1 (q.2.1 5).2.2.1 ∈ TO_ := ⟨(RX7, TX7, 11), rfl, rfl, (TO_in (List.mem_of_getElem? (i := 464) (by decide +kernel)) (by decide +kernel))⟩
theorem fl_X7_27 : FL RX7 27 5 6 2 true := ⟨(RX7, TX7, 11), cl_5, by decide, rfl, rfl, rfl, Or.inl (TO_in (List.mem_of_getElem? (i := 465) (by decide +kernel)) (by decide +kernel))⟩
theorem ff_X7_27 : ∃ q, vwCl[5]? = some q ∧ q.1 = RX7 ∧ Cond.fieldLink RX7 27 q.1 (q.2.1 6).2.1 (q.2.1 6).2.2.1 ∈ TO_ := ⟨(RX7, TX7, 11), rfl, rfl, (TO_in (List.mem_of_getElem? (i := 465) (by decide +kernel)) (by decide +kernel))⟩
theorem fl_X7_30 : FL RX7 30 5 7 2 true := ⟨(RX7, TX7, 11), cl_5, by decide, rfl, rfl, rfl, Or.inl (TO_in (List.mem_of_getElem? (i := 466) (by decide +kernel)) (by decide +kernel))⟩
theorem ff_X7_30 : ∃ q, vwCl[5]? = some q ∧ q.1 = RX7 ∧ Cond.fieldLink RX7 30 q.1 (q.2.1 7).2.1 (q.2.1 7).2.2.1 ∈ TO_ := ⟨(RX7, TX7, 11), rfl, rfl, (TO_in (List.mem_of_getElem? (i := 466) (by decide +kernel)) (by decide +kernel))⟩
theorem fl_X7_52 : FL RX7 52 5 8 0 false := ⟨(RX7, TX7, 11), cl_5, by decide, rfl, rfl, rfl, Or.inl (TO_in (List.mem_of_getElem? (i := 467) (by decide +kernel)) (by decide +kernel))⟩
theorem fl_X9_108 : FL RX9 108 5 8 0 false := ⟨(RX7, TX7, 11), cl_5, by decide, rfl, rfl, rfl, Or.inr (TO_in (List.mem_of_getElem? (i := 468) (by decide +kernel)) (by decide +kernel))⟩
theorem fl_X4_304 : FL RX4 304 5 8 0 false := ⟨(RX7, TX7, 11), cl_5, by decide, rfl, rfl, rfl, Or.inr (TO_in (List.mem_of_getElem? (i := 469) (by decide +kernel)) (by decide +kernel))⟩
theorem fl_X7_56 : FL RX7 56 5 9 0 false := ⟨(RX7, TX7, 11), cl_5, by decide, rfl, rfl, rfl, Or.inl (TO_in (List.mem_of_getElem? (i := 470) (by decide +kernel)) (by decide +kernel))⟩
theorem fl_X9_185 : FL RX9 185 5 9 0 false := ⟨(RX7, TX7, 11), cl_5, by decide, rfl, rfl, rfl, Or.inr (TO_in (List.mem_of_getElem? (i := 471) (by decide +kernel)) (by decide +kernel))⟩
theorem fl_X7_33 : FL RX7 33 5 10 0 false := ⟨(RX7, TX7, 11), cl_5, by decide, rfl, rfl, rfl, Or.inl (TO_in (List.mem_of_getElem? (i := 472) (by decide +kernel)) (by decide +kernel))⟩
theorem fl_X1_52 : FL RX1 52 5 10 0 false := ⟨(RX7, TX7, 11), cl_5, by decide, rfl, rfl, rfl, Or.inr (TO_in (List.mem_of_getElem? (i := 473) (by decide +kernel)) (by decide +kernel))⟩
theorem fl_X9_104 : FL RX9 104 5 10 0 false := ⟨(RX7, TX7, 11), cl_5, by decide, rfl, rfl, rfl, Or.inr (TO_in (List.mem_of_getElem? (i := 474) (by decide +kernel)) (by decide +kernel))⟩
theorem sl_X6_15 : SL RX6 15 3 := ⟨by decide, (TO_in (List.mem_of_getElem? (i := 577) (by decide +kernel)) (by decide +kernel))⟩
theorem sl_X8_46 : SL RX8 46 0 := ⟨by decide, (TO_in (List.mem_of_getElem? (i := 688) (by decide +kernel)) (by decide +kernel))⟩
theorem sl_X8_62 : SL RX8 62 2 := ⟨by decide, (TO_in (List.mem_of_getElem? (i := 717) (by decide +kernel)) (by decide +kernel))⟩
theorem fl_X10_7 : FL RX10 7 8 0 2 true := ⟨(RX10, TX10, 63), cl_8, by decide, rfl, rfl, rfl, Or.inl (TO_in (List.mem_of_getElem? (i := 830) (by decide +kernel)) (by decide +kernel))⟩
theorem ff_X10_7 : ∃ q, vwCl[8]? = some q ∧ q.1 = RX10 ∧ Cond.fieldLink RX10 7 q.1 (q.2.1 0).2.1 (q.2.1 0).2.2.1 ∈ TO_ := ⟨(RX10, TX10, 63), rfl, rfl, (TO_in (List.mem_of_getElem? (i := 830) (by decide +kernel)) (by decide +kernel))⟩
theorem fl_X10_13 : FL RX10 13 8 1 2 true := ⟨(RX10, TX10, 63), cl_8, by decide, rfl, rfl, rfl, Or.inl (TO_in (List.mem_of_getElem? (i := 831) (by decide +kernel)) (by decide +kernel))⟩
theorem ff_X10_13 : ∃ q, vwCl[8]? = some q ∧ q.1 = RX10 ∧ Cond.fieldLink RX10 13 q.1 (q.2.1 1).2.1 (q.2.1 1).2.2.1 ∈ TO_ := ⟨(RX10, TX10, 63), rfl, rfl, (TO_in (List.mem_of_getElem? (i := 831) (by decide +kernel)) (by decide +kernel))⟩
theorem fl_X10_16 : FL RX10 16 8 2 2 true := ⟨(RX10, TX10, 63), cl_8, by decide, rfl, rfl, rfl, Or.inl (TO_in (List.mem_of_getElem? (i := 832) (by decide +kernel)) (by decide +kernel))⟩
theorem ff_X10_16 : ∃ q, vwCl[8]? = some q ∧ q.1 = RX10 ∧ Cond.fieldLink RX10 16 q.1 (q.2.1 2).2.1 (q.2.1 2).2.2.1 ∈ TO_ := ⟨(RX10, TX10, 63), rfl, rfl, (TO_in (List.mem_of_getElem? (i := 832) (by decide +kernel)) (by decide +kernel))⟩
theorem fl_X10_19 : FL RX10 19 8 3 2 true := ⟨(RX10, TX10, 63), cl_8, by decide, rfl, rfl, rfl, Or.inl (TO_in (List.mem_of_getElem? (i := 833) (by decide +kernel)) (by decide +kernel))⟩
theorem ff_X10_19 : ∃ q, vwCl[8]? = some q ∧ q.1 = RX10 ∧ Cond.fieldLink RX10 19 q.1 (q.2.1 3).2.1 (q.2.1 3).2.2.1 ∈ TO_ := ⟨(RX10, TX10, 63), rfl, rfl, (TO_in (List.mem_of_getElem? (i := 833) (by decide +kernel)) (by decide +kernel))⟩
theorem fl_X10_23 : FL RX10 23 8 4 2 true := ⟨(RX10, TX10, 63), cl_8, by decide, rfl, rfl, rfl, Or.inl (TO_in (List.mem_of_getElem? (i := 834) (by decide +kernel)) (by decide +kernel))⟩
theorem ff_X10_23 : ∃ q, vwCl[8]? = some q ∧ q.1 = RX10 ∧ Cond.fieldLink RX10 23 q.1 (q.2.1 4).2.1 (q.2.1 4).2.2.1 ∈ TO_ := ⟨(RX10, TX10, 63), rfl, rfl, (TO_in (List.mem_of_getElem? (i := 834) (by decide +kernel)) (by decide +kernel))⟩
theorem fl_X10_182 : FL RX10 182 8 5 0 false := ⟨(RX10, TX10, 63), cl_8, by decide, rfl, rfl, rfl, Or.inl (TO_in (List.mem_of_getElem? (i := 835) (by decide +kernel)) (by decide +kernel))⟩
theorem fl_X10_27 : FL RX10 27 8 6 2 true := ⟨(RX10, TX10, 63), cl_8, by decide, rfl, rfl, rfl, Or.inl (TO_in (List.mem_of_getElem? (i := 836) (by decide +kernel)) (by decide +kernel))⟩
theorem ff_X10_27 : ∃ q, vwCl[8]? = some q ∧ q.1 = RX10 ∧ Cond.fieldLink RX10 27 q.1 (q.2.1 6).2.1 (q.2.1 6).2.2.1 ∈ TO_ := ⟨(RX10, TX10, 63), rfl, rfl, (TO_in (List.mem_of_getElem? (i := 836) (by decide +kernel)) (by decide +kernel))⟩
theorem fl_X10_30 : FL RX10 30 8 7 2 true := ⟨(RX10, TX10, 63), cl_8, by decide, rfl, rfl, rfl, Or.inl (TO_in (List.mem_of_getElem? (i := 837) (by decide +kernel)) (by decide +kernel))⟩
theorem ff_X10_30 : ∃ q, vwCl[8]? = some q ∧ q.1 = RX10 ∧ Cond.fieldLink RX10 30 q.1 (q.2.1 7).2.1 (q.2.1 7).2.2.1 ∈ TO_ := ⟨(RX10, TX10, 63), rfl, rfl, (TO_in (List.mem_of_getElem? (i := 837) (by decide +kernel)) (by decide +kernel))⟩
theorem fl_X10_33 : FL RX10 33 8 8 2 true := ⟨(RX10, TX10, 63), cl_8, by decide, rfl, rfl, rfl, Or.inl (TO_in (List.mem_of_getElem? (i := 838) (by decide +kernel)) (by decide +kernel))⟩
theorem ff_X10_33 : ∃ q, vwCl[8]? = some q ∧ q.1 = RX10 ∧ Cond.fieldLink RX10 33 q.1 (q.2.1 8).2.1 (q.2.1 8).2.2.1 ∈ TO_ := ⟨(RX10, TX10, 63), rfl, rfl, (TO_in (List.mem_of_getElem? (i := 838) (by decide +kernel)) (by decide +kernel))⟩
theorem fl_X10_36 : FL RX10 36 8 9 2 true := ⟨(RX10, TX10, 63), cl_8, by decide, rfl, rfl, rfl, Or.inl (TO_in (List.mem_of_getElem? (i := 839) (by decide +kernel)) (by decide +kernel))⟩
theorem ff_X10_36 : ∃ q, vwCl[8]? = some q ∧ q.1 = RX10 ∧ Cond.fieldLink RX10 36 q.1 (q.2.1 9).2.1 (q.2.1 9).2.2.1 ∈ TO_ := ⟨(RX10, TX10, 63), rfl, rfl, (TO_in (List.mem_of_getElem? (i := 839) (by decide +kernel)) (by decide +kernel))⟩
theorem fl_X10_39 : FL RX10 39 8 10 2 true := ⟨(RX10, TX10, 63), cl_8, by decide, rfl, rfl, rfl, Or.inl (TO_in (List.mem_of_getElem? (i := 840) (by decide +kernel)) (by decide +kernel))⟩
theorem ff_X10_39 : ∃ q, vwCl[8]? = some q ∧ q.1 = RX10 ∧ Cond.fieldLink RX10 39 q.1 (q.2.1 10).2.1 (q.2.1 10).2.2.1 ∈ TO_ := ⟨(RX10, TX10, 63), rfl, rfl, (TO_in (List.mem_of_getElem? (i := 840) (by decide +kernel)) (by decide +kernel))⟩
theorem fl_X10_207 : FL RX10 207 8 11 0 false := ⟨(RX10, TX10, 63), cl_8, by decide, rfl, rfl, rfl, Or.inl (TO_in (List.mem_of_getElem? (i := 841) (by decide +kernel)) (by decide +kernel))⟩
theorem fl_X10_198 : FL RX10 198 8 12 0 false := ⟨(RX10, TX10, 63), cl_8, by decide, rfl, rfl, rfl, Or.inl (TO_in (List.mem_of_getElem? (i := 842) (by decide +kernel)) (by decide +kernel))⟩
theorem fl_X10_203 : FL RX10 203 8 13 1 false := ⟨(RX10, TX10, 63), cl_8, by decide, rfl, rfl, rfl, Or.inl (TO_in (List.mem_of_getElem? (i := 843) (by decide +kernel)) (by decide +kernel))⟩
theorem fl_X10_217 : FL RX10 217 8 14 0 false := ⟨(RX10, TX10, 63), cl_8, by decide, rfl, rfl, rfl, Or.inl (TO_in (List.mem_of_getElem? (i := 844) (by decide +kernel)) (by decide +kernel))⟩
theorem fl_X10_42 : FL RX10 42 8 15 2 true := ⟨(RX10, TX10, 63), cl_8, by decide, rfl, rfl, rfl, Or.inl (TO_in (List.mem_of_getElem? (i := 845) (by decide +kernel)) (by decide +kernel))⟩
theorem ff_X10_42 : ∃ q, vwCl[8]? = some q ∧ q.1 = RX10 ∧ Cond.fieldLink RX10 42 q.1 (q.2.1 15).2.1 (q.2.1 15).2.2.1 ∈ TO_ := ⟨(RX10, TX10, 63), rfl, rfl, (TO_in (List.mem_of_getElem? (i := 845) (by decide +kernel)) (by decide +kernel))⟩
theorem fl_X10_45 : FL RX10 45 8 16 2 true := ⟨(RX10, TX10, 63), cl_8, by decide, rfl, rfl, rfl, Or.inl (TO_in (List.mem_of_getElem? (i := 846) (by decide +kernel)) (by decide +kernel))⟩
theorem ff_X10_45 : ∃ q, vwCl[8]? = some q ∧ q.1 = RX10 ∧ Cond.fieldLink RX10 45 q.1 (q.2.1 16).2.1 (q.2.1 16).2.2.1 ∈ TO_ := ⟨(RX10, TX10, 63), rfl, rfl, (TO_in (List.mem_of_getElem? (i := 846) (by decide +kernel)) (by decide +kernel))⟩
theorem fl_X10_48 : FL RX10 48 8 17 2 true := ⟨(RX10, TX10, 63), cl_8, by decide, rfl, rfl, rfl, Or.inl (TO_in (List.mem_of_getElem? (i := 847) (by decide +kernel)) (by decide +kernel))⟩
theorem ff_X10_48 : ∃ q, vwCl[8]? = some q ∧ q.1 = RX10 ∧ Cond.fieldLink RX10 48 q.1 (q.2.1 17).2.1 (q.2.1 17).2.2.1 ∈ TO_ := ⟨(RX10, TX10, 63), rfl, rfl, (TO_in (List.mem_of_getElem? (i := 847) (by decide +kernel)) (by decide +kernel))⟩
theorem fl_X10_51 : FL RX10 51 8 18 2 true := ⟨(RX10, TX10, 63), cl_8, by decide, rfl, rfl, rfl, Or.inl (TO_in (List.mem_of_getElem? (i := 848) (by decide +kernel)) (by decide +kernel))⟩
theorem ff_X10_51 : ∃ q, vwCl[8]? = some q ∧ q.1 = RX10 ∧ Cond.fieldLink RX10 51 q.1 (q.2.1 18).2.1 (q.2.1 18).2.2.1 ∈ TO_ := ⟨(RX10, TX10, 63), rfl, rfl, (TO_in (List.mem_of_getElem? (i := 848) (by decide +kernel)) (by decide +kernel))⟩
theorem fl_X10_54 : FL RX10 54 8 19 2 true := ⟨(RX10, TX10, 63), cl_8, by decide, rfl, rfl, rfl, Or.inl (TO_in (List.mem_of_getElem? (i := 849) (by decide +kernel)) (by decide +kernel))⟩
theorem ff_X10_54 : ∃ q, vwCl[8]? = some q ∧ q.1 = RX10 ∧ Cond.fieldLink RX10 54 q.1 (q.2.1 19).2.1 (q.2.1 19).2.2.1 ∈ TO_ := ⟨(RX10, TX10, 63), rfl, rfl, (TO_in (List.mem_of_getElem? (i := 849) (by decide +kernel)) (by decide +kernel))⟩
theorem fl_X10_57 : FL RX10 57 8 20 2 true := ⟨(RX10, TX10, 63), cl_8, by decide, rfl, rfl, rfl, Or.inl (TO_in (List.mem_of_getElem? (i := 850) (by decide +kernel)) (by decide +kernel))⟩
theorem ff_X10_57 : ∃ q, vwCl[8]? = some q ∧ q.1 = RX10 ∧ Cond.fieldLink RX10 57 q.1 (q.2.1 20).2.1 (q.2.1 20).2.2.1 ∈ TO_ := ⟨(RX10, TX10, 63), rfl, rfl, (TO_in (List.mem_of_getElem? (i := 850) (by decide +kernel)) (by decide +kernel))⟩
theorem fl_X10_60 : FL RX10 60 8 21 2 true := ⟨(RX10, TX10, 63), cl_8, by decide, rfl, rfl, rfl, Or.inl (TO_in (List.mem_of_getElem? (i := 851) (by decide +kernel)) (by decide +kernel))⟩
theorem ff_X10_60 : ∃ q, vwCl[8]? = some q ∧ q.1 = RX10 ∧ Cond.fieldLink RX10 60 q.1 (q.2.1 21).2.1 (q.2.1 21).2.2.1 ∈ TO_ := ⟨(RX10, TX10, 63), rfl, rfl, (TO_in (List.mem_of_getElem? (i := 851) (by decide +kernel)) (by decide +kernel))⟩
theorem fl_X10_63 : FL RX10 63 8 22 2 true := ⟨(RX10, TX10, 63), cl_8, by decide, rfl, rfl, rfl, Or.inl (TO_in (List.mem_of_getElem? (i := 852) (by decide +kernel)) (by decide +kernel))⟩
theorem ff_X10_63 : ∃ q, vwCl[8]? = some q ∧ q.1 = RX10 ∧ Cond.fieldLink RX10 63 q.1 (q.2.1 22).2.1 (q.2.1 22).2.2.1 ∈ TO_ := ⟨(RX10, TX10, 63), rfl, rfl, (TO_in (List.mem_of_getElem? (i := 852) (by decide +kernel)) (by decide +kernel))⟩
theorem fl_X10_239 : FL RX10 239 8 23 0 false := ⟨(RX10, TX10, 63), cl_8, by decide, rfl, rfl, rfl, Or.inl (TO_in (List.mem_of_getElem? (i := 853) (by decide +kernel)) (by decide +kernel))⟩
theorem fl_X10_66 : FL RX10 66 8 24 2 true := ⟨(RX10, TX10, 63), cl_8, by decide, rfl, rfl, rfl, Or.inl (TO_in (List.mem_of_getElem? (i := 854) (by decide +kernel)) (by decide +kernel))⟩
theorem ff_X10_66 : ∃ q, vwCl[8]? = some q ∧ q.1 = RX10 ∧ Cond.fieldLink RX10 66 q.1 (q.2.1 24).2.1 (q.2.1 24).2.2.1 ∈ TO_ := ⟨(RX10, TX10, 63), rfl, rfl, (TO_in (List.mem_of_getElem? (i := 854) (by decide +kernel)) (by decide +kernel))⟩
theorem fl_X10_69 : FL RX10 69 8 25 2 true := ⟨(RX10, TX10, 63), cl_8, by decide, rfl, rfl, rfl, Or.inl (TO_in (List.mem_of_getElem? (i := 855) (by decide +kernel)) (by decide +kernel))⟩
theorem ff_X10_69 : ∃ q, vwCl[8]? = some q ∧ q.1 = RX10 ∧ Cond.fieldLink RX10 69 q.1 (q.2.1 25).2.1 (q.2.1 25).2.2.1 ∈ TO_ := ⟨(RX10, TX10, 63), rfl, rfl, (TO_in (List.mem_of_getElem? (i := 855) (by decide +kernel)) (by decide +kernel))⟩
theorem fl_X10_72 : FL RX10 72 8 26 2 true := ⟨(RX10, TX10, 63), cl_8, by decide, rfl, rfl, rfl, Or.inl (TO_in (List.mem_of_getElem? (i := 856) (by decide +kernel)) (by decide +kernel))⟩
theorem ff_X10_72 : ∃ q, vwCl[8]? = some q ∧ q.1 = RX10 ∧ Cond.fieldLink RX10 72 q.1 (q.2.1 26).2.1 (q.2.1 26).2.2.1 ∈ TO_ := ⟨(RX10, TX10, 63), rfl, rfl, (TO_in (List.mem_of_getElem? (i := 856) (by decide +kernel)) (by decide +kernel))⟩
theorem fl_X10_75 : FL RX10 75 8 27 2 true := ⟨(RX10, TX10, 63), cl_8, by decide, rfl, rfl, rfl, Or.inl (TO_in (List.mem_of_getElem? (i := 857) (by decide +kernel)) (by decide +kernel))⟩
theorem ff_X10_75 : ∃ q, vwCl[8]? = some q ∧ q.1 = RX10 ∧ Cond.fieldLink RX10 75 q.1 (q.2.1 27).2.1 (q.2.1 27).2.2.1 ∈ TO_ := ⟨(RX10, TX10, 63), rfl, rfl, (TO_in (List.mem_of_getElem? (i := 857) (by decide +kernel)) (by decide +kernel))⟩
theorem fl_X10_78 : FL RX10 78 8 28 2 true := ⟨(RX10, TX10, 63), cl_8, by decide, rfl, rfl, rfl, Or.inl (TO_in (List.mem_of_getElem? (i := 858) (by decide +kernel)) (by decide +kernel))⟩
theorem ff_X10_78 : ∃ q, vwCl[8]? = some q ∧ q.1 = RX10 ∧ Cond.fieldLink RX10 78 q.1 (q.2.1 28).2.1 (q.2.1 28).2.2.1 ∈ TO_ := ⟨(RX10, TX10, 63), rfl, rfl, (TO_in (List.mem_of_getElem? (i := 858) (by decide +kernel)) (by decide +kernel))⟩
theorem fl_X10_81 : FL RX10 81 8 29 2 true := ⟨(RX10, TX10, 63), cl_8, by decide, rfl, rfl, rfl, Or.inl (TO_in (List.mem_of_getElem? (i := 859) (by decide +kernel)) (by decide +kernel))⟩
theorem ff_X10_81 : ∃ q, vwCl[8]? = some q ∧ q.1 = RX10 ∧ Cond.fieldLink RX10 81 q.1 (q.2.1 29).2.1 (q.2.1 29).2.2.1 ∈ TO_ := ⟨(RX10, TX10, 63), rfl, rfl, (TO_in (List.mem_of_getElem? (i := 859) (by decide +kernel)) (by decide +kernel))⟩
theorem fl_X10_85 : FL RX10 85 8 30 2 true := ⟨(RX10, TX10, 63), cl_8, by decide, rfl, rfl, rfl, Or.inl (TO_in (List.mem_of_getElem? (i := 860) (by decide +kernel)) (by decide +kernel))⟩
theorem ff_X10_85 : ∃ q, vwCl[8]? = some q ∧ q.1 = RX10 ∧ Cond.fieldLink RX10 85 q.1 (q.2.1 30).2.1 (q.2.1 30).2.2.1 ∈ TO_ := ⟨(RX10, TX10, 63), rfl, rfl, (TO_in (List.mem_of_getElem? (i := 860) (by decide +kernel)) (by decide +kernel))⟩
theorem fl_X10_88 : FL RX10 88 8 31 2 true := ⟨(RX10, TX10, 63), cl_8, by decide, rfl, rfl, rfl, Or.inl (TO_in (List.mem_of_getElem? (i := 861) (by decide +kernel)) (by decide +kernel))⟩
theorem ff_X10_88 : ∃ q, vwCl[8]? = some q ∧ q.1 = RX10 ∧ Cond.fieldLink RX10 88 q.1 (q.2.1 31).2.1 (q.2.1 31).2.2.1 ∈ TO_ := ⟨(RX10, TX10, 63), rfl, rfl, (TO_in (List.mem_of_getElem? (i := 861) (by decide +kernel)) (by decide +kernel))⟩
theorem fl_X10_91 : FL RX10 91 8 32 2 true := ⟨(RX10, TX10, 63), cl_8, by decide, rfl, rfl, rfl, Or.inl (TO_in (List.mem_of_getElem? (i := 862) (by decide +kernel)) (by decide +kernel))⟩
theorem ff_X10_91 : ∃ q, vwCl[8]? = some q ∧ q.1 = RX10 ∧ Cond.fieldLink RX10 91 q.1 (q.2.1 32).2.1 (q.2.1 32).2.2.1 ∈ TO_ := ⟨(RX10, TX10, 63), rfl, rfl, (TO_in (List.mem_of_getElem? (i := 862) (by decide +kernel)) (by decide +kernel))⟩
theorem fl_X10_94 : FL RX10 94 8 33 2 true := ⟨(RX10, TX10, 63), cl_8, by decide, rfl, rfl, rfl, Or.inl (TO_in (List.mem_of_getElem? (i := 863) (by decide +kernel)) (by decide +kernel))⟩
theorem ff_X10_94 : ∃ q, vwCl[8]? = some q ∧ q.1 = RX10 ∧ Cond.fieldLink RX10 94 q.1 (q.2.1 33).2.1 (q.2.1 33).2.2.1 ∈ TO_ := ⟨(RX10, TX10, 63), rfl, rfl, (TO_in (List.mem_of_getElem? (i := 863) (by decide +kernel)) (by decide +kernel))⟩
theorem fl_X10_252 : FL RX10 252 8 34 0 false := ⟨(RX10, TX10, 63), cl_8, by decide, rfl, rfl, rfl, Or.inl (TO_in (List.mem_of_getElem? (i := 864) (by decide +kernel)) (by decide +kernel))⟩
theorem fl_X10_258 : FL RX10 258 8 35 1 false := ⟨(RX10, TX10, 63), cl_8, by decide, rfl, rfl, rfl, Or.inl (TO_in (List.mem_of_getElem? (i := 865) (by decide +kernel)) (by decide +kernel))⟩
theorem fl_X10_268 : FL RX10 268 8 36 0 false := ⟨(RX10, TX10, 63), cl_8, by decide, rfl, rfl, rfl, Or.inl (TO_in (List.mem_of_getElem? (i := 866) (by decide +kernel)) (by decide +kernel))⟩
theorem fl_X10_271 : FL RX10 271 8 37 0 false := ⟨(RX10, TX10, 63), cl_8, by decide, rfl, rfl, rfl, Or.inl (TO_in (List.mem_of_getElem? (i := 867) (by decide +kernel)) (by decide +kernel))⟩
theorem fl_X10_278 : FL RX10 278 8 38 0 false := ⟨(RX10, TX10, 63), cl_8, by decide, rfl, rfl, rfl, Or.inl (TO_in (List.mem_of_getElem? (i := 868) (by decide +kernel)) (by decide +kernel))⟩
theorem fl_X10_363 : FL RX10 363 8 39 0 false := ⟨(RX10, TX10, 63), cl_8, by decide, rfl, rfl, rfl, Or.inl (TO_in (List.mem_of_getElem? (i := 869) (by decide +kernel)) (by decide +kernel))⟩
theorem fl_X10_97 : FL RX10 97 8 40 2 true := ⟨(RX10, TX10, 63), cl_8, by decide, rfl, rfl, rfl, Or.inl (TO_in (List.mem_of_getElem? (i := 870) (by decide +kernel)) (by decide +kernel))⟩
theorem ff_X10_97 : ∃ q, vwCl[8]? = some q ∧ q.1 = RX10 ∧ Cond.fieldLink RX10 97 q.1 (q.2.1 40).2.1 (q.2.1 40).2.2.1 ∈ TO_ := ⟨(RX10, TX10, 63), rfl, rfl, (TO_in (List.mem_of_getElem? (i := 870) (by decide +kernel)) (by decide +kernel))⟩
theorem fl_X10_357 : FL RX10 357 8 41 0 false := ⟨(RX10, TX10, 63), cl_8, by decide, rfl, rfl, rfl, Or.inl (TO_in (List.mem_of_getElem? (i := 871) (by decide +kernel)) (by decide +kernel))⟩
theorem fl_X10_301 : FL RX10 301 8 42 1 false := ⟨(RX10, TX10, 63), cl_8, by decide, rfl, rfl, rfl, Or.inl (TO_in (List.mem_of_getElem? (i := 872) (by decide +kernel)) (by decide +kernel))⟩
theorem fl_X10_281 : FL RX10 281 8 43 0 false := ⟨(RX10, TX10, 63), cl_8, by decide, rfl, rfl, rfl, Or.inl (TO_in (List.mem_of_getElem? (i := 873) (by decide +kernel)) (by decide +kernel))⟩
theorem fl_X10_284 : FL RX10 284 8 44 1 false := ⟨(RX10, TX10, 63), cl_8, by decide, rfl, rfl, rfl, Or.inl (TO_in (List.mem_of_getElem? (i := 874) (by decide +kernel)) (by decide +kernel))⟩
theorem fl_X10_100 : FL RX10 100 8 45 0 false := ⟨(RX10, TX10, 63), cl_8, by decide, rfl, rfl, rfl, Or.inl (TO_in (List.mem_of_getElem? (i := 875) (by decide +kernel)) (by decide +kernel))⟩
theorem fl_X10_104 : FL RX10 104 8 46 0 false := ⟨(RX10, TX10, 63), cl_8, by decide, rfl, rfl, rfl, Or.inl (TO_in (List.mem_of_getElem? (i := 876) (by decide +kernel)) (by decide +kernel))⟩
theorem fl_X10_372 : FL RX10 372 8 47 0 false := ⟨(RX10, TX10, 63), cl_8, by decide, rfl, rfl, rfl, Or.inl (TO_in (List.mem_of_getElem? (i := 877) (by decide +kernel)) (by decide +kernel))⟩
theorem fl_X10_287 : FL RX10 287 8 48 0 false := ⟨(RX10, TX10, 63), cl_8, by decide, rfl, rfl, rfl, Or.inl (TO_in (List.mem_of_getElem? (i := 878) (by decide +kernel)) (by decide +kernel))⟩
theorem fl_X10_255 : FL RX10 255 8 49 0 false := ⟨(RX10, TX10, 63), cl_8, by decide, rfl, rfl, rfl, Or.inl (TO_in (List.mem_of_getElem? (i := 879) (by decide +kernel)) (by decide +kernel))⟩
theorem fl_X10_249 : FL RX10 249 8 50 0 false := ⟨(RX10, TX10, 63), cl_8, by decide, rfl, rfl, rfl, Or.inl (TO_in (List.mem_of_getElem? (i := 880) (by decide +kernel)) (by decide +kernel))⟩
theorem fl_X10_242 : FL RX10 242 8 51 0 false := ⟨(RX10, TX10, 63), cl_8, by decide, rfl, rfl, rfl, Or.inl (TO_in (List.mem_of_getElem? (i := 881) (by decide +kernel)) (by decide +kernel))⟩
theorem fl_X10_360 : FL RX10 360 8 52 0 false := ⟨(RX10, TX10, 63), cl_8, by decide, rfl, rfl, rfl, Or.inl (TO_in (List.mem_of_getElem? (i := 882) (by decide +kernel)) (by decide +kernel))⟩
theorem fl_X10_107 : FL RX10 107 8 53 2 true := ⟨(RX10, TX10, 63), cl_8, by decide, rfl, rfl, rfl, Or.inl (TO_in (List.mem_of_getElem? (i := 883) (by decide +kernel)) (by decide +kernel))⟩
theorem ff_X10_107 : ∃ q, vwCl[8]? = some q ∧ q.1 = RX10 ∧ Cond.fieldLink RX10 107 q.1 (q.2.1 53).2.1 (q.2.1 53).2.2.1 ∈ TO_ := ⟨(RX10, TX10, 63), rfl, rfl, (TO_in (List.mem_of_getElem? (i := 883) (by decide +kernel)) (by decide +kernel))⟩
theorem fl_X10_110 : FL RX10 110 8 54 2 true := ⟨(RX10, TX10, 63), cl_8, by decide, rfl, rfl, rfl, Or.inl (TO_in (List.mem_of_getElem? (i := 884) (by decide +kernel)) (by decide +kernel))⟩
theorem ff_X10_110 : ∃ q, vwCl[8]? = some q ∧ q.1 = RX10 ∧ Cond.fieldLink RX10 110 q.1 (q.2.1 54).2.1 (q.2.1 54).2.2.1 ∈ TO_ := ⟨(RX10, TX10, 63), rfl, rfl, (TO_in (List.mem_of_getElem? (i := 884) (by decide +kernel)) (by decide +kernel))⟩
theorem fl_X10_113 : FL RX10 113 8 55 2 true := ⟨(RX10, TX10, 63), cl_8, by decide, rfl, rfl, rfl, Or.inl (TO_in (List.mem_of_getElem? (i := 885) (by decide +kernel)) (by decide +kernel))⟩
theorem ff_X10_113 : ∃ q, vwCl[8]? = some q ∧ q.1 = RX10 ∧ Cond.fieldLink RX10 113 q.1 (q.2.1 55).2.1 (q.2.1 55).2.2.1 ∈ TO_ := ⟨(RX10, TX10, 63), rfl, rfl, (TO_in (List.mem_of_getElem? (i := 885) (by decide +kernel)) (by decide +kernel))⟩
theorem fl_X10_116 : FL RX10 116 8 56 2 true := ⟨(RX10, TX10, 63), cl_8, by decide, rfl, rfl, rfl, Or.inl (TO_in (List.mem_of_getElem? (i := 886) (by decide +kernel)) (by decide +kernel))⟩
theorem ff_X10_116 : ∃ q, vwCl[8]? = some q ∧ q.1 = RX10 ∧ Cond.fieldLink RX10 116 q.1 (q.2.1 56).2.1 (q.2.1 56).2.2.1 ∈ TO_ := ⟨(RX10, TX10, 63), rfl, rfl, (TO_in (List.mem_of_getElem? (i := 886) (by decide +kernel)) (by decide +kernel))⟩
theorem fl_X10_119 : FL RX10 119 8 57 2 true := ⟨(RX10, TX10, 63), cl_8, by decide, rfl, rfl, rfl, Or.inl (TO_in (List.mem_of_getElem? (i := 887) (by decide +kernel)) (by decide +kernel))⟩
theorem ff_X10_119 : ∃ q, vwCl[8]? = some q ∧ q.1 = RX10 ∧ Cond.fieldLink RX10 119 q.1 (q.2.1 57).2.1 (q.2.1 57).2.2.1 ∈ TO_ := ⟨(RX10, TX10, 63), rfl, rfl, (TO_in (List.mem_of_getElem? (i := 887) (by decide +kernel)) (by decide +kernel))⟩
theorem fl_X10_122 : FL RX10 122 8 58 2 true := ⟨(RX10, TX10, 63), cl_8, by decide, rfl, rfl, rfl, Or.inl (TO_in (List.mem_of_getElem? (i := 888) (by decide +kernel)) (by decide +kernel))⟩
theorem ff_X10_122 : ∃ q, vwCl[8]? = some q ∧ q.1 = RX10 ∧ Cond.fieldLink RX10 122 q.1 (q.2.1 58).2.1 (q.2.1 58).2.2.1 ∈ TO_ := ⟨(RX10, TX10, 63), rfl, rfl, (TO_in (List.mem_of_getElem? (i := 888) (by decide +kernel)) (by decide +kernel))⟩
theorem fl_X10_125 : FL RX10 125 8 59 2 true := ⟨(RX10, TX10, 63), cl_8, by decide, rfl, rfl, rfl, Or.inl (TO_in (List.mem_of_getElem? (i := 889) (by decide +kernel)) (by decide +kernel))⟩
theorem ff_X10_125 : ∃ q, vwCl[8]? = some q ∧ q.1 = RX10 ∧ Cond.fieldLink RX10 125 q.1 (q.2.1 59).2.1 (q.2.1 59).2.2.1 ∈ TO_ := ⟨(RX10, TX10, 63), rfl, rfl, (TO_in (List.mem_of_getElem? (i := 889) (by decide +kernel)) (by decide +kernel))⟩
theorem fl_X10_128 : FL RX10 128 8 60 2 true := ⟨(RX10, TX10, 63), cl_8, by decide, rfl, rfl, rfl, Or.inl (TO_in (List.mem_of_getElem? (i := 890) (by decide +kernel)) (by decide +kernel))⟩
theorem ff_X10_128 : ∃ q, vwCl[8]? = some q ∧ q.1 = RX10 ∧ Cond.fieldLink RX10 128 q.1 (q.2.1 60).2.1 (q.2.1 60).2.2.1 ∈ TO_ := ⟨(RX10, TX10, 63), rfl, rfl, (TO_in (List.mem_of_getElem? (i := 890) (by decide +kernel)) (by decide +kernel))⟩
theorem fl_X10_131 : FL RX10 131 8 61 2 true := ⟨(RX10, TX10, 63), cl_8, by decide, rfl, rfl, rfl, Or.inl (TO_in (List.mem_of_getElem? (i := 891) (by decide +kernel)) (by decide +kernel))⟩
theorem ff_X10_131 : ∃ q, vwCl[8]? = some q ∧ q.1 = RX10 ∧ Cond.fieldLink RX10 131 q.1 (q.2.1 61).2.1 (q.2.1 61).2.2.1 ∈ TO_ := ⟨(RX10, TX10, 63), rfl, rfl, (TO_in (List.mem_of_getElem? (i := 891) (by decide +kernel)) (by decide +kernel))⟩
theorem fl_X10_134 : FL RX10 134 8 62 2 true := ⟨(RX10, TX10, 63), cl_8, by decide, rfl, rfl, rfl, Or.inl (TO_in (List.mem_of_getElem? (i := 892) (by decide +kernel)) (by decide +kernel))⟩
theorem ff_X10_134 : ∃ q, vwCl[8]? = some q ∧ q.1 = RX10 ∧ Cond.fieldLink RX10 134 q.1 (q.2.1 62).2.1 (q.2.1 62).2.2.1 ∈ TO_ := ⟨(RX10, TX10, 63), rfl, rfl, (TO_in (List.mem_of_getElem? (i := 892) (by decide +kernel)) (by decide +kernel))⟩
abbrev mX0_init : Mi := (yX0_init, cX0_init, 1, (Option.none : Option Jvm.ClassFile.FieldType), { frames := 1, cells := 0, slots := 0, locals := 20 })
theorem mf_X0_init : MF mX0_init 0 := ⟨(tt_in (List.mem_of_getElem? (i := 182) (by decide +kernel)) (by decide +kernel)), (tt_in (List.mem_of_getElem? (i := 69) (by decide +kernel)) (by decide +kernel)), ⟨by decide +kernel, by decide +kernel⟩, by decide +kernel⟩
theorem in_X0_init : Cond.instanceMethod yX0_init ∈ TT ∧ yX0_init.name = "<init>" := ⟨(tt_in (List.mem_of_getElem? (i := 181) (by decide +kernel)) (by decide +kernel)), rfl⟩
theorem cz_X0_init : Cz_ mX0_init := ⟨rfl, rfl⟩
abbrev mX0_become : Mi := (yX0_become, cX0_become, 6, (Option.none : Option Jvm.ClassFile.FieldType), { frames := 0, cells := 0, slots := 0, locals := 0 })
theorem mf_X0_become : MF mX0_become 4 := ⟨(tt_in (List.mem_of_getElem? (i := 670) (by decide +kernel)) (by decide +kernel)), (tt_in (List.mem_of_getElem? (i := 69) (by decide +kernel)) (by decide +kernel)), ⟨by decide +kernel, by decide +kernel⟩, by decide +kernel⟩
theorem in_X0_become : Cond.instanceMethod yX0_become ∈ TT ∧ Cond.selects yX0_become.cls yX0_become yX0_become ∈ TT := ⟨(tt_in (List.mem_of_getElem? (i := 668) (by decide +kernel)) (by decide +kernel)), (tt_in (List.mem_of_getElem? (i := 669) (by decide +kernel)) (by decide +kernel))⟩
theorem cz_X0_become : Cz_ mX0_become := ⟨rfl, rfl⟩
abbrev mX0_becomeNone : Mi := (yX0_becomeNone, cX0_becomeNone, 1, (Option.none : Option Jvm.ClassFile.FieldType), { frames := 1, cells := 0, slots := 0, locals := 25 })
theorem mf_X0_becomeNone : MF mX0_becomeNone 0 := ⟨(tt_in (List.mem_of_getElem? (i := 792) (by decide +kernel)) (by decide +kernel)), (tt_in (List.mem_of_getElem? (i := 69) (by decide +kernel)) (by decide +kernel)), ⟨by decide +kernel, by decide +kernel⟩, by decide +kernel⟩
theorem in_X0_becomeNone : Cond.instanceMethod yX0_becomeNone ∈ TT ∧ Cond.selects yX0_becomeNone.cls yX0_becomeNone yX0_becomeNone ∈ TT := ⟨(tt_in (List.mem_of_getElem? (i := 790) (by decide +kernel)) (by decide +kernel)), (tt_in (List.mem_of_getElem? (i := 791) (by decide +kernel)) (by decide +kernel))⟩
theorem cz_X0_becomeNone : Cz_ mX0_becomeNone := ⟨rfl, rfl⟩
abbrev mX0_becomeAs : Mi := (yX0_becomeAs, cX0_becomeAs, 2, (Option.none : Option Jvm.ClassFile.FieldType), { frames := 1, cells := 0, slots := 0, locals := 25 })
theorem mf_X0_becomeAs : MF mX0_becomeAs 1 := ⟨(tt_in (List.mem_of_getElem? (i := 666) (by decide +kernel)) (by decide +kernel)), (tt_in (List.mem_of_getElem? (i := 69) (by decide +kernel)) (by decide +kernel)), ⟨by decide +kernel, by decide +kernel⟩, by decide +kernel⟩
theorem in_X0_becomeAs : Cond.instanceMethod yX0_becomeAs ∈ TT ∧ Cond.selects yX0_becomeAs.cls yX0_becomeAs yX0_becomeAs ∈ TT := ⟨(tt_in (List.mem_of_getElem? (i := 664) (by decide +kernel)) (by decide +kernel)), (tt_in (List.mem_of_getElem? (i := 665) (by decide +kernel)) (by decide +kernel))⟩
theorem cz_X0_becomeAs : Cz_ mX0_becomeAs := ⟨rfl, rfl⟩
abbrev mX1_init : Mi := (yX1_init, cX1_init, 1, (Option.none : Option Jvm.ClassFile.FieldType), { frames := 2, cells := 3, slots := 1350, locals := 40 })
theorem mf_X1_init : MF mX1_init 0 := ⟨(tt_in (List.mem_of_getElem? (i := 206) (by decide +kernel)) (by decide +kernel)), (tt_in (List.mem_of_getElem? (i := 70) (by decide +kernel)) (by decide +kernel)), ⟨by decide +kernel, by decide +kernel⟩, by decide +kernel⟩
theorem in_X1_init : Cond.instanceMethod yX1_init ∈ TT ∧ yX1_init.name = "<init>" := ⟨(tt_in (List.mem_of_getElem? (i := 205) (by decide +kernel)) (by decide +kernel)), rfl⟩
abbrev mX1_beginWith : Mi := (yX1_beginWith, cX1_beginWith, 3, (Option.none : Option Jvm.ClassFile.FieldType), { frames := 1, cells := 0, slots := 0, locals := 24 })
theorem mf_X1_beginWith : MF mX1_beginWith 2 := ⟨(tt_in (List.mem_of_getElem? (i := 552) (by decide +kernel)) (by decide +kernel)), (tt_in (List.mem_of_getElem? (i := 70) (by decide +kernel)) (by decide +kernel)), ⟨by decide +kernel, by decide +kernel⟩, by decide +kernel⟩
theorem in_X1_beginWith : Cond.instanceMethod yX1_beginWith ∈ TT ∧ Cond.selects yX1_beginWith.cls yX1_beginWith yX1_beginWith ∈ TT := ⟨(tt_in (List.mem_of_getElem? (i := 550) (by decide +kernel)) (by decide +kernel)), (tt_in (List.mem_of_getElem? (i := 551) (by decide +kernel)) (by decide +kernel))⟩
theorem cz_X1_beginWith : Cz_ mX1_beginWith := ⟨rfl, rfl⟩
abbrev mX1_take : Mi := (yX1_take, cX1_take, 2, (Option.some Jvm.ClassFile.FieldType.boolean), { frames := 0, cells := 0, slots := 0, locals := 0 })
theorem mf_X1_take : MF mX1_take 1 := ⟨(tt_in (List.mem_of_getElem? (i := 582) (by decide +kernel)) (by decide +kernel)), (tt_in (List.mem_of_getElem? (i := 70) (by decide +kernel)) (by decide +kernel)), ⟨by decide +kernel, by decide +kernel⟩, by decide +kernel⟩
theorem in_X1_take : Cond.instanceMethod yX1_take ∈ TT ∧ Cond.selects yX1_take.cls yX1_take yX1_take ∈ TT := ⟨(tt_in (List.mem_of_getElem? (i := 580) (by decide +kernel)) (by decide +kernel)), (tt_in (List.mem_of_getElem? (i := 581) (by decide +kernel)) (by decide +kernel))⟩
theorem cz_X1_take : Cz_ mX1_take := ⟨rfl, rfl⟩
abbrev mX1_taken : Mi := (yX1_taken, cX1_taken, 3, (Option.some Jvm.ClassFile.FieldType.long), { frames := 0, cells := 0, slots := 0, locals := 0 })
theorem mf_X1_taken : MF mX1_taken 1 := ⟨(tt_in (List.mem_of_getElem? (i := 598) (by decide +kernel)) (by decide +kernel)), (tt_in (List.mem_of_getElem? (i := 70) (by decide +kernel)) (by decide +kernel)), ⟨by decide +kernel, by decide +kernel⟩, by decide +kernel⟩
theorem in_X1_taken : Cond.instanceMethod yX1_taken ∈ TT ∧ Cond.selects yX1_taken.cls yX1_taken yX1_taken ∈ TT := ⟨(tt_in (List.mem_of_getElem? (i := 596) (by decide +kernel)) (by decide +kernel)), (tt_in (List.mem_of_getElem? (i := 597) (by decide +kernel)) (by decide +kernel))⟩
theorem cz_X1_taken : Cz_ mX1_taken := ⟨rfl, rfl⟩
abbrev mX1_lay : Mi := (yX1_lay, cX1_lay, 3, (Option.some Jvm.ClassFile.FieldType.int), { frames := 0, cells := 0, slots := 0, locals := 0 })
theorem mf_X1_lay : MF mX1_lay 1 := ⟨(tt_in (List.mem_of_getElem? (i := 590) (by decide +kernel)) (by decide +kernel)), (tt_in (List.mem_of_getElem? (i := 70) (by decide +kernel)) (by decide +kernel)), ⟨by decide +kernel, by decide +kernel⟩, by decide +kernel⟩
theorem in_X1_lay : Cond.instanceMethod yX1_lay ∈ TT ∧ Cond.selects yX1_lay.cls yX1_lay yX1_lay ∈ TT := ⟨(tt_in (List.mem_of_getElem? (i := 588) (by decide +kernel)) (by decide +kernel)), (tt_in (List.mem_of_getElem? (i := 589) (by decide +kernel)) (by decide +kernel))⟩
theorem cz_X1_lay : Cz_ mX1_lay := ⟨rfl, rfl⟩
abbrev mX1_local : Mi := (yX1_local, cX1_local, 2, (Option.some Jvm.ClassFile.FieldType.long), { frames := 0, cells := 0, slots := 0, locals := 0 })
theorem mf_X1_local : MF mX1_local 1 := ⟨(tt_in (List.mem_of_getElem? (i := 594) (by decide +kernel)) (by decide +kernel)), (tt_in (List.mem_of_getElem? (i := 70) (by decide +kernel)) (by decide +kernel)), ⟨by decide +kernel, by decide +kernel⟩, by decide +kernel⟩
theorem in_X1_local : Cond.instanceMethod yX1_local ∈ TT ∧ Cond.selects yX1_local.cls yX1_local yX1_local ∈ TT := ⟨(tt_in (List.mem_of_getElem? (i := 592) (by decide +kernel)) (by decide +kernel)), (tt_in (List.mem_of_getElem? (i := 593) (by decide +kernel)) (by decide +kernel))⟩
theorem cz_X1_local : Cz_ mX1_local := ⟨rfl, rfl⟩
abbrev mX1_setLocal : Mi := (yX1_setLocal, cX1_setLocal, 4, (Option.none : Option Jvm.ClassFile.FieldType), { frames := 0, cells := 0, slots := 0, locals := 0 })
theorem mf_X1_setLocal : MF mX1_setLocal 2 := ⟨(tt_in (List.mem_of_getElem? (i := 562) (by decide +kernel)) (by decide +kernel)), (tt_in (List.mem_of_getElem? (i := 70) (by decide +kernel)) (by decide +kernel)), ⟨by decide +kernel, by decide +kernel⟩, by decide +kernel⟩
theorem in_X1_setLocal : Cond.instanceMethod yX1_setLocal ∈ TT ∧ Cond.selects yX1_setLocal.cls yX1_setLocal yX1_setLocal ∈ TT := ⟨(tt_in (List.mem_of_getElem? (i := 560) (by decide +kernel)) (by decide +kernel)), (tt_in (List.mem_of_getElem? (i := 561) (by decide +kernel)) (by decide +kernel))⟩
theorem cz_X1_setLocal : Cz_ mX1_setLocal := ⟨rfl, rfl⟩
abbrev mX1_beginsLast : Mi := (yX1_beginsLast, cX1_beginsLast, 1, (Option.some Jvm.ClassFile.FieldType.boolean), { frames := 1, cells := 0, slots := 0, locals := 21 })
theorem mf_X1_beginsLast : MF mX1_beginsLast 0 := ⟨(tt_in (List.mem_of_getElem? (i := 646) (by decide +kernel)) (by decide +kernel)), (tt_in (List.mem_of_getElem? (i := 70) (by decide +kernel)) (by decide +kernel)), ⟨by decide +kernel, by decide +kernel⟩, by decide +kernel⟩
theorem in_X1_beginsLast : Cond.instanceMethod yX1_beginsLast ∈ TT ∧ Cond.selects yX1_beginsLast.cls yX1_beginsLast yX1_beginsLast ∈ TT := ⟨(tt_in (List.mem_of_getElem? (i := 644) (by decide +kernel)) (by decide +kernel)), (tt_in (List.mem_of_getElem? (i := 645) (by decide +kernel)) (by decide +kernel))⟩
theorem cz_X1_beginsLast : Cz_ mX1_beginsLast := ⟨rfl, rfl⟩
abbrev mX1_putNumberAside : Mi := (yX1_putNumberAside, cX1_putNumberAside, 3, (Option.none : Option Jvm.ClassFile.FieldType), { frames := 0, cells := 0, slots := 0, locals := 0 })
theorem mf_X1_putNumberAside : MF mX1_putNumberAside 1 := ⟨(tt_in (List.mem_of_getElem? (i := 658) (by decide +kernel)) (by decide +kernel)), (tt_in (List.mem_of_getElem? (i := 70) (by decide +kernel)) (by decide +kernel)), ⟨by decide +kernel, by decide +kernel⟩, by decide +kernel⟩
theorem in_X1_putNumberAside : Cond.instanceMethod yX1_putNumberAside ∈ TT ∧ Cond.selects yX1_putNumberAside.cls yX1_putNumberAside yX1_putNumberAside ∈ TT := ⟨(tt_in (List.mem_of_getElem? (i := 656) (by decide +kernel)) (by decide +kernel)), (tt_in (List.mem_of_getElem? (i := 657) (by decide +kernel)) (by decide +kernel))⟩
theorem cz_X1_putNumberAside : Cz_ mX1_putNumberAside := ⟨rfl, rfl⟩
abbrev mX1_putFaultAside : Mi := (yX1_putFaultAside, cX1_putFaultAside, 2, (Option.none : Option Jvm.ClassFile.FieldType), { frames := 2, cells := 0, slots := 0, locals := 46 })
theorem mf_X1_putFaultAside : MF mX1_putFaultAside 1 := ⟨(tt_in (List.mem_of_getElem? (i := 782) (by decide +kernel)) (by decide +kernel)), (tt_in (List.mem_of_getElem? (i := 70) (by decide +kernel)) (by decide +kernel)), ⟨by decide +kernel, by decide +kernel⟩, by decide +kernel⟩
theorem in_X1_putFaultAside : Cond.instanceMethod yX1_putFaultAside ∈ TT ∧ Cond.selects yX1_putFaultAside.cls yX1_putFaultAside yX1_putFaultAside ∈ TT := ⟨(tt_in (List.mem_of_getElem? (i := 780) (by decide +kernel)) (by decide +kernel)), (tt_in (List.mem_of_getElem? (i := 781) (by decide +kernel)) (by decide +kernel))⟩
theorem cz_X1_putFaultAside : Cz_ mX1_putFaultAside := ⟨rfl, rfl⟩
abbrev mX1_goOn : Mi := (yX1_goOn, cX1_goOn, 1, (Option.some Jvm.ClassFile.FieldType.int), { frames := 1, cells := 0, slots := 0, locals := 21 })
theorem mf_X1_goOn : MF mX1_goOn 0 := ⟨(tt_in (List.mem_of_getElem? (i := 765) (by decide +kernel)) (by decide +kernel)), (tt_in (List.mem_of_getElem? (i := 70) (by decide +kernel)) (by decide +kernel)), ⟨by decide +kernel, by decide +kernel⟩, by decide +kernel⟩
theorem in_X1_goOn : Cond.instanceMethod yX1_goOn ∈ TT ∧ Cond.selects yX1_goOn.cls yX1_goOn yX1_goOn ∈ TT := ⟨(tt_in (List.mem_of_getElem? (i := 763) (by decide +kernel)) (by decide +kernel)), (tt_in (List.mem_of_getElem? (i := 764) (by decide +kernel)) (by decide +kernel))⟩
theorem cz_X1_goOn : Cz_ mX1_goOn := ⟨rfl, rfl⟩
abbrev mX2_init : Mi := (yX2_init, cX2_init, 2, (Option.none : Option Jvm.ClassFile.FieldType), { frames := 2, cells := 38, slots := 17100, locals := 43 })
theorem mf_X2_init : MF mX2_init 0 := ⟨(tt_in (List.mem_of_getElem? (i := 154) (by decide +kernel)) (by decide +kernel)), (tt_in (List.mem_of_getElem? (i := 68) (by decide +kernel)) (by decide +kernel)), ⟨by decide +kernel, by decide +kernel⟩, by decide +kernel⟩
theorem in_X2_init : Cond.instanceMethod yX2_init ∈ TT ∧ yX2_init.name = "<init>" := ⟨(tt_in (List.mem_of_getElem? (i := 153) (by decide +kernel)) (by decide +kernel)), rfl⟩
abbrev mX2_isFull : Mi := (yX2_isFull, cX2_isFull, 1, (Option.some Jvm.ClassFile.FieldType.boolean), { frames := 0, cells := 0, slots := 0, locals := 0 })
theorem mf_X2_isFull : MF mX2_isFull 0 := ⟨(tt_in (List.mem_of_getElem? (i := 736) (by decide +kernel)) (by decide +kernel)), (tt_in (List.mem_of_getElem? (i := 68) (by decide +kernel)) (by decide +kernel)), ⟨by decide +kernel, by decide +kernel⟩, by decide +kernel⟩
theorem in_X2_isFull : Cond.instanceMethod yX2_isFull ∈ TT ∧ Cond.selects yX2_isFull.cls yX2_isFull yX2_isFull ∈ TT := ⟨(tt_in (List.mem_of_getElem? (i := 734) (by decide +kernel)) (by decide +kernel)), (tt_in (List.mem_of_getElem? (i := 735) (by decide +kernel)) (by decide +kernel))⟩
theorem cz_X2_isFull : Cz_ mX2_isFull := ⟨rfl, rfl⟩
abbrev mX2_keep : Mi := (yX2_keep, cX2_keep, 3, (Option.none : Option Jvm.ClassFile.FieldType), { frames := 2, cells := 0, slots := 0, locals := 48 })
theorem mf_X2_keep : MF mX2_keep 2 := ⟨(tt_in (List.mem_of_getElem? (i := 740) (by decide +kernel)) (by decide +kernel)), (tt_in (List.mem_of_getElem? (i := 68) (by decide +kernel)) (by decide +kernel)), ⟨by decide +kernel, by decide +kernel⟩, by decide +kernel⟩
theorem in_X2_keep : Cond.instanceMethod yX2_keep ∈ TT ∧ Cond.selects yX2_keep.cls yX2_keep yX2_keep ∈ TT := ⟨(tt_in (List.mem_of_getElem? (i := 738) (by decide +kernel)) (by decide +kernel)), (tt_in (List.mem_of_getElem? (i := 739) (by decide +kernel)) (by decide +kernel))⟩
theorem cz_X2_keep : Cz_ mX2_keep := ⟨rfl, rfl⟩
abbrev mX2_bringBack : Mi := (yX2_bringBack, cX2_bringBack, 3, (Option.some Jvm.ClassFile.FieldType.boolean), { frames := 2, cells := 0, slots := 0, locals := 48 })
theorem mf_X2_bringBack : MF mX2_bringBack 2 := ⟨(tt_in (List.mem_of_getElem? (i := 757) (by decide +kernel)) (by decide +kernel)), (tt_in (List.mem_of_getElem? (i := 68) (by decide +kernel)) (by decide +kernel)), ⟨by decide +kernel, by decide +kernel⟩, by decide +kernel⟩
theorem in_X2_bringBack : Cond.instanceMethod yX2_bringBack ∈ TT ∧ Cond.selects yX2_bringBack.cls yX2_bringBack yX2_bringBack ∈ TT := ⟨(tt_in (List.mem_of_getElem? (i := 755) (by decide +kernel)) (by decide +kernel)), (tt_in (List.mem_of_getElem? (i := 756) (by decide +kernel)) (by decide +kernel))⟩
theorem cz_X2_bringBack : Cz_ mX2_bringBack := ⟨rfl, rfl⟩
abbrev mX2_clear : Mi := (yX2_clear, cX2_clear, 2, (Option.some Jvm.ClassFile.FieldType.int), { frames := 0, cells := 0, slots := 0, locals := 0 })
theorem mf_X2_clear : MF mX2_clear 0 := ⟨(tt_in (List.mem_of_getElem? (i := 823) (by decide +kernel)) (by decide +kernel)), (tt_in (List.mem_of_getElem? (i := 68) (by decide +kernel)) (by decide +kernel)), ⟨by decide +kernel, by decide +kernel⟩, by decide +kernel⟩
theorem in_X2_clear : Cond.instanceMethod yX2_clear ∈ TT ∧ Cond.selects yX2_clear.cls yX2_clear yX2_clear ∈ TT := ⟨(tt_in (List.mem_of_getElem? (i := 821) (by decide +kernel)) (by decide +kernel)), (tt_in (List.mem_of_getElem? (i := 822) (by decide +kernel)) (by decide +kernel))⟩
theorem cz_X2_clear : Cz_ mX2_clear := ⟨rfl, rfl⟩
abbrev mX3_through : Mi := (yX3_through, cX3_through, 3, (Option.some Jvm.ClassFile.FieldType.long), { frames := 0, cells := 0, slots := 0, locals := 0 })
theorem mf_X3_through : MF mX3_through 2 := ⟨(tt_in (List.mem_of_getElem? (i := 384) (by decide +kernel)) (by decide +kernel)), (tt_in (List.mem_of_getElem? (i := 72) (by decide +kernel)) (by decide +kernel)), ⟨by decide +kernel, by decide +kernel⟩, by decide +kernel⟩
theorem in_X3_through : Cond.static yX3_through ∈ TT := (tt_in (List.mem_of_getElem? (i := 383) (by decide +kernel)) (by decide +kernel))
theorem cz_X3_through : Cz_ mX3_through := ⟨rfl, rfl⟩
abbrev mX3_goesInto : Mi := (yX3_goesInto, cX3_goesInto, 2, (Option.some Jvm.ClassFile.FieldType.boolean), { frames := 0, cells := 0, slots := 0, locals := 0 })
theorem mf_X3_goesInto : MF mX3_goesInto 2 := ⟨(tt_in (List.mem_of_getElem? (i := 614) (by decide +kernel)) (by decide +kernel)), (tt_in (List.mem_of_getElem? (i := 72) (by decide +kernel)) (by decide +kernel)), ⟨by decide +kernel, by decide +kernel⟩, by decide +kernel⟩
theorem in_X3_goesInto : Cond.static yX3_goesInto ∈ TT := (tt_in (List.mem_of_getElem? (i := 613) (by decide +kernel)) (by decide +kernel))
theorem cz_X3_goesInto : Cz_ mX3_goesInto := ⟨rfl, rfl⟩
abbrev mX4_init : Mi := (yX4_init, cX4_init, 2, (Option.none : Option Jvm.ClassFile.FieldType), { frames := 3, cells := 103, slots := 46350, locals := 64 })
theorem mf_X4_init : MF mX4_init 0 := ⟨(tt_in (List.mem_of_getElem? (i := 89) (by decide +kernel)) (by decide +kernel)), (tt_in (List.mem_of_getElem? (i := 64) (by decide +kernel)) (by decide +kernel)), ⟨by decide +kernel, by decide +kernel⟩, by decide +kernel⟩
theorem in_X4_init : Cond.instanceMethod yX4_init ∈ TT ∧ yX4_init.name = "<init>" := ⟨(tt_in (List.mem_of_getElem? (i := 88) (by decide +kernel)) (by decide +kernel)), rfl⟩
abbrev mX4_addRoutine : Mi := (yX4_addRoutine, cX4_addRoutine, 2, (Option.some Jvm.ClassFile.FieldType.int), { frames := 2, cells := 8, slots := 3600, locals := 41 })
theorem mf_X4_addRoutine : MF mX4_addRoutine 1 := ⟨(tt_in (List.mem_of_getElem? (i := 447) (by decide +kernel)) (by decide +kernel)), (tt_in (List.mem_of_getElem? (i := 64) (by decide +kernel)) (by decide +kernel)), ⟨by decide +kernel, by decide +kernel⟩, by decide +kernel⟩
theorem in_X4_addRoutine : Cond.instanceMethod yX4_addRoutine ∈ TT ∧ Cond.selects yX4_addRoutine.cls yX4_addRoutine yX4_addRoutine ∈ TT := ⟨(tt_in (List.mem_of_getElem? (i := 445) (by decide +kernel)) (by decide +kernel)), (tt_in (List.mem_of_getElem? (i := 446) (by decide +kernel)) (by decide +kernel))⟩
abbrev mX4_routineAt : Mi := (yX4_routineAt, cX4_routineAt, 2, (Option.some (Jvm.ClassFile.FieldType.object "StoryClasses$Routine")), { frames := 0, cells := 0, slots := 0, locals := 0 })
theorem mf_X4_routineAt : MF mX4_routineAt 1 := ⟨(tt_in (List.mem_of_getElem? (i := 505) (by decide +kernel)) (by decide +kernel)), (tt_in (List.mem_of_getElem? (i := 64) (by decide +kernel)) (by decide +kernel)), ⟨by decide +kernel, by decide +kernel⟩, by decide +kernel⟩
theorem in_X4_routineAt : Cond.instanceMethod yX4_routineAt ∈ TT ∧ Cond.selects yX4_routineAt.cls yX4_routineAt yX4_routineAt ∈ TT := ⟨(tt_in (List.mem_of_getElem? (i := 503) (by decide +kernel)) (by decide +kernel)), (tt_in (List.mem_of_getElem? (i := 504) (by decide +kernel)) (by decide +kernel))⟩
theorem cz_X4_routineAt : Cz_ mX4_routineAt := ⟨rfl, rfl⟩
abbrev mX4_play : Mi := (yX4_play, cX4_play, 9, (Option.some Jvm.ClassFile.FieldType.int), { frames := 6, cells := 0, slots := 0, locals := 148 })
theorem mf_X4_play : MF mX4_play 4 := ⟨(tt_in (List.mem_of_getElem? (i := 540) (by decide +kernel)) (by decide +kernel)), (tt_in (List.mem_of_getElem? (i := 64) (by decide +kernel)) (by decide +kernel)), ⟨by decide +kernel, by decide +kernel⟩, by decide +kernel⟩
theorem in_X4_play : Cond.instanceMethod yX4_play ∈ TT ∧ Cond.selects yX4_play.cls yX4_play yX4_play ∈ TT := ⟨(tt_in (List.mem_of_getElem? (i := 538) (by decide +kernel)) (by decide +kernel)), (tt_in (List.mem_of_getElem? (i := 539) (by decide +kernel)) (by decide +kernel))⟩
theorem cz_X4_play : Cz_ mX4_play := ⟨rfl, rfl⟩
abbrev mX4_beginRun : Mi := (yX4_beginRun, cX4_beginRun, 1, (Option.none : Option Jvm.ClassFile.FieldType), { frames := 0, cells := 0, slots := 0, locals := 0 })
theorem mf_X4_beginRun : MF mX4_beginRun 0 := ⟨(tt_in (List.mem_of_getElem? (i := 544) (by decide +kernel)) (by decide +kernel)), (tt_in (List.mem_of_getElem? (i := 64) (by decide +kernel)) (by decide +kernel)), ⟨by decide +kernel, by decide +kernel⟩, by decide +kernel⟩
theorem in_X4_beginRun : Cond.instanceMethod yX4_beginRun ∈ TT ∧ Cond.selects yX4_beginRun.cls yX4_beginRun yX4_beginRun ∈ TT := ⟨(tt_in (List.mem_of_getElem? (i := 543) (by decide +kernel)) (by decide +kernel)), (tt_in (List.mem_of_getElem? (i := 3) (by decide +kernel)) (by decide +kernel))⟩
theorem cz_X4_beginRun : Cz_ mX4_beginRun := ⟨rfl, rfl⟩
abbrev mX4_openFrame : Mi := (yX4_openFrame, cX4_openFrame, 4, (Option.some (Jvm.ClassFile.FieldType.object "StoryClasses$Frame")), { frames := 2, cells := 0, slots := 0, locals := 46 })
theorem mf_X4_openFrame : MF mX4_openFrame 2 := ⟨(tt_in (List.mem_of_getElem? (i := 548) (by decide +kernel)) (by decide +kernel)), (tt_in (List.mem_of_getElem? (i := 64) (by decide +kernel)) (by decide +kernel)), ⟨by decide +kernel, by decide +kernel⟩, by decide +kernel⟩
theorem in_X4_openFrame : Cond.instanceMethod yX4_openFrame ∈ TT ∧ Cond.selects yX4_openFrame.cls yX4_openFrame yX4_openFrame ∈ TT := ⟨(tt_in (List.mem_of_getElem? (i := 547) (by decide +kernel)) (by decide +kernel)), (tt_in (List.mem_of_getElem? (i := 4) (by decide +kernel)) (by decide +kernel))⟩
theorem cz_X4_openFrame : Cz_ mX4_openFrame := ⟨rfl, rfl⟩
abbrev mX4_step : Mi := (yX4_step, cX4_step, 3, (Option.none : Option Jvm.ClassFile.FieldType), { frames := 5, cells := 0, slots := 0, locals := 126 })
theorem mf_X4_step : MF mX4_step 1 := ⟨(tt_in (List.mem_of_getElem? (i := 566) (by decide +kernel)) (by decide +kernel)), (tt_in (List.mem_of_getElem? (i := 64) (by decide +kernel)) (by decide +kernel)), ⟨by decide +kernel, by decide +kernel⟩, by decide +kernel⟩
theorem in_X4_step : Cond.instanceMethod yX4_step ∈ TT ∧ Cond.selects yX4_step.cls yX4_step yX4_step ∈ TT := ⟨(tt_in (List.mem_of_getElem? (i := 565) (by decide +kernel)) (by decide +kernel)), (tt_in (List.mem_of_getElem? (i := 5) (by decide +kernel)) (by decide +kernel))⟩
theorem cz_X4_step : Cz_ mX4_step := ⟨rfl, rfl⟩
abbrev mX4_raise : Mi := (yX4_raise, cX4_raise, 3, (Option.none : Option Jvm.ClassFile.FieldType), { frames := 4, cells := 0, slots := 0, locals := 89 })
theorem mf_X4_raise : MF mX4_raise 2 := ⟨(tt_in (List.mem_of_getElem? (i := 787) (by decide +kernel)) (by decide +kernel)), (tt_in (List.mem_of_getElem? (i := 64) (by decide +kernel)) (by decide +kernel)), ⟨by decide +kernel, by decide +kernel⟩, by decide +kernel⟩
theorem in_X4_raise : Cond.instanceMethod yX4_raise ∈ TT ∧ Cond.selects yX4_raise.cls yX4_raise yX4_raise ∈ TT := ⟨(tt_in (List.mem_of_getElem? (i := 786) (by decide +kernel)) (by decide +kernel)), (tt_in (List.mem_of_getElem? (i := 28) (by decide +kernel)) (by decide +kernel))⟩
theorem cz_X4_raise : Cz_ mX4_raise := ⟨rfl, rfl⟩
abbrev mX4_passOn : Mi := (yX4_passOn, cX4_passOn, 3, (Option.none : Option Jvm.ClassFile.FieldType), { frames := 3, cells := 0, slots := 0, locals := 67 })
theorem mf_X4_passOn : MF mX4_passOn 0 := ⟨(tt_in (List.mem_of_getElem? (i := 769) (by decide +kernel)) (by decide +kernel)), (tt_in (List.mem_of_getElem? (i := 64) (by decide +kernel)) (by decide +kernel)), ⟨by decide +kernel, by decide +kernel⟩, by decide +kernel⟩
theorem in_X4_passOn : Cond.instanceMethod yX4_passOn ∈ TT ∧ Cond.selects yX4_passOn.cls yX4_passOn yX4_passOn ∈ TT := ⟨(tt_in (List.mem_of_getElem? (i := 768) (by decide +kernel)) (by decide +kernel)), (tt_in (List.mem_of_getElem? (i := 26) (by decide +kernel)) (by decide +kernel))⟩
theorem cz_X4_passOn : Cz_ mX4_passOn := ⟨rfl, rfl⟩
abbrev mX4_beTaken : Mi := (yX4_beTaken, cX4_beTaken, 3, (Option.none : Option Jvm.ClassFile.FieldType), { frames := 1, cells := 0, slots := 0, locals := 22 })
theorem mf_X4_beTaken : MF mX4_beTaken 2 := ⟨(tt_in (List.mem_of_getElem? (i := 778) (by decide +kernel)) (by decide +kernel)), (tt_in (List.mem_of_getElem? (i := 64) (by decide +kernel)) (by decide +kernel)), ⟨by decide +kernel, by decide +kernel⟩, by decide +kernel⟩
theorem in_X4_beTaken : Cond.instanceMethod yX4_beTaken ∈ TT ∧ Cond.selects yX4_beTaken.cls yX4_beTaken yX4_beTaken ∈ TT := ⟨(tt_in (List.mem_of_getElem? (i := 777) (by decide +kernel)) (by decide +kernel)), (tt_in (List.mem_of_getElem? (i := 27) (by decide +kernel)) (by decide +kernel))⟩
theorem cz_X4_beTaken : Cz_ mX4_beTaken := ⟨rfl, rfl⟩
abbrev mX4_act : Mi := (yX4_act, cX4_act, 5, (Option.some Jvm.ClassFile.FieldType.int), { frames := 4, cells := 0, slots := 0, locals := 102 })
theorem mf_X4_act : MF mX4_act 4 := ⟨(tt_in (List.mem_of_getElem? (i := 570) (by decide +kernel)) (by decide +kernel)), (tt_in (List.mem_of_getElem? (i := 64) (by decide +kernel)) (by decide +kernel)), ⟨by decide +kernel, by decide +kernel⟩, by decide +kernel⟩
theorem in_X4_act : Cond.instanceMethod yX4_act ∈ TT ∧ Cond.selects yX4_act.cls yX4_act yX4_act ∈ TT := ⟨(tt_in (List.mem_of_getElem? (i := 569) (by decide +kernel)) (by decide +kernel)), (tt_in (List.mem_of_getElem? (i := 6) (by decide +kernel)) (by decide +kernel))⟩
theorem cz_X4_act : Cz_ mX4_act := ⟨rfl, rfl⟩
abbrev mX4_useLocals : Mi := (yX4_useLocals, cX4_useLocals, 4, (Option.some Jvm.ClassFile.FieldType.int), { frames := 1, cells := 0, slots := 0, locals := 23 })
theorem mf_X4_useLocals : MF mX4_useLocals 3 := ⟨(tt_in (List.mem_of_getElem? (i := 586) (by decide +kernel)) (by decide +kernel)), (tt_in (List.mem_of_getElem? (i := 64) (by decide +kernel)) (by decide +kernel)), ⟨by decide +kernel, by decide +kernel⟩, by decide +kernel⟩
theorem in_X4_useLocals : Cond.instanceMethod yX4_useLocals ∈ TT ∧ Cond.selects yX4_useLocals.cls yX4_useLocals yX4_useLocals ∈ TT := ⟨(tt_in (List.mem_of_getElem? (i := 585) (by decide +kernel)) (by decide +kernel)), (tt_in (List.mem_of_getElem? (i := 7) (by decide +kernel)) (by decide +kernel))⟩
theorem cz_X4_useLocals : Cz_ mX4_useLocals := ⟨rfl, rfl⟩
abbrev mX4_reckon : Mi := (yX4_reckon, cX4_reckon, 7, (Option.some Jvm.ClassFile.FieldType.int), { frames := 1, cells := 0, slots := 0, locals := 22 })
theorem mf_X4_reckon : MF mX4_reckon 4 := ⟨(tt_in (List.mem_of_getElem? (i := 761) (by decide +kernel)) (by decide +kernel)), (tt_in (List.mem_of_getElem? (i := 64) (by decide +kernel)) (by decide +kernel)), ⟨by decide +kernel, by decide +kernel⟩, by decide +kernel⟩
theorem in_X4_reckon : Cond.instanceMethod yX4_reckon ∈ TT ∧ Cond.selects yX4_reckon.cls yX4_reckon yX4_reckon ∈ TT := ⟨(tt_in (List.mem_of_getElem? (i := 760) (by decide +kernel)) (by decide +kernel)), (tt_in (List.mem_of_getElem? (i := 25) (by decide +kernel)) (by decide +kernel))⟩
theorem cz_X4_reckon : Cz_ mX4_reckon := ⟨rfl, rfl⟩
abbrev mX4_useItem : Mi := (yX4_useItem, cX4_useItem, 10, (Option.some Jvm.ClassFile.FieldType.int), { frames := 3, cells := 0, slots := 0, locals := 73 })
theorem mf_X4_useItem : MF mX4_useItem 4 := ⟨(tt_in (List.mem_of_getElem? (i := 602) (by decide +kernel)) (by decide +kernel)), (tt_in (List.mem_of_getElem? (i := 64) (by decide +kernel)) (by decide +kernel)), ⟨by decide +kernel, by decide +kernel⟩, by decide +kernel⟩
theorem in_X4_useItem : Cond.instanceMethod yX4_useItem ∈ TT ∧ Cond.selects yX4_useItem.cls yX4_useItem yX4_useItem ∈ TT := ⟨(tt_in (List.mem_of_getElem? (i := 601) (by decide +kernel)) (by decide +kernel)), (tt_in (List.mem_of_getElem? (i := 8) (by decide +kernel)) (by decide +kernel))⟩
theorem cz_X4_useItem : Cz_ mX4_useItem := ⟨rfl, rfl⟩
abbrev mX4_reachItem : Mi := (yX4_reachItem, cX4_reachItem, 6, (Option.some Jvm.ClassFile.FieldType.int), { frames := 2, cells := 0, slots := 0, locals := 48 })
theorem mf_X4_reachItem : MF mX4_reachItem 4 := ⟨(tt_in (List.mem_of_getElem? (i := 606) (by decide +kernel)) (by decide +kernel)), (tt_in (List.mem_of_getElem? (i := 64) (by decide +kernel)) (by decide +kernel)), ⟨by decide +kernel, by decide +kernel⟩, by decide +kernel⟩
theorem in_X4_reachItem : Cond.instanceMethod yX4_reachItem ∈ TT ∧ Cond.selects yX4_reachItem.cls yX4_reachItem yX4_reachItem ∈ TT := ⟨(tt_in (List.mem_of_getElem? (i := 605) (by decide +kernel)) (by decide +kernel)), (tt_in (List.mem_of_getElem? (i := 9) (by decide +kernel)) (by decide +kernel))⟩
theorem cz_X4_reachItem : Cz_ mX4_reachItem := ⟨rfl, rfl⟩
abbrev mX4_useRow : Mi := (yX4_useRow, cX4_useRow, 5, (Option.some Jvm.ClassFile.FieldType.int), { frames := 2, cells := 0, slots := 0, locals := 48 })
theorem mf_X4_useRow : MF mX4_useRow 4 := ⟨(tt_in (List.mem_of_getElem? (i := 629) (by decide +kernel)) (by decide +kernel)), (tt_in (List.mem_of_getElem? (i := 64) (by decide +kernel)) (by decide +kernel)), ⟨by decide +kernel, by decide +kernel⟩, by decide +kernel⟩
theorem in_X4_useRow : Cond.instanceMethod yX4_useRow ∈ TT ∧ Cond.selects yX4_useRow.cls yX4_useRow yX4_useRow ∈ TT := ⟨(tt_in (List.mem_of_getElem? (i := 628) (by decide +kernel)) (by decide +kernel)), (tt_in (List.mem_of_getElem? (i := 10) (by decide +kernel)) (by decide +kernel))⟩
theorem cz_X4_useRow : Cz_ mX4_useRow := ⟨rfl, rfl⟩
abbrev mX4_callRoutine : Mi := (yX4_callRoutine, cX4_callRoutine, 7, (Option.some Jvm.ClassFile.FieldType.int), { frames := 3, cells := 0, slots := 0, locals := 69 })
theorem mf_X4_callRoutine : MF mX4_callRoutine 3 := ⟨(tt_in (List.mem_of_getElem? (i := 637) (by decide +kernel)) (by decide +kernel)), (tt_in (List.mem_of_getElem? (i := 64) (by decide +kernel)) (by decide +kernel)), ⟨by decide +kernel, by decide +kernel⟩, by decide +kernel⟩
theorem in_X4_callRoutine : Cond.instanceMethod yX4_callRoutine ∈ TT ∧ Cond.selects yX4_callRoutine.cls yX4_callRoutine yX4_callRoutine ∈ TT := ⟨(tt_in (List.mem_of_getElem? (i := 636) (by decide +kernel)) (by decide +kernel)), (tt_in (List.mem_of_getElem? (i := 11) (by decide +kernel)) (by decide +kernel))⟩
theorem cz_X4_callRoutine : Cz_ mX4_callRoutine := ⟨rfl, rfl⟩
abbrev mX4_giveBack : Mi := (yX4_giveBack, cX4_giveBack, 4, (Option.some Jvm.ClassFile.FieldType.int), { frames := 2, cells := 0, slots := 0, locals := 44 })
theorem mf_X4_giveBack : MF mX4_giveBack 2 := ⟨(tt_in (List.mem_of_getElem? (i := 642) (by decide +kernel)) (by decide +kernel)), (tt_in (List.mem_of_getElem? (i := 64) (by decide +kernel)) (by decide +kernel)), ⟨by decide +kernel, by decide +kernel⟩, by decide +kernel⟩
theorem in_X4_giveBack : Cond.instanceMethod yX4_giveBack ∈ TT ∧ Cond.selects yX4_giveBack.cls yX4_giveBack yX4_giveBack ∈ TT := ⟨(tt_in (List.mem_of_getElem? (i := 641) (by decide +kernel)) (by decide +kernel)), (tt_in (List.mem_of_getElem? (i := 12) (by decide +kernel)) (by decide +kernel))⟩
theorem cz_X4_giveBack : Cz_ mX4_giveBack := ⟨rfl, rfl⟩
abbrev mX4_leave : Mi := (yX4_leave, cX4_leave, 2, (Option.some Jvm.ClassFile.FieldType.int), { frames := 2, cells := 0, slots := 0, locals := 46 })
theorem mf_X4_leave : MF mX4_leave 1 := ⟨(tt_in (List.mem_of_getElem? (i := 662) (by decide +kernel)) (by decide +kernel)), (tt_in (List.mem_of_getElem? (i := 64) (by decide +kernel)) (by decide +kernel)), ⟨by decide +kernel, by decide +kernel⟩, by decide +kernel⟩
theorem in_X4_leave : Cond.instanceMethod yX4_leave ∈ TT ∧ Cond.selects yX4_leave.cls yX4_leave yX4_leave ∈ TT := ⟨(tt_in (List.mem_of_getElem? (i := 661) (by decide +kernel)) (by decide +kernel)), (tt_in (List.mem_of_getElem? (i := 14) (by decide +kernel)) (by decide +kernel))⟩
theorem cz_X4_leave : Cz_ mX4_leave := ⟨rfl, rfl⟩
abbrev mX4_endWith : Mi := (yX4_endWith, cX4_endWith, 3, (Option.some Jvm.ClassFile.FieldType.int), { frames := 1, cells := 0, slots := 0, locals := 22 })
theorem mf_X4_endWith : MF mX4_endWith 1 := ⟨(tt_in (List.mem_of_getElem? (i := 654) (by decide +kernel)) (by decide +kernel)), (tt_in (List.mem_of_getElem? (i := 64) (by decide +kernel)) (by decide +kernel)), ⟨by decide +kernel, by decide +kernel⟩, by decide +kernel⟩
theorem in_X4_endWith : Cond.instanceMethod yX4_endWith ∈ TT ∧ Cond.selects yX4_endWith.cls yX4_endWith yX4_endWith ∈ TT := ⟨(tt_in (List.mem_of_getElem? (i := 653) (by decide +kernel)) (by decide +kernel)), (tt_in (List.mem_of_getElem? (i := 13) (by decide +kernel)) (by decide +kernel))⟩
theorem cz_X4_endWith : Cz_ mX4_endWith := ⟨rfl, rfl⟩
abbrev mX4_sendTo : Mi := (yX4_sendTo, cX4_sendTo, 6, (Option.some Jvm.ClassFile.FieldType.int), { frames := 3, cells := 0, slots := 0, locals := 70 })
theorem mf_X4_sendTo : MF mX4_sendTo 3 := ⟨(tt_in (List.mem_of_getElem? (i := 674) (by decide +kernel)) (by decide +kernel)), (tt_in (List.mem_of_getElem? (i := 64) (by decide +kernel)) (by decide +kernel)), ⟨by decide +kernel, by decide +kernel⟩, by decide +kernel⟩
theorem in_X4_sendTo : Cond.instanceMethod yX4_sendTo ∈ TT ∧ Cond.selects yX4_sendTo.cls yX4_sendTo yX4_sendTo ∈ TT := ⟨(tt_in (List.mem_of_getElem? (i := 673) (by decide +kernel)) (by decide +kernel)), (tt_in (List.mem_of_getElem? (i := 15) (by decide +kernel)) (by decide +kernel))⟩
theorem cz_X4_sendTo : Cz_ mX4_sendTo := ⟨rfl, rfl⟩
abbrev mX4_lookOnShelf : Mi := (yX4_lookOnShelf, cX4_lookOnShelf, 7, (Option.some Jvm.ClassFile.FieldType.int), { frames := 2, cells := 0, slots := 0, locals := 46 })
theorem mf_X4_lookOnShelf : MF mX4_lookOnShelf 3 := ⟨(tt_in (List.mem_of_getElem? (i := 722) (by decide +kernel)) (by decide +kernel)), (tt_in (List.mem_of_getElem? (i := 64) (by decide +kernel)) (by decide +kernel)), ⟨by decide +kernel, by decide +kernel⟩, by decide +kernel⟩
theorem in_X4_lookOnShelf : Cond.instanceMethod yX4_lookOnShelf ∈ TT ∧ Cond.selects yX4_lookOnShelf.cls yX4_lookOnShelf yX4_lookOnShelf ∈ TT := ⟨(tt_in (List.mem_of_getElem? (i := 721) (by decide +kernel)) (by decide +kernel)), (tt_in (List.mem_of_getElem? (i := 22) (by decide +kernel)) (by decide +kernel))⟩
theorem cz_X4_lookOnShelf : Cz_ mX4_lookOnShelf := ⟨rfl, rfl⟩
abbrev mX4_tellOutside : Mi := (yX4_tellOutside, cX4_tellOutside, 3, (Option.some Jvm.ClassFile.FieldType.int), { frames := 0, cells := 0, slots := 0, locals := 0 })
theorem mf_X4_tellOutside : MF mX4_tellOutside 1 := ⟨(tt_in (List.mem_of_getElem? (i := 728) (by decide +kernel)) (by decide +kernel)), (tt_in (List.mem_of_getElem? (i := 64) (by decide +kernel)) (by decide +kernel)), ⟨by decide +kernel, by decide +kernel⟩, by decide +kernel⟩
theorem in_X4_tellOutside : Cond.instanceMethod yX4_tellOutside ∈ TT ∧ Cond.selects yX4_tellOutside.cls yX4_tellOutside yX4_tellOutside ∈ TT := ⟨(tt_in (List.mem_of_getElem? (i := 727) (by decide +kernel)) (by decide +kernel)), (tt_in (List.mem_of_getElem? (i := 23) (by decide +kernel)) (by decide +kernel))⟩
theorem cz_X4_tellOutside : Cz_ mX4_tellOutside := ⟨rfl, rfl⟩
abbrev mX4_keepAll : Mi := (yX4_keepAll, cX4_keepAll, 2, (Option.some Jvm.ClassFile.FieldType.int), { frames := 3, cells := 0, slots := 0, locals := 70 })
theorem mf_X4_keepAll : MF mX4_keepAll 1 := ⟨(tt_in (List.mem_of_getElem? (i := 732) (by decide +kernel)) (by decide +kernel)), (tt_in (List.mem_of_getElem? (i := 64) (by decide +kernel)) (by decide +kernel)), ⟨by decide +kernel, by decide +kernel⟩, by decide +kernel⟩
theorem in_X4_keepAll : Cond.instanceMethod yX4_keepAll ∈ TT ∧ Cond.selects yX4_keepAll.cls yX4_keepAll yX4_keepAll ∈ TT := ⟨(tt_in (List.mem_of_getElem? (i := 731) (by decide +kernel)) (by decide +kernel)), (tt_in (List.mem_of_getElem? (i := 24) (by decide +kernel)) (by decide +kernel))⟩
theorem cz_X4_keepAll : Cz_ mX4_keepAll := ⟨rfl, rfl⟩
abbrev mX5_init : Mi := (yX5_init, cX5_init, 1, (Option.none : Option Jvm.ClassFile.FieldType), { frames := 1, cells := 5, slots := 2250, locals := 23 })
theorem mf_X5_init : MF mX5_init 0 := ⟨(tt_in (List.mem_of_getElem? (i := 95) (by decide +kernel)) (by decide +kernel)), (tt_in (List.mem_of_getElem? (i := 65) (by decide +kernel)) (by decide +kernel)), ⟨by decide +kernel, by decide +kernel⟩, by decide +kernel⟩
theorem in_X5_init : Cond.instanceMethod yX5_init ∈ TT ∧ yX5_init.name = "<init>" := ⟨(tt_in (List.mem_of_getElem? (i := 94) (by decide +kernel)) (by decide +kernel)), rfl⟩
abbrev mX5_renew : Mi := (yX5_renew, cX5_renew, 7, (Option.some Jvm.ClassFile.FieldType.int), { frames := 1, cells := 0, slots := 0, locals := 22 })
theorem mf_X5_renew : MF mX5_renew 3 := ⟨(tt_in (List.mem_of_getElem? (i := 342) (by decide +kernel)) (by decide +kernel)), (tt_in (List.mem_of_getElem? (i := 65) (by decide +kernel)) (by decide +kernel)), ⟨by decide +kernel, by decide +kernel⟩, by decide +kernel⟩
theorem in_X5_renew : Cond.instanceMethod yX5_renew ∈ TT ∧ Cond.selects yX5_renew.cls yX5_renew yX5_renew ∈ TT := ⟨(tt_in (List.mem_of_getElem? (i := 340) (by decide +kernel)) (by decide +kernel)), (tt_in (List.mem_of_getElem? (i := 341) (by decide +kernel)) (by decide +kernel))⟩
theorem cz_X5_renew : Cz_ mX5_renew := ⟨rfl, rfl⟩
abbrev mX5_freeBody : Mi := (yX5_freeBody, cX5_freeBody, 2, (Option.some Jvm.ClassFile.FieldType.int), { frames := 0, cells := 0, slots := 0, locals := 0 })
theorem mf_X5_freeBody : MF mX5_freeBody 0 := ⟨(tt_in (List.mem_of_getElem? (i := 351) (by decide +kernel)) (by decide +kernel)), (tt_in (List.mem_of_getElem? (i := 65) (by decide +kernel)) (by decide +kernel)), ⟨by decide +kernel, by decide +kernel⟩, by decide +kernel⟩
theorem in_X5_freeBody : Cond.instanceMethod yX5_freeBody ∈ TT ∧ Cond.selects yX5_freeBody.cls yX5_freeBody yX5_freeBody ∈ TT := ⟨(tt_in (List.mem_of_getElem? (i := 350) (by decide +kernel)) (by decide +kernel)), (tt_in (List.mem_of_getElem? (i := 0) (by decide +kernel)) (by decide +kernel))⟩
theorem cz_X5_freeBody : Cz_ mX5_freeBody := ⟨rfl, rfl⟩
abbrev mX5_attach : Mi := (yX5_attach, cX5_attach, 3, (Option.none : Option Jvm.ClassFile.FieldType), { frames := 0, cells := 0, slots := 0, locals := 0 })
theorem mf_X5_attach : MF mX5_attach 2 := ⟨(tt_in (List.mem_of_getElem? (i := 355) (by decide +kernel)) (by decide +kernel)), (tt_in (List.mem_of_getElem? (i := 65) (by decide +kernel)) (by decide +kernel)), ⟨by decide +kernel, by decide +kernel⟩, by decide +kernel⟩
theorem in_X5_attach : Cond.instanceMethod yX5_attach ∈ TT ∧ Cond.selects yX5_attach.cls yX5_attach yX5_attach ∈ TT := ⟨(tt_in (List.mem_of_getElem? (i := 354) (by decide +kernel)) (by decide +kernel)), (tt_in (List.mem_of_getElem? (i := 1) (by decide +kernel)) (by decide +kernel))⟩
theorem cz_X5_attach : Cz_ mX5_attach := ⟨rfl, rfl⟩
abbrev mX5_drop : Mi := (yX5_drop, cX5_drop, 2, (Option.some Jvm.ClassFile.FieldType.boolean), { frames := 0, cells := 0, slots := 0, locals := 0 })
theorem mf_X5_drop : MF mX5_drop 1 := ⟨(tt_in (List.mem_of_getElem? (i := 347) (by decide +kernel)) (by decide +kernel)), (tt_in (List.mem_of_getElem? (i := 65) (by decide +kernel)) (by decide +kernel)), ⟨by decide +kernel, by decide +kernel⟩, by decide +kernel⟩
theorem in_X5_drop : Cond.instanceMethod yX5_drop ∈ TT ∧ Cond.selects yX5_drop.cls yX5_drop yX5_drop ∈ TT := ⟨(tt_in (List.mem_of_getElem? (i := 345) (by decide +kernel)) (by decide +kernel)), (tt_in (List.mem_of_getElem? (i := 346) (by decide +kernel)) (by decide +kernel))⟩
theorem cz_X5_drop : Cz_ mX5_drop := ⟨rfl, rfl⟩
abbrev mX5_join : Mi := (yX5_join, cX5_join, 3, (Option.some Jvm.ClassFile.FieldType.boolean), { frames := 1, cells := 0, slots := 0, locals := 22 })
theorem mf_X5_join : MF mX5_join 2 := ⟨(tt_in (List.mem_of_getElem? (i := 368) (by decide +kernel)) (by decide +kernel)), (tt_in (List.mem_of_getElem? (i := 65) (by decide +kernel)) (by decide +kernel)), ⟨by decide +kernel, by decide +kernel⟩, by decide +kernel⟩
theorem in_X5_join : Cond.instanceMethod yX5_join ∈ TT ∧ Cond.selects yX5_join.cls yX5_join yX5_join ∈ TT := ⟨(tt_in (List.mem_of_getElem? (i := 366) (by decide +kernel)) (by decide +kernel)), (tt_in (List.mem_of_getElem? (i := 367) (by decide +kernel)) (by decide +kernel))⟩
theorem cz_X5_join : Cz_ mX5_join := ⟨rfl, rfl⟩
abbrev mX5_sizeOf : Mi := (yX5_sizeOf, cX5_sizeOf, 2, (Option.some Jvm.ClassFile.FieldType.int), { frames := 0, cells := 0, slots := 0, locals := 0 })
theorem mf_X5_sizeOf : MF mX5_sizeOf 1 := ⟨(tt_in (List.mem_of_getElem? (i := 400) (by decide +kernel)) (by decide +kernel)), (tt_in (List.mem_of_getElem? (i := 65) (by decide +kernel)) (by decide +kernel)), ⟨by decide +kernel, by decide +kernel⟩, by decide +kernel⟩
theorem in_X5_sizeOf : Cond.instanceMethod yX5_sizeOf ∈ TT ∧ Cond.selects yX5_sizeOf.cls yX5_sizeOf yX5_sizeOf ∈ TT := ⟨(tt_in (List.mem_of_getElem? (i := 398) (by decide +kernel)) (by decide +kernel)), (tt_in (List.mem_of_getElem? (i := 399) (by decide +kernel)) (by decide +kernel))⟩
theorem cz_X5_sizeOf : Cz_ mX5_sizeOf := ⟨rfl, rfl⟩
abbrev mX5_laneOf : Mi := (yX5_laneOf, cX5_laneOf, 2, (Option.some Jvm.ClassFile.FieldType.int), { frames := 0, cells := 0, slots := 0, locals := 0 })
theorem mf_X5_laneOf : MF mX5_laneOf 1 := ⟨(tt_in (List.mem_of_getElem? (i := 404) (by decide +kernel)) (by decide +kernel)), (tt_in (List.mem_of_getElem? (i := 65) (by decide +kernel)) (by decide +kernel)), ⟨by decide +kernel, by decide +kernel⟩, by decide +kernel⟩
theorem in_X5_laneOf : Cond.instanceMethod yX5_laneOf ∈ TT ∧ Cond.selects yX5_laneOf.cls yX5_laneOf yX5_laneOf ∈ TT := ⟨(tt_in (List.mem_of_getElem? (i := 402) (by decide +kernel)) (by decide +kernel)), (tt_in (List.mem_of_getElem? (i := 403) (by decide +kernel)) (by decide +kernel))⟩
theorem cz_X5_laneOf : Cz_ mX5_laneOf := ⟨rfl, rfl⟩
abbrev mX5_leastSame : Mi := (yX5_leastSame, cX5_leastSame, 3, (Option.some Jvm.ClassFile.FieldType.int), { frames := 0, cells := 0, slots := 0, locals := 0 })
theorem mf_X5_leastSame : MF mX5_leastSame 1 := ⟨(tt_in (List.mem_of_getElem? (i := 408) (by decide +kernel)) (by decide +kernel)), (tt_in (List.mem_of_getElem? (i := 65) (by decide +kernel)) (by decide +kernel)), ⟨by decide +kernel, by decide +kernel⟩, by decide +kernel⟩
theorem in_X5_leastSame : Cond.instanceMethod yX5_leastSame ∈ TT ∧ Cond.selects yX5_leastSame.cls yX5_leastSame yX5_leastSame ∈ TT := ⟨(tt_in (List.mem_of_getElem? (i := 406) (by decide +kernel)) (by decide +kernel)), (tt_in (List.mem_of_getElem? (i := 407) (by decide +kernel)) (by decide +kernel))⟩
theorem cz_X5_leastSame : Cz_ mX5_leastSame := ⟨rfl, rfl⟩
abbrev mX5_reach : Mi := (yX5_reach, cX5_reach, 4, (Option.some Jvm.ClassFile.FieldType.int), { frames := 0, cells := 0, slots := 0, locals := 0 })
theorem mf_X5_reach : MF mX5_reach 2 := ⟨(tt_in (List.mem_of_getElem? (i := 376) (by decide +kernel)) (by decide +kernel)), (tt_in (List.mem_of_getElem? (i := 65) (by decide +kernel)) (by decide +kernel)), ⟨by decide +kernel, by decide +kernel⟩, by decide +kernel⟩
theorem in_X5_reach : Cond.instanceMethod yX5_reach ∈ TT ∧ Cond.selects yX5_reach.cls yX5_reach yX5_reach ∈ TT := ⟨(tt_in (List.mem_of_getElem? (i := 374) (by decide +kernel)) (by decide +kernel)), (tt_in (List.mem_of_getElem? (i := 375) (by decide +kernel)) (by decide +kernel))⟩
theorem cz_X5_reach : Cz_ mX5_reach := ⟨rfl, rfl⟩
abbrev mX5_reachHeld : Mi := (yX5_reachHeld, cX5_reachHeld, 5, (Option.some Jvm.ClassFile.FieldType.int), { frames := 1, cells := 0, slots := 0, locals := 23 })
theorem mf_X5_reachHeld : MF mX5_reachHeld 3 := ⟨(tt_in (List.mem_of_getElem? (i := 622) (by decide +kernel)) (by decide +kernel)), (tt_in (List.mem_of_getElem? (i := 65) (by decide +kernel)) (by decide +kernel)), ⟨by decide +kernel, by decide +kernel⟩, by decide +kernel⟩
theorem in_X5_reachHeld : Cond.instanceMethod yX5_reachHeld ∈ TT ∧ Cond.selects yX5_reachHeld.cls yX5_reachHeld yX5_reachHeld ∈ TT := ⟨(tt_in (List.mem_of_getElem? (i := 620) (by decide +kernel)) (by decide +kernel)), (tt_in (List.mem_of_getElem? (i := 621) (by decide +kernel)) (by decide +kernel))⟩
theorem cz_X5_reachHeld : Cz_ mX5_reachHeld := ⟨rfl, rfl⟩
abbrev mX5_reachAsked : Mi := (yX5_reachAsked, cX5_reachAsked, 6, (Option.some Jvm.ClassFile.FieldType.int), { frames := 1, cells := 0, slots := 0, locals := 23 })
theorem mf_X5_reachAsked : MF mX5_reachAsked 3 := ⟨(tt_in (List.mem_of_getElem? (i := 610) (by decide +kernel)) (by decide +kernel)), (tt_in (List.mem_of_getElem? (i := 65) (by decide +kernel)) (by decide +kernel)), ⟨by decide +kernel, by decide +kernel⟩, by decide +kernel⟩
theorem in_X5_reachAsked : Cond.instanceMethod yX5_reachAsked ∈ TT ∧ Cond.selects yX5_reachAsked.cls yX5_reachAsked yX5_reachAsked ∈ TT := ⟨(tt_in (List.mem_of_getElem? (i := 608) (by decide +kernel)) (by decide +kernel)), (tt_in (List.mem_of_getElem? (i := 609) (by decide +kernel)) (by decide +kernel))⟩
theorem cz_X5_reachAsked : Cz_ mX5_reachAsked := ⟨rfl, rfl⟩
abbrev mX5_reachPut : Mi := (yX5_reachPut, cX5_reachPut, 6, (Option.some Jvm.ClassFile.FieldType.int), { frames := 1, cells := 0, slots := 0, locals := 23 })
theorem mf_X5_reachPut : MF mX5_reachPut 3 := ⟨(tt_in (List.mem_of_getElem? (i := 618) (by decide +kernel)) (by decide +kernel)), (tt_in (List.mem_of_getElem? (i := 65) (by decide +kernel)) (by decide +kernel)), ⟨by decide +kernel, by decide +kernel⟩, by decide +kernel⟩
theorem in_X5_reachPut : Cond.instanceMethod yX5_reachPut ∈ TT ∧ Cond.selects yX5_reachPut.cls yX5_reachPut yX5_reachPut ∈ TT := ⟨(tt_in (List.mem_of_getElem? (i := 616) (by decide +kernel)) (by decide +kernel)), (tt_in (List.mem_of_getElem? (i := 617) (by decide +kernel)) (by decide +kernel))⟩
theorem cz_X5_reachPut : Cz_ mX5_reachPut := ⟨rfl, rfl⟩
abbrev mX5_valueAt : Mi := (yX5_valueAt, cX5_valueAt, 4, (Option.some Jvm.ClassFile.FieldType.long), { frames := 1, cells := 0, slots := 0, locals := 23 })
theorem mf_X5_valueAt : MF mX5_valueAt 2 := ⟨(tt_in (List.mem_of_getElem? (i := 392) (by decide +kernel)) (by decide +kernel)), (tt_in (List.mem_of_getElem? (i := 65) (by decide +kernel)) (by decide +kernel)), ⟨by decide +kernel, by decide +kernel⟩, by decide +kernel⟩
theorem in_X5_valueAt : Cond.instanceMethod yX5_valueAt ∈ TT ∧ Cond.selects yX5_valueAt.cls yX5_valueAt yX5_valueAt ∈ TT := ⟨(tt_in (List.mem_of_getElem? (i := 390) (by decide +kernel)) (by decide +kernel)), (tt_in (List.mem_of_getElem? (i := 391) (by decide +kernel)) (by decide +kernel))⟩
theorem cz_X5_valueAt : Cz_ mX5_valueAt := ⟨rfl, rfl⟩
abbrev mX5_store : Mi := (yX5_store, cX5_store, 6, (Option.none : Option Jvm.ClassFile.FieldType), { frames := 1, cells := 0, slots := 0, locals := 23 })
theorem mf_X5_store : MF mX5_store 3 := ⟨(tt_in (List.mem_of_getElem? (i := 380) (by decide +kernel)) (by decide +kernel)), (tt_in (List.mem_of_getElem? (i := 65) (by decide +kernel)) (by decide +kernel)), ⟨by decide +kernel, by decide +kernel⟩, by decide +kernel⟩
theorem in_X5_store : Cond.instanceMethod yX5_store ∈ TT ∧ Cond.selects yX5_store.cls yX5_store yX5_store ∈ TT := ⟨(tt_in (List.mem_of_getElem? (i := 378) (by decide +kernel)) (by decide +kernel)), (tt_in (List.mem_of_getElem? (i := 379) (by decide +kernel)) (by decide +kernel))⟩
theorem cz_X5_store : Cz_ mX5_store := ⟨rfl, rfl⟩
abbrev mX5_copyFrom : Mi := (yX5_copyFrom, cX5_copyFrom, 2, (Option.none : Option Jvm.ClassFile.FieldType), { frames := 1, cells := 0, slots := 0, locals := 26 })
theorem mf_X5_copyFrom : MF mX5_copyFrom 1 := ⟨(tt_in (List.mem_of_getElem? (i := 745) (by decide +kernel)) (by decide +kernel)), (tt_in (List.mem_of_getElem? (i := 65) (by decide +kernel)) (by decide +kernel)), ⟨by decide +kernel, by decide +kernel⟩, by decide +kernel⟩
theorem in_X5_copyFrom : Cond.instanceMethod yX5_copyFrom ∈ TT ∧ Cond.selects yX5_copyFrom.cls yX5_copyFrom yX5_copyFrom ∈ TT := ⟨(tt_in (List.mem_of_getElem? (i := 743) (by decide +kernel)) (by decide +kernel)), (tt_in (List.mem_of_getElem? (i := 744) (by decide +kernel)) (by decide +kernel))⟩
theorem cz_X5_copyFrom : Cz_ mX5_copyFrom := ⟨rfl, rfl⟩
abbrev mX6_takes : Mi := (yX6_takes, cX6_takes, 3, (Option.some Jvm.ClassFile.FieldType.int), { frames := 1, cells := 0, slots := 0, locals := 20 })
theorem mf_X6_takes : MF mX6_takes 3 := ⟨(tt_in (List.mem_of_getElem? (i := 573) (by decide +kernel)) (by decide +kernel)), (tt_in (List.mem_of_getElem? (i := 75) (by decide +kernel)) (by decide +kernel)), ⟨by decide +kernel, by decide +kernel⟩, by decide +kernel⟩
theorem in_X6_takes : Cond.static yX6_takes ∈ TT := (tt_in (List.mem_of_getElem? (i := 572) (by decide +kernel)) (by decide +kernel))
theorem cz_X6_takes : Cz_ mX6_takes := ⟨rfl, rfl⟩
abbrev mX7_init : Mi := (yX7_init, cX7_init, 2, (Option.none : Option Jvm.ClassFile.FieldType), { frames := 1, cells := 7, slots := 3150, locals := 20 })
theorem mf_X7_init : MF mX7_init 1 := ⟨(tt_in (List.mem_of_getElem? (i := 452) (by decide +kernel)) (by decide +kernel)), (tt_in (List.mem_of_getElem? (i := 73) (by decide +kernel)) (by decide +kernel)), ⟨by decide +kernel, by decide +kernel⟩, by decide +kernel⟩
theorem in_X7_init : Cond.instanceMethod yX7_init ∈ TT ∧ yX7_init.name = "<init>" := ⟨(tt_in (List.mem_of_getElem? (i := 451) (by decide +kernel)) (by decide +kernel)), rfl⟩
abbrev mX7_admits : Mi := (yX7_admits, cX7_admits, 4, (Option.some Jvm.ClassFile.FieldType.boolean), { frames := 1, cells := 0, slots := 0, locals := 20 })
theorem mf_X7_admits : MF mX7_admits 3 := ⟨(tt_in (List.mem_of_getElem? (i := 509) (by decide +kernel)) (by decide +kernel)), (tt_in (List.mem_of_getElem? (i := 73) (by decide +kernel)) (by decide +kernel)), ⟨by decide +kernel, by decide +kernel⟩, by decide +kernel⟩
theorem in_X7_admits : Cond.instanceMethod yX7_admits ∈ TT ∧ Cond.selects yX7_admits.cls yX7_admits yX7_admits ∈ TT := ⟨(tt_in (List.mem_of_getElem? (i := 507) (by decide +kernel)) (by decide +kernel)), (tt_in (List.mem_of_getElem? (i := 508) (by decide +kernel)) (by decide +kernel))⟩
theorem cz_X7_admits : Cz_ mX7_admits := ⟨rfl, rfl⟩
abbrev mX7_addOp : Mi := (yX7_addOp, cX7_addOp, 4, (Option.some Jvm.ClassFile.FieldType.int), { frames := 0, cells := 0, slots := 0, locals := 0 })
theorem mf_X7_addOp : MF mX7_addOp 3 := ⟨(tt_in (List.mem_of_getElem? (i := 518) (by decide +kernel)) (by decide +kernel)), (tt_in (List.mem_of_getElem? (i := 73) (by decide +kernel)) (by decide +kernel)), ⟨by decide +kernel, by decide +kernel⟩, by decide +kernel⟩
theorem in_X7_addOp : Cond.instanceMethod yX7_addOp ∈ TT ∧ Cond.selects yX7_addOp.cls yX7_addOp yX7_addOp ∈ TT := ⟨(tt_in (List.mem_of_getElem? (i := 516) (by decide +kernel)) (by decide +kernel)), (tt_in (List.mem_of_getElem? (i := 517) (by decide +kernel)) (by decide +kernel))⟩
theorem cz_X7_addOp : Cz_ mX7_addOp := ⟨rfl, rfl⟩
abbrev mX7_addGuard : Mi := (yX7_addGuard, cX7_addGuard, 5, (Option.some Jvm.ClassFile.FieldType.int), { frames := 0, cells := 0, slots := 0, locals := 0 })
theorem mf_X7_addGuard : MF mX7_addGuard 4 := ⟨(tt_in (List.mem_of_getElem? (i := 528) (by decide +kernel)) (by decide +kernel)), (tt_in (List.mem_of_getElem? (i := 73) (by decide +kernel)) (by decide +kernel)), ⟨by decide +kernel, by decide +kernel⟩, by decide +kernel⟩
theorem in_X7_addGuard : Cond.instanceMethod yX7_addGuard ∈ TT ∧ Cond.selects yX7_addGuard.cls yX7_addGuard yX7_addGuard ∈ TT := ⟨(tt_in (List.mem_of_getElem? (i := 526) (by decide +kernel)) (by decide +kernel)), (tt_in (List.mem_of_getElem? (i := 527) (by decide +kernel)) (by decide +kernel))⟩
theorem cz_X7_addGuard : Cz_ mX7_addGuard := ⟨rfl, rfl⟩
abbrev mX7_hasOp : Mi := (yX7_hasOp, cX7_hasOp, 2, (Option.some Jvm.ClassFile.FieldType.boolean), { frames := 0, cells := 0, slots := 0, locals := 0 })
theorem mf_X7_hasOp : MF mX7_hasOp 1 := ⟨(tt_in (List.mem_of_getElem? (i := 650) (by decide +kernel)) (by decide +kernel)), (tt_in (List.mem_of_getElem? (i := 73) (by decide +kernel)) (by decide +kernel)), ⟨by decide +kernel, by decide +kernel⟩, by decide +kernel⟩
theorem in_X7_hasOp : Cond.instanceMethod yX7_hasOp ∈ TT ∧ Cond.selects yX7_hasOp.cls yX7_hasOp yX7_hasOp ∈ TT := ⟨(tt_in (List.mem_of_getElem? (i := 648) (by decide +kernel)) (by decide +kernel)), (tt_in (List.mem_of_getElem? (i := 649) (by decide +kernel)) (by decide +kernel))⟩
theorem cz_X7_hasOp : Cz_ mX7_hasOp := ⟨rfl, rfl⟩
abbrev mX7_handlerOf : Mi := (yX7_handlerOf, cX7_handlerOf, 5, (Option.some Jvm.ClassFile.FieldType.int), { frames := 1, cells := 0, slots := 0, locals := 21 })
theorem mf_X7_handlerOf : MF mX7_handlerOf 2 := ⟨(tt_in (List.mem_of_getElem? (i := 773) (by decide +kernel)) (by decide +kernel)), (tt_in (List.mem_of_getElem? (i := 73) (by decide +kernel)) (by decide +kernel)), ⟨by decide +kernel, by decide +kernel⟩, by decide +kernel⟩
theorem in_X7_handlerOf : Cond.instanceMethod yX7_handlerOf ∈ TT ∧ Cond.selects yX7_handlerOf.cls yX7_handlerOf yX7_handlerOf ∈ TT := ⟨(tt_in (List.mem_of_getElem? (i := 771) (by decide +kernel)) (by decide +kernel)), (tt_in (List.mem_of_getElem? (i := 772) (by decide +kernel)) (by decide +kernel))⟩
theorem cz_X7_handlerOf : Cz_ mX7_handlerOf := ⟨rfl, rfl⟩
abbrev mX8_init : Mi := (yX8_init, cX8_init, 1, (Option.none : Option Jvm.ClassFile.FieldType), { frames := 1, cells := 5, slots := 2250, locals := 23 })
theorem mf_X8_init : MF mX8_init 0 := ⟨(tt_in (List.mem_of_getElem? (i := 122) (by decide +kernel)) (by decide +kernel)), (tt_in (List.mem_of_getElem? (i := 67) (by decide +kernel)) (by decide +kernel)), ⟨by decide +kernel, by decide +kernel⟩, by decide +kernel⟩
theorem in_X8_init : Cond.instanceMethod yX8_init ∈ TT ∧ yX8_init.name = "<init>" := ⟨(tt_in (List.mem_of_getElem? (i := 121) (by decide +kernel)) (by decide +kernel)), rfl⟩
abbrev mX8_bring : Mi := (yX8_bring, cX8_bring, 2, (Option.some Jvm.ClassFile.FieldType.int), { frames := 0, cells := 0, slots := 0, locals := 0 })
theorem mf_X8_bring : MF mX8_bring 1 := ⟨(tt_in (List.mem_of_getElem? (i := 416) (by decide +kernel)) (by decide +kernel)), (tt_in (List.mem_of_getElem? (i := 67) (by decide +kernel)) (by decide +kernel)), ⟨by decide +kernel, by decide +kernel⟩, by decide +kernel⟩
theorem in_X8_bring : Cond.instanceMethod yX8_bring ∈ TT ∧ Cond.selects yX8_bring.cls yX8_bring yX8_bring ∈ TT := ⟨(tt_in (List.mem_of_getElem? (i := 414) (by decide +kernel)) (by decide +kernel)), (tt_in (List.mem_of_getElem? (i := 415) (by decide +kernel)) (by decide +kernel))⟩
theorem cz_X8_bring : Cz_ mX8_bring := ⟨rfl, rfl⟩
abbrev mX8_exists : Mi := (yX8_exists, cX8_exists, 3, (Option.some Jvm.ClassFile.FieldType.boolean), { frames := 0, cells := 0, slots := 0, locals := 0 })
theorem mf_X8_exists : MF mX8_exists 1 := ⟨(tt_in (List.mem_of_getElem? (i := 425) (by decide +kernel)) (by decide +kernel)), (tt_in (List.mem_of_getElem? (i := 67) (by decide +kernel)) (by decide +kernel)), ⟨by decide +kernel, by decide +kernel⟩, by decide +kernel⟩
theorem in_X8_exists : Cond.instanceMethod yX8_exists ∈ TT ∧ Cond.selects yX8_exists.cls yX8_exists yX8_exists ∈ TT := ⟨(tt_in (List.mem_of_getElem? (i := 423) (by decide +kernel)) (by decide +kernel)), (tt_in (List.mem_of_getElem? (i := 424) (by decide +kernel)) (by decide +kernel))⟩
theorem cz_X8_exists : Cz_ mX8_exists := ⟨rfl, rfl⟩
abbrev mX8_tell : Mi := (yX8_tell, cX8_tell, 3, (Option.some Jvm.ClassFile.FieldType.int), { frames := 1, cells := 0, slots := 0, locals := 22 })
theorem mf_X8_tell : MF mX8_tell 2 := ⟨(tt_in (List.mem_of_getElem? (i := 429) (by decide +kernel)) (by decide +kernel)), (tt_in (List.mem_of_getElem? (i := 67) (by decide +kernel)) (by decide +kernel)), ⟨by decide +kernel, by decide +kernel⟩, by decide +kernel⟩
theorem in_X8_tell : Cond.instanceMethod yX8_tell ∈ TT ∧ Cond.selects yX8_tell.cls yX8_tell yX8_tell ∈ TT := ⟨(tt_in (List.mem_of_getElem? (i := 427) (by decide +kernel)) (by decide +kernel)), (tt_in (List.mem_of_getElem? (i := 428) (by decide +kernel)) (by decide +kernel))⟩
theorem cz_X8_tell : Cz_ mX8_tell := ⟨rfl, rfl⟩
abbrev mX8_isA : Mi := (yX8_isA, cX8_isA, 5, (Option.some Jvm.ClassFile.FieldType.boolean), { frames := 0, cells := 0, slots := 0, locals := 0 })
theorem mf_X8_isA : MF mX8_isA 2 := ⟨(tt_in (List.mem_of_getElem? (i := 687) (by decide +kernel)) (by decide +kernel)), (tt_in (List.mem_of_getElem? (i := 67) (by decide +kernel)) (by decide +kernel)), ⟨by decide +kernel, by decide +kernel⟩, by decide +kernel⟩
theorem in_X8_isA : Cond.instanceMethod yX8_isA ∈ TT ∧ Cond.selects yX8_isA.cls yX8_isA yX8_isA ∈ TT := ⟨(tt_in (List.mem_of_getElem? (i := 686) (by decide +kernel)) (by decide +kernel)), (tt_in (List.mem_of_getElem? (i := 17) (by decide +kernel)) (by decide +kernel))⟩
theorem cz_X8_isA : Cz_ mX8_isA := ⟨rfl, rfl⟩
abbrev mX8_placesOf : Mi := (yX8_placesOf, cX8_placesOf, 2, (Option.some Jvm.ClassFile.FieldType.int), { frames := 0, cells := 0, slots := 0, locals := 0 })
theorem mf_X8_placesOf : MF mX8_placesOf 1 := ⟨(tt_in (List.mem_of_getElem? (i := 433) (by decide +kernel)) (by decide +kernel)), (tt_in (List.mem_of_getElem? (i := 67) (by decide +kernel)) (by decide +kernel)), ⟨by decide +kernel, by decide +kernel⟩, by decide +kernel⟩
theorem in_X8_placesOf : Cond.instanceMethod yX8_placesOf ∈ TT ∧ Cond.selects yX8_placesOf.cls yX8_placesOf yX8_placesOf ∈ TT := ⟨(tt_in (List.mem_of_getElem? (i := 432) (by decide +kernel)) (by decide +kernel)), (tt_in (List.mem_of_getElem? (i := 2) (by decide +kernel)) (by decide +kernel))⟩
theorem cz_X8_placesOf : Cz_ mX8_placesOf := ⟨rfl, rfl⟩
abbrev mX8_reachShelf : Mi := (yX8_reachShelf, cX8_reachShelf, 5, (Option.some Jvm.ClassFile.FieldType.int), { frames := 1, cells := 0, slots := 0, locals := 22 })
theorem mf_X8_reachShelf : MF mX8_reachShelf 2 := ⟨(tt_in (List.mem_of_getElem? (i := 716) (by decide +kernel)) (by decide +kernel)), (tt_in (List.mem_of_getElem? (i := 67) (by decide +kernel)) (by decide +kernel)), ⟨by decide +kernel, by decide +kernel⟩, by decide +kernel⟩
theorem in_X8_reachShelf : Cond.instanceMethod yX8_reachShelf ∈ TT ∧ Cond.selects yX8_reachShelf.cls yX8_reachShelf yX8_reachShelf ∈ TT := ⟨(tt_in (List.mem_of_getElem? (i := 714) (by decide +kernel)) (by decide +kernel)), (tt_in (List.mem_of_getElem? (i := 715) (by decide +kernel)) (by decide +kernel))⟩
theorem cz_X8_reachShelf : Cz_ mX8_reachShelf := ⟨rfl, rfl⟩
abbrev mX8_lies : Mi := (yX8_lies, cX8_lies, 3, (Option.some Jvm.ClassFile.FieldType.int), { frames := 0, cells := 0, slots := 0, locals := 0 })
theorem mf_X8_lies : MF mX8_lies 2 := ⟨(tt_in (List.mem_of_getElem? (i := 439) (by decide +kernel)) (by decide +kernel)), (tt_in (List.mem_of_getElem? (i := 67) (by decide +kernel)) (by decide +kernel)), ⟨by decide +kernel, by decide +kernel⟩, by decide +kernel⟩
theorem in_X8_lies : Cond.instanceMethod yX8_lies ∈ TT ∧ Cond.selects yX8_lies.cls yX8_lies yX8_lies ∈ TT := ⟨(tt_in (List.mem_of_getElem? (i := 437) (by decide +kernel)) (by decide +kernel)), (tt_in (List.mem_of_getElem? (i := 438) (by decide +kernel)) (by decide +kernel))⟩
theorem cz_X8_lies : Cz_ mX8_lies := ⟨rfl, rfl⟩
abbrev mX8_layOnShelf : Mi := (yX8_layOnShelf, cX8_layOnShelf, 8, (Option.some Jvm.ClassFile.FieldType.int), { frames := 2, cells := 0, slots := 0, locals := 46 })
theorem mf_X8_layOnShelf : MF mX8_layOnShelf 3 := ⟨(tt_in (List.mem_of_getElem? (i := 710) (by decide +kernel)) (by decide +kernel)), (tt_in (List.mem_of_getElem? (i := 67) (by decide +kernel)) (by decide +kernel)), ⟨by decide +kernel, by decide +kernel⟩, by decide +kernel⟩
theorem in_X8_layOnShelf : Cond.instanceMethod yX8_layOnShelf ∈ TT ∧ Cond.selects yX8_layOnShelf.cls yX8_layOnShelf yX8_layOnShelf ∈ TT := ⟨(tt_in (List.mem_of_getElem? (i := 708) (by decide +kernel)) (by decide +kernel)), (tt_in (List.mem_of_getElem? (i := 709) (by decide +kernel)) (by decide +kernel))⟩
theorem cz_X8_layOnShelf : Cz_ mX8_layOnShelf := ⟨rfl, rfl⟩
abbrev mX8_hasNumber : Mi := (yX8_hasNumber, cX8_hasNumber, 1, (Option.some Jvm.ClassFile.FieldType.boolean), { frames := 0, cells := 0, slots := 0, locals := 0 })
theorem mf_X8_hasNumber : MF mX8_hasNumber 1 := ⟨(tt_in (List.mem_of_getElem? (i := 576) (by decide +kernel)) (by decide +kernel)), (tt_in (List.mem_of_getElem? (i := 67) (by decide +kernel)) (by decide +kernel)), ⟨by decide +kernel, by decide +kernel⟩, by decide +kernel⟩
theorem in_X8_hasNumber : Cond.static yX8_hasNumber ∈ TT := (tt_in (List.mem_of_getElem? (i := 575) (by decide +kernel)) (by decide +kernel))
theorem cz_X8_hasNumber : Cz_ mX8_hasNumber := ⟨rfl, rfl⟩
abbrev mX8_send : Mi := (yX8_send, cX8_send, 4, (Option.some Jvm.ClassFile.FieldType.int), { frames := 2, cells := 0, slots := 0, locals := 47 })
theorem mf_X8_send : MF mX8_send 3 := ⟨(tt_in (List.mem_of_getElem? (i := 679) (by decide +kernel)) (by decide +kernel)), (tt_in (List.mem_of_getElem? (i := 67) (by decide +kernel)) (by decide +kernel)), ⟨by decide +kernel, by decide +kernel⟩, by decide +kernel⟩
theorem in_X8_send : Cond.instanceMethod yX8_send ∈ TT ∧ Cond.selects yX8_send.cls yX8_send yX8_send ∈ TT := ⟨(tt_in (List.mem_of_getElem? (i := 677) (by decide +kernel)) (by decide +kernel)), (tt_in (List.mem_of_getElem? (i := 678) (by decide +kernel)) (by decide +kernel))⟩
theorem cz_X8_send : Cz_ mX8_send := ⟨rfl, rfl⟩
abbrev mX8_weight : Mi := (yX8_weight, cX8_weight, 3, (Option.some Jvm.ClassFile.FieldType.int), { frames := 1, cells := 0, slots := 0, locals := 24 })
theorem mf_X8_weight : MF mX8_weight 1 := ⟨(tt_in (List.mem_of_getElem? (i := 683) (by decide +kernel)) (by decide +kernel)), (tt_in (List.mem_of_getElem? (i := 67) (by decide +kernel)) (by decide +kernel)), ⟨by decide +kernel, by decide +kernel⟩, by decide +kernel⟩
theorem in_X8_weight : Cond.instanceMethod yX8_weight ∈ TT ∧ Cond.selects yX8_weight.cls yX8_weight yX8_weight ∈ TT := ⟨(tt_in (List.mem_of_getElem? (i := 682) (by decide +kernel)) (by decide +kernel)), (tt_in (List.mem_of_getElem? (i := 16) (by decide +kernel)) (by decide +kernel))⟩
theorem cz_X8_weight : Cz_ mX8_weight := ⟨rfl, rfl⟩
abbrev mX8_load : Mi := (yX8_load, cX8_load, 3, (Option.some Jvm.ClassFile.FieldType.int), { frames := 1, cells := 0, slots := 0, locals := 24 })
theorem mf_X8_load : MF mX8_load 2 := ⟨(tt_in (List.mem_of_getElem? (i := 693) (by decide +kernel)) (by decide +kernel)), (tt_in (List.mem_of_getElem? (i := 67) (by decide +kernel)) (by decide +kernel)), ⟨by decide +kernel, by decide +kernel⟩, by decide +kernel⟩
theorem in_X8_load : Cond.instanceMethod yX8_load ∈ TT ∧ Cond.selects yX8_load.cls yX8_load yX8_load ∈ TT := ⟨(tt_in (List.mem_of_getElem? (i := 692) (by decide +kernel)) (by decide +kernel)), (tt_in (List.mem_of_getElem? (i := 18) (by decide +kernel)) (by decide +kernel))⟩
theorem cz_X8_load : Cz_ mX8_load := ⟨rfl, rfl⟩
abbrev mX8_glow : Mi := (yX8_glow, cX8_glow, 3, (Option.some Jvm.ClassFile.FieldType.int), { frames := 1, cells := 0, slots := 0, locals := 24 })
theorem mf_X8_glow : MF mX8_glow 2 := ⟨(tt_in (List.mem_of_getElem? (i := 697) (by decide +kernel)) (by decide +kernel)), (tt_in (List.mem_of_getElem? (i := 67) (by decide +kernel)) (by decide +kernel)), ⟨by decide +kernel, by decide +kernel⟩, by decide +kernel⟩
theorem in_X8_glow : Cond.instanceMethod yX8_glow ∈ TT ∧ Cond.selects yX8_glow.cls yX8_glow yX8_glow ∈ TT := ⟨(tt_in (List.mem_of_getElem? (i := 696) (by decide +kernel)) (by decide +kernel)), (tt_in (List.mem_of_getElem? (i := 19) (by decide +kernel)) (by decide +kernel))⟩
theorem cz_X8_glow : Cz_ mX8_glow := ⟨rfl, rfl⟩
abbrev mX8_openUp : Mi := (yX8_openUp, cX8_openUp, 2, (Option.some Jvm.ClassFile.FieldType.int), { frames := 1, cells := 0, slots := 0, locals := 24 })
theorem mf_X8_openUp : MF mX8_openUp 1 := ⟨(tt_in (List.mem_of_getElem? (i := 701) (by decide +kernel)) (by decide +kernel)), (tt_in (List.mem_of_getElem? (i := 67) (by decide +kernel)) (by decide +kernel)), ⟨by decide +kernel, by decide +kernel⟩, by decide +kernel⟩
theorem in_X8_openUp : Cond.instanceMethod yX8_openUp ∈ TT ∧ Cond.selects yX8_openUp.cls yX8_openUp yX8_openUp ∈ TT := ⟨(tt_in (List.mem_of_getElem? (i := 700) (by decide +kernel)) (by decide +kernel)), (tt_in (List.mem_of_getElem? (i := 20) (by decide +kernel)) (by decide +kernel))⟩
theorem cz_X8_openUp : Cz_ mX8_openUp := ⟨rfl, rfl⟩
abbrev mX8_setOwnMark : Mi := (yX8_setOwnMark, cX8_setOwnMark, 4, (Option.some Jvm.ClassFile.FieldType.int), { frames := 1, cells := 0, slots := 0, locals := 24 })
theorem mf_X8_setOwnMark : MF mX8_setOwnMark 3 := ⟨(tt_in (List.mem_of_getElem? (i := 705) (by decide +kernel)) (by decide +kernel)), (tt_in (List.mem_of_getElem? (i := 67) (by decide +kernel)) (by decide +kernel)), ⟨by decide +kernel, by decide +kernel⟩, by decide +kernel⟩
theorem in_X8_setOwnMark : Cond.instanceMethod yX8_setOwnMark ∈ TT ∧ Cond.selects yX8_setOwnMark.cls yX8_setOwnMark yX8_setOwnMark ∈ TT := ⟨(tt_in (List.mem_of_getElem? (i := 704) (by decide +kernel)) (by decide +kernel)), (tt_in (List.mem_of_getElem? (i := 21) (by decide +kernel)) (by decide +kernel))⟩
theorem cz_X8_setOwnMark : Cz_ mX8_setOwnMark := ⟨rfl, rfl⟩
abbrev mX8_copyFirst : Mi := (yX8_copyFirst, cX8_copyFirst, 3, (Option.none : Option Jvm.ClassFile.FieldType), { frames := 1, cells := 0, slots := 0, locals := 26 })
theorem mf_X8_copyFirst : MF mX8_copyFirst 2 := ⟨(tt_in (List.mem_of_getElem? (i := 752) (by decide +kernel)) (by decide +kernel)), (tt_in (List.mem_of_getElem? (i := 67) (by decide +kernel)) (by decide +kernel)), ⟨by decide +kernel, by decide +kernel⟩, by decide +kernel⟩
theorem in_X8_copyFirst : Cond.instanceMethod yX8_copyFirst ∈ TT ∧ Cond.selects yX8_copyFirst.cls yX8_copyFirst yX8_copyFirst ∈ TT := ⟨(tt_in (List.mem_of_getElem? (i := 750) (by decide +kernel)) (by decide +kernel)), (tt_in (List.mem_of_getElem? (i := 751) (by decide +kernel)) (by decide +kernel))⟩
theorem cz_X8_copyFirst : Cz_ mX8_copyFirst := ⟨rfl, rfl⟩
abbrev mX9_init : Mi := (yX9_init, cX9_init, 1, (Option.none : Option Jvm.ClassFile.FieldType), { frames := 4, cells := 104, slots := 46800, locals := 85 })
theorem mf_X9_init : MF mX9_init 0 := ⟨(tt_in (List.mem_of_getElem? (i := 81) (by decide +kernel)) (by decide +kernel)), (tt_in (List.mem_of_getElem? (i := 63) (by decide +kernel)) (by decide +kernel)), ⟨by decide +kernel, by decide +kernel⟩, by decide +kernel⟩
theorem in_X9_init : Cond.instanceMethod yX9_init ∈ TT ∧ yX9_init.name = "<init>" := ⟨(tt_in (List.mem_of_getElem? (i := 80) (by decide +kernel)) (by decide +kernel)), rfl⟩
abbrev mX9_row : Mi := (yX9_row, cX9_row, 5, (Option.some Jvm.ClassFile.FieldType.int), { frames := 2, cells := 0, slots := 0, locals := 48 })
theorem mf_X9_row : MF mX9_row 3 := ⟨(tt_in (List.mem_of_getElem? (i := 331) (by decide +kernel)) (by decide +kernel)), (tt_in (List.mem_of_getElem? (i := 63) (by decide +kernel)) (by decide +kernel)), ⟨by decide +kernel, by decide +kernel⟩, by decide +kernel⟩
theorem in_X9_row : Cond.instanceMethod yX9_row ∈ TT ∧ Cond.selects yX9_row.cls yX9_row yX9_row ∈ TT := ⟨(tt_in (List.mem_of_getElem? (i := 329) (by decide +kernel)) (by decide +kernel)), (tt_in (List.mem_of_getElem? (i := 330) (by decide +kernel)) (by decide +kernel))⟩
theorem cz_X9_row : Cz_ mX9_row := ⟨rfl, rfl⟩
abbrev mX9_miss : Mi := (yX9_miss, cX9_miss, 2, (Option.some Jvm.ClassFile.FieldType.int), { frames := 1, cells := 0, slots := 0, locals := 21 })
theorem mf_X9_miss : MF mX9_miss 1 := ⟨(tt_in (List.mem_of_getElem? (i := 359) (by decide +kernel)) (by decide +kernel)), (tt_in (List.mem_of_getElem? (i := 63) (by decide +kernel)) (by decide +kernel)), ⟨by decide +kernel, by decide +kernel⟩, by decide +kernel⟩
theorem in_X9_miss : Cond.instanceMethod yX9_miss ∈ TT ∧ Cond.selects yX9_miss.cls yX9_miss yX9_miss ∈ TT := ⟨(tt_in (List.mem_of_getElem? (i := 357) (by decide +kernel)) (by decide +kernel)), (tt_in (List.mem_of_getElem? (i := 358) (by decide +kernel)) (by decide +kernel))⟩
theorem cz_X9_miss : Cz_ mX9_miss := ⟨rfl, rfl⟩
abbrev mX9_share : Mi := (yX9_share, cX9_share, 3, (Option.some Jvm.ClassFile.FieldType.int), { frames := 2, cells := 0, slots := 0, locals := 44 })
theorem mf_X9_share : MF mX9_share 2 := ⟨(tt_in (List.mem_of_getElem? (i := 364) (by decide +kernel)) (by decide +kernel)), (tt_in (List.mem_of_getElem? (i := 63) (by decide +kernel)) (by decide +kernel)), ⟨by decide +kernel, by decide +kernel⟩, by decide +kernel⟩
theorem in_X9_share : Cond.instanceMethod yX9_share ∈ TT ∧ Cond.selects yX9_share.cls yX9_share yX9_share ∈ TT := ⟨(tt_in (List.mem_of_getElem? (i := 362) (by decide +kernel)) (by decide +kernel)), (tt_in (List.mem_of_getElem? (i := 363) (by decide +kernel)) (by decide +kernel))⟩
theorem cz_X9_share : Cz_ mX9_share := ⟨rfl, rfl⟩
abbrev mX9_put : Mi := (yX9_put, cX9_put, 6, (Option.some Jvm.ClassFile.FieldType.int), { frames := 2, cells := 0, slots := 0, locals := 48 })
theorem mf_X9_put : MF mX9_put 3 := ⟨(tt_in (List.mem_of_getElem? (i := 372) (by decide +kernel)) (by decide +kernel)), (tt_in (List.mem_of_getElem? (i := 63) (by decide +kernel)) (by decide +kernel)), ⟨by decide +kernel, by decide +kernel⟩, by decide +kernel⟩
theorem in_X9_put : Cond.instanceMethod yX9_put ∈ TT ∧ Cond.selects yX9_put.cls yX9_put yX9_put ∈ TT := ⟨(tt_in (List.mem_of_getElem? (i := 370) (by decide +kernel)) (by decide +kernel)), (tt_in (List.mem_of_getElem? (i := 371) (by decide +kernel)) (by decide +kernel))⟩
theorem cz_X9_put : Cz_ mX9_put := ⟨rfl, rfl⟩
abbrev mX9_item : Mi := (yX9_item, cX9_item, 3, (Option.some Jvm.ClassFile.FieldType.long), { frames := 2, cells := 0, slots := 0, locals := 46 })
theorem mf_X9_item : MF mX9_item 2 := ⟨(tt_in (List.mem_of_getElem? (i := 388) (by decide +kernel)) (by decide +kernel)), (tt_in (List.mem_of_getElem? (i := 63) (by decide +kernel)) (by decide +kernel)), ⟨by decide +kernel, by decide +kernel⟩, by decide +kernel⟩
theorem in_X9_item : Cond.instanceMethod yX9_item ∈ TT ∧ Cond.selects yX9_item.cls yX9_item yX9_item ∈ TT := ⟨(tt_in (List.mem_of_getElem? (i := 386) (by decide +kernel)) (by decide +kernel)), (tt_in (List.mem_of_getElem? (i := 387) (by decide +kernel)) (by decide +kernel))⟩
theorem cz_X9_item : Cz_ mX9_item := ⟨rfl, rfl⟩
abbrev mX9_about : Mi := (yX9_about, cX9_about, 3, (Option.some Jvm.ClassFile.FieldType.int), { frames := 1, cells := 0, slots := 0, locals := 22 })
theorem mf_X9_about : MF mX9_about 2 := ⟨(tt_in (List.mem_of_getElem? (i := 396) (by decide +kernel)) (by decide +kernel)), (tt_in (List.mem_of_getElem? (i := 63) (by decide +kernel)) (by decide +kernel)), ⟨by decide +kernel, by decide +kernel⟩, by decide +kernel⟩
theorem in_X9_about : Cond.instanceMethod yX9_about ∈ TT ∧ Cond.selects yX9_about.cls yX9_about yX9_about ∈ TT := ⟨(tt_in (List.mem_of_getElem? (i := 394) (by decide +kernel)) (by decide +kernel)), (tt_in (List.mem_of_getElem? (i := 395) (by decide +kernel)) (by decide +kernel))⟩
theorem cz_X9_about : Cz_ mX9_about := ⟨rfl, rfl⟩
abbrev mX9_thing : Mi := (yX9_thing, cX9_thing, 2, (Option.some Jvm.ClassFile.FieldType.int), { frames := 1, cells := 0, slots := 0, locals := 21 })
theorem mf_X9_thing : MF mX9_thing 1 := ⟨(tt_in (List.mem_of_getElem? (i := 412) (by decide +kernel)) (by decide +kernel)), (tt_in (List.mem_of_getElem? (i := 63) (by decide +kernel)) (by decide +kernel)), ⟨by decide +kernel, by decide +kernel⟩, by decide +kernel⟩
theorem in_X9_thing : Cond.instanceMethod yX9_thing ∈ TT ∧ Cond.selects yX9_thing.cls yX9_thing yX9_thing ∈ TT := ⟨(tt_in (List.mem_of_getElem? (i := 410) (by decide +kernel)) (by decide +kernel)), (tt_in (List.mem_of_getElem? (i := 411) (by decide +kernel)) (by decide +kernel))⟩
theorem cz_X9_thing : Cz_ mX9_thing := ⟨rfl, rfl⟩
abbrev mX9_of : Mi := (yX9_of, cX9_of, 3, (Option.some Jvm.ClassFile.FieldType.int), { frames := 2, cells := 0, slots := 0, locals := 44 })
theorem mf_X9_of : MF mX9_of 2 := ⟨(tt_in (List.mem_of_getElem? (i := 421) (by decide +kernel)) (by decide +kernel)), (tt_in (List.mem_of_getElem? (i := 63) (by decide +kernel)) (by decide +kernel)), ⟨by decide +kernel, by decide +kernel⟩, by decide +kernel⟩
theorem in_X9_of : Cond.instanceMethod yX9_of ∈ TT ∧ Cond.selects yX9_of.cls yX9_of yX9_of ∈ TT := ⟨(tt_in (List.mem_of_getElem? (i := 419) (by decide +kernel)) (by decide +kernel)), (tt_in (List.mem_of_getElem? (i := 420) (by decide +kernel)) (by decide +kernel))⟩
theorem cz_X9_of : Cz_ mX9_of := ⟨rfl, rfl⟩
abbrev mX9_routine : Mi := (yX9_routine, cX9_routine, 2, (Option.some Jvm.ClassFile.FieldType.int), { frames := 3, cells := 8, slots := 3600, locals := 62 })
theorem mf_X9_routine : MF mX9_routine 1 := ⟨(tt_in (List.mem_of_getElem? (i := 443) (by decide +kernel)) (by decide +kernel)), (tt_in (List.mem_of_getElem? (i := 63) (by decide +kernel)) (by decide +kernel)), ⟨by decide +kernel, by decide +kernel⟩, by decide +kernel⟩
theorem in_X9_routine : Cond.instanceMethod yX9_routine ∈ TT ∧ Cond.selects yX9_routine.cls yX9_routine yX9_routine ∈ TT := ⟨(tt_in (List.mem_of_getElem? (i := 441) (by decide +kernel)) (by decide +kernel)), (tt_in (List.mem_of_getElem? (i := 442) (by decide +kernel)) (by decide +kernel))⟩
abbrev mX9_op : Mi := (yX9_op, cX9_op, 6, (Option.some Jvm.ClassFile.FieldType.int), { frames := 2, cells := 0, slots := 0, locals := 43 })
theorem mf_X9_op : MF mX9_op 4 := ⟨(tt_in (List.mem_of_getElem? (i := 501) (by decide +kernel)) (by decide +kernel)), (tt_in (List.mem_of_getElem? (i := 63) (by decide +kernel)) (by decide +kernel)), ⟨by decide +kernel, by decide +kernel⟩, by decide +kernel⟩
theorem in_X9_op : Cond.instanceMethod yX9_op ∈ TT ∧ Cond.selects yX9_op.cls yX9_op yX9_op ∈ TT := ⟨(tt_in (List.mem_of_getElem? (i := 499) (by decide +kernel)) (by decide +kernel)), (tt_in (List.mem_of_getElem? (i := 500) (by decide +kernel)) (by decide +kernel))⟩
theorem cz_X9_op : Cz_ mX9_op := ⟨rfl, rfl⟩
abbrev mX9_guard : Mi := (yX9_guard, cX9_guard, 8, (Option.some Jvm.ClassFile.FieldType.int), { frames := 1, cells := 0, slots := 0, locals := 24 })
theorem mf_X9_guard : MF mX9_guard 5 := ⟨(tt_in (List.mem_of_getElem? (i := 523) (by decide +kernel)) (by decide +kernel)), (tt_in (List.mem_of_getElem? (i := 63) (by decide +kernel)) (by decide +kernel)), ⟨by decide +kernel, by decide +kernel⟩, by decide +kernel⟩
theorem in_X9_guard : Cond.instanceMethod yX9_guard ∈ TT ∧ Cond.selects yX9_guard.cls yX9_guard yX9_guard ∈ TT := ⟨(tt_in (List.mem_of_getElem? (i := 521) (by decide +kernel)) (by decide +kernel)), (tt_in (List.mem_of_getElem? (i := 522) (by decide +kernel)) (by decide +kernel))⟩
theorem cz_X9_guard : Cz_ mX9_guard := ⟨rfl, rfl⟩
abbrev mX9_last : Mi := (yX9_last, cX9_last, 5, (Option.some Jvm.ClassFile.FieldType.int), { frames := 1, cells := 0, slots := 0, locals := 21 })
theorem mf_X9_last : MF mX9_last 2 := ⟨(tt_in (List.mem_of_getElem? (i := 532) (by decide +kernel)) (by decide +kernel)), (tt_in (List.mem_of_getElem? (i := 63) (by decide +kernel)) (by decide +kernel)), ⟨by decide +kernel, by decide +kernel⟩, by decide +kernel⟩
theorem in_X9_last : Cond.instanceMethod yX9_last ∈ TT ∧ Cond.selects yX9_last.cls yX9_last yX9_last ∈ TT := ⟨(tt_in (List.mem_of_getElem? (i := 530) (by decide +kernel)) (by decide +kernel)), (tt_in (List.mem_of_getElem? (i := 531) (by decide +kernel)) (by decide +kernel))⟩
theorem cz_X9_last : Cz_ mX9_last := ⟨rfl, rfl⟩
abbrev mX9_run : Mi := (yX9_run, cX9_run, 7, (Option.some Jvm.ClassFile.FieldType.int), { frames := 7, cells := 0, slots := 0, locals := 176 })
theorem mf_X9_run : MF mX9_run 3 := ⟨(tt_in (List.mem_of_getElem? (i := 536) (by decide +kernel)) (by decide +kernel)), (tt_in (List.mem_of_getElem? (i := 63) (by decide +kernel)) (by decide +kernel)), ⟨by decide +kernel, by decide +kernel⟩, by decide +kernel⟩
theorem in_X9_run : Cond.instanceMethod yX9_run ∈ TT ∧ Cond.selects yX9_run.cls yX9_run yX9_run ∈ TT := ⟨(tt_in (List.mem_of_getElem? (i := 534) (by decide +kernel)) (by decide +kernel)), (tt_in (List.mem_of_getElem? (i := 535) (by decide +kernel)) (by decide +kernel))⟩
theorem cz_X9_run : Cz_ mX9_run := ⟨rfl, rfl⟩
abbrev mX9_result : Mi := (yX9_result, cX9_result, 1, (Option.some Jvm.ClassFile.FieldType.long), { frames := 0, cells := 0, slots := 0, locals := 0 })
theorem mf_X9_result : MF mX9_result 0 := ⟨(tt_in (List.mem_of_getElem? (i := 796) (by decide +kernel)) (by decide +kernel)), (tt_in (List.mem_of_getElem? (i := 63) (by decide +kernel)) (by decide +kernel)), ⟨by decide +kernel, by decide +kernel⟩, by decide +kernel⟩
theorem in_X9_result : Cond.instanceMethod yX9_result ∈ TT ∧ Cond.selects yX9_result.cls yX9_result yX9_result ∈ TT := ⟨(tt_in (List.mem_of_getElem? (i := 794) (by decide +kernel)) (by decide +kernel)), (tt_in (List.mem_of_getElem? (i := 795) (by decide +kernel)) (by decide +kernel))⟩
theorem cz_X9_result : Cz_ mX9_result := ⟨rfl, rfl⟩
abbrev mX9_told : Mi := (yX9_told, cX9_told, 2, (Option.some Jvm.ClassFile.FieldType.int), { frames := 0, cells := 0, slots := 0, locals := 0 })
theorem mf_X9_told : MF mX9_told 1 := ⟨(tt_in (List.mem_of_getElem? (i := 800) (by decide +kernel)) (by decide +kernel)), (tt_in (List.mem_of_getElem? (i := 63) (by decide +kernel)) (by decide +kernel)), ⟨by decide +kernel, by decide +kernel⟩, by decide +kernel⟩
theorem in_X9_told : Cond.instanceMethod yX9_told ∈ TT ∧ Cond.selects yX9_told.cls yX9_told yX9_told ∈ TT := ⟨(tt_in (List.mem_of_getElem? (i := 798) (by decide +kernel)) (by decide +kernel)), (tt_in (List.mem_of_getElem? (i := 799) (by decide +kernel)) (by decide +kernel))⟩
theorem cz_X9_told : Cz_ mX9_told := ⟨rfl, rfl⟩
abbrev mX9_number : Mi := (yX9_number, cX9_number, 1, (Option.some Jvm.ClassFile.FieldType.long), { frames := 0, cells := 0, slots := 0, locals := 0 })
theorem mf_X9_number : MF mX9_number 0 := ⟨(tt_in (List.mem_of_getElem? (i := 804) (by decide +kernel)) (by decide +kernel)), (tt_in (List.mem_of_getElem? (i := 63) (by decide +kernel)) (by decide +kernel)), ⟨by decide +kernel, by decide +kernel⟩, by decide +kernel⟩
theorem in_X9_number : Cond.instanceMethod yX9_number ∈ TT ∧ Cond.selects yX9_number.cls yX9_number yX9_number ∈ TT := ⟨(tt_in (List.mem_of_getElem? (i := 802) (by decide +kernel)) (by decide +kernel)), (tt_in (List.mem_of_getElem? (i := 803) (by decide +kernel)) (by decide +kernel))⟩
theorem cz_X9_number : Cz_ mX9_number := ⟨rfl, rfl⟩
abbrev mX9_output : Mi := (yX9_output, cX9_output, 2, (Option.some Jvm.ClassFile.FieldType.long), { frames := 0, cells := 0, slots := 0, locals := 0 })
theorem mf_X9_output : MF mX9_output 1 := ⟨(tt_in (List.mem_of_getElem? (i := 808) (by decide +kernel)) (by decide +kernel)), (tt_in (List.mem_of_getElem? (i := 63) (by decide +kernel)) (by decide +kernel)), ⟨by decide +kernel, by decide +kernel⟩, by decide +kernel⟩
theorem in_X9_output : Cond.instanceMethod yX9_output ∈ TT ∧ Cond.selects yX9_output.cls yX9_output yX9_output ∈ TT := ⟨(tt_in (List.mem_of_getElem? (i := 806) (by decide +kernel)) (by decide +kernel)), (tt_in (List.mem_of_getElem? (i := 807) (by decide +kernel)) (by decide +kernel))⟩
theorem cz_X9_output : Cz_ mX9_output := ⟨rfl, rfl⟩
abbrev mX9_count : Mi := (yX9_count, cX9_count, 3, (Option.some Jvm.ClassFile.FieldType.int), { frames := 1, cells := 0, slots := 0, locals := 21 })
theorem mf_X9_count : MF mX9_count 2 := ⟨(tt_in (List.mem_of_getElem? (i := 812) (by decide +kernel)) (by decide +kernel)), (tt_in (List.mem_of_getElem? (i := 63) (by decide +kernel)) (by decide +kernel)), ⟨by decide +kernel, by decide +kernel⟩, by decide +kernel⟩
theorem in_X9_count : Cond.instanceMethod yX9_count ∈ TT ∧ Cond.selects yX9_count.cls yX9_count yX9_count ∈ TT := ⟨(tt_in (List.mem_of_getElem? (i := 810) (by decide +kernel)) (by decide +kernel)), (tt_in (List.mem_of_getElem? (i := 811) (by decide +kernel)) (by decide +kernel))⟩
theorem cz_X9_count : Cz_ mX9_count := ⟨rfl, rfl⟩
abbrev mX9_forget : Mi := (yX9_forget, cX9_forget, 1, (Option.some Jvm.ClassFile.FieldType.int), { frames := 1, cells := 0, slots := 0, locals := 21 })
theorem mf_X9_forget : MF mX9_forget 0 := ⟨(tt_in (List.mem_of_getElem? (i := 819) (by decide +kernel)) (by decide +kernel)), (tt_in (List.mem_of_getElem? (i := 63) (by decide +kernel)) (by decide +kernel)), ⟨by decide +kernel, by decide +kernel⟩, by decide +kernel⟩
theorem in_X9_forget : Cond.instanceMethod yX9_forget ∈ TT ∧ Cond.selects yX9_forget.cls yX9_forget yX9_forget ∈ TT := ⟨(tt_in (List.mem_of_getElem? (i := 817) (by decide +kernel)) (by decide +kernel)), (tt_in (List.mem_of_getElem? (i := 818) (by decide +kernel)) (by decide +kernel))⟩
theorem cz_X9_forget : Cz_ mX9_forget := ⟨rfl, rfl⟩
abbrev mX9_countOfRoutine : Mi := (yX9_countOfRoutine, cX9_countOfRoutine, 2, (Option.some Jvm.ClassFile.FieldType.int), { frames := 0, cells := 0, slots := 0, locals := 0 })
theorem mf_X9_countOfRoutine : MF mX9_countOfRoutine 2 := ⟨(tt_in (List.mem_of_getElem? (i := 815) (by decide +kernel)) (by decide +kernel)), (tt_in (List.mem_of_getElem? (i := 63) (by decide +kernel)) (by decide +kernel)), ⟨by decide +kernel, by decide +kernel⟩, by decide +kernel⟩
theorem in_X9_countOfRoutine : Cond.static yX9_countOfRoutine ∈ TT := (tt_in (List.mem_of_getElem? (i := 814) (by decide +kernel)) (by decide +kernel))
theorem cz_X9_countOfRoutine : Cz_ mX9_countOfRoutine := ⟨rfl, rfl⟩
abbrev mX9_isRow : Mi := (yX9_isRow, cX9_isRow, 1, (Option.some Jvm.ClassFile.FieldType.boolean), { frames := 0, cells := 0, slots := 0, locals := 0 })
theorem mf_X9_isRow : MF mX9_isRow 1 := ⟨(tt_in (List.mem_of_getElem? (i := 334) (by decide +kernel)) (by decide +kernel)), (tt_in (List.mem_of_getElem? (i := 63) (by decide +kernel)) (by decide +kernel)), ⟨by decide +kernel, by decide +kernel⟩, by decide +kernel⟩
theorem in_X9_isRow : Cond.static yX9_isRow ∈ TT := (tt_in (List.mem_of_getElem? (i := 333) (by decide +kernel)) (by decide +kernel))
theorem cz_X9_isRow : Cz_ mX9_isRow := ⟨rfl, rfl⟩
abbrev mX9_isLane : Mi := (yX9_isLane, cX9_isLane, 1, (Option.some Jvm.ClassFile.FieldType.boolean), { frames := 0, cells := 0, slots := 0, locals := 0 })
theorem mf_X9_isLane : MF mX9_isLane 1 := ⟨(tt_in (List.mem_of_getElem? (i := 337) (by decide +kernel)) (by decide +kernel)), (tt_in (List.mem_of_getElem? (i := 63) (by decide +kernel)) (by decide +kernel)), ⟨by decide +kernel, by decide +kernel⟩, by decide +kernel⟩
theorem in_X9_isLane : Cond.static yX9_isLane ∈ TT := (tt_in (List.mem_of_getElem? (i := 336) (by decide +kernel)) (by decide +kernel))
theorem cz_X9_isLane : Cz_ mX9_isLane := ⟨rfl, rfl⟩
abbrev mX9_isPlace : Mi := (yX9_isPlace, cX9_isPlace, 1, (Option.some Jvm.ClassFile.FieldType.boolean), { frames := 0, cells := 0, slots := 0, locals := 0 })
theorem mf_X9_isPlace : MF mX9_isPlace 1 := ⟨(tt_in (List.mem_of_getElem? (i := 512) (by decide +kernel)) (by decide +kernel)), (tt_in (List.mem_of_getElem? (i := 63) (by decide +kernel)) (by decide +kernel)), ⟨by decide +kernel, by decide +kernel⟩, by decide +kernel⟩
theorem in_X9_isPlace : Cond.static yX9_isPlace ∈ TT := (tt_in (List.mem_of_getElem? (i := 511) (by decide +kernel)) (by decide +kernel))
theorem cz_X9_isPlace : Cz_ mX9_isPlace := ⟨rfl, rfl⟩
abbrev mX10_init : Mi := (yX10_init, cX10_init, 2, (Option.none : Option Jvm.ClassFile.FieldType), { frames := 1, cells := 39, slots := 17550, locals := 20 })
theorem mf_X10_init : MF mX10_init 0 := ⟨(tt_in (List.mem_of_getElem? (i := 828) (by decide +kernel)) (by decide +kernel)), (tt_in (List.mem_of_getElem? (i := 71) (by decide +kernel)) (by decide +kernel)), ⟨by decide +kernel, by decide +kernel⟩, by decide +kernel⟩
theorem in_X10_init : Cond.instanceMethod yX10_init ∈ TT ∧ yX10_init.name = "<init>" := ⟨(tt_in (List.mem_of_getElem? (i := 827) (by decide +kernel)) (by decide +kernel)), rfl⟩
abbrev mX10_in : Mi := (yX10_in, cX10_in, 6, (Option.some Jvm.ClassFile.FieldType.boolean), { frames := 0, cells := 0, slots := 0, locals := 0 })
theorem mf_X10_in : MF mX10_in 3 := ⟨(tt_in (List.mem_of_getElem? (i := 1032) (by decide +kernel)) (by decide +kernel)), (tt_in (List.mem_of_getElem? (i := 71) (by decide +kernel)) (by decide +kernel)), ⟨by decide +kernel, by decide +kernel⟩, by decide +kernel⟩
theorem in_X10_in : Cond.static yX10_in ∈ TT := (tt_in (List.mem_of_getElem? (i := 1031) (by decide +kernel)) (by decide +kernel))
theorem cz_X10_in : Cz_ mX10_in := ⟨rfl, rfl⟩
abbrev mX10_isRow : Mi := (yX10_isRow, cX10_isRow, 1, (Option.some Jvm.ClassFile.FieldType.boolean), { frames := 1, cells := 0, slots := 0, locals := 25 })
theorem mf_X10_isRow : MF mX10_isRow 1 := ⟨(tt_in (List.mem_of_getElem? (i := 1028) (by decide +kernel)) (by decide +kernel)), (tt_in (List.mem_of_getElem? (i := 71) (by decide +kernel)) (by decide +kernel)), ⟨by decide +kernel, by decide +kernel⟩, by decide +kernel⟩
theorem in_X10_isRow : Cond.static yX10_isRow ∈ TT := (tt_in (List.mem_of_getElem? (i := 1027) (by decide +kernel)) (by decide +kernel))
theorem cz_X10_isRow : Cz_ mX10_isRow := ⟨rfl, rfl⟩
abbrev mX10_isLane : Mi := (yX10_isLane, cX10_isLane, 1, (Option.some Jvm.ClassFile.FieldType.boolean), { frames := 1, cells := 0, slots := 0, locals := 25 })
theorem mf_X10_isLane : MF mX10_isLane 1 := ⟨(tt_in (List.mem_of_getElem? (i := 1035) (by decide +kernel)) (by decide +kernel)), (tt_in (List.mem_of_getElem? (i := 71) (by decide +kernel)) (by decide +kernel)), ⟨by decide +kernel, by decide +kernel⟩, by decide +kernel⟩
theorem in_X10_isLane : Cond.static yX10_isLane ∈ TT := (tt_in (List.mem_of_getElem? (i := 1034) (by decide +kernel)) (by decide +kernel))
theorem cz_X10_isLane : Cz_ mX10_isLane := ⟨rfl, rfl⟩
abbrev mX10_spare : Mi := (yX10_spare, cX10_spare, 6, (Option.some Jvm.ClassFile.FieldType.int), { frames := 0, cells := 0, slots := 0, locals := 0 })
theorem mf_X10_spare : MF mX10_spare 1 := ⟨(tt_in (List.mem_of_getElem? (i := 1045) (by decide +kernel)) (by decide +kernel)), (tt_in (List.mem_of_getElem? (i := 71) (by decide +kernel)) (by decide +kernel)), ⟨by decide +kernel, by decide +kernel⟩, by decide +kernel⟩
theorem in_X10_spare : Cond.instanceMethod yX10_spare ∈ TT ∧ Cond.selects yX10_spare.cls yX10_spare yX10_spare ∈ TT := ⟨(tt_in (List.mem_of_getElem? (i := 1044) (by decide +kernel)) (by decide +kernel)), (tt_in (List.mem_of_getElem? (i := 30) (by decide +kernel)) (by decide +kernel))⟩
theorem cz_X10_spare : Cz_ mX10_spare := ⟨rfl, rfl⟩
abbrev mX10_make : Mi := (yX10_make, cX10_make, 6, (Option.none : Option Jvm.ClassFile.FieldType), { frames := 1, cells := 0, slots := 0, locals := 25 })
theorem mf_X10_make : MF mX10_make 3 := ⟨(tt_in (List.mem_of_getElem? (i := 1041) (by decide +kernel)) (by decide +kernel)), (tt_in (List.mem_of_getElem? (i := 71) (by decide +kernel)) (by decide +kernel)), ⟨by decide +kernel, by decide +kernel⟩, by decide +kernel⟩
theorem in_X10_make : Cond.instanceMethod yX10_make ∈ TT ∧ Cond.selects yX10_make.cls yX10_make yX10_make ∈ TT := ⟨(tt_in (List.mem_of_getElem? (i := 1040) (by decide +kernel)) (by decide +kernel)), (tt_in (List.mem_of_getElem? (i := 29) (by decide +kernel)) (by decide +kernel))⟩
theorem cz_X10_make : Cz_ mX10_make := ⟨rfl, rfl⟩
abbrev mX10_as : Mi := (yX10_as, cX10_as, 3, (Option.some Jvm.ClassFile.FieldType.long), { frames := 0, cells := 0, slots := 0, locals := 0 })
theorem mf_X10_as : MF mX10_as 2 := ⟨(tt_in (List.mem_of_getElem? (i := 1068) (by decide +kernel)) (by decide +kernel)), (tt_in (List.mem_of_getElem? (i := 71) (by decide +kernel)) (by decide +kernel)), ⟨by decide +kernel, by decide +kernel⟩, by decide +kernel⟩
theorem in_X10_as : Cond.static yX10_as ∈ TT := (tt_in (List.mem_of_getElem? (i := 1067) (by decide +kernel)) (by decide +kernel))
theorem cz_X10_as : Cz_ mX10_as := ⟨rfl, rfl⟩
abbrev mX10_asReal : Mi := (yX10_asReal, cX10_asReal, 3, (Option.some Jvm.ClassFile.FieldType.double), { frames := 0, cells := 0, slots := 0, locals := 0 })
theorem mf_X10_asReal : MF mX10_asReal 2 := ⟨(tt_in (List.mem_of_getElem? (i := 1071) (by decide +kernel)) (by decide +kernel)), (tt_in (List.mem_of_getElem? (i := 71) (by decide +kernel)) (by decide +kernel)), ⟨by decide +kernel, by decide +kernel⟩, by decide +kernel⟩
theorem in_X10_asReal : Cond.static yX10_asReal ∈ TT := (tt_in (List.mem_of_getElem? (i := 1070) (by decide +kernel)) (by decide +kernel))
theorem cz_X10_asReal : Cz_ mX10_asReal := ⟨rfl, rfl⟩
abbrev mX10_lay : Mi := (yX10_lay, cX10_lay, 5, (Option.none : Option Jvm.ClassFile.FieldType), { frames := 1, cells := 0, slots := 0, locals := 22 })
theorem mf_X10_lay : MF mX10_lay 3 := ⟨(tt_in (List.mem_of_getElem? (i := 1065) (by decide +kernel)) (by decide +kernel)), (tt_in (List.mem_of_getElem? (i := 71) (by decide +kernel)) (by decide +kernel)), ⟨by decide +kernel, by decide +kernel⟩, by decide +kernel⟩
theorem in_X10_lay : Cond.instanceMethod yX10_lay ∈ TT ∧ Cond.selects yX10_lay.cls yX10_lay yX10_lay ∈ TT := ⟨(tt_in (List.mem_of_getElem? (i := 1064) (by decide +kernel)) (by decide +kernel)), (tt_in (List.mem_of_getElem? (i := 32) (by decide +kernel)) (by decide +kernel))⟩
theorem cz_X10_lay : Cz_ mX10_lay := ⟨rfl, rfl⟩
abbrev mX10_valueAt : Mi := (yX10_valueAt, cX10_valueAt, 3, (Option.some Jvm.ClassFile.FieldType.long), { frames := 0, cells := 0, slots := 0, locals := 0 })
theorem mf_X10_valueAt : MF mX10_valueAt 2 := ⟨(tt_in (List.mem_of_getElem? (i := 1079) (by decide +kernel)) (by decide +kernel)), (tt_in (List.mem_of_getElem? (i := 71) (by decide +kernel)) (by decide +kernel)), ⟨by decide +kernel, by decide +kernel⟩, by decide +kernel⟩
theorem in_X10_valueAt : Cond.instanceMethod yX10_valueAt ∈ TT ∧ Cond.selects yX10_valueAt.cls yX10_valueAt yX10_valueAt ∈ TT := ⟨(tt_in (List.mem_of_getElem? (i := 1078) (by decide +kernel)) (by decide +kernel)), (tt_in (List.mem_of_getElem? (i := 33) (by decide +kernel)) (by decide +kernel))⟩
theorem cz_X10_valueAt : Cz_ mX10_valueAt := ⟨rfl, rfl⟩
abbrev mX10_goesInto : Mi := (yX10_goesInto, cX10_goesInto, 2, (Option.some Jvm.ClassFile.FieldType.boolean), { frames := 0, cells := 0, slots := 0, locals := 0 })
theorem mf_X10_goesInto : MF mX10_goesInto 2 := ⟨(tt_in (List.mem_of_getElem? (i := 1193) (by decide +kernel)) (by decide +kernel)), (tt_in (List.mem_of_getElem? (i := 71) (by decide +kernel)) (by decide +kernel)), ⟨by decide +kernel, by decide +kernel⟩, by decide +kernel⟩
theorem in_X10_goesInto : Cond.static yX10_goesInto ∈ TT := (tt_in (List.mem_of_getElem? (i := 1192) (by decide +kernel)) (by decide +kernel))
theorem cz_X10_goesInto : Cz_ mX10_goesInto := ⟨rfl, rfl⟩
abbrev mX10_against : Mi := (yX10_against, cX10_against, 4, (Option.some Jvm.ClassFile.FieldType.int), { frames := 1, cells := 0, slots := 0, locals := 25 })
theorem mf_X10_against : MF mX10_against 2 := ⟨(tt_in (List.mem_of_getElem? (i := 1061) (by decide +kernel)) (by decide +kernel)), (tt_in (List.mem_of_getElem? (i := 71) (by decide +kernel)) (by decide +kernel)), ⟨by decide +kernel, by decide +kernel⟩, by decide +kernel⟩
theorem in_X10_against : Cond.instanceMethod yX10_against ∈ TT ∧ Cond.selects yX10_against.cls yX10_against yX10_against ∈ TT := ⟨(tt_in (List.mem_of_getElem? (i := 1060) (by decide +kernel)) (by decide +kernel)), (tt_in (List.mem_of_getElem? (i := 31) (by decide +kernel)) (by decide +kernel))⟩
theorem cz_X10_against : Cz_ mX10_against := ⟨rfl, rfl⟩
abbrev mX10_row : Mi := (yX10_row, cX10_row, 4, (Option.some Jvm.ClassFile.FieldType.int), { frames := 2, cells := 0, slots := 0, locals := 50 })
theorem mf_X10_row : MF mX10_row 3 := ⟨(tt_in (List.mem_of_getElem? (i := 1025) (by decide +kernel)) (by decide +kernel)), (tt_in (List.mem_of_getElem? (i := 71) (by decide +kernel)) (by decide +kernel)), ⟨by decide +kernel, by decide +kernel⟩, by decide +kernel⟩
theorem in_X10_row : Cond.instanceMethod yX10_row ∈ TT ∧ Cond.selects yX10_row.cls yX10_row yX10_row ∈ TT := ⟨(tt_in (List.mem_of_getElem? (i := 1023) (by decide +kernel)) (by decide +kernel)), (tt_in (List.mem_of_getElem? (i := 1024) (by decide +kernel)) (by decide +kernel))⟩
theorem cz_X10_row : Cz_ mX10_row := ⟨rfl, rfl⟩
abbrev mX10_miss : Mi := (yX10_miss, cX10_miss, 3, (Option.some Jvm.ClassFile.FieldType.int), { frames := 2, cells := 0, slots := 0, locals := 45 })
theorem mf_X10_miss : MF mX10_miss 1 := ⟨(tt_in (List.mem_of_getElem? (i := 1049) (by decide +kernel)) (by decide +kernel)), (tt_in (List.mem_of_getElem? (i := 71) (by decide +kernel)) (by decide +kernel)), ⟨by decide +kernel, by decide +kernel⟩, by decide +kernel⟩
theorem in_X10_miss : Cond.instanceMethod yX10_miss ∈ TT ∧ Cond.selects yX10_miss.cls yX10_miss yX10_miss ∈ TT := ⟨(tt_in (List.mem_of_getElem? (i := 1047) (by decide +kernel)) (by decide +kernel)), (tt_in (List.mem_of_getElem? (i := 1048) (by decide +kernel)) (by decide +kernel))⟩
theorem cz_X10_miss : Cz_ mX10_miss := ⟨rfl, rfl⟩
abbrev mX10_share : Mi := (yX10_share, cX10_share, 4, (Option.some Jvm.ClassFile.FieldType.int), { frames := 2, cells := 0, slots := 0, locals := 45 })
theorem mf_X10_share : MF mX10_share 2 := ⟨(tt_in (List.mem_of_getElem? (i := 1053) (by decide +kernel)) (by decide +kernel)), (tt_in (List.mem_of_getElem? (i := 71) (by decide +kernel)) (by decide +kernel)), ⟨by decide +kernel, by decide +kernel⟩, by decide +kernel⟩
theorem in_X10_share : Cond.instanceMethod yX10_share ∈ TT ∧ Cond.selects yX10_share.cls yX10_share yX10_share ∈ TT := ⟨(tt_in (List.mem_of_getElem? (i := 1051) (by decide +kernel)) (by decide +kernel)), (tt_in (List.mem_of_getElem? (i := 1052) (by decide +kernel)) (by decide +kernel))⟩
theorem cz_X10_share : Cz_ mX10_share := ⟨rfl, rfl⟩
abbrev mX10_put : Mi := (yX10_put, cX10_put, 6, (Option.some Jvm.ClassFile.FieldType.int), { frames := 2, cells := 0, slots := 0, locals := 48 })
theorem mf_X10_put : MF mX10_put 3 := ⟨(tt_in (List.mem_of_getElem? (i := 1057) (by decide +kernel)) (by decide +kernel)), (tt_in (List.mem_of_getElem? (i := 71) (by decide +kernel)) (by decide +kernel)), ⟨by decide +kernel, by decide +kernel⟩, by decide +kernel⟩
theorem in_X10_put : Cond.instanceMethod yX10_put ∈ TT ∧ Cond.selects yX10_put.cls yX10_put yX10_put ∈ TT := ⟨(tt_in (List.mem_of_getElem? (i := 1055) (by decide +kernel)) (by decide +kernel)), (tt_in (List.mem_of_getElem? (i := 1056) (by decide +kernel)) (by decide +kernel))⟩
theorem cz_X10_put : Cz_ mX10_put := ⟨rfl, rfl⟩
abbrev mX10_item : Mi := (yX10_item, cX10_item, 3, (Option.some Jvm.ClassFile.FieldType.long), { frames := 2, cells := 0, slots := 0, locals := 48 })
theorem mf_X10_item : MF mX10_item 2 := ⟨(tt_in (List.mem_of_getElem? (i := 1075) (by decide +kernel)) (by decide +kernel)), (tt_in (List.mem_of_getElem? (i := 71) (by decide +kernel)) (by decide +kernel)), ⟨by decide +kernel, by decide +kernel⟩, by decide +kernel⟩
theorem in_X10_item : Cond.instanceMethod yX10_item ∈ TT ∧ Cond.selects yX10_item.cls yX10_item yX10_item ∈ TT := ⟨(tt_in (List.mem_of_getElem? (i := 1073) (by decide +kernel)) (by decide +kernel)), (tt_in (List.mem_of_getElem? (i := 1074) (by decide +kernel)) (by decide +kernel))⟩
theorem cz_X10_item : Cz_ mX10_item := ⟨rfl, rfl⟩
abbrev mX10_about : Mi := (yX10_about, cX10_about, 5, (Option.some Jvm.ClassFile.FieldType.int), { frames := 2, cells := 0, slots := 0, locals := 45 })
theorem mf_X10_about : MF mX10_about 2 := ⟨(tt_in (List.mem_of_getElem? (i := 1083) (by decide +kernel)) (by decide +kernel)), (tt_in (List.mem_of_getElem? (i := 71) (by decide +kernel)) (by decide +kernel)), ⟨by decide +kernel, by decide +kernel⟩, by decide +kernel⟩
theorem in_X10_about : Cond.instanceMethod yX10_about ∈ TT ∧ Cond.selects yX10_about.cls yX10_about yX10_about ∈ TT := ⟨(tt_in (List.mem_of_getElem? (i := 1081) (by decide +kernel)) (by decide +kernel)), (tt_in (List.mem_of_getElem? (i := 1082) (by decide +kernel)) (by decide +kernel))⟩
theorem cz_X10_about : Cz_ mX10_about := ⟨rfl, rfl⟩
abbrev mX10_isCrate : Mi := (yX10_isCrate, cX10_isCrate, 1, (Option.some Jvm.ClassFile.FieldType.boolean), { frames := 0, cells := 0, slots := 0, locals := 0 })
theorem mf_X10_isCrate : MF mX10_isCrate 1 := ⟨(tt_in (List.mem_of_getElem? (i := 1228) (by decide +kernel)) (by decide +kernel)), (tt_in (List.mem_of_getElem? (i := 71) (by decide +kernel)) (by decide +kernel)), ⟨by decide +kernel, by decide +kernel⟩, by decide +kernel⟩
theorem in_X10_isCrate : Cond.static yX10_isCrate ∈ TT := (tt_in (List.mem_of_getElem? (i := 1227) (by decide +kernel)) (by decide +kernel))
theorem cz_X10_isCrate : Cz_ mX10_isCrate := ⟨rfl, rfl⟩
abbrev mX10_placesOf : Mi := (yX10_placesOf, cX10_placesOf, 1, (Option.some Jvm.ClassFile.FieldType.int), { frames := 0, cells := 0, slots := 0, locals := 0 })
theorem mf_X10_placesOf : MF mX10_placesOf 1 := ⟨(tt_in (List.mem_of_getElem? (i := 1101) (by decide +kernel)) (by decide +kernel)), (tt_in (List.mem_of_getElem? (i := 71) (by decide +kernel)) (by decide +kernel)), ⟨by decide +kernel, by decide +kernel⟩, by decide +kernel⟩
theorem in_X10_placesOf : Cond.static yX10_placesOf ∈ TT := (tt_in (List.mem_of_getElem? (i := 1100) (by decide +kernel)) (by decide +kernel))
theorem cz_X10_placesOf : Cz_ mX10_placesOf := ⟨rfl, rfl⟩
abbrev mX10_isThing : Mi := (yX10_isThing, cX10_isThing, 3, (Option.some Jvm.ClassFile.FieldType.boolean), { frames := 1, cells := 0, slots := 0, locals := 25 })
theorem mf_X10_isThing : MF mX10_isThing 1 := ⟨(tt_in (List.mem_of_getElem? (i := 1098) (by decide +kernel)) (by decide +kernel)), (tt_in (List.mem_of_getElem? (i := 71) (by decide +kernel)) (by decide +kernel)), ⟨by decide +kernel, by decide +kernel⟩, by decide +kernel⟩
theorem in_X10_isThing : Cond.instanceMethod yX10_isThing ∈ TT ∧ Cond.selects yX10_isThing.cls yX10_isThing yX10_isThing ∈ TT := ⟨(tt_in (List.mem_of_getElem? (i := 1097) (by decide +kernel)) (by decide +kernel)), (tt_in (List.mem_of_getElem? (i := 34) (by decide +kernel)) (by decide +kernel))⟩
theorem cz_X10_isThing : Cz_ mX10_isThing := ⟨rfl, rfl⟩
abbrev mX10_thing : Mi := (yX10_thing, cX10_thing, 3, (Option.some Jvm.ClassFile.FieldType.int), { frames := 1, cells := 0, slots := 0, locals := 25 })
theorem mf_X10_thing : MF mX10_thing 1 := ⟨(tt_in (List.mem_of_getElem? (i := 1088) (by decide +kernel)) (by decide +kernel)), (tt_in (List.mem_of_getElem? (i := 71) (by decide +kernel)) (by decide +kernel)), ⟨by decide +kernel, by decide +kernel⟩, by decide +kernel⟩
theorem in_X10_thing : Cond.instanceMethod yX10_thing ∈ TT ∧ Cond.selects yX10_thing.cls yX10_thing yX10_thing ∈ TT := ⟨(tt_in (List.mem_of_getElem? (i := 1086) (by decide +kernel)) (by decide +kernel)), (tt_in (List.mem_of_getElem? (i := 1087) (by decide +kernel)) (by decide +kernel))⟩
theorem cz_X10_thing : Cz_ mX10_thing := ⟨rfl, rfl⟩
abbrev mX10_of : Mi := (yX10_of, cX10_of, 3, (Option.some Jvm.ClassFile.FieldType.int), { frames := 2, cells := 0, slots := 0, locals := 47 })
theorem mf_X10_of : MF mX10_of 2 := ⟨(tt_in (List.mem_of_getElem? (i := 1094) (by decide +kernel)) (by decide +kernel)), (tt_in (List.mem_of_getElem? (i := 71) (by decide +kernel)) (by decide +kernel)), ⟨by decide +kernel, by decide +kernel⟩, by decide +kernel⟩
theorem in_X10_of : Cond.instanceMethod yX10_of ∈ TT ∧ Cond.selects yX10_of.cls yX10_of yX10_of ∈ TT := ⟨(tt_in (List.mem_of_getElem? (i := 1092) (by decide +kernel)) (by decide +kernel)), (tt_in (List.mem_of_getElem? (i := 1093) (by decide +kernel)) (by decide +kernel))⟩
theorem cz_X10_of : Cz_ mX10_of := ⟨rfl, rfl⟩
abbrev mX10_weigh : Mi := (yX10_weigh, cX10_weigh, 4, (Option.some Jvm.ClassFile.FieldType.int), { frames := 1, cells := 0, slots := 0, locals := 20 })
theorem mf_X10_weigh : MF mX10_weigh 1 := ⟨(tt_in (List.mem_of_getElem? (i := 1225) (by decide +kernel)) (by decide +kernel)), (tt_in (List.mem_of_getElem? (i := 71) (by decide +kernel)) (by decide +kernel)), ⟨by decide +kernel, by decide +kernel⟩, by decide +kernel⟩
theorem in_X10_weigh : Cond.instanceMethod yX10_weigh ∈ TT ∧ Cond.selects yX10_weigh.cls yX10_weigh yX10_weigh ∈ TT := ⟨(tt_in (List.mem_of_getElem? (i := 1224) (by decide +kernel)) (by decide +kernel)), (tt_in (List.mem_of_getElem? (i := 57) (by decide +kernel)) (by decide +kernel))⟩
theorem cz_X10_weigh : Cz_ mX10_weigh := ⟨rfl, rfl⟩
abbrev mX10_take : Mi := (yX10_take, cX10_take, 4, (Option.none : Option Jvm.ClassFile.FieldType), { frames := 1, cells := 0, slots := 0, locals := 20 })
theorem mf_X10_take : MF mX10_take 2 := ⟨(tt_in (List.mem_of_getElem? (i := 1232) (by decide +kernel)) (by decide +kernel)), (tt_in (List.mem_of_getElem? (i := 71) (by decide +kernel)) (by decide +kernel)), ⟨by decide +kernel, by decide +kernel⟩, by decide +kernel⟩
theorem in_X10_take : Cond.instanceMethod yX10_take ∈ TT ∧ Cond.selects yX10_take.cls yX10_take yX10_take ∈ TT := ⟨(tt_in (List.mem_of_getElem? (i := 1231) (by decide +kernel)) (by decide +kernel)), (tt_in (List.mem_of_getElem? (i := 58) (by decide +kernel)) (by decide +kernel))⟩
theorem cz_X10_take : Cz_ mX10_take := ⟨rfl, rfl⟩
abbrev mX10_message : Mi := (yX10_message, cX10_message, 5, (Option.none : Option Jvm.ClassFile.FieldType), { frames := 2, cells := 0, slots := 0, locals := 43 })
theorem mf_X10_message : MF mX10_message 3 := ⟨(tt_in (List.mem_of_getElem? (i := 1221) (by decide +kernel)) (by decide +kernel)), (tt_in (List.mem_of_getElem? (i := 71) (by decide +kernel)) (by decide +kernel)), ⟨by decide +kernel, by decide +kernel⟩, by decide +kernel⟩
theorem in_X10_message : Cond.instanceMethod yX10_message ∈ TT ∧ Cond.selects yX10_message.cls yX10_message yX10_message ∈ TT := ⟨(tt_in (List.mem_of_getElem? (i := 1220) (by decide +kernel)) (by decide +kernel)), (tt_in (List.mem_of_getElem? (i := 56) (by decide +kernel)) (by decide +kernel))⟩
theorem cz_X10_message : Cz_ mX10_message := ⟨rfl, rfl⟩
abbrev mX10_isRoutine : Mi := (yX10_isRoutine, cX10_isRoutine, 2, (Option.some Jvm.ClassFile.FieldType.boolean), { frames := 1, cells := 0, slots := 0, locals := 25 })
theorem mf_X10_isRoutine : MF mX10_isRoutine 1 := ⟨(tt_in (List.mem_of_getElem? (i := 1114) (by decide +kernel)) (by decide +kernel)), (tt_in (List.mem_of_getElem? (i := 71) (by decide +kernel)) (by decide +kernel)), ⟨by decide +kernel, by decide +kernel⟩, by decide +kernel⟩
theorem in_X10_isRoutine : Cond.instanceMethod yX10_isRoutine ∈ TT ∧ Cond.selects yX10_isRoutine.cls yX10_isRoutine yX10_isRoutine ∈ TT := ⟨(tt_in (List.mem_of_getElem? (i := 1113) (by decide +kernel)) (by decide +kernel)), (tt_in (List.mem_of_getElem? (i := 35) (by decide +kernel)) (by decide +kernel))⟩
theorem cz_X10_isRoutine : Cz_ mX10_isRoutine := ⟨rfl, rfl⟩
abbrev mX10_routine : Mi := (yX10_routine, cX10_routine, 2, (Option.some Jvm.ClassFile.FieldType.int), { frames := 1, cells := 0, slots := 0, locals := 25 })
theorem mf_X10_routine : MF mX10_routine 1 := ⟨(tt_in (List.mem_of_getElem? (i := 1105) (by decide +kernel)) (by decide +kernel)), (tt_in (List.mem_of_getElem? (i := 71) (by decide +kernel)) (by decide +kernel)), ⟨by decide +kernel, by decide +kernel⟩, by decide +kernel⟩
theorem in_X10_routine : Cond.instanceMethod yX10_routine ∈ TT ∧ Cond.selects yX10_routine.cls yX10_routine yX10_routine ∈ TT := ⟨(tt_in (List.mem_of_getElem? (i := 1103) (by decide +kernel)) (by decide +kernel)), (tt_in (List.mem_of_getElem? (i := 1104) (by decide +kernel)) (by decide +kernel))⟩
theorem cz_X10_routine : Cz_ mX10_routine := ⟨rfl, rfl⟩
abbrev mX10_isOp : Mi := (yX10_isOp, cX10_isOp, 6, (Option.some Jvm.ClassFile.FieldType.boolean), { frames := 2, cells := 0, slots := 0, locals := 45 })
theorem mf_X10_isOp : MF mX10_isOp 4 := ⟨(tt_in (List.mem_of_getElem? (i := 1118) (by decide +kernel)) (by decide +kernel)), (tt_in (List.mem_of_getElem? (i := 71) (by decide +kernel)) (by decide +kernel)), ⟨by decide +kernel, by decide +kernel⟩, by decide +kernel⟩
theorem in_X10_isOp : Cond.instanceMethod yX10_isOp ∈ TT ∧ Cond.selects yX10_isOp.cls yX10_isOp yX10_isOp ∈ TT := ⟨(tt_in (List.mem_of_getElem? (i := 1117) (by decide +kernel)) (by decide +kernel)), (tt_in (List.mem_of_getElem? (i := 36) (by decide +kernel)) (by decide +kernel))⟩
theorem cz_X10_isOp : Cz_ mX10_isOp := ⟨rfl, rfl⟩
abbrev mX10_op : Mi := (yX10_op, cX10_op, 6, (Option.some Jvm.ClassFile.FieldType.int), { frames := 3, cells := 0, slots := 0, locals := 70 })
theorem mf_X10_op : MF mX10_op 4 := ⟨(tt_in (List.mem_of_getElem? (i := 1110) (by decide +kernel)) (by decide +kernel)), (tt_in (List.mem_of_getElem? (i := 71) (by decide +kernel)) (by decide +kernel)), ⟨by decide +kernel, by decide +kernel⟩, by decide +kernel⟩
theorem in_X10_op : Cond.instanceMethod yX10_op ∈ TT ∧ Cond.selects yX10_op.cls yX10_op yX10_op ∈ TT := ⟨(tt_in (List.mem_of_getElem? (i := 1108) (by decide +kernel)) (by decide +kernel)), (tt_in (List.mem_of_getElem? (i := 1109) (by decide +kernel)) (by decide +kernel))⟩
theorem cz_X10_op : Cz_ mX10_op := ⟨rfl, rfl⟩
abbrev mX10_guard : Mi := (yX10_guard, cX10_guard, 7, (Option.some Jvm.ClassFile.FieldType.int), { frames := 2, cells := 0, slots := 0, locals := 46 })
theorem mf_X10_guard : MF mX10_guard 5 := ⟨(tt_in (List.mem_of_getElem? (i := 1126) (by decide +kernel)) (by decide +kernel)), (tt_in (List.mem_of_getElem? (i := 71) (by decide +kernel)) (by decide +kernel)), ⟨by decide +kernel, by decide +kernel⟩, by decide +kernel⟩
theorem in_X10_guard : Cond.instanceMethod yX10_guard ∈ TT ∧ Cond.selects yX10_guard.cls yX10_guard yX10_guard ∈ TT := ⟨(tt_in (List.mem_of_getElem? (i := 1124) (by decide +kernel)) (by decide +kernel)), (tt_in (List.mem_of_getElem? (i := 1125) (by decide +kernel)) (by decide +kernel))⟩
theorem cz_X10_guard : Cz_ mX10_guard := ⟨rfl, rfl⟩
abbrev mX10_last : Mi := (yX10_last, cX10_last, 4, (Option.some Jvm.ClassFile.FieldType.int), { frames := 2, cells := 0, slots := 0, locals := 46 })
theorem mf_X10_last : MF mX10_last 2 := ⟨(tt_in (List.mem_of_getElem? (i := 1130) (by decide +kernel)) (by decide +kernel)), (tt_in (List.mem_of_getElem? (i := 71) (by decide +kernel)) (by decide +kernel)), ⟨by decide +kernel, by decide +kernel⟩, by decide +kernel⟩
theorem in_X10_last : Cond.instanceMethod yX10_last ∈ TT ∧ Cond.selects yX10_last.cls yX10_last yX10_last ∈ TT := ⟨(tt_in (List.mem_of_getElem? (i := 1128) (by decide +kernel)) (by decide +kernel)), (tt_in (List.mem_of_getElem? (i := 1129) (by decide +kernel)) (by decide +kernel))⟩
theorem cz_X10_last : Cz_ mX10_last := ⟨rfl, rfl⟩
abbrev mX10_enter : Mi := (yX10_enter, cX10_enter, 4, (Option.none : Option Jvm.ClassFile.FieldType), { frames := 0, cells := 0, slots := 0, locals := 0 })
theorem mf_X10_enter : MF mX10_enter 1 := ⟨(tt_in (List.mem_of_getElem? (i := 1139) (by decide +kernel)) (by decide +kernel)), (tt_in (List.mem_of_getElem? (i := 71) (by decide +kernel)) (by decide +kernel)), ⟨by decide +kernel, by decide +kernel⟩, by decide +kernel⟩
theorem in_X10_enter : Cond.instanceMethod yX10_enter ∈ TT ∧ Cond.selects yX10_enter.cls yX10_enter yX10_enter ∈ TT := ⟨(tt_in (List.mem_of_getElem? (i := 1138) (by decide +kernel)) (by decide +kernel)), (tt_in (List.mem_of_getElem? (i := 37) (by decide +kernel)) (by decide +kernel))⟩
theorem cz_X10_enter : Cz_ mX10_enter := ⟨rfl, rfl⟩
abbrev mX10_isPlace : Mi := (yX10_isPlace, cX10_isPlace, 3, (Option.some Jvm.ClassFile.FieldType.boolean), { frames := 1, cells := 0, slots := 0, locals := 25 })
theorem mf_X10_isPlace : MF mX10_isPlace 2 := ⟨(tt_in (List.mem_of_getElem? (i := 1162) (by decide +kernel)) (by decide +kernel)), (tt_in (List.mem_of_getElem? (i := 71) (by decide +kernel)) (by decide +kernel)), ⟨by decide +kernel, by decide +kernel⟩, by decide +kernel⟩
theorem in_X10_isPlace : Cond.instanceMethod yX10_isPlace ∈ TT ∧ Cond.selects yX10_isPlace.cls yX10_isPlace yX10_isPlace ∈ TT := ⟨(tt_in (List.mem_of_getElem? (i := 1161) (by decide +kernel)) (by decide +kernel)), (tt_in (List.mem_of_getElem? (i := 42) (by decide +kernel)) (by decide +kernel))⟩
theorem cz_X10_isPlace : Cz_ mX10_isPlace := ⟨rfl, rfl⟩
abbrev mX10_mayBeginLast : Mi := (yX10_mayBeginLast, cX10_mayBeginLast, 2, (Option.some Jvm.ClassFile.FieldType.boolean), { frames := 2, cells := 0, slots := 0, locals := 47 })
theorem mf_X10_mayBeginLast : MF mX10_mayBeginLast 0 := ⟨(tt_in (List.mem_of_getElem? (i := 1166) (by decide +kernel)) (by decide +kernel)), (tt_in (List.mem_of_getElem? (i := 71) (by decide +kernel)) (by decide +kernel)), ⟨by decide +kernel, by decide +kernel⟩, by decide +kernel⟩
theorem in_X10_mayBeginLast : Cond.instanceMethod yX10_mayBeginLast ∈ TT ∧ Cond.selects yX10_mayBeginLast.cls yX10_mayBeginLast yX10_mayBeginLast ∈ TT := ⟨(tt_in (List.mem_of_getElem? (i := 1165) (by decide +kernel)) (by decide +kernel)), (tt_in (List.mem_of_getElem? (i := 43) (by decide +kernel)) (by decide +kernel))⟩
theorem cz_X10_mayBeginLast : Cz_ mX10_mayBeginLast := ⟨rfl, rfl⟩
abbrev mX10_beginLast : Mi := (yX10_beginLast, cX10_beginLast, 7, (Option.none : Option Jvm.ClassFile.FieldType), { frames := 0, cells := 0, slots := 0, locals := 0 })
theorem mf_X10_beginLast : MF mX10_beginLast 4 := ⟨(tt_in (List.mem_of_getElem? (i := 1170) (by decide +kernel)) (by decide +kernel)), (tt_in (List.mem_of_getElem? (i := 71) (by decide +kernel)) (by decide +kernel)), ⟨by decide +kernel, by decide +kernel⟩, by decide +kernel⟩
theorem in_X10_beginLast : Cond.instanceMethod yX10_beginLast ∈ TT ∧ Cond.selects yX10_beginLast.cls yX10_beginLast yX10_beginLast ∈ TT := ⟨(tt_in (List.mem_of_getElem? (i := 1169) (by decide +kernel)) (by decide +kernel)), (tt_in (List.mem_of_getElem? (i := 44) (by decide +kernel)) (by decide +kernel))⟩
theorem cz_X10_beginLast : Cz_ mX10_beginLast := ⟨rfl, rfl⟩
abbrev mX10_isTaken : Mi := (yX10_isTaken, cX10_isTaken, 6, (Option.some Jvm.ClassFile.FieldType.boolean), { frames := 2, cells := 0, slots := 0, locals := 47 })
theorem mf_X10_isTaken : MF mX10_isTaken 0 := ⟨(tt_in (List.mem_of_getElem? (i := 1158) (by decide +kernel)) (by decide +kernel)), (tt_in (List.mem_of_getElem? (i := 71) (by decide +kernel)) (by decide +kernel)), ⟨by decide +kernel, by decide +kernel⟩, by decide +kernel⟩
theorem in_X10_isTaken : Cond.instanceMethod yX10_isTaken ∈ TT ∧ Cond.selects yX10_isTaken.cls yX10_isTaken yX10_isTaken ∈ TT := ⟨(tt_in (List.mem_of_getElem? (i := 1157) (by decide +kernel)) (by decide +kernel)), (tt_in (List.mem_of_getElem? (i := 41) (by decide +kernel)) (by decide +kernel))⟩
theorem cz_X10_isTaken : Cz_ mX10_isTaken := ⟨rfl, rfl⟩
abbrev mX10_goesUp : Mi := (yX10_goesUp, cX10_goesUp, 2, (Option.none : Option Jvm.ClassFile.FieldType), { frames := 3, cells := 0, slots := 0, locals := 72 })
theorem mf_X10_goesUp : MF mX10_goesUp 0 := ⟨(tt_in (List.mem_of_getElem? (i := 1154) (by decide +kernel)) (by decide +kernel)), (tt_in (List.mem_of_getElem? (i := 71) (by decide +kernel)) (by decide +kernel)), ⟨by decide +kernel, by decide +kernel⟩, by decide +kernel⟩
theorem in_X10_goesUp : Cond.instanceMethod yX10_goesUp ∈ TT ∧ Cond.selects yX10_goesUp.cls yX10_goesUp yX10_goesUp ∈ TT := ⟨(tt_in (List.mem_of_getElem? (i := 1153) (by decide +kernel)) (by decide +kernel)), (tt_in (List.mem_of_getElem? (i := 40) (by decide +kernel)) (by decide +kernel))⟩
theorem cz_X10_goesUp : Cz_ mX10_goesUp := ⟨rfl, rfl⟩
abbrev mX10_comes : Mi := (yX10_comes, cX10_comes, 4, (Option.none : Option Jvm.ClassFile.FieldType), { frames := 4, cells := 0, slots := 0, locals := 93 })
theorem mf_X10_comes : MF mX10_comes 2 := ⟨(tt_in (List.mem_of_getElem? (i := 1150) (by decide +kernel)) (by decide +kernel)), (tt_in (List.mem_of_getElem? (i := 71) (by decide +kernel)) (by decide +kernel)), ⟨by decide +kernel, by decide +kernel⟩, by decide +kernel⟩
theorem in_X10_comes : Cond.instanceMethod yX10_comes ∈ TT ∧ Cond.selects yX10_comes.cls yX10_comes yX10_comes ∈ TT := ⟨(tt_in (List.mem_of_getElem? (i := 1149) (by decide +kernel)) (by decide +kernel)), (tt_in (List.mem_of_getElem? (i := 39) (by decide +kernel)) (by decide +kernel))⟩
theorem cz_X10_comes : Cz_ mX10_comes := ⟨rfl, rfl⟩
abbrev mX10_goesTo : Mi := (yX10_goesTo, cX10_goesTo, 3, (Option.none : Option Jvm.ClassFile.FieldType), { frames := 5, cells := 0, slots := 0, locals := 116 })
theorem mf_X10_goesTo : MF mX10_goesTo 1 := ⟨(tt_in (List.mem_of_getElem? (i := 1182) (by decide +kernel)) (by decide +kernel)), (tt_in (List.mem_of_getElem? (i := 71) (by decide +kernel)) (by decide +kernel)), ⟨by decide +kernel, by decide +kernel⟩, by decide +kernel⟩
theorem in_X10_goesTo : Cond.instanceMethod yX10_goesTo ∈ TT ∧ Cond.selects yX10_goesTo.cls yX10_goesTo yX10_goesTo ∈ TT := ⟨(tt_in (List.mem_of_getElem? (i := 1181) (by decide +kernel)) (by decide +kernel)), (tt_in (List.mem_of_getElem? (i := 47) (by decide +kernel)) (by decide +kernel))⟩
theorem cz_X10_goesTo : Cz_ mX10_goesTo := ⟨rfl, rfl⟩
abbrev mX10_lays : Mi := (yX10_lays, cX10_lays, 4, (Option.none : Option Jvm.ClassFile.FieldType), { frames := 6, cells := 0, slots := 0, locals := 138 })
theorem mf_X10_lays : MF mX10_lays 1 := ⟨(tt_in (List.mem_of_getElem? (i := 1178) (by decide +kernel)) (by decide +kernel)), (tt_in (List.mem_of_getElem? (i := 71) (by decide +kernel)) (by decide +kernel)), ⟨by decide +kernel, by decide +kernel⟩, by decide +kernel⟩
theorem in_X10_lays : Cond.instanceMethod yX10_lays ∈ TT ∧ Cond.selects yX10_lays.cls yX10_lays yX10_lays ∈ TT := ⟨(tt_in (List.mem_of_getElem? (i := 1177) (by decide +kernel)) (by decide +kernel)), (tt_in (List.mem_of_getElem? (i := 46) (by decide +kernel)) (by decide +kernel))⟩
theorem cz_X10_lays : Cz_ mX10_lays := ⟨rfl, rfl⟩
abbrev mX10_goesOn : Mi := (yX10_goesOn, cX10_goesOn, 1, (Option.none : Option Jvm.ClassFile.FieldType), { frames := 6, cells := 0, slots := 0, locals := 138 })
theorem mf_X10_goesOn : MF mX10_goesOn 0 := ⟨(tt_in (List.mem_of_getElem? (i := 1186) (by decide +kernel)) (by decide +kernel)), (tt_in (List.mem_of_getElem? (i := 71) (by decide +kernel)) (by decide +kernel)), ⟨by decide +kernel, by decide +kernel⟩, by decide +kernel⟩
theorem in_X10_goesOn : Cond.instanceMethod yX10_goesOn ∈ TT ∧ Cond.selects yX10_goesOn.cls yX10_goesOn yX10_goesOn ∈ TT := ⟨(tt_in (List.mem_of_getElem? (i := 1185) (by decide +kernel)) (by decide +kernel)), (tt_in (List.mem_of_getElem? (i := 48) (by decide +kernel)) (by decide +kernel))⟩
theorem cz_X10_goesOn : Cz_ mX10_goesOn := ⟨rfl, rfl⟩
abbrev mX10_endsWith : Mi := (yX10_endsWith, cX10_endsWith, 3, (Option.none : Option Jvm.ClassFile.FieldType), { frames := 7, cells := 0, slots := 0, locals := 161 })
theorem mf_X10_endsWith : MF mX10_endsWith 1 := ⟨(tt_in (List.mem_of_getElem? (i := 1209) (by decide +kernel)) (by decide +kernel)), (tt_in (List.mem_of_getElem? (i := 71) (by decide +kernel)) (by decide +kernel)), ⟨by decide +kernel, by decide +kernel⟩, by decide +kernel⟩
theorem in_X10_endsWith : Cond.instanceMethod yX10_endsWith ∈ TT ∧ Cond.selects yX10_endsWith.cls yX10_endsWith yX10_endsWith ∈ TT := ⟨(tt_in (List.mem_of_getElem? (i := 1208) (by decide +kernel)) (by decide +kernel)), (tt_in (List.mem_of_getElem? (i := 53) (by decide +kernel)) (by decide +kernel))⟩
theorem cz_X10_endsWith : Cz_ mX10_endsWith := ⟨rfl, rfl⟩
abbrev mX10_takes : Mi := (yX10_takes, cX10_takes, 3, (Option.some Jvm.ClassFile.FieldType.int), { frames := 0, cells := 0, slots := 0, locals := 0 })
theorem mf_X10_takes : MF mX10_takes 3 := ⟨(tt_in (List.mem_of_getElem? (i := 1146) (by decide +kernel)) (by decide +kernel)), (tt_in (List.mem_of_getElem? (i := 71) (by decide +kernel)) (by decide +kernel)), ⟨by decide +kernel, by decide +kernel⟩, by decide +kernel⟩
theorem in_X10_takes : Cond.static yX10_takes ∈ TT := (tt_in (List.mem_of_getElem? (i := 1145) (by decide +kernel)) (by decide +kernel))
theorem cz_X10_takes : Cz_ mX10_takes := ⟨rfl, rfl⟩
abbrev mX10_step : Mi := (yX10_step, cX10_step, 12, (Option.none : Option Jvm.ClassFile.FieldType), { frames := 10, cells := 0, slots := 0, locals := 232 })
theorem mf_X10_step : MF mX10_step 0 := ⟨(tt_in (List.mem_of_getElem? (i := 1143) (by decide +kernel)) (by decide +kernel)), (tt_in (List.mem_of_getElem? (i := 71) (by decide +kernel)) (by decide +kernel)), ⟨by decide +kernel, by decide +kernel⟩, by decide +kernel⟩
theorem in_X10_step : Cond.instanceMethod yX10_step ∈ TT ∧ Cond.selects yX10_step.cls yX10_step yX10_step ∈ TT := ⟨(tt_in (List.mem_of_getElem? (i := 1142) (by decide +kernel)) (by decide +kernel)), (tt_in (List.mem_of_getElem? (i := 38) (by decide +kernel)) (by decide +kernel))⟩
theorem cz_X10_step : Cz_ mX10_step := ⟨rfl, rfl⟩
abbrev mX10_plain : Mi := (yX10_plain, cX10_plain, 8, (Option.none : Option Jvm.ClassFile.FieldType), { frames := 7, cells := 0, slots := 0, locals := 161 })
theorem mf_X10_plain : MF mX10_plain 4 := ⟨(tt_in (List.mem_of_getElem? (i := 1174) (by decide +kernel)) (by decide +kernel)), (tt_in (List.mem_of_getElem? (i := 71) (by decide +kernel)) (by decide +kernel)), ⟨by decide +kernel, by decide +kernel⟩, by decide +kernel⟩
theorem in_X10_plain : Cond.instanceMethod yX10_plain ∈ TT ∧ Cond.selects yX10_plain.cls yX10_plain yX10_plain ∈ TT := ⟨(tt_in (List.mem_of_getElem? (i := 1173) (by decide +kernel)) (by decide +kernel)), (tt_in (List.mem_of_getElem? (i := 45) (by decide +kernel)) (by decide +kernel))⟩
theorem cz_X10_plain : Cz_ mX10_plain := ⟨rfl, rfl⟩
abbrev mX10_memory : Mi := (yX10_memory, cX10_memory, 10, (Option.none : Option Jvm.ClassFile.FieldType), { frames := 7, cells := 0, slots := 0, locals := 161 })
theorem mf_X10_memory : MF mX10_memory 5 := ⟨(tt_in (List.mem_of_getElem? (i := 1190) (by decide +kernel)) (by decide +kernel)), (tt_in (List.mem_of_getElem? (i := 71) (by decide +kernel)) (by decide +kernel)), ⟨by decide +kernel, by decide +kernel⟩, by decide +kernel⟩
theorem in_X10_memory : Cond.instanceMethod yX10_memory ∈ TT ∧ Cond.selects yX10_memory.cls yX10_memory yX10_memory ∈ TT := ⟨(tt_in (List.mem_of_getElem? (i := 1189) (by decide +kernel)) (by decide +kernel)), (tt_in (List.mem_of_getElem? (i := 49) (by decide +kernel)) (by decide +kernel))⟩
theorem cz_X10_memory : Cz_ mX10_memory := ⟨rfl, rfl⟩
abbrev mX10_asked : Mi := (yX10_asked, cX10_asked, 4, (Option.some Jvm.ClassFile.FieldType.long), { frames := 1, cells := 0, slots := 0, locals := 22 })
theorem mf_X10_asked : MF mX10_asked 3 := ⟨(tt_in (List.mem_of_getElem? (i := 1197) (by decide +kernel)) (by decide +kernel)), (tt_in (List.mem_of_getElem? (i := 71) (by decide +kernel)) (by decide +kernel)), ⟨by decide +kernel, by decide +kernel⟩, by decide +kernel⟩
theorem in_X10_asked : Cond.instanceMethod yX10_asked ∈ TT ∧ Cond.selects yX10_asked.cls yX10_asked yX10_asked ∈ TT := ⟨(tt_in (List.mem_of_getElem? (i := 1196) (by decide +kernel)) (by decide +kernel)), (tt_in (List.mem_of_getElem? (i := 50) (by decide +kernel)) (by decide +kernel))⟩
theorem cz_X10_asked : Cz_ mX10_asked := ⟨rfl, rfl⟩
abbrev mX10_isPut : Mi := (yX10_isPut, cX10_isPut, 6, (Option.none : Option Jvm.ClassFile.FieldType), { frames := 2, cells := 0, slots := 0, locals := 46 })
theorem mf_X10_isPut : MF mX10_isPut 4 := ⟨(tt_in (List.mem_of_getElem? (i := 1201) (by decide +kernel)) (by decide +kernel)), (tt_in (List.mem_of_getElem? (i := 71) (by decide +kernel)) (by decide +kernel)), ⟨by decide +kernel, by decide +kernel⟩, by decide +kernel⟩
theorem in_X10_isPut : Cond.instanceMethod yX10_isPut ∈ TT ∧ Cond.selects yX10_isPut.cls yX10_isPut yX10_isPut ∈ TT := ⟨(tt_in (List.mem_of_getElem? (i := 1200) (by decide +kernel)) (by decide +kernel)), (tt_in (List.mem_of_getElem? (i := 51) (by decide +kernel)) (by decide +kernel))⟩
theorem cz_X10_isPut : Cz_ mX10_isPut := ⟨rfl, rfl⟩
abbrev mX10_ways : Mi := (yX10_ways, cX10_ways, 9, (Option.none : Option Jvm.ClassFile.FieldType), { frames := 9, cells := 0, slots := 0, locals := 204 })
theorem mf_X10_ways : MF mX10_ways 4 := ⟨(tt_in (List.mem_of_getElem? (i := 1205) (by decide +kernel)) (by decide +kernel)), (tt_in (List.mem_of_getElem? (i := 71) (by decide +kernel)) (by decide +kernel)), ⟨by decide +kernel, by decide +kernel⟩, by decide +kernel⟩
theorem in_X10_ways : Cond.instanceMethod yX10_ways ∈ TT ∧ Cond.selects yX10_ways.cls yX10_ways yX10_ways ∈ TT := ⟨(tt_in (List.mem_of_getElem? (i := 1204) (by decide +kernel)) (by decide +kernel)), (tt_in (List.mem_of_getElem? (i := 52) (by decide +kernel)) (by decide +kernel))⟩
theorem cz_X10_ways : Cz_ mX10_ways := ⟨rfl, rfl⟩
abbrev mX10_leave : Mi := (yX10_leave, cX10_leave, 2, (Option.none : Option Jvm.ClassFile.FieldType), { frames := 8, cells := 0, slots := 0, locals := 183 })
theorem mf_X10_leave : MF mX10_leave 0 := ⟨(tt_in (List.mem_of_getElem? (i := 1213) (by decide +kernel)) (by decide +kernel)), (tt_in (List.mem_of_getElem? (i := 71) (by decide +kernel)) (by decide +kernel)), ⟨by decide +kernel, by decide +kernel⟩, by decide +kernel⟩
theorem in_X10_leave : Cond.instanceMethod yX10_leave ∈ TT ∧ Cond.selects yX10_leave.cls yX10_leave yX10_leave ∈ TT := ⟨(tt_in (List.mem_of_getElem? (i := 1212) (by decide +kernel)) (by decide +kernel)), (tt_in (List.mem_of_getElem? (i := 54) (by decide +kernel)) (by decide +kernel))⟩
theorem cz_X10_leave : Cz_ mX10_leave := ⟨rfl, rfl⟩
abbrev mX10_world : Mi := (yX10_world, cX10_world, 10, (Option.none : Option Jvm.ClassFile.FieldType), { frames := 8, cells := 0, slots := 0, locals := 188 })
theorem mf_X10_world : MF mX10_world 5 := ⟨(tt_in (List.mem_of_getElem? (i := 1217) (by decide +kernel)) (by decide +kernel)), (tt_in (List.mem_of_getElem? (i := 71) (by decide +kernel)) (by decide +kernel)), ⟨by decide +kernel, by decide +kernel⟩, by decide +kernel⟩
theorem in_X10_world : Cond.instanceMethod yX10_world ∈ TT ∧ Cond.selects yX10_world.cls yX10_world yX10_world ∈ TT := ⟨(tt_in (List.mem_of_getElem? (i := 1216) (by decide +kernel)) (by decide +kernel)), (tt_in (List.mem_of_getElem? (i := 55) (by decide +kernel)) (by decide +kernel))⟩
theorem cz_X10_world : Cz_ mX10_world := ⟨rfl, rfl⟩
abbrev mX10_stand : Mi := (yX10_stand, cX10_stand, 11, (Option.none : Option Jvm.ClassFile.FieldType), { frames := 7, cells := 0, slots := 0, locals := 158 })
theorem mf_X10_stand : MF mX10_stand 3 := ⟨(tt_in (List.mem_of_getElem? (i := 1237) (by decide +kernel)) (by decide +kernel)), (tt_in (List.mem_of_getElem? (i := 71) (by decide +kernel)) (by decide +kernel)), ⟨by decide +kernel, by decide +kernel⟩, by decide +kernel⟩
theorem in_X10_stand : Cond.instanceMethod yX10_stand ∈ TT ∧ Cond.selects yX10_stand.cls yX10_stand yX10_stand ∈ TT := ⟨(tt_in (List.mem_of_getElem? (i := 1236) (by decide +kernel)) (by decide +kernel)), (tt_in (List.mem_of_getElem? (i := 59) (by decide +kernel)) (by decide +kernel))⟩
theorem cz_X10_stand : Cz_ mX10_stand := ⟨rfl, rfl⟩
abbrev mX10_keep : Mi := (yX10_keep, cX10_keep, 4, (Option.none : Option Jvm.ClassFile.FieldType), { frames := 0, cells := 0, slots := 0, locals := 0 })
theorem mf_X10_keep : MF mX10_keep 0 := ⟨(tt_in (List.mem_of_getElem? (i := 1241) (by decide +kernel)) (by decide +kernel)), (tt_in (List.mem_of_getElem? (i := 71) (by decide +kernel)) (by decide +kernel)), ⟨by decide +kernel, by decide +kernel⟩, by decide +kernel⟩
theorem in_X10_keep : Cond.instanceMethod yX10_keep ∈ TT ∧ Cond.selects yX10_keep.cls yX10_keep yX10_keep ∈ TT := ⟨(tt_in (List.mem_of_getElem? (i := 1240) (by decide +kernel)) (by decide +kernel)), (tt_in (List.mem_of_getElem? (i := 60) (by decide +kernel)) (by decide +kernel))⟩
theorem cz_X10_keep : Cz_ mX10_keep := ⟨rfl, rfl⟩
abbrev mX10_bringBack : Mi := (yX10_bringBack, cX10_bringBack, 4, (Option.none : Option Jvm.ClassFile.FieldType), { frames := 0, cells := 0, slots := 0, locals := 0 })
theorem mf_X10_bringBack : MF mX10_bringBack 0 := ⟨(tt_in (List.mem_of_getElem? (i := 1245) (by decide +kernel)) (by decide +kernel)), (tt_in (List.mem_of_getElem? (i := 71) (by decide +kernel)) (by decide +kernel)), ⟨by decide +kernel, by decide +kernel⟩, by decide +kernel⟩
theorem in_X10_bringBack : Cond.instanceMethod yX10_bringBack ∈ TT ∧ Cond.selects yX10_bringBack.cls yX10_bringBack yX10_bringBack ∈ TT := ⟨(tt_in (List.mem_of_getElem? (i := 1244) (by decide +kernel)) (by decide +kernel)), (tt_in (List.mem_of_getElem? (i := 61) (by decide +kernel)) (by decide +kernel))⟩
theorem cz_X10_bringBack : Cz_ mX10_bringBack := ⟨rfl, rfl⟩
abbrev mX10_run : Mi := (yX10_run, cX10_run, 6, (Option.some Jvm.ClassFile.FieldType.int), { frames := 11, cells := 0, slots := 0, locals := 263 })
theorem mf_X10_run : MF mX10_run 3 := ⟨(tt_in (List.mem_of_getElem? (i := 1135) (by decide +kernel)) (by decide +kernel)), (tt_in (List.mem_of_getElem? (i := 71) (by decide +kernel)) (by decide +kernel)), ⟨by decide +kernel, by decide +kernel⟩, by decide +kernel⟩
theorem in_X10_run : Cond.instanceMethod yX10_run ∈ TT ∧ Cond.selects yX10_run.cls yX10_run yX10_run ∈ TT := ⟨(tt_in (List.mem_of_getElem? (i := 1133) (by decide +kernel)) (by decide +kernel)), (tt_in (List.mem_of_getElem? (i := 1134) (by decide +kernel)) (by decide +kernel))⟩
theorem cz_X10_run : Cz_ mX10_run := ⟨rfl, rfl⟩
abbrev mX10_result : Mi := (yX10_result, cX10_result, 1, (Option.some Jvm.ClassFile.FieldType.long), { frames := 0, cells := 0, slots := 0, locals := 0 })
theorem mf_X10_result : MF mX10_result 0 := ⟨(tt_in (List.mem_of_getElem? (i := 1249) (by decide +kernel)) (by decide +kernel)), (tt_in (List.mem_of_getElem? (i := 71) (by decide +kernel)) (by decide +kernel)), ⟨by decide +kernel, by decide +kernel⟩, by decide +kernel⟩
theorem in_X10_result : Cond.instanceMethod yX10_result ∈ TT ∧ Cond.selects yX10_result.cls yX10_result yX10_result ∈ TT := ⟨(tt_in (List.mem_of_getElem? (i := 1247) (by decide +kernel)) (by decide +kernel)), (tt_in (List.mem_of_getElem? (i := 1248) (by decide +kernel)) (by decide +kernel))⟩
theorem cz_X10_result : Cz_ mX10_result := ⟨rfl, rfl⟩
abbrev mX10_told : Mi := (yX10_told, cX10_told, 2, (Option.some Jvm.ClassFile.FieldType.int), { frames := 0, cells := 0, slots := 0, locals := 0 })
theorem mf_X10_told : MF mX10_told 1 := ⟨(tt_in (List.mem_of_getElem? (i := 1253) (by decide +kernel)) (by decide +kernel)), (tt_in (List.mem_of_getElem? (i := 71) (by decide +kernel)) (by decide +kernel)), ⟨by decide +kernel, by decide +kernel⟩, by decide +kernel⟩
theorem in_X10_told : Cond.instanceMethod yX10_told ∈ TT ∧ Cond.selects yX10_told.cls yX10_told yX10_told ∈ TT := ⟨(tt_in (List.mem_of_getElem? (i := 1251) (by decide +kernel)) (by decide +kernel)), (tt_in (List.mem_of_getElem? (i := 1252) (by decide +kernel)) (by decide +kernel))⟩
theorem cz_X10_told : Cz_ mX10_told := ⟨rfl, rfl⟩
abbrev mX10_number : Mi := (yX10_number, cX10_number, 1, (Option.some Jvm.ClassFile.FieldType.long), { frames := 0, cells := 0, slots := 0, locals := 0 })
theorem mf_X10_number : MF mX10_number 0 := ⟨(tt_in (List.mem_of_getElem? (i := 1257) (by decide +kernel)) (by decide +kernel)), (tt_in (List.mem_of_getElem? (i := 71) (by decide +kernel)) (by decide +kernel)), ⟨by decide +kernel, by decide +kernel⟩, by decide +kernel⟩
theorem in_X10_number : Cond.instanceMethod yX10_number ∈ TT ∧ Cond.selects yX10_number.cls yX10_number yX10_number ∈ TT := ⟨(tt_in (List.mem_of_getElem? (i := 1255) (by decide +kernel)) (by decide +kernel)), (tt_in (List.mem_of_getElem? (i := 1256) (by decide +kernel)) (by decide +kernel))⟩
theorem cz_X10_number : Cz_ mX10_number := ⟨rfl, rfl⟩
abbrev mX10_output : Mi := (yX10_output, cX10_output, 2, (Option.some Jvm.ClassFile.FieldType.long), { frames := 1, cells := 0, slots := 0, locals := 25 })
theorem mf_X10_output : MF mX10_output 1 := ⟨(tt_in (List.mem_of_getElem? (i := 1261) (by decide +kernel)) (by decide +kernel)), (tt_in (List.mem_of_getElem? (i := 71) (by decide +kernel)) (by decide +kernel)), ⟨by decide +kernel, by decide +kernel⟩, by decide +kernel⟩
theorem in_X10_output : Cond.instanceMethod yX10_output ∈ TT ∧ Cond.selects yX10_output.cls yX10_output yX10_output ∈ TT := ⟨(tt_in (List.mem_of_getElem? (i := 1259) (by decide +kernel)) (by decide +kernel)), (tt_in (List.mem_of_getElem? (i := 1260) (by decide +kernel)) (by decide +kernel))⟩
theorem cz_X10_output : Cz_ mX10_output := ⟨rfl, rfl⟩
abbrev mX10_count : Mi := (yX10_count, cX10_count, 3, (Option.some Jvm.ClassFile.FieldType.int), { frames := 2, cells := 0, slots := 0, locals := 46 })
theorem mf_X10_count : MF mX10_count 2 := ⟨(tt_in (List.mem_of_getElem? (i := 1265) (by decide +kernel)) (by decide +kernel)), (tt_in (List.mem_of_getElem? (i := 71) (by decide +kernel)) (by decide +kernel)), ⟨by decide +kernel, by decide +kernel⟩, by decide +kernel⟩
theorem in_X10_count : Cond.instanceMethod yX10_count ∈ TT ∧ Cond.selects yX10_count.cls yX10_count yX10_count ∈ TT := ⟨(tt_in (List.mem_of_getElem? (i := 1263) (by decide +kernel)) (by decide +kernel)), (tt_in (List.mem_of_getElem? (i := 1264) (by decide +kernel)) (by decide +kernel))⟩
theorem cz_X10_count : Cz_ mX10_count := ⟨rfl, rfl⟩
abbrev mX10_forget : Mi := (yX10_forget, cX10_forget, 2, (Option.some Jvm.ClassFile.FieldType.int), { frames := 0, cells := 0, slots := 0, locals := 0 })
theorem mf_X10_forget : MF mX10_forget 0 := ⟨(tt_in (List.mem_of_getElem? (i := 1269) (by decide +kernel)) (by decide +kernel)), (tt_in (List.mem_of_getElem? (i := 71) (by decide +kernel)) (by decide +kernel)), ⟨by decide +kernel, by decide +kernel⟩, by decide +kernel⟩
theorem in_X10_forget : Cond.instanceMethod yX10_forget ∈ TT ∧ Cond.selects yX10_forget.cls yX10_forget yX10_forget ∈ TT := ⟨(tt_in (List.mem_of_getElem? (i := 1267) (by decide +kernel)) (by decide +kernel)), (tt_in (List.mem_of_getElem? (i := 1268) (by decide +kernel)) (by decide +kernel))⟩
theorem cz_X10_forget : Cz_ mX10_forget := ⟨rfl, rfl⟩
abbrev mJ9_max_7cf53 : Mi := (yJ9_max_7cf53, cJ9_max_7cf53, 2, (Option.some Jvm.ClassFile.FieldType.int), { frames := 0, cells := 0, slots := 0, locals := 0 })
theorem mf_J9_max_7cf53 : MF mJ9_max_7cf53 2 := ⟨(tt_in (List.mem_of_getElem? (i := 558) (by decide +kernel)) (by decide +kernel)), (tt_in (List.mem_of_getElem? (i := 74) (by decide +kernel)) (by decide +kernel)), ⟨by decide +kernel, by decide +kernel⟩, by decide +kernel⟩
theorem in_J9_max_7cf53 : Cond.static yJ9_max_7cf53 ∈ TT := (tt_in (List.mem_of_getElem? (i := 557) (by decide +kernel)) (by decide +kernel))
theorem cz_J9_max_7cf53 : Cz_ mJ9_max_7cf53 := ⟨rfl, rfl⟩
abbrev mJ7_fill_d0a16 : Mi := (yJ7_fill_d0a16, cJ7_fill_d0a16, 5, (Option.none : Option Jvm.ClassFile.FieldType), { frames := 0, cells := 0, slots := 0, locals := 0 })
theorem mf_J7_fill_d0a16 : MF mJ7_fill_d0a16 2 := ⟨(tt_in (List.mem_of_getElem? (i := 555) (by decide +kernel)) (by decide +kernel)), (tt_in (List.mem_of_getElem? (i := 66) (by decide +kernel)) (by decide +kernel)), ⟨by decide +kernel, by decide +kernel⟩, by decide +kernel⟩
theorem in_J7_fill_d0a16 : Cond.static yJ7_fill_d0a16 ∈ TT := (tt_in (List.mem_of_getElem? (i := 554) (by decide +kernel)) (by decide +kernel))
theorem cz_J7_fill_d0a16 : Cz_ mJ7_fill_d0a16 := ⟨rfl, rfl⟩
abbrev mJ7_fill_53178 : Mi := (yJ7_fill_53178, cJ7_fill_53178, 4, (Option.none : Option Jvm.ClassFile.FieldType), { frames := 0, cells := 0, slots := 0, locals := 0 })
theorem mf_J7_fill_53178 : MF mJ7_fill_53178 2 := ⟨(tt_in (List.mem_of_getElem? (i := 99) (by decide +kernel)) (by decide +kernel)), (tt_in (List.mem_of_getElem? (i := 66) (by decide +kernel)) (by decide +kernel)), ⟨by decide +kernel, by decide +kernel⟩, by decide +kernel⟩
theorem in_J7_fill_53178 : Cond.static yJ7_fill_53178 ∈ TT := (tt_in (List.mem_of_getElem? (i := 98) (by decide +kernel)) (by decide +kernel))
theorem cz_J7_fill_53178 : Cz_ mJ7_fill_53178 := ⟨rfl, rfl⟩
theorem oi_X9_1 : Cond.methodLink RX9 1 objectInit ∈ TO_ ∧ Cond.instanceMethod objectInit ∈ TO_ ∧ Cond.code objectInit ⟨#[0xb1]⟩ 1 none ∈ TO_ := ⟨(TO_in (List.mem_of_getElem? (i := 82) (by decide +kernel)) (by decide +kernel)), (TO_in (List.mem_of_getElem? (i := 83) (by decide +kernel)) (by decide +kernel)), (TO_in (List.mem_of_getElem? (i := 84) (by decide +kernel)) (by decide +kernel))⟩
theorem lk_X9_9 : Lk_ RX9 9 yX4_init := Or.inl (TO_in (List.mem_of_getElem? (i := 87) (by decide +kernel)) (by decide +kernel))
theorem oi_X4_3 : Cond.methodLink RX4 3 objectInit ∈ TO_ ∧ Cond.instanceMethod objectInit ∈ TO_ ∧ Cond.code objectInit ⟨#[0xb1]⟩ 1 none ∈ TO_ := ⟨(TO_in (List.mem_of_getElem? (i := 90) (by decide +kernel)) (by decide +kernel)), (TO_in (List.mem_of_getElem? (i := 83) (by decide +kernel)) (by decide +kernel)), (TO_in (List.mem_of_getElem? (i := 84) (by decide +kernel)) (by decide +kernel))⟩
theorem lk_X4_11 : Lk_ RX4 11 yX5_init := Or.inl (TO_in (List.mem_of_getElem? (i := 93) (by decide +kernel)) (by decide +kernel))
theorem oi_X5_3 : Cond.methodLink RX5 3 objectInit ∈ TO_ ∧ Cond.instanceMethod objectInit ∈ TO_ ∧ Cond.code objectInit ⟨#[0xb1]⟩ 1 none ∈ TO_ := ⟨(TO_in (List.mem_of_getElem? (i := 96) (by decide +kernel)) (by decide +kernel)), (TO_in (List.mem_of_getElem? (i := 83) (by decide +kernel)) (by decide +kernel)), (TO_in (List.mem_of_getElem? (i := 84) (by decide +kernel)) (by decide +kernel))⟩
theorem lk_X5_28 : Lk_ RX5 28 yJ7_fill_53178 := Or.inl (TO_in (List.mem_of_getElem? (i := 97) (by decide +kernel)) (by decide +kernel))
theorem lk_X4_20 : Lk_ RX4 20 yX8_init := Or.inl (TO_in (List.mem_of_getElem? (i := 120) (by decide +kernel)) (by decide +kernel))
theorem oi_X8_3 : Cond.methodLink RX8 3 objectInit ∈ TO_ ∧ Cond.instanceMethod objectInit ∈ TO_ ∧ Cond.code objectInit ⟨#[0xb1]⟩ 1 none ∈ TO_ := ⟨(TO_in (List.mem_of_getElem? (i := 123) (by decide +kernel)) (by decide +kernel)), (TO_in (List.mem_of_getElem? (i := 83) (by decide +kernel)) (by decide +kernel)), (TO_in (List.mem_of_getElem? (i := 84) (by decide +kernel)) (by decide +kernel))⟩
theorem lk_X8_27 : Lk_ RX8 27 yJ7_fill_53178 := Or.inl (TO_in (List.mem_of_getElem? (i := 124) (by decide +kernel)) (by decide +kernel))
theorem lk_X4_27 : Lk_ RX4 27 yX2_init := Or.inl (TO_in (List.mem_of_getElem? (i := 152) (by decide +kernel)) (by decide +kernel))
theorem oi_X2_3 : Cond.methodLink RX2 3 objectInit ∈ TO_ ∧ Cond.instanceMethod objectInit ∈ TO_ ∧ Cond.code objectInit ⟨#[0xb1]⟩ 1 none ∈ TO_ := ⟨(TO_in (List.mem_of_getElem? (i := 155) (by decide +kernel)) (by decide +kernel)), (TO_in (List.mem_of_getElem? (i := 83) (by decide +kernel)) (by decide +kernel)), (TO_in (List.mem_of_getElem? (i := 84) (by decide +kernel)) (by decide +kernel))⟩
theorem lk_X2_23 : Lk_ RX2 23 yX5_init := Or.inl (TO_in (List.mem_of_getElem? (i := 160) (by decide +kernel)) (by decide +kernel))
theorem lk_X2_24 : Lk_ RX2 24 yX8_init := Or.inl (TO_in (List.mem_of_getElem? (i := 161) (by decide +kernel)) (by decide +kernel))
theorem lk_X4_50 : Lk_ RX4 50 yX0_init := Or.inr (TO_in (List.mem_of_getElem? (i := 180) (by decide +kernel)) (by decide +kernel))
theorem oi_X0_3 : Cond.methodLink RX0 3 objectInit ∈ TO_ ∧ Cond.instanceMethod objectInit ∈ TO_ ∧ Cond.code objectInit ⟨#[0xb1]⟩ 1 none ∈ TO_ := ⟨(TO_in (List.mem_of_getElem? (i := 183) (by decide +kernel)) (by decide +kernel)), (TO_in (List.mem_of_getElem? (i := 83) (by decide +kernel)) (by decide +kernel)), (TO_in (List.mem_of_getElem? (i := 84) (by decide +kernel)) (by decide +kernel))⟩
theorem lk_X4_55 : Lk_ RX4 55 yX1_init := Or.inr (TO_in (List.mem_of_getElem? (i := 204) (by decide +kernel)) (by decide +kernel))
theorem oi_X1_3 : Cond.methodLink RX1 3 objectInit ∈ TO_ ∧ Cond.instanceMethod objectInit ∈ TO_ ∧ Cond.code objectInit ⟨#[0xb1]⟩ 1 none ∈ TO_ := ⟨(TO_in (List.mem_of_getElem? (i := 207) (by decide +kernel)) (by decide +kernel)), (TO_in (List.mem_of_getElem? (i := 83) (by decide +kernel)) (by decide +kernel)), (TO_in (List.mem_of_getElem? (i := 84) (by decide +kernel)) (by decide +kernel))⟩
theorem lk_X1_20 : Lk_ RX1 20 yX0_init := Or.inr (TO_in (List.mem_of_getElem? (i := 209) (by decide +kernel)) (by decide +kernel))
theorem lk_X9_16 : Lk_ RX9 16 yX9_isRow := Or.inl (TO_in (List.mem_of_getElem? (i := 332) (by decide +kernel)) (by decide +kernel))
theorem lk_X9_20 : Lk_ RX9 20 yX9_isLane := Or.inl (TO_in (List.mem_of_getElem? (i := 335) (by decide +kernel)) (by decide +kernel))
theorem lk_X9_28 : Lk_ RX9 28 yX5_renew := Or.inl (TO_in (List.mem_of_getElem? (i := 339) (by decide +kernel)) (by decide +kernel))
theorem lk_X5_36 : Lk_ RX5 36 yX5_drop := Or.inl (TO_in (List.mem_of_getElem? (i := 344) (by decide +kernel)) (by decide +kernel))
theorem lk_X5_40 : Lk_ RX5 40 yX5_freeBody := Or.inl (TO_in (List.mem_of_getElem? (i := 348) (by decide +kernel)) (by decide +kernel))
theorem lk_X5_44 : Lk_ RX5 44 yX5_attach := Or.inl (TO_in (List.mem_of_getElem? (i := 352) (by decide +kernel)) (by decide +kernel))
theorem lk_X9_34 : Lk_ RX9 34 yX5_drop := Or.inl (TO_in (List.mem_of_getElem? (i := 360) (by decide +kernel)) (by decide +kernel))
theorem lk_X9_37 : Lk_ RX9 37 yX5_join := Or.inl (TO_in (List.mem_of_getElem? (i := 365) (by decide +kernel)) (by decide +kernel))
theorem lk_X9_41 : Lk_ RX9 41 yX5_reach := Or.inl (TO_in (List.mem_of_getElem? (i := 373) (by decide +kernel)) (by decide +kernel))
theorem lk_X9_45 : Lk_ RX9 45 yX5_store := Or.inl (TO_in (List.mem_of_getElem? (i := 377) (by decide +kernel)) (by decide +kernel))
theorem lk_X5_48 : Lk_ RX5 48 yX5_reach := Or.inl (TO_in (List.mem_of_getElem? (i := 381) (by decide +kernel)) (by decide +kernel))
theorem lk_X5_62 : Lk_ RX5 62 yX3_through := Or.inl (TO_in (List.mem_of_getElem? (i := 382) (by decide +kernel)) (by decide +kernel))
theorem lk_X9_49 : Lk_ RX9 49 yX5_valueAt := Or.inl (TO_in (List.mem_of_getElem? (i := 389) (by decide +kernel)) (by decide +kernel))
theorem lk_X9_53 : Lk_ RX9 53 yX5_sizeOf := Or.inl (TO_in (List.mem_of_getElem? (i := 397) (by decide +kernel)) (by decide +kernel))
theorem lk_X9_57 : Lk_ RX9 57 yX5_laneOf := Or.inl (TO_in (List.mem_of_getElem? (i := 401) (by decide +kernel)) (by decide +kernel))
theorem lk_X9_60 : Lk_ RX9 60 yX5_leastSame := Or.inl (TO_in (List.mem_of_getElem? (i := 405) (by decide +kernel)) (by decide +kernel))
theorem lk_X9_67 : Lk_ RX9 67 yX8_bring := Or.inl (TO_in (List.mem_of_getElem? (i := 413) (by decide +kernel)) (by decide +kernel))
theorem lk_X9_72 : Lk_ RX9 72 yX8_exists := Or.inl (TO_in (List.mem_of_getElem? (i := 422) (by decide +kernel)) (by decide +kernel))
theorem lk_X9_76 : Lk_ RX9 76 yX8_tell := Or.inl (TO_in (List.mem_of_getElem? (i := 426) (by decide +kernel)) (by decide +kernel))
theorem lk_X8_38 : Lk_ RX8 38 yX8_placesOf := Or.inl (TO_in (List.mem_of_getElem? (i := 430) (by decide +kernel)) (by decide +kernel))
theorem lk_X8_42 : Lk_ RX8 42 yX8_lies := Or.inl (TO_in (List.mem_of_getElem? (i := 436) (by decide +kernel)) (by decide +kernel))
theorem lk_X9_80 : Lk_ RX9 80 yX4_addRoutine := Or.inl (TO_in (List.mem_of_getElem? (i := 444) (by decide +kernel)) (by decide +kernel))
theorem lk_X4_61 : Lk_ RX4 61 yX7_init := Or.inl (TO_in (List.mem_of_getElem? (i := 450) (by decide +kernel)) (by decide +kernel))
theorem oi_X7_3 : Cond.methodLink RX7 3 objectInit ∈ TO_ ∧ Cond.instanceMethod objectInit ∈ TO_ ∧ Cond.code objectInit ⟨#[0xb1]⟩ 1 none ∈ TO_ := ⟨(TO_in (List.mem_of_getElem? (i := 453) (by decide +kernel)) (by decide +kernel)), (TO_in (List.mem_of_getElem? (i := 83) (by decide +kernel)) (by decide +kernel)), (TO_in (List.mem_of_getElem? (i := 84) (by decide +kernel)) (by decide +kernel))⟩
theorem lk_X9_83 : Lk_ RX9 83 yX4_routineAt := Or.inl (TO_in (List.mem_of_getElem? (i := 502) (by decide +kernel)) (by decide +kernel))
theorem lk_X9_87 : Lk_ RX9 87 yX7_admits := Or.inl (TO_in (List.mem_of_getElem? (i := 506) (by decide +kernel)) (by decide +kernel))
theorem lk_X7_40 : Lk_ RX7 40 yX9_isPlace := Or.inr (TO_in (List.mem_of_getElem? (i := 510) (by decide +kernel)) (by decide +kernel))
theorem lk_X7_44 : Lk_ RX7 44 yX9_isRow := Or.inr (TO_in (List.mem_of_getElem? (i := 513) (by decide +kernel)) (by decide +kernel))
theorem lk_X7_47 : Lk_ RX7 47 yX9_isLane := Or.inr (TO_in (List.mem_of_getElem? (i := 514) (by decide +kernel)) (by decide +kernel))
theorem lk_X9_93 : Lk_ RX9 93 yX7_addOp := Or.inl (TO_in (List.mem_of_getElem? (i := 515) (by decide +kernel)) (by decide +kernel))
theorem lk_X9_97 : Lk_ RX9 97 yX9_isPlace := Or.inl (TO_in (List.mem_of_getElem? (i := 524) (by decide +kernel)) (by decide +kernel))
theorem lk_X9_100 : Lk_ RX9 100 yX7_addGuard := Or.inl (TO_in (List.mem_of_getElem? (i := 525) (by decide +kernel)) (by decide +kernel))
theorem lk_X9_111 : Lk_ RX9 111 yX4_play := Or.inl (TO_in (List.mem_of_getElem? (i := 537) (by decide +kernel)) (by decide +kernel))
theorem lk_X4_64 : Lk_ RX4 64 yX4_beginRun := Or.inl (TO_in (List.mem_of_getElem? (i := 541) (by decide +kernel)) (by decide +kernel))
theorem lk_X4_67 : Lk_ RX4 67 yX4_openFrame := Or.inl (TO_in (List.mem_of_getElem? (i := 545) (by decide +kernel)) (by decide +kernel))
theorem lk_X4_113 : Lk_ RX4 113 yX1_beginWith := Or.inl (TO_in (List.mem_of_getElem? (i := 549) (by decide +kernel)) (by decide +kernel))
theorem lk_X1_46 : Lk_ RX1 46 yJ7_fill_d0a16 := Or.inl (TO_in (List.mem_of_getElem? (i := 553) (by decide +kernel)) (by decide +kernel))
theorem lk_X4_117 : Lk_ RX4 117 yJ9_max_7cf53 := Or.inl (TO_in (List.mem_of_getElem? (i := 556) (by decide +kernel)) (by decide +kernel))
theorem lk_X4_71 : Lk_ RX4 71 yX1_setLocal := Or.inl (TO_in (List.mem_of_getElem? (i := 559) (by decide +kernel)) (by decide +kernel))
theorem lk_X4_81 : Lk_ RX4 81 yX4_step := Or.inl (TO_in (List.mem_of_getElem? (i := 563) (by decide +kernel)) (by decide +kernel))
theorem lk_X4_143 : Lk_ RX4 143 yX4_act := Or.inl (TO_in (List.mem_of_getElem? (i := 567) (by decide +kernel)) (by decide +kernel))
theorem lk_X4_196 : Lk_ RX4 196 yX6_takes := Or.inl (TO_in (List.mem_of_getElem? (i := 571) (by decide +kernel)) (by decide +kernel))
theorem lk_X6_9 : Lk_ RX6 9 yX8_hasNumber := Or.inl (TO_in (List.mem_of_getElem? (i := 574) (by decide +kernel)) (by decide +kernel))
theorem lk_X4_202 : Lk_ RX4 202 yX1_take := Or.inl (TO_in (List.mem_of_getElem? (i := 579) (by decide +kernel)) (by decide +kernel))
theorem lk_X4_206 : Lk_ RX4 206 yX4_useLocals := Or.inl (TO_in (List.mem_of_getElem? (i := 583) (by decide +kernel)) (by decide +kernel))
theorem lk_X4_192 : Lk_ RX4 192 yX1_lay := Or.inl (TO_in (List.mem_of_getElem? (i := 587) (by decide +kernel)) (by decide +kernel))
theorem lk_X4_256 : Lk_ RX4 256 yX1_local := Or.inl (TO_in (List.mem_of_getElem? (i := 591) (by decide +kernel)) (by decide +kernel))
theorem lk_X4_219 : Lk_ RX4 219 yX1_taken := Or.inl (TO_in (List.mem_of_getElem? (i := 595) (by decide +kernel)) (by decide +kernel))
theorem lk_X4_210 : Lk_ RX4 210 yX4_useItem := Or.inl (TO_in (List.mem_of_getElem? (i := 599) (by decide +kernel)) (by decide +kernel))
theorem lk_X4_259 : Lk_ RX4 259 yX4_reachItem := Or.inl (TO_in (List.mem_of_getElem? (i := 603) (by decide +kernel)) (by decide +kernel))
theorem lk_X4_276 : Lk_ RX4 276 yX5_reachAsked := Or.inl (TO_in (List.mem_of_getElem? (i := 607) (by decide +kernel)) (by decide +kernel))
theorem lk_X5_52 : Lk_ RX5 52 yX5_laneOf := Or.inl (TO_in (List.mem_of_getElem? (i := 611) (by decide +kernel)) (by decide +kernel))
theorem lk_X5_56 : Lk_ RX5 56 yX3_goesInto := Or.inl (TO_in (List.mem_of_getElem? (i := 612) (by decide +kernel)) (by decide +kernel))
theorem lk_X4_280 : Lk_ RX4 280 yX5_reachPut := Or.inl (TO_in (List.mem_of_getElem? (i := 615) (by decide +kernel)) (by decide +kernel))
theorem lk_X4_283 : Lk_ RX4 283 yX5_reachHeld := Or.inl (TO_in (List.mem_of_getElem? (i := 619) (by decide +kernel)) (by decide +kernel))
theorem lk_X4_263 : Lk_ RX4 263 yX5_valueAt := Or.inl (TO_in (List.mem_of_getElem? (i := 623) (by decide +kernel)) (by decide +kernel))
theorem lk_X4_267 : Lk_ RX4 267 yX3_through := Or.inl (TO_in (List.mem_of_getElem? (i := 624) (by decide +kernel)) (by decide +kernel))
theorem lk_X4_272 : Lk_ RX4 272 yX5_store := Or.inl (TO_in (List.mem_of_getElem? (i := 625) (by decide +kernel)) (by decide +kernel))
theorem lk_X4_213 : Lk_ RX4 213 yX4_useRow := Or.inl (TO_in (List.mem_of_getElem? (i := 626) (by decide +kernel)) (by decide +kernel))
theorem lk_X4_286 : Lk_ RX4 286 yX5_sizeOf := Or.inl (TO_in (List.mem_of_getElem? (i := 630) (by decide +kernel)) (by decide +kernel))
theorem lk_X4_290 : Lk_ RX4 290 yX5_renew := Or.inl (TO_in (List.mem_of_getElem? (i := 631) (by decide +kernel)) (by decide +kernel))
theorem lk_X4_293 : Lk_ RX4 293 yX5_drop := Or.inl (TO_in (List.mem_of_getElem? (i := 632) (by decide +kernel)) (by decide +kernel))
theorem lk_X4_296 : Lk_ RX4 296 yX5_join := Or.inl (TO_in (List.mem_of_getElem? (i := 633) (by decide +kernel)) (by decide +kernel))
theorem lk_X4_216 : Lk_ RX4 216 yX4_callRoutine := Or.inl (TO_in (List.mem_of_getElem? (i := 634) (by decide +kernel)) (by decide +kernel))
theorem lk_X4_300 : Lk_ RX4 300 yX4_routineAt := Or.inl (TO_in (List.mem_of_getElem? (i := 638) (by decide +kernel)) (by decide +kernel))
theorem lk_X4_222 : Lk_ RX4 222 yX4_giveBack := Or.inl (TO_in (List.mem_of_getElem? (i := 639) (by decide +kernel)) (by decide +kernel))
theorem lk_X4_178 : Lk_ RX4 178 yX1_beginsLast := Or.inl (TO_in (List.mem_of_getElem? (i := 643) (by decide +kernel)) (by decide +kernel))
theorem lk_X1_57 : Lk_ RX1 57 yX7_hasOp := Or.inl (TO_in (List.mem_of_getElem? (i := 647) (by decide +kernel)) (by decide +kernel))
theorem lk_X4_310 : Lk_ RX4 310 yX4_endWith := Or.inl (TO_in (List.mem_of_getElem? (i := 651) (by decide +kernel)) (by decide +kernel))
theorem lk_X4_313 : Lk_ RX4 313 yX1_putNumberAside := Or.inl (TO_in (List.mem_of_getElem? (i := 655) (by decide +kernel)) (by decide +kernel))
theorem lk_X4_226 : Lk_ RX4 226 yX4_leave := Or.inl (TO_in (List.mem_of_getElem? (i := 659) (by decide +kernel)) (by decide +kernel))
theorem lk_X4_330 : Lk_ RX4 330 yX0_becomeAs := Or.inl (TO_in (List.mem_of_getElem? (i := 663) (by decide +kernel)) (by decide +kernel))
theorem lk_X0_25 : Lk_ RX0 25 yX0_become := Or.inl (TO_in (List.mem_of_getElem? (i := 667) (by decide +kernel)) (by decide +kernel))
theorem lk_X4_230 : Lk_ RX4 230 yX4_sendTo := Or.inl (TO_in (List.mem_of_getElem? (i := 671) (by decide +kernel)) (by decide +kernel))
theorem lk_X4_333 : Lk_ RX4 333 yX8_exists := Or.inl (TO_in (List.mem_of_getElem? (i := 675) (by decide +kernel)) (by decide +kernel))
theorem lk_X4_337 : Lk_ RX4 337 yX8_send := Or.inl (TO_in (List.mem_of_getElem? (i := 676) (by decide +kernel)) (by decide +kernel))
theorem lk_X8_69 : Lk_ RX8 69 yX8_weight := Or.inl (TO_in (List.mem_of_getElem? (i := 680) (by decide +kernel)) (by decide +kernel))
theorem lk_X8_65 : Lk_ RX8 65 yX8_isA := Or.inl (TO_in (List.mem_of_getElem? (i := 684) (by decide +kernel)) (by decide +kernel))
theorem lk_X8_75 : Lk_ RX8 75 yX8_load := Or.inl (TO_in (List.mem_of_getElem? (i := 690) (by decide +kernel)) (by decide +kernel))
theorem lk_X8_78 : Lk_ RX8 78 yX8_glow := Or.inl (TO_in (List.mem_of_getElem? (i := 694) (by decide +kernel)) (by decide +kernel))
theorem lk_X8_81 : Lk_ RX8 81 yX8_openUp := Or.inl (TO_in (List.mem_of_getElem? (i := 698) (by decide +kernel)) (by decide +kernel))
theorem lk_X8_84 : Lk_ RX8 84 yX8_setOwnMark := Or.inl (TO_in (List.mem_of_getElem? (i := 702) (by decide +kernel)) (by decide +kernel))
theorem lk_X4_234 : Lk_ RX4 234 yX8_layOnShelf := Or.inl (TO_in (List.mem_of_getElem? (i := 707) (by decide +kernel)) (by decide +kernel))
theorem lk_X8_52 : Lk_ RX8 52 yX8_exists := Or.inl (TO_in (List.mem_of_getElem? (i := 711) (by decide +kernel)) (by decide +kernel))
theorem lk_X8_58 : Lk_ RX8 58 yX8_reachShelf := Or.inl (TO_in (List.mem_of_getElem? (i := 713) (by decide +kernel)) (by decide +kernel))
theorem lk_X4_238 : Lk_ RX4 238 yX4_lookOnShelf := Or.inl (TO_in (List.mem_of_getElem? (i := 719) (by decide +kernel)) (by decide +kernel))
theorem lk_X4_345 : Lk_ RX4 345 yX8_reachShelf := Or.inl (TO_in (List.mem_of_getElem? (i := 723) (by decide +kernel)) (by decide +kernel))
theorem lk_X4_349 : Lk_ RX4 349 yX8_lies := Or.inl (TO_in (List.mem_of_getElem? (i := 724) (by decide +kernel)) (by decide +kernel))
theorem lk_X4_242 : Lk_ RX4 242 yX4_tellOutside := Or.inl (TO_in (List.mem_of_getElem? (i := 725) (by decide +kernel)) (by decide +kernel))
theorem lk_X4_245 : Lk_ RX4 245 yX4_keepAll := Or.inl (TO_in (List.mem_of_getElem? (i := 729) (by decide +kernel)) (by decide +kernel))
theorem lk_X4_352 : Lk_ RX4 352 yX2_isFull := Or.inl (TO_in (List.mem_of_getElem? (i := 733) (by decide +kernel)) (by decide +kernel))
theorem lk_X4_355 : Lk_ RX4 355 yX2_keep := Or.inl (TO_in (List.mem_of_getElem? (i := 737) (by decide +kernel)) (by decide +kernel))
theorem lk_X2_29 : Lk_ RX2 29 yX2_isFull := Or.inl (TO_in (List.mem_of_getElem? (i := 741) (by decide +kernel)) (by decide +kernel))
theorem lk_X2_33 : Lk_ RX2 33 yX5_copyFrom := Or.inl (TO_in (List.mem_of_getElem? (i := 742) (by decide +kernel)) (by decide +kernel))
theorem cy_X5_66 : Cond.methodLink RX5 66 arraycopyName ∈ TO_ ∧ Cond.native arraycopyName ∈ TO_ ∧ Cond.static arraycopyName ∈ TO_ ∧ Cond.initialized "java/lang/System" ∈ TO_ := ⟨(TO_in (List.mem_of_getElem? (i := 746) (by decide +kernel)) (by decide +kernel)), (TO_in (List.mem_of_getElem? (i := 748) (by decide +kernel)) (by decide +kernel)), (TO_in (List.mem_of_getElem? (i := 747) (by decide +kernel)) (by decide +kernel)), (TO_in (List.mem_of_getElem? (i := 76) (by decide +kernel)) (by decide +kernel))⟩
theorem lk_X2_40 : Lk_ RX2 40 yX8_copyFirst := Or.inl (TO_in (List.mem_of_getElem? (i := 749) (by decide +kernel)) (by decide +kernel))
theorem cy_X8_88 : Cond.methodLink RX8 88 arraycopyName ∈ TO_ ∧ Cond.native arraycopyName ∈ TO_ ∧ Cond.static arraycopyName ∈ TO_ ∧ Cond.initialized "java/lang/System" ∈ TO_ := ⟨(TO_in (List.mem_of_getElem? (i := 753) (by decide +kernel)) (by decide +kernel)), (TO_in (List.mem_of_getElem? (i := 748) (by decide +kernel)) (by decide +kernel)), (TO_in (List.mem_of_getElem? (i := 747) (by decide +kernel)) (by decide +kernel)), (TO_in (List.mem_of_getElem? (i := 76) (by decide +kernel)) (by decide +kernel))⟩
theorem lk_X4_248 : Lk_ RX4 248 yX2_bringBack := Or.inl (TO_in (List.mem_of_getElem? (i := 754) (by decide +kernel)) (by decide +kernel))
theorem lk_X4_252 : Lk_ RX4 252 yX4_reckon := Or.inl (TO_in (List.mem_of_getElem? (i := 758) (by decide +kernel)) (by decide +kernel))
theorem lk_X4_147 : Lk_ RX4 147 yX1_goOn := Or.inl (TO_in (List.mem_of_getElem? (i := 762) (by decide +kernel)) (by decide +kernel))
theorem lk_X4_151 : Lk_ RX4 151 yX4_passOn := Or.inl (TO_in (List.mem_of_getElem? (i := 766) (by decide +kernel)) (by decide +kernel))
theorem lk_X4_171 : Lk_ RX4 171 yX7_handlerOf := Or.inl (TO_in (List.mem_of_getElem? (i := 770) (by decide +kernel)) (by decide +kernel))
theorem lk_X7_59 : Lk_ RX7 59 yX7_hasOp := Or.inl (TO_in (List.mem_of_getElem? (i := 774) (by decide +kernel)) (by decide +kernel))
theorem lk_X4_174 : Lk_ RX4 174 yX4_beTaken := Or.inl (TO_in (List.mem_of_getElem? (i := 775) (by decide +kernel)) (by decide +kernel))
theorem lk_X4_182 : Lk_ RX4 182 yX1_putFaultAside := Or.inl (TO_in (List.mem_of_getElem? (i := 779) (by decide +kernel)) (by decide +kernel))
theorem lk_X1_68 : Lk_ RX1 68 yX0_becomeAs := Or.inl (TO_in (List.mem_of_getElem? (i := 783) (by decide +kernel)) (by decide +kernel))
theorem lk_X4_154 : Lk_ RX4 154 yX4_raise := Or.inl (TO_in (List.mem_of_getElem? (i := 784) (by decide +kernel)) (by decide +kernel))
theorem lk_X4_164 : Lk_ RX4 164 yX0_become := Or.inl (TO_in (List.mem_of_getElem? (i := 788) (by decide +kernel)) (by decide +kernel))
theorem lk_X4_85 : Lk_ RX4 85 yX0_becomeNone := Or.inl (TO_in (List.mem_of_getElem? (i := 789) (by decide +kernel)) (by decide +kernel))
theorem lk_X9_174 : Lk_ RX9 174 yX9_countOfRoutine := Or.inl (TO_in (List.mem_of_getElem? (i := 813) (by decide +kernel)) (by decide +kernel))
theorem lk_X9_178 : Lk_ RX9 178 yX2_clear := Or.inl (TO_in (List.mem_of_getElem? (i := 820) (by decide +kernel)) (by decide +kernel))
theorem oi_X10_1 : Cond.methodLink RX10 1 objectInit ∈ TO_ ∧ Cond.instanceMethod objectInit ∈ TO_ ∧ Cond.code objectInit ⟨#[0xb1]⟩ 1 none ∈ TO_ := ⟨(TO_in (List.mem_of_getElem? (i := 829) (by decide +kernel)) (by decide +kernel)), (TO_in (List.mem_of_getElem? (i := 83) (by decide +kernel)) (by decide +kernel)), (TO_in (List.mem_of_getElem? (i := 84) (by decide +kernel)) (by decide +kernel))⟩
theorem lk_X10_156 : Lk_ RX10 156 yX10_isRow := Or.inl (TO_in (List.mem_of_getElem? (i := 1026) (by decide +kernel)) (by decide +kernel))
theorem lk_X10_139 : Lk_ RX10 139 yX10_in := Or.inl (TO_in (List.mem_of_getElem? (i := 1030) (by decide +kernel)) (by decide +kernel))
theorem lk_X10_160 : Lk_ RX10 160 yX10_isLane := Or.inl (TO_in (List.mem_of_getElem? (i := 1033) (by decide +kernel)) (by decide +kernel))
theorem lk_X10_164 : Lk_ RX10 164 yX10_make := Or.inl (TO_in (List.mem_of_getElem? (i := 1038) (by decide +kernel)) (by decide +kernel))
theorem lk_X10_145 : Lk_ RX10 145 yX10_spare := Or.inl (TO_in (List.mem_of_getElem? (i := 1042) (by decide +kernel)) (by decide +kernel))
theorem lk_X10_168 : Lk_ RX10 168 yX10_against := Or.inl (TO_in (List.mem_of_getElem? (i := 1058) (by decide +kernel)) (by decide +kernel))
theorem lk_X10_172 : Lk_ RX10 172 yX10_lay := Or.inl (TO_in (List.mem_of_getElem? (i := 1062) (by decide +kernel)) (by decide +kernel))
theorem lk_X10_149 : Lk_ RX10 149 yX10_as := Or.inl (TO_in (List.mem_of_getElem? (i := 1066) (by decide +kernel)) (by decide +kernel))
theorem lk_X10_152 : Lk_ RX10 152 yX10_asReal := Or.inl (TO_in (List.mem_of_getElem? (i := 1069) (by decide +kernel)) (by decide +kernel))
theorem lk_X10_176 : Lk_ RX10 176 yX10_valueAt := Or.inl (TO_in (List.mem_of_getElem? (i := 1076) (by decide +kernel)) (by decide +kernel))
theorem lk_X10_188 : Lk_ RX10 188 yX10_isThing := Or.inl (TO_in (List.mem_of_getElem? (i := 1095) (by decide +kernel)) (by decide +kernel))
theorem lk_X10_192 : Lk_ RX10 192 yX10_placesOf := Or.inl (TO_in (List.mem_of_getElem? (i := 1099) (by decide +kernel)) (by decide +kernel))
theorem lk_X10_230 : Lk_ RX10 230 yX10_isRoutine := Or.inl (TO_in (List.mem_of_getElem? (i := 1111) (by decide +kernel)) (by decide +kernel))
theorem lk_X10_233 : Lk_ RX10 233 yX10_isOp := Or.inl (TO_in (List.mem_of_getElem? (i := 1115) (by decide +kernel)) (by decide +kernel))
theorem lk_X10_341 : Lk_ RX10 341 yX10_enter := Or.inl (TO_in (List.mem_of_getElem? (i := 1136) (by decide +kernel)) (by decide +kernel))
theorem lk_X10_375 : Lk_ RX10 375 yX10_step := Or.inl (TO_in (List.mem_of_getElem? (i := 1140) (by decide +kernel)) (by decide +kernel))
theorem lk_X10_308 : Lk_ RX10 308 yX10_takes := Or.inl (TO_in (List.mem_of_getElem? (i := 1144) (by decide +kernel)) (by decide +kernel))
theorem lk_X10_293 : Lk_ RX10 293 yX10_comes := Or.inl (TO_in (List.mem_of_getElem? (i := 1147) (by decide +kernel)) (by decide +kernel))
theorem lk_X10_290 : Lk_ RX10 290 yX10_goesUp := Or.inl (TO_in (List.mem_of_getElem? (i := 1151) (by decide +kernel)) (by decide +kernel))
theorem lk_X10_261 : Lk_ RX10 261 yX10_isTaken := Or.inl (TO_in (List.mem_of_getElem? (i := 1155) (by decide +kernel)) (by decide +kernel))
theorem lk_X10_245 : Lk_ RX10 245 yX10_isPlace := Or.inl (TO_in (List.mem_of_getElem? (i := 1159) (by decide +kernel)) (by decide +kernel))
theorem lk_X10_265 : Lk_ RX10 265 yX10_mayBeginLast := Or.inl (TO_in (List.mem_of_getElem? (i := 1163) (by decide +kernel)) (by decide +kernel))
theorem lk_X10_274 : Lk_ RX10 274 yX10_beginLast := Or.inl (TO_in (List.mem_of_getElem? (i := 1167) (by decide +kernel)) (by decide +kernel))
theorem lk_X10_312 : Lk_ RX10 312 yX10_plain := Or.inl (TO_in (List.mem_of_getElem? (i := 1171) (by decide +kernel)) (by decide +kernel))
theorem lk_X10_304 : Lk_ RX10 304 yX10_lays := Or.inl (TO_in (List.mem_of_getElem? (i := 1175) (by decide +kernel)) (by decide +kernel))
theorem lk_X10_297 : Lk_ RX10 297 yX10_goesTo := Or.inl (TO_in (List.mem_of_getElem? (i := 1179) (by decide +kernel)) (by decide +kernel))
theorem lk_X10_328 : Lk_ RX10 328 yX10_goesOn := Or.inl (TO_in (List.mem_of_getElem? (i := 1183) (by decide +kernel)) (by decide +kernel))
theorem lk_X10_316 : Lk_ RX10 316 yX10_memory := Or.inl (TO_in (List.mem_of_getElem? (i := 1187) (by decide +kernel)) (by decide +kernel))
theorem lk_X10_331 : Lk_ RX10 331 yX10_goesInto := Or.inl (TO_in (List.mem_of_getElem? (i := 1191) (by decide +kernel)) (by decide +kernel))
theorem lk_X10_334 : Lk_ RX10 334 yX10_asked := Or.inl (TO_in (List.mem_of_getElem? (i := 1194) (by decide +kernel)) (by decide +kernel))
theorem lk_X10_338 : Lk_ RX10 338 yX10_isPut := Or.inl (TO_in (List.mem_of_getElem? (i := 1198) (by decide +kernel)) (by decide +kernel))
theorem lk_X10_320 : Lk_ RX10 320 yX10_ways := Or.inl (TO_in (List.mem_of_getElem? (i := 1202) (by decide +kernel)) (by decide +kernel))
theorem lk_X10_344 : Lk_ RX10 344 yX10_endsWith := Or.inl (TO_in (List.mem_of_getElem? (i := 1206) (by decide +kernel)) (by decide +kernel))
theorem lk_X10_347 : Lk_ RX10 347 yX10_leave := Or.inl (TO_in (List.mem_of_getElem? (i := 1210) (by decide +kernel)) (by decide +kernel))
theorem lk_X10_324 : Lk_ RX10 324 yX10_world := Or.inl (TO_in (List.mem_of_getElem? (i := 1214) (by decide +kernel)) (by decide +kernel))
theorem lk_X10_350 : Lk_ RX10 350 yX10_message := Or.inl (TO_in (List.mem_of_getElem? (i := 1218) (by decide +kernel)) (by decide +kernel))
theorem lk_X10_210 : Lk_ RX10 210 yX10_weigh := Or.inl (TO_in (List.mem_of_getElem? (i := 1222) (by decide +kernel)) (by decide +kernel))
theorem lk_X10_195 : Lk_ RX10 195 yX10_isCrate := Or.inl (TO_in (List.mem_of_getElem? (i := 1226) (by decide +kernel)) (by decide +kernel))
theorem lk_X10_213 : Lk_ RX10 213 yX10_take := Or.inl (TO_in (List.mem_of_getElem? (i := 1229) (by decide +kernel)) (by decide +kernel))
theorem lk_X10_353 : Lk_ RX10 353 yX10_stand := Or.inl (TO_in (List.mem_of_getElem? (i := 1234) (by decide +kernel)) (by decide +kernel))
theorem lk_X10_366 : Lk_ RX10 366 yX10_keep := Or.inl (TO_in (List.mem_of_getElem? (i := 1238) (by decide +kernel)) (by decide +kernel))
theorem lk_X10_369 : Lk_ RX10 369 yX10_bringBack := Or.inl (TO_in (List.mem_of_getElem? (i := 1242) (by decide +kernel)) (by decide +kernel))
theorem nc_X9_7 : Cond.classLink RX9 7 RX4 ∈ TO_ ∧ Cond.instantiable RX4 19 ∈ TO_ ∧ Cond.initialized RX4 ∈ TO_ := ⟨(TO_in (List.mem_of_getElem? (i := 85) (by decide +kernel)) (by decide +kernel)), (TO_in (List.mem_of_getElem? (i := 86) (by decide +kernel)) (by decide +kernel)), (TO_in (List.mem_of_getElem? (i := 64) (by decide +kernel)) (by decide +kernel))⟩
theorem nc_X4_9 : Cond.classLink RX4 9 RX5 ∈ TO_ ∧ Cond.instantiable RX5 5 ∈ TO_ ∧ Cond.initialized RX5 ∈ TO_ := ⟨(TO_in (List.mem_of_getElem? (i := 91) (by decide +kernel)) (by decide +kernel)), (TO_in (List.mem_of_getElem? (i := 92) (by decide +kernel)) (by decide +kernel)), (TO_in (List.mem_of_getElem? (i := 65) (by decide +kernel)) (by decide +kernel))⟩
theorem na_X4_9 : Cond.classLink RX4 9 RX5 ∈ TO_ ∧ Cond.arrayOver (.object RX5) ∈ TO_ := ⟨(TO_in (List.mem_of_getElem? (i := 91) (by decide +kernel)) (by decide +kernel)), (TO_in (List.mem_of_getElem? (i := 157) (by decide +kernel)) (by decide +kernel))⟩
theorem nc_X4_18 : Cond.classLink RX4 18 RX8 ∈ TO_ ∧ Cond.instantiable RX8 7 ∈ TO_ ∧ Cond.initialized RX8 ∈ TO_ := ⟨(TO_in (List.mem_of_getElem? (i := 118) (by decide +kernel)) (by decide +kernel)), (TO_in (List.mem_of_getElem? (i := 119) (by decide +kernel)) (by decide +kernel)), (TO_in (List.mem_of_getElem? (i := 67) (by decide +kernel)) (by decide +kernel))⟩
theorem na_X4_18 : Cond.classLink RX4 18 RX8 ∈ TO_ ∧ Cond.arrayOver (.object RX8) ∈ TO_ := ⟨(TO_in (List.mem_of_getElem? (i := 118) (by decide +kernel)) (by decide +kernel)), (TO_in (List.mem_of_getElem? (i := 159) (by decide +kernel)) (by decide +kernel))⟩
theorem nc_X4_25 : Cond.classLink RX4 25 RX2 ∈ TO_ ∧ Cond.instantiable RX2 3 ∈ TO_ ∧ Cond.initialized RX2 ∈ TO_ := ⟨(TO_in (List.mem_of_getElem? (i := 150) (by decide +kernel)) (by decide +kernel)), (TO_in (List.mem_of_getElem? (i := 151) (by decide +kernel)) (by decide +kernel)), (TO_in (List.mem_of_getElem? (i := 68) (by decide +kernel)) (by decide +kernel))⟩
theorem nc_X2_9 : Cond.classLink RX2 9 RX5 ∈ TO_ ∧ Cond.instantiable RX5 5 ∈ TO_ ∧ Cond.initialized RX5 ∈ TO_ := ⟨(TO_in (List.mem_of_getElem? (i := 156) (by decide +kernel)) (by decide +kernel)), (TO_in (List.mem_of_getElem? (i := 92) (by decide +kernel)) (by decide +kernel)), (TO_in (List.mem_of_getElem? (i := 65) (by decide +kernel)) (by decide +kernel))⟩
theorem na_X2_9 : Cond.classLink RX2 9 RX5 ∈ TO_ ∧ Cond.arrayOver (.object RX5) ∈ TO_ := ⟨(TO_in (List.mem_of_getElem? (i := 156) (by decide +kernel)) (by decide +kernel)), (TO_in (List.mem_of_getElem? (i := 157) (by decide +kernel)) (by decide +kernel))⟩
theorem nc_X2_17 : Cond.classLink RX2 17 RX8 ∈ TO_ ∧ Cond.instantiable RX8 7 ∈ TO_ ∧ Cond.initialized RX8 ∈ TO_ := ⟨(TO_in (List.mem_of_getElem? (i := 158) (by decide +kernel)) (by decide +kernel)), (TO_in (List.mem_of_getElem? (i := 119) (by decide +kernel)) (by decide +kernel)), (TO_in (List.mem_of_getElem? (i := 67) (by decide +kernel)) (by decide +kernel))⟩
theorem na_X2_17 : Cond.classLink RX2 17 RX8 ∈ TO_ ∧ Cond.arrayOver (.object RX8) ∈ TO_ := ⟨(TO_in (List.mem_of_getElem? (i := 158) (by decide +kernel)) (by decide +kernel)), (TO_in (List.mem_of_getElem? (i := 159) (by decide +kernel)) (by decide +kernel))⟩
theorem nc_X4_32 : Cond.classLink RX4 32 RX7 ∈ TO_ ∧ Cond.instantiable RX7 11 ∈ TO_ ∧ Cond.initialized RX7 ∈ TO_ := ⟨(TO_in (List.mem_of_getElem? (i := 174) (by decide +kernel)) (by decide +kernel)), (TO_in (List.mem_of_getElem? (i := 449) (by decide +kernel)) (by decide +kernel)), (TO_in (List.mem_of_getElem? (i := 73) (by decide +kernel)) (by decide +kernel))⟩
theorem na_X4_32 : Cond.classLink RX4 32 RX7 ∈ TO_ ∧ Cond.arrayOver (.object RX7) ∈ TO_ := ⟨(TO_in (List.mem_of_getElem? (i := 174) (by decide +kernel)) (by decide +kernel)), (TO_in (List.mem_of_getElem? (i := 175) (by decide +kernel)) (by decide +kernel))⟩
theorem nc_X4_38 : Cond.classLink RX4 38 RX1 ∈ TO_ ∧ Cond.instantiable RX1 11 ∈ TO_ ∧ Cond.initialized RX1 ∈ TO_ := ⟨(TO_in (List.mem_of_getElem? (i := 176) (by decide +kernel)) (by decide +kernel)), (TO_in (List.mem_of_getElem? (i := 203) (by decide +kernel)) (by decide +kernel)), (TO_in (List.mem_of_getElem? (i := 70) (by decide +kernel)) (by decide +kernel))⟩
theorem na_X4_38 : Cond.classLink RX4 38 RX1 ∈ TO_ ∧ Cond.arrayOver (.object RX1) ∈ TO_ := ⟨(TO_in (List.mem_of_getElem? (i := 176) (by decide +kernel)) (by decide +kernel)), (TO_in (List.mem_of_getElem? (i := 177) (by decide +kernel)) (by decide +kernel))⟩
theorem nc_X4_48 : Cond.classLink RX4 48 RX0 ∈ TO_ ∧ Cond.instantiable RX0 4 ∈ TO_ ∧ Cond.initialized RX0 ∈ TO_ := ⟨(TO_in (List.mem_of_getElem? (i := 178) (by decide +kernel)) (by decide +kernel)), (TO_in (List.mem_of_getElem? (i := 179) (by decide +kernel)) (by decide +kernel)), (TO_in (List.mem_of_getElem? (i := 69) (by decide +kernel)) (by decide +kernel))⟩
theorem nc_X1_18 : Cond.classLink RX1 18 RX0 ∈ TO_ ∧ Cond.instantiable RX0 4 ∈ TO_ ∧ Cond.initialized RX0 ∈ TO_ := ⟨(TO_in (List.mem_of_getElem? (i := 208) (by decide +kernel)) (by decide +kernel)), (TO_in (List.mem_of_getElem? (i := 179) (by decide +kernel)) (by decide +kernel)), (TO_in (List.mem_of_getElem? (i := 69) (by decide +kernel)) (by decide +kernel))⟩
theorem co_X9_23 : Cond.constant RX9 23 (-1000000) ∈ lw_tbl := List.mem_of_getElem? (i := 338) (by decide +kernel)
theorem co_X5_34 : Cond.constantLong RX5 34 (12) ∈ lw_tbl := List.mem_of_getElem? (i := 343) (by decide +kernel)
theorem co_X8_37 : Cond.constant RX8 37 (-1000001) ∈ lw_tbl := List.mem_of_getElem? (i := 417) (by decide +kernel)
theorem co_X4_60 : Cond.constant RX4 60 (-1000001) ∈ lw_tbl := List.mem_of_getElem? (i := 448) (by decide +kernel)
theorem co_X7_55 : Cond.constant RX7 55 (-1000001) ∈ lw_tbl := List.mem_of_getElem? (i := 519) (by decide +kernel)
theorem co_X4_340 : Cond.constantLong RX4 340 (50) ∈ lw_tbl := List.mem_of_getElem? (i := 706) (by decide +kernel)
theorem co_X8_56 : Cond.constantLong RX8 56 (-1) ∈ lw_tbl := List.mem_of_getElem? (i := 712) (by decide +kernel)
theorem co_X10_137 : Cond.constantLong RX10 137 (11) ∈ lw_tbl := List.mem_of_getElem? (i := 1029) (by decide +kernel)
theorem co_X10_143 : Cond.constantLong RX10 143 (7) ∈ lw_tbl := List.mem_of_getElem? (i := 1036) (by decide +kernel)
theorem co_X10_163 : Cond.constant RX10 163 (-1000000) ∈ lw_tbl := List.mem_of_getElem? (i := 1037) (by decide +kernel)
theorem co_X10_180 : Cond.constantLong RX10 180 (2) ∈ lw_tbl := List.mem_of_getElem? (i := 1084) (by decide +kernel)
theorem co_X10_185 : Cond.constantLong RX10 185 (5) ∈ lw_tbl := List.mem_of_getElem? (i := 1089) (by decide +kernel)
theorem co_X10_187 : Cond.constant RX10 187 (-1000001) ∈ lw_tbl := List.mem_of_getElem? (i := 1090) (by decide +kernel)
theorem co_X10_220 : Cond.constantLong RX10 220 (6) ∈ lw_tbl := List.mem_of_getElem? (i := 1106) (by decide +kernel)
theorem co_X10_222 : Cond.constantLong RX10 222 (29) ∈ lw_tbl := List.mem_of_getElem? (i := 1119) (by decide +kernel)
theorem co_X10_224 : Cond.constantLong RX10 224 (12) ∈ lw_tbl := List.mem_of_getElem? (i := 1120) (by decide +kernel)
theorem co_X10_226 : Cond.constantLong RX10 226 (18) ∈ lw_tbl := List.mem_of_getElem? (i := 1121) (by decide +kernel)
theorem co_X10_228 : Cond.constantLong RX10 228 (8) ∈ lw_tbl := List.mem_of_getElem? (i := 1122) (by decide +kernel)
theorem co_X10_237 : Cond.constantLong RX10 237 (-1) ∈ lw_tbl := List.mem_of_getElem? (i := 1131) (by decide +kernel)
theorem co_X10_201 : Cond.constantLong RX10 201 (50) ∈ lw_tbl := List.mem_of_getElem? (i := 1233) (by decide +kernel)
theorem co_L_28 : Cond.constantLong RL 28 (4294967295) ∈ lw_tbl := List.mem_of_getElem? (i := 1270) (by decide +kernel)
