section LC
variable {cnt : Nat} {c r : Hp}
/-- the two answer alike from here on -/
def RX_ (cnt : Nat) (c r : Hp) : Prop := ∃ K N rf, GG_ cnt K N rf c r ∧ PI_ c r ∧ Ro c r
theorem Ro_c {c' r' : Hp} (m : Ro c r) (hI : ∀ k, 9 ≤ k → k ≤ 17 → g_I c' 1 k = g_I c 1 k) (hJ : g_J c' 1 17 = g_J c 1 17) (h56 : g_I c' 56 = g_I c 56) (h56J : g_J c' 56 = g_J c 56) (h55 : g_J c' 55 = g_J c 55) (rI : ∀ k, 41 ≤ k → k ≤ 51 → g_I r' 0 k = g_I r 0 k) (rJ : ∀ k, 41 ≤ k → k ≤ 51 → g_J r' 0 k = g_J r 0 k) (r29 : g_J r' 29 = g_J r 29) : Ro c' r' := by
  obtain ⟨m1, ⟨m2, m3, m4, m5⟩, ⟨m6, m7, m8, m9, m10⟩, M, h60, m11, m12, m13⟩ := m
  refine ⟨?_, ⟨?_, ?_, ?_, ?_⟩, ⟨?_, ?_, ?_, ?_, ?_⟩, M, h60, ?_, ?_, fun i hi => ?_⟩
  · rw [hJ, rJ 42 (by omega) (by omega)]; exact m1
  · rw [h56, rI 43 (by omega) (by omega)]; exact m2
  · rw [h56J, rJ 44 (by omega) (by omega)]; exact m3
  · rw [h56, rI 45 (by omega) (by omega)]; exact m4
  · rw [h56, rI 46 (by omega) (by omega)]; exact m5
  · rw [hI 12 (by omega) (by omega), rI 47 (by omega) (by omega)]; exact m6
  · rw [hI 13 (by omega) (by omega), rI 48 (by omega) (by omega)]; exact m7
  · rw [hI 14 (by omega) (by omega), rI 49 (by omega) (by omega)]; exact m8
  · rw [hI 15 (by omega) (by omega), rI 50 (by omega) (by omega)]; exact m9
  · rw [hI 16 (by omega) (by omega), rI 51 (by omega) (by omega)]; exact m10
  · rw [hI 9 (by omega) (by omega)]; exact m11
  · rw [rI 41 (by omega) (by omega)]; exact m12
  · rw [h55, r29]; exact m13 i hi
theorem RX_q {N' K' : Nat} {rf : Nat → Option Nat} {c' r' : Hp} {lo hi lo' hi' : Nat} {k1 k2 : Nat → Prop} (pi : PI_ c r) (ro : Ro c r) (f : Fq 1 lo hi k1 c c') (g : Fq 0 lo' hi' k2 r r') (h1 : hi < 55 ∨ 105 ≤ lo) (h2 : hi' < 19 ∨ 29 < lo') (h3 : ∀ k, 9 ≤ k → ¬ k1 k) (h4 : ∀ k, 41 ≤ k → k ≤ 51 → ¬ k2 k) (gg : GG_ cnt K' N' rf c' r') : RX_ cnt c' r' := by
  refine ⟨K', N', rf, gg, PI_c pi (fun d hd => (f.2.1 _ (by omega) (by omega)).2.1) (g.2.1 22 (by omega) (by omega)).2.1, Ro_c ro (fun k h _ => (f.2.2 k (h3 k h)).1) (f.2.2 17 (h3 17 (by omega))).2 (f.2.1 56 (by omega) (by omega)).1 (f.2.1 56 (by omega) (by omega)).2.1 (f.2.1 55 (by omega) (by omega)).2.1 (fun k h h' => (g.2.2 k (h4 k h h')).1) (fun k h h' => (g.2.2 k (h4 k h h')).2) (g.2.1 29 (by omega) (by omega)).2.1⟩
theorem RX_mem {K N : Nat} {rf : Nat → Option Nat} {c' r' : Hp} (gg : GG_ cnt K N rf c r) (pi : PI_ c r) (ro : Ro c r) (f : Fr 3 7 c c') (g : Fr 1 5 r r') (n3 : Rm c' r') : RX_ cnt c' r' := by
  have f' : Fq 1 3 7 (fun _ => False) c c' := Fq_f f (by omega)
  have g' : Fq 0 1 5 (fun _ => False) r r' := Fq_f g (by omega)
  obtain ⟨m1, m2, m3, m4, m5, m6⟩ := gg
  exact RX_q pi ro f' g' (by omega) (by omega) (fun _ _ h => h) (fun _ _ _ h => h) ⟨Fq_wc f' m1, Fq_ur g' m2, n3, Rt_f m4 f' g' (by omega) (by omega) (fun h => h), Rk_f m5 (Nat.le_refl _) m4.2.2.n12 f' g' (by omega) (by omega) (fun h => h), Rp_f m6 f' g' (by omega) (by omega) (fun h => h) (fun h => h)⟩
theorem RX_prog {K N : Nat} {rf : Nat → Option Nat} {c' r' : Hp} (gg : GG_ cnt K N rf c r) (pi : PI_ c r) (ro : Ro c r) (f : Fr 105 200 c c') (g : Fr 12 18 r r') (n6 : Rp cnt c' r') : RX_ cnt c' r' := by
  have f' : Fq 1 105 200 (fun _ => False) c c' := Fq_f f (by omega)
  have g' : Fq 0 12 18 (fun _ => False) r r' := Fq_f g (by omega)
  obtain ⟨m1, m2, m3, m4, m5, m6⟩ := gg
  exact RX_q pi ro f' g' (by omega) (by omega) (fun _ _ h => h) (fun _ _ _ h => h) ⟨Fq_wc f' m1, Fq_ur g' m2, Rm_q m3 f' g' (by omega) (by omega), Rt_f m4 f' g' (by omega) (by omega) (fun h => h), Rk_f m5 (Nat.le_refl _) m4.2.2.n12 f' g' (by omega) (by omega) (fun h => h), n6⟩
theorem X_row (m : RX_ cnt c r) (a : Int32) (b : Int32) (n : Int32) : ∃ v c' r', fX9_row (kC cnt) 0 a b n c = some (v, c') ∧ fX10_row kR 0 a b n r = some (v, r') ∧ RX_ cnt c' r' := by
  obtain ⟨K, N, rf, gg, pi, ro⟩ := m
  obtain ⟨w, c', r', x1, x2, x3, x4, x5⟩ := P_row gg.1 gg.2.1 gg.2.2.1 a b n
  exact ⟨w, c', r', x1, x2, RX_mem gg pi ro x3 x4 x5⟩
theorem X_miss (m : RX_ cnt c r) (a : Int32) : ∃ v c' r', fX9_miss (kC cnt) 0 a c = some (v, c') ∧ fX10_miss kR 0 a r = some (v, r') ∧ RX_ cnt c' r' := by
  obtain ⟨K, N, rf, gg, pi, ro⟩ := m
  obtain ⟨w, c', r', x1, x2, x3, x4, x5⟩ := P_miss gg.1 gg.2.1 gg.2.2.1 a
  exact ⟨w, c', r', x1, x2, RX_mem gg pi ro x3 x4 x5⟩
theorem X_share (m : RX_ cnt c r) (a : Int32) (b : Int32) : ∃ v c' r', fX9_share (kC cnt) 0 a b c = some (v, c') ∧ fX10_share kR 0 a b r = some (v, r') ∧ RX_ cnt c' r' := by
  obtain ⟨K, N, rf, gg, pi, ro⟩ := m
  obtain ⟨w, c', r', x1, x2, x3, x4, x5⟩ := P_share gg.1 gg.2.1 gg.2.2.1 a b
  exact ⟨w, c', r', x1, x2, RX_mem gg pi ro x3 x4 x5⟩
theorem X_put (m : RX_ cnt c r) (a : Int32) (b : Int32) (z : Int64) : ∃ v c' r', fX9_put (kC cnt) 0 a b z c = some (v, c') ∧ fX10_put kR 0 a b z r = some (v, r') ∧ RX_ cnt c' r' := by
  obtain ⟨K, N, rf, gg, pi, ro⟩ := m
  obtain ⟨w, c', r', x1, x2, x3, x4, x5⟩ := P_put gg.1 gg.2.1 gg.2.2.1 a b z
  exact ⟨w, c', r', x1, x2, RX_mem gg pi ro x3 x4 x5⟩
theorem X_thing (m : RX_ cnt c r) (a : Int32) : ∃ v c' r', fX9_thing (kC cnt) 0 a c = some (v, c') ∧ fX10_thing kR 0 a r = some (v, r') ∧ RX_ cnt c' r' := by
  obtain ⟨K, N, rf, gg, pi, ro⟩ := m
  obtain ⟨w, c', r', N', x1, x2, f, g, x5, x6⟩ := P_thing gg.1 gg.2.1 gg.2.2.2.1 a
  obtain ⟨m1, m2, m3, m4, m5, m6⟩ := gg
  exact ⟨w, c', r', x1, x2, RX_q pi ro f g (by omega) (by omega) (fun _ _ h => h) (fun k h h' => by omega) ⟨Fq_wc f m1, Fq_ur g m2, Rm_q m3 f g (by omega) (by omega), x5, Rk_f m5 x6 m4.2.2.n12 f g (by omega) (by omega) (by omega), Rp_f m6 f g (by omega) (by omega) (fun h => h) (by omega)⟩⟩
theorem X_op (m : RX_ cnt c r) (x : Int32) (o : Int32) (a : Int32) (b : Int32) : ∃ v c' r', fX9_op (kC cnt) 0 x o a b c = some (v, c') ∧ fX10_op kR 0 x o a b r = some (v, r') ∧ RX_ cnt c' r' := by
  obtain ⟨K, N, rf, gg, pi, ro⟩ := m
  obtain ⟨w, c', r', x1, x2, x3, x4, x5⟩ := P_op gg.1 gg.2.1 gg.2.2.2.2.2 x o a b
  exact ⟨w, c', r', x1, x2, RX_prog gg pi ro x3 (Fr_w x4 (by omega) (by omega)) x5⟩
theorem X_guard (m : RX_ cnt c r) (x : Int32) (f : Int32) (t : Int32) (cd : Int32) (hd : Int32) : ∃ v c' r', fX9_guard (kC cnt) 0 x f t cd hd c = some (v, c') ∧ fX10_guard kR 0 x f t cd hd r = some (v, r') ∧ RX_ cnt c' r' := by
  obtain ⟨K, N, rf, gg, pi, ro⟩ := m
  obtain ⟨w, c', r', x1, x2, x3, x4, x5⟩ := P_guard gg.1 gg.2.1 gg.2.2.2.2.2 x f t cd hd
  exact ⟨w, c', r', x1, x2, RX_prog gg pi ro x3 x4 x5⟩
theorem X_last (m : RX_ cnt c r) (x : Int32) (p : Int32) : ∃ v c' r', fX9_last (kC cnt) 0 x p c = some (v, c') ∧ fX10_last kR 0 x p r = some (v, r') ∧ RX_ cnt c' r' := by
  obtain ⟨K, N, rf, gg, pi, ro⟩ := m
  obtain ⟨w, c', r', x1, x2, x3, x4, x5⟩ := P_last gg.1 gg.2.1 gg.2.2.2.2.2 x p
  exact ⟨w, c', r', x1, x2, RX_prog gg pi ro x3 x4 x5⟩
theorem X_run (m : RX_ cnt c r) (a : Int32) (x : Int64) (y : Int64) : ∃ v c' r', fX9_run (kC cnt) 0 a x y c = some (v, c') ∧ fX10_run kR 0 a x y r = some (v, r') ∧ RX_ cnt c' r' := by
  obtain ⟨K, N, rf, gg, pi, ro⟩ := m
  obtain ⟨w, c', r', K', rf', x1, x2, x3, x4, x5⟩ := P_run gg pi ro a x y
  exact ⟨w, c', r', x1, x2, K', N, rf', x3, x4, x5⟩
theorem X_forget (m : RX_ cnt c r)  : ∃ v c' r', fX9_forget (kC cnt) 0  c = some (v, c') ∧ fX10_forget kR 0  r = some (v, r') ∧ RX_ cnt c' r' := by
  obtain ⟨K, N, rf, gg, pi, ro⟩ := m
  obtain ⟨m1, m2, m3, m4, m5, m6⟩ := gg
  obtain ⟨x1, x2, x3⟩ := P_forget m1 m2 m5
  have f : Fq 1 14 14 (fun _ => False) c (s_I c 14 2 (nI 0)) := Fq_i (Fq_r ..) (Or.inl ⟨by omega, by omega, by omega⟩)
  have g : Fq 0 40 39 (fun k => k = 52) r (s_I r 0 52 (nI 0)) := Fq_i (Fq_r ..) (Or.inr ⟨rfl, rfl⟩)
  exact ⟨_, _, _, x1, x2, RX_q pi ro f g (by omega) (by omega) (fun _ _ h => h) (fun k h h' => by omega) ⟨Fq_wc f m1, Fq_ur g m2, Rm_q m3 f g (by omega) (by omega), Rt_f m4 f g (by omega) (by omega) (by omega), x3, Rp_f m6 f g (by omega) (by omega) (fun h => h) (by omega)⟩⟩
theorem X_item (m : RX_ cnt c r) (a : Int32) (b : Int32) : ∃ v, fX9_item (kC cnt) 0 a b c = some v ∧ fX10_item kR 0 a b r = some v := by
  obtain ⟨K, N, rf, gg, pi, ro⟩ := m
  exact P_item gg.1 gg.2.1 gg.2.2.1 a b
theorem X_about (m : RX_ cnt c r) (a : Int32) (b : Int32) : ∃ v, fX9_about (kC cnt) 0 a b c = some v ∧ fX10_about kR 0 a b r = some v := by
  obtain ⟨K, N, rf, gg, pi, ro⟩ := m
  exact P_about gg.1 gg.2.1 gg.2.2.1 a b
theorem X_of (m : RX_ cnt c r) (a : Int32) (b : Int32) : ∃ v, fX9_of (kC cnt) 0 a b c = some v ∧ fX10_of kR 0 a b r = some v := by
  obtain ⟨K, N, rf, gg, pi, ro⟩ := m
  exact P_of gg.1 gg.2.1 gg.2.2.2.1 a b
theorem X_told (m : RX_ cnt c r) (a : Int32) : ∃ v, fX9_told (kC cnt) 0 a c = some v ∧ fX10_told kR 0 a r = some v := by
  obtain ⟨K, N, rf, gg, pi, ro⟩ := m
  exact P_told gg.1 ro a
theorem X_output (m : RX_ cnt c r) (a : Int32) : ∃ v, fX9_output (kC cnt) 0 a c = some v ∧ fX10_output kR 0 a r = some v := by
  obtain ⟨K, N, rf, gg, pi, ro⟩ := m
  exact P_output gg.1 gg.2.1 ro a
theorem X_count (m : RX_ cnt c r) (a : Int32) (b : Int32) : ∃ v, fX9_count (kC cnt) 0 a b c = some v ∧ fX10_count kR 0 a b r = some v := by
  obtain ⟨K, N, rf, gg, pi, ro⟩ := m
  exact P_count gg.1 gg.2.1 ro gg.2.2.2.1 gg.2.2.2.2.1 gg.2.2.2.2.2 a b
theorem X_result (m : RX_ cnt c r)  : ∃ v, fX9_result (kC cnt) 0  c = some v ∧ fX10_result kR 0  r = some v := by
  obtain ⟨K, N, rf, gg, pi, ro⟩ := m
  exact ⟨_, P_result gg.1 ro⟩
theorem X_number (m : RX_ cnt c r)  : ∃ v, fX9_number (kC cnt) 0  c = some v ∧ fX10_number kR 0  r = some v := by
  obtain ⟨K, N, rf, gg, pi, ro⟩ := m
  exact ⟨_, P_number gg.1 ro⟩
theorem X_routine (m : RX_ cnt c r) (a : Int32) : ∃ v c' r' cnt', fX9_routine (kC cnt) (105 + 8 * cnt) 0 a c = some (v, c', kC cnt', 105 + 8 * cnt') ∧ fX10_routine kR 0 a r = some (v, r') ∧ RX_ cnt' c' r' := by
  obtain ⟨K, N, rf, gg, pi, ro⟩ := m
  obtain ⟨m1, m2, m3, m4, m5, m6⟩ := gg
  obtain ⟨v, c', r', cnt', x1, x2, x3, x4, x5, x6, fn, g⟩ := P_routine m1 m2 m6 a
  have fI : ∀ a, a < 105 → a ≠ 1 → g_I c' a = g_I c a := fun a h h' => funext fun k => (fn a k (by omega) (Or.inl h')).1
  have fJ : ∀ a, a < 105 → a ≠ 1 → g_J c' a = g_J c a := fun a h h' => funext fun k => (fn a k (by omega) (Or.inl h')).2
  have gI : ∀ a, (a < 11 ∨ 14 < a) → a ≠ 0 → g_I r' a = g_I r a := fun a h h' => (g.2.1 a h h').1
  have gJ : ∀ a, (a < 11 ∨ 14 < a) → a ≠ 0 → g_J r' a = g_J r a := fun a h h' => (g.2.1 a h h').2.1
  have gD : ∀ a, (a < 11 ∨ 14 < a) → a ≠ 0 → g_D r' a = g_D r a := fun a h h' => (g.2.1 a h h').2.2
  have rI : ∀ k, k ≠ 14 → g_I r' 0 k = g_I r 0 k := fun k h => (g.2.2 k h).1
  have rJ : ∀ k, k ≠ 14 → g_J r' 0 k = g_J r 0 k := fun k h => (g.2.2 k h).2
  refine ⟨v, c', r', cnt', x1, x2, K, N, rf, ⟨x5, Fq_ur g m2, ?_, ?_, ?_, x6⟩, PI_c pi (fun d hd => fJ _ (by omega) (by omega)) (gJ 22 (by omega) (by omega)), Ro_c ro (fun k h h' => (fn 1 k (by omega) (Or.inr (by omega))).1) (fn 1 17 (by omega) (Or.inr (by omega))).2 (fI 56 (by omega) (by omega)) (fJ 56 (by omega) (by omega)) (fJ 55 (by omega) (by omega)) (fun k h h' => rI k (by omega)) (fun k h h' => rJ k (by omega)) (gJ 29 (by omega) (by omega))⟩
  · unfold Rm at *
    rw [fI 3 (by omega) (by omega), fI 4 (by omega) (by omega), fI 5 (by omega) (by omega), fI 6 (by omega) (by omega), fJ 7 (by omega) (by omega), gI 1 (by omega) (by omega), gI 2 (by omega) (by omega), gI 3 (by omega) (by omega), gJ 4 (by omega) (by omega), gD 5 (by omega) (by omega)]
    exact m3
  · unfold Rt at *
    rw [fI 8 (by omega) (by omega), fI 9 (by omega) (by omega), fI 10 (by omega) (by omega), fI 11 (by omega) (by omega), fI 12 (by omega) (by omega), fI 13 (by omega) (by omega), rI 5 (by omega), gI 6 (by omega) (by omega), gI 7 (by omega) (by omega), gI 8 (by omega) (by omega), gI 9 (by omega) (by omega), gI 10 (by omega) (by omega)]
    exact m4
  · obtain ⟨k1, k2, k3, k4⟩ := m5
    refine ⟨k1, by rw [fI 14 (by omega) (by omega)]; exact k2, by rw [rI 52 (by omega)]; exact k3, fun q hq => ⟨?_, ?_⟩⟩
    · refine KM_c (fun a h1 h2 => ⟨fI a (by omega) (by omega), fJ a (by omega) (by omega)⟩) ?_ ?_ ?_ ?_ ?_ (k4 q hq).1
      · intro j _; rw [gI 30 (by omega) (by omega)]
      · intro j _; rw [gI 31 (by omega) (by omega)]
      · intro j _; rw [gI 32 (by omega) (by omega)]
      · intro j _; rw [gJ 33 (by omega) (by omega)]
      · intro j _; rw [gD 34 (by omega) (by omega)]
    · refine KT_c (Nat.le_refl _) m4.2.2.n12 (fun a h1 h2 => ⟨fI a (by omega) (by omega), fJ a (by omega) (by omega)⟩) ?_ ?_ ?_ ?_ ?_ (k4 q hq).2
      · rw [gI 35 (by omega) (by omega)]
      · intro j _; rw [gI 36 (by omega) (by omega)]
      · intro j _; rw [gI 37 (by omega) (by omega)]
      · intro j _; rw [gI 38 (by omega) (by omega)]
      · intro j _; rw [gI 39 (by omega) (by omega)]
end LC
