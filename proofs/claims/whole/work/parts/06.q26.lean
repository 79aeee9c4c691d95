section PRb
/-- the piles of all frames agree -/
def PI_ (c r : Hp) : Prop := ∀ d, d < 12 → ∀ k, k < 8 → g_J c (57 + 4 * d + 2) k = g_J r 22 (8 * d + k)
/-- what a frame has put aside -/
def FA_ (d : Nat) (c r : Hp) : Prop := g_I c (57 + 4 * d) 8 = g_I r 24 d ∧ (g_I r 24 d = nI 0 ∨ (g_I r 24 d = nI 1 ∧ ((g_I c (57 + 4 * d) 9 = nI 0 ∧ g_I r 25 d = nI 0 ∧ g_J c (57 + 4 * d) 10 = g_J r 26 d) ∨
  (g_I c (57 + 4 * d) 9 = nI 1 ∧ ∃ k, 0 < k ∧ k < 13 ∧ g_I r 25 d = nI k ∧ g_I c (57 + 4 * d + 3) 0 = nI k ∧ g_J c (57 + 4 * d + 3) 1 = g_J r 26 d ∧ g_I c (57 + 4 * d + 3) 2 = g_I r 27 d ∧ g_I c (57 + 4 * d + 3) 3 = g_I r 28 d))))
/-- a frame: its routine, place, height, numbers -/
def FB_ (cnt : Nat) (rf : Nat → Option Nat) (d q p H L P : Nat) (c r : Hp) : Prop := (q < cnt ∧ rf d = some (105 + 8 * q)) ∧ (g_I c (57 + 4 * d) 4 = nI q ∧ g_I r 19 d = nI q) ∧ (g_I c (57 + 4 * d) 5 = nI p ∧ g_I r 20 d = nI p) ∧ (p < P ∧ P ≤ 30 ∧ g_I r 12 q = nI P) ∧ (L ≤ 6 ∧ g_I r 11 q = nI L) ∧ (∀ k, k < L → g_J c (57 + 4 * d + 1) k = g_J r 21 (6 * d + k)) ∧ (H ≤ 8 ∧ g_I c (57 + 4 * d) 7 = nI H ∧ g_I r 23 d = nI H)
abbrev RF_ (cnt : Nat) (rf : Nat → Option Nat) (d : Nat) (c r : Hp) : Prop := (∃ q p H L P, FB_ cnt rf d q p H L P c r) ∧ FA_ d c r
/-- nothing below frame d has changed -/
def LO_ (d : Nat) (c c' r r' : Hp) : Prop := (∀ a, 57 ≤ a → a < 57 + 4 * d → g_I c' a = g_I c a ∧ g_J c' a = g_J c a) ∧ (∀ e, e < d → g_I r' 19 e = g_I r 19 e ∧ g_I r' 20 e = g_I r 20 e ∧ g_I r' 23 e = g_I r 23 e ∧ g_I r' 24 e = g_I r 24 e ∧ g_I r' 25 e = g_I r 25 e ∧ g_I r' 27 e = g_I r 27 e ∧ g_I r' 28 e = g_I r 28 e ∧ g_J r' 26 e = g_J r 26 e) ∧ (∀ j, j < 6 * d → g_J r' 21 j = g_J r 21 j) ∧ g_I r' 11 = g_I r 11 ∧ g_I r' 12 = g_I r 12
theorem LO_RF {cnt d : Nat} {rf rf' : Nat → Option Nat} {c c' r r' : Hp} (l : LO_ d c c' r r') (h0 : ∀ e, e < d → rf' e = rf e) (m : ∀ e, e < d → RF_ cnt rf e c r) : ∀ e, e < d → RF_ cnt rf' e c' r' := by
  intro e he
  obtain ⟨l1, l2, l3, l4, l5⟩ := l
  obtain ⟨r19, r20, r23, r24, r25, r27, r28, r26⟩ := l2 e he
  obtain ⟨⟨q, p, H, L, P, ⟨a1, a2⟩, a3, a4, a5, ⟨a6, a6'⟩, a7, a8⟩, b⟩ := m e he
  have z0 := l1 (57 + 4 * e) (by omega) (by omega)
  have z1 := l1 (57 + 4 * e + 1) (by omega) (by omega)
  have z3 := l1 (57 + 4 * e + 3) (by omega) (by omega)
  refine ⟨⟨q, p, H, L, P, ⟨a1, by rw [h0 e he]; exact a2⟩, ?_, ?_, ?_, ?_, fun k hk => ?_, ?_⟩, ?_⟩
  · rw [z0.1, r19]; exact a3
  · rw [z0.1, r20]; exact a4
  · rw [l5]; exact a5
  · rw [l4]; exact ⟨a6, a6'⟩
  · rw [z1.2, l3 _ (by omega)]; exact a7 k hk
  · rw [z0.1, r23]; exact a8
  · unfold FA_ at *
    rw [z0.1, z0.2, z3.1, z3.2, r24, r25, r26, r27, r28]; exact b
/-- the rest of a run that is the same on both sides -/
def CM_ (s : Nat) (c r : Hp) : Prop := PI_ c r ∧ (g_I c 1 12 = nI s ∧ g_I r 0 47 = nI s) ∧ (g_I c 1 14 = g_I r 0 49 ∧ g_I c 1 15 = g_I r 0 50 ∧ g_I c 1 16 = g_I r 0 51) ∧ (∃ m, m ≤ 6 ∧ g_I c 1 11 = nI m ∧ g_I r 0 39 = nI m) ∧ (∃ M, M ≤ 60 ∧ g_I c 1 9 = nI M ∧ g_I r 0 41 = nI M ∧ ∀ i, i < M → g_J c 55 i = g_J r 29 i) ∧ g_J c 1 17 = g_J r 0 42
def EN_ (r : Hp) : Prop := g_I r 0 43 = nI 0 ∧ g_J r 0 44 = lN 0 ∧ g_I r 0 45 = mO ∧ g_I r 0 46 = mO
def GG_ (cnt K N : Nat) (rf : Nat → Option Nat) (c r : Hp) : Prop := Wc cnt rf c ∧ Wr r ∧ Rm c r ∧ Rt N c r ∧ Rk K N c r ∧ Rp cnt c r
def RU_ (cnt K N : Nat) (rf : Nat → Option Nat) (s o : Nat) (c r : Hp) : Prop := GG_ cnt K N rf c r ∧ CM_ s c r ∧ EN_ r ∧ (g_I c 1 10 = nI 3 ∧ g_I r 0 38 = nI 0) ∧ (∃ f, f < 25 ∧ g_I c 1 13 = nI f ∧ g_I r 0 48 = nI f) ∧ (o ≤ 12 ∧ g_I c 1 8 = nI o ∧ g_I r 0 23 = nI o) ∧ (∀ d, d < o → RF_ cnt rf d c r) ∧ (∀ d, d + 1 < o → g_I c (57 + 4 * d) 6 = g_I r 20 d + nI 1)
def FI_ (cnt K N : Nat) (rf : Nat → Option Nat) (s x : Nat) (c r : Hp) : Prop := GG_ cnt K N rf c r ∧ CM_ s c r ∧ (x < 3 ∧ g_I c 1 10 = nI x ∧ g_I r 0 38 = nI (x + 1)) ∧ g_I c 1 13 = g_I r 0 48 ∧ (x = 1 → g_I c 56 0 = g_I r 0 43 ∧ g_J c 56 1 = g_J r 0 44 ∧ g_I c 56 2 = g_I r 0 45 ∧ g_I c 56 3 = g_I r 0 46) ∧ (x ≠ 1 → EN_ r)
def Res_ (cnt N s : Nat) (c r : Hp) : Prop := (∃ K rf o, 1 ≤ o ∧ RU_ cnt K N rf s o c r) ∨ ∃ K rf x, FI_ cnt K N rf s x c r
/-- the fault that comes -/
def FT_ (c r : Hp) : Prop := (∃ k, 0 < k ∧ k < 13 ∧ g_I c 56 0 = nI k ∧ g_I r 0 34 = nI k) ∧ g_J c 56 1 = g_J r 0 35 ∧ g_I c 56 2 = g_I r 0 36 ∧ g_I c 56 3 = g_I r 0 37
abbrev FC_ (c c' : Hp) : Prop := Fq 1 55 104 (fun k => 8 ≤ k ∧ k ≤ 18) c c'
abbrev FR_ (r r' : Hp) : Prop := Fq 0 19 29 (fun k => 23 ≤ k ∧ k ≤ 51) r r'
theorem fC_i {c c1 : Hp} (x : FC_ c c1) {a k : Nat} {v : Int32} (ha : (55 ≤ a ∧ a ≤ 104) ∨ (a = 1 ∧ 8 ≤ k ∧ k ≤ 18)) : FC_ c (s_I c1 a k v) :=
  Fq_i x (ha.elim (fun h => Or.inl ⟨h.1, h.2, by omega⟩) (fun h => Or.inr h))
theorem fC_j {c c1 : Hp} (x : FC_ c c1) {a k : Nat} {v : Int64} (ha : (55 ≤ a ∧ a ≤ 104) ∨ (a = 1 ∧ 8 ≤ k ∧ k ≤ 18)) : FC_ c (s_J c1 a k v) :=
  Fq_j x (ha.elim (fun h => Or.inl ⟨h.1, h.2, by omega⟩) (fun h => Or.inr h))
theorem fR_i {c c1 : Hp} (x : FR_ c c1) {a k : Nat} {v : Int32} (ha : (19 ≤ a ∧ a ≤ 29) ∨ (a = 0 ∧ 23 ≤ k ∧ k ≤ 51)) : FR_ c (s_I c1 a k v) :=
  Fq_i x (ha.elim (fun h => Or.inl ⟨h.1, h.2, by omega⟩) (fun h => Or.inr h))
theorem fR_j {c c1 : Hp} (x : FR_ c c1) {a k : Nat} {v : Int64} (ha : (19 ≤ a ∧ a ≤ 29) ∨ (a = 0 ∧ 23 ≤ k ∧ k ≤ 51)) : FR_ c (s_J c1 a k v) :=
  Fq_j x (ha.elim (fun h => Or.inl ⟨h.1, h.2, by omega⟩) (fun h => Or.inr h))
theorem Rm_q {c c' r r' : Hp} {lo hi lo' hi' : Nat} {k1 k2 : Nat → Prop} (m : Rm c r) (f : Fq 1 lo hi k1 c c') (g : Fq 0 lo' hi' k2 r r') (h1 : 7 < lo ∨ hi < 3) (h2 : 5 < lo' ∨ hi' < 1) : Rm c' r' := by
  unfold Rm at *
  rw [(f.2.1 3 (by omega) (by omega)).1, (f.2.1 4 (by omega) (by omega)).1, (f.2.1 5 (by omega) (by omega)).1, (f.2.1 6 (by omega) (by omega)).1, (f.2.1 7 (by omega) (by omega)).2.1,
    (g.2.1 1 (by omega) (by omega)).1, (g.2.1 2 (by omega) (by omega)).1, (g.2.1 3 (by omega) (by omega)).1, (g.2.1 4 (by omega) (by omega)).2.1, (g.2.1 5 (by omega) (by omega)).2.2]
  exact m
theorem GG_f {cnt K N : Nat} {rf : Nat → Option Nat} {c c' r r' : Hp} (m : GG_ cnt K N rf c r) (f : FC_ c c') (g : FR_ r r') : GG_ cnt K N rf c' r' := by
  obtain ⟨m1, m2, m3, m4, m5, m6⟩ := m
  have hN := m4.2.2.n12
  refine ⟨Fq_wc f m1, Fq_ur g m2, Rm_q m3 f g (by omega) (by omega), Rt_f m4 f g (by omega) (by omega) (by omega), Rk_f m5 (Nat.le_refl _) hN f g (by omega) (by omega) (by omega), Rp_f m6 f g (by omega) (by omega) (by omega) (by omega)⟩
theorem PI_c {c c' r r' : Hp} (m : PI_ c r) (h1 : ∀ d, d < 12 → g_J c' (57 + 4 * d + 2) = g_J c (57 + 4 * d + 2)) (h2 : g_J r' 22 = g_J r 22) : PI_ c' r' := by
  intro d hd k hk
  rw [h1 d hd, h2]; exact m d hd k hk
/-- the numbers of a run that a change leaves as they are -/
def KS_ (c c' r r' : Hp) : Prop := (g_I c' 1 12 = g_I c 1 12 ∧ g_I r' 0 47 = g_I r 0 47) ∧ (g_I c' 1 11 = g_I c 1 11 ∧ g_I r' 0 39 = g_I r 0 39) ∧ (g_I c' 1 9 = g_I c 1 9 ∧ g_I r' 0 41 = g_I r 0 41) ∧ (g_J c' 55 = g_J c 55 ∧ g_J r' 29 = g_J r 29)
theorem CM_c {s : Nat} {c c' r r' : Hp} (m : CM_ s c r) (k : KS_ c c' r r') (pi : PI_ c' r') (k14 : g_I c' 1 14 = g_I r' 0 49) (k15 : g_I c' 1 15 = g_I r' 0 50) (k16 : g_I c' 1 16 = g_I r' 0 51) (k17 : g_J c' 1 17 = g_J r' 0 42) : CM_ s c' r' := by
  obtain ⟨m1, m2, m3, m4, m5, m6⟩ := m
  obtain ⟨⟨a1, a2⟩, ⟨a3, a4⟩, ⟨a5, a6⟩, a7, a8⟩ := k
  refine ⟨pi, ?_, ⟨k14, k15, k16⟩, ?_, ?_, k17⟩
  · rw [a1, a2]; exact m2
  · rw [a3, a4]; exact m4
  · rw [a5, a6, a7, a8]; exact m5
/-- a run whose frame d is now the last one -/
theorem RU_i {cnt K N s o d : Nat} {rf : Nat → Option Nat} {c c' r r' : Hp} (m : RU_ cnt K N rf s o c r) (hdo : d < o) (f : FC_ c c') (g : FR_ r r') (lo : LO_ d c c' r r') (ks : KS_ c c' r r') (pi : PI_ c' r')
    (k14 : g_I c' 1 14 = g_I r' 0 49) (k15 : g_I c' 1 15 = g_I r' 0 50) (k16 : g_I c' 1 16 = g_I r' 0 51) (k17 : g_J c' 1 17 = g_J c 1 17 ∧ g_J r' 0 42 = g_J r 0 42)
    (k10 : g_I c' 1 10 = g_I c 1 10 ∧ g_I r' 0 38 = g_I r 0 38) (kf : ∃ f, f < 25 ∧ g_I c' 1 13 = nI f ∧ g_I r' 0 48 = nI f) (ke : g_I r' 0 43 = g_I r 0 43 ∧ g_J r' 0 44 = g_J r 0 44 ∧ g_I r' 0 45 = g_I r 0 45 ∧ g_I r' 0 46 = g_I r 0 46)
    (k8 : g_I c' 1 8 = nI (d + 1) ∧ g_I r' 0 23 = nI (d + 1)) (top : RF_ cnt rf d c' r') : RU_ cnt K N rf s (d + 1) c' r' := by
  obtain ⟨m1, m2, m3, m4, m5, m6, m7, m8⟩ := m
  refine ⟨GG_f m1 f g, CM_c m2 ks pi k14 k15 k16 ?_, ?_, ?_, kf, ⟨by omega, k8.1, k8.2⟩, ?_, ?_⟩
  · rw [k17.1, k17.2]; exact m2.2.2.2.2.2
  · unfold EN_ at *
    rw [ke.1, ke.2.1, ke.2.2.1, ke.2.2.2]; exact m3
  · rw [k10.1, k10.2]; exact m4
  · intro e he
    by_cases h : e = d
    · subst h; exact top
    · exact LO_RF lo (fun _ _ => rfl) (fun e he => m7 e (by omega)) e (by omega)
  · intro e he
    rw [(lo.1 (57 + 4 * e) (by omega) (by omega)).1, (lo.2.1 e (by omega)).2.1]
    exact m8 e (by omega)
end PRb
