theorem iA_0_0 (κ : Kd) (h : Hp) : fX8_isA_b10 κ (nI 0) fu_ (nI 0) (nI 0) h = some (nI 1) := rfl
theorem iA_0_1 (κ : Kd) (h : Hp) : fX8_isA_b10 κ (nI 1) fu_ (nI 0) (nI 0) h = some (nI 0) := rfl
theorem iA_0_2 (κ : Kd) (h : Hp) : fX8_isA_b10 κ (nI 2) fu_ (nI 0) (nI 0) h = some (nI 0) := rfl
theorem iA_0_3 (κ : Kd) (h : Hp) : fX8_isA_b10 κ (nI 3) fu_ (nI 0) (nI 0) h = some (nI 0) := rfl
theorem iA_0_4 (κ : Kd) (h : Hp) : fX8_isA_b10 κ (nI 4) fu_ (nI 0) (nI 0) h = some (nI 0) := rfl
theorem iA_0_5 (κ : Kd) (h : Hp) : fX8_isA_b10 κ (nI 5) fu_ (nI 0) (nI 0) h = some (nI 0) := rfl
theorem iA_1_0 (κ : Kd) (h : Hp) : fX8_isA_b10 κ (nI 0) fu_ (nI 1) (nI 0) h = some (nI 1) := rfl
theorem iA_1_1 (κ : Kd) (h : Hp) : fX8_isA_b10 κ (nI 1) fu_ (nI 1) (nI 0) h = some (nI 1) := rfl
theorem iA_1_2 (κ : Kd) (h : Hp) : fX8_isA_b10 κ (nI 2) fu_ (nI 1) (nI 0) h = some (nI 0) := rfl
theorem iA_1_3 (κ : Kd) (h : Hp) : fX8_isA_b10 κ (nI 3) fu_ (nI 1) (nI 0) h = some (nI 0) := rfl
theorem iA_1_4 (κ : Kd) (h : Hp) : fX8_isA_b10 κ (nI 4) fu_ (nI 1) (nI 0) h = some (nI 0) := rfl
theorem iA_1_5 (κ : Kd) (h : Hp) : fX8_isA_b10 κ (nI 5) fu_ (nI 1) (nI 0) h = some (nI 0) := rfl
theorem iA_2_0 (κ : Kd) (h : Hp) : fX8_isA_b10 κ (nI 0) fu_ (nI 2) (nI 0) h = some (nI 1) := rfl
theorem iA_2_1 (κ : Kd) (h : Hp) : fX8_isA_b10 κ (nI 1) fu_ (nI 2) (nI 0) h = some (nI 1) := rfl
theorem iA_2_2 (κ : Kd) (h : Hp) : fX8_isA_b10 κ (nI 2) fu_ (nI 2) (nI 0) h = some (nI 1) := rfl
theorem iA_2_3 (κ : Kd) (h : Hp) : fX8_isA_b10 κ (nI 3) fu_ (nI 2) (nI 0) h = some (nI 0) := rfl
theorem iA_2_4 (κ : Kd) (h : Hp) : fX8_isA_b10 κ (nI 4) fu_ (nI 2) (nI 0) h = some (nI 0) := rfl
theorem iA_2_5 (κ : Kd) (h : Hp) : fX8_isA_b10 κ (nI 5) fu_ (nI 2) (nI 0) h = some (nI 0) := rfl
theorem iA_3_0 (κ : Kd) (h : Hp) : fX8_isA_b10 κ (nI 0) fu_ (nI 3) (nI 0) h = some (nI 1) := rfl
theorem iA_3_1 (κ : Kd) (h : Hp) : fX8_isA_b10 κ (nI 1) fu_ (nI 3) (nI 0) h = some (nI 1) := rfl
theorem iA_3_2 (κ : Kd) (h : Hp) : fX8_isA_b10 κ (nI 2) fu_ (nI 3) (nI 0) h = some (nI 1) := rfl
theorem iA_3_3 (κ : Kd) (h : Hp) : fX8_isA_b10 κ (nI 3) fu_ (nI 3) (nI 0) h = some (nI 1) := rfl
theorem iA_3_4 (κ : Kd) (h : Hp) : fX8_isA_b10 κ (nI 4) fu_ (nI 3) (nI 0) h = some (nI 0) := rfl
theorem iA_3_5 (κ : Kd) (h : Hp) : fX8_isA_b10 κ (nI 5) fu_ (nI 3) (nI 0) h = some (nI 0) := rfl
theorem iA_4_0 (κ : Kd) (h : Hp) : fX8_isA_b10 κ (nI 0) fu_ (nI 4) (nI 0) h = some (nI 1) := rfl
theorem iA_4_1 (κ : Kd) (h : Hp) : fX8_isA_b10 κ (nI 1) fu_ (nI 4) (nI 0) h = some (nI 0) := rfl
theorem iA_4_2 (κ : Kd) (h : Hp) : fX8_isA_b10 κ (nI 2) fu_ (nI 4) (nI 0) h = some (nI 0) := rfl
theorem iA_4_3 (κ : Kd) (h : Hp) : fX8_isA_b10 κ (nI 3) fu_ (nI 4) (nI 0) h = some (nI 0) := rfl
theorem iA_4_4 (κ : Kd) (h : Hp) : fX8_isA_b10 κ (nI 4) fu_ (nI 4) (nI 0) h = some (nI 1) := rfl
theorem iA_4_5 (κ : Kd) (h : Hp) : fX8_isA_b10 κ (nI 5) fu_ (nI 4) (nI 0) h = some (nI 0) := rfl
theorem iA_5_0 (κ : Kd) (h : Hp) : fX8_isA_b10 κ (nI 0) fu_ (nI 5) (nI 0) h = some (nI 1) := rfl
theorem iA_5_1 (κ : Kd) (h : Hp) : fX8_isA_b10 κ (nI 1) fu_ (nI 5) (nI 0) h = some (nI 0) := rfl
theorem iA_5_2 (κ : Kd) (h : Hp) : fX8_isA_b10 κ (nI 2) fu_ (nI 5) (nI 0) h = some (nI 0) := rfl
theorem iA_5_3 (κ : Kd) (h : Hp) : fX8_isA_b10 κ (nI 3) fu_ (nI 5) (nI 0) h = some (nI 0) := rfl
theorem iA_5_4 (κ : Kd) (h : Hp) : fX8_isA_b10 κ (nI 4) fu_ (nI 5) (nI 0) h = some (nI 1) := rfl
theorem iA_5_5 (κ : Kd) (h : Hp) : fX8_isA_b10 κ (nI 5) fu_ (nI 5) (nI 0) h = some (nI 1) := rfl
theorem sP_0 {ρ : Type} {f : Int32 → Option ρ} : s_ld 1 (nI 0) f = f (nI 4) := rfl
theorem sK_0 {ρ : Type} {f : Int32 → Option ρ} : s_ld 2 (nI 0) f = f (nI 0) := rfl
theorem sP_1 {ρ : Type} {f : Int32 → Option ρ} : s_ld 1 (nI 1) f = f (nI 3) := rfl
theorem sK_1 {ρ : Type} {f : Int32 → Option ρ} : s_ld 2 (nI 1) f = f (nI 1) := rfl
theorem sP_2 {ρ : Type} {f : Int32 → Option ρ} : s_ld 1 (nI 2) f = f (nI 3) := rfl
theorem sK_2 {ρ : Type} {f : Int32 → Option ρ} : s_ld 2 (nI 2) f = f (nI 1) := rfl
theorem sP_3 {ρ : Type} {f : Int32 → Option ρ} : s_ld 1 (nI 3) f = f (nI 3) := rfl
theorem sK_3 {ρ : Type} {f : Int32 → Option ρ} : s_ld 2 (nI 3) f = f (nI 1) := rfl
theorem sP_4 {ρ : Type} {f : Int32 → Option ρ} : s_ld 1 (nI 4) f = f (nI 2) := rfl
theorem sK_4 {ρ : Type} {f : Int32 → Option ρ} : s_ld 2 (nI 4) f = f (nI 4) := rfl
theorem sP_5 {ρ : Type} {f : Int32 → Option ρ} : s_ld 1 (nI 5) f = f (nI 2) := rfl
theorem sK_5 {ρ : Type} {f : Int32 → Option ρ} : s_ld 2 (nI 5) f = f (nI 4) := rfl
/-! both answer, and the answers agree -/
def Ag {α β : Type} (P : α → β → Prop) : Option α → Option β → Prop
  | some a, some b => P a b
  | _, _ => False
theorem Ag_e {α β : Type} {P : α → β → Prop} {x : Option α} {y : Option β} (h : Ag P x y) : ∃ a b, x = some a ∧ y = some b ∧ P a b := by
  match x, y, h with
  | some a, some b, h => exact ⟨a, b, rfl, rfl, h⟩
theorem Ag_i {α β : Type} {P : α → β → Prop} {x : Option α} {y : Option β} {a : α} {b : β} (h1 : x = some a) (h2 : y = some b) (h : P a b) : Ag P x y := by
  rw [h1, h2]; exact h
/-! frames with one cell of scalars -/
def Fq (a0 lo hi : Nat) (ks : Nat → Prop) (h h' : Hp) : Prop := g_R h' = g_R h ∧ (∀ a, (a < lo ∨ hi < a) → a ≠ a0 → g_I h' a = g_I h a ∧ g_J h' a = g_J h a ∧ g_D h' a = g_D h a) ∧ ∀ k, ¬ ks k → g_I h' a0 k = g_I h a0 k ∧ g_J h' a0 k = g_J h a0 k
section PQ
variable {a0 lo hi : Nat} {ks : Nat → Prop} {h h1 h2 : Hp}
theorem Fq_r (a0 lo hi : Nat) (ks : Nat → Prop) (h : Hp) : Fq a0 lo hi ks h h := ⟨rfl, fun _ _ _ => ⟨rfl, rfl, rfl⟩, fun _ _ => ⟨rfl, rfl⟩⟩
theorem Fq_t (x : Fq a0 lo hi ks h h1) (y : Fq a0 lo hi ks h1 h2) : Fq a0 lo hi ks h h2 :=
  ⟨y.1.trans x.1, fun a ha h0 => ⟨(y.2.1 a ha h0).1.trans (x.2.1 a ha h0).1, (y.2.1 a ha h0).2.1.trans (x.2.1 a ha h0).2.1, (y.2.1 a ha h0).2.2.trans (x.2.1 a ha h0).2.2⟩,
    fun k hk => ⟨(y.2.2 k hk).1.trans (x.2.2 k hk).1, (y.2.2 k hk).2.trans (x.2.2 k hk).2⟩⟩
theorem Fq_f (x : Fr lo hi h h1) (h0 : a0 < lo ∨ hi < a0) : Fq a0 lo hi ks h h1 :=
  ⟨x.1, fun a ha _ => x.2 a ha, fun k _ => ⟨by rw [(x.2 a0 h0).1], by rw [(x.2 a0 h0).2.1]⟩⟩
theorem Fq_i (x : Fq a0 lo hi ks h h1) {a k : Nat} {v : Int32} (ha : (lo ≤ a ∧ a ≤ hi ∧ a ≠ a0) ∨ (a = a0 ∧ ks k)) : Fq a0 lo hi ks h (s_I h1 a k v) :=
  Fq_t x ⟨rRI .., fun c hc h0 => ⟨rI_a _ _ _ _ (by omega), by rw [rJI], by rw [rDI]⟩, fun j hj => ⟨by
    rcases ha with ha | ⟨ha, hk⟩
    · rw [rI_a _ _ _ _ (by omega)]
    · subst ha; rw [rI_k _ _ _ _ (fun e => hj (by rw [e]; exact hk))], by rw [rJI]⟩⟩
theorem Fq_j (x : Fq a0 lo hi ks h h1) {a k : Nat} {v : Int64} (ha : (lo ≤ a ∧ a ≤ hi ∧ a ≠ a0) ∨ (a = a0 ∧ ks k)) : Fq a0 lo hi ks h (s_J h1 a k v) :=
  Fq_t x ⟨rRJ .., fun c hc h0 => ⟨by rw [rIJ], rJ_a _ _ _ _ (by omega), by rw [rDJ]⟩, fun j hj => ⟨by rw [rIJ], by
    rcases ha with ha | ⟨ha, hk⟩
    · rw [rJ_a _ _ _ _ (by omega)]
    · subst ha; rw [rJ_k _ _ _ _ (fun e => hj (by rw [e]; exact hk))]⟩⟩
theorem Fq_w {lo' hi' : Nat} {ks' : Nat → Prop} (x : Fq a0 lo hi ks h h1) (h1' : lo' ≤ lo) (h2 : hi ≤ hi') (h3 : ∀ k, ks k → ks' k) : Fq a0 lo' hi' ks' h h1 :=
  ⟨x.1, fun a ha h0 => x.2.1 a (by omega) h0, fun k hk => x.2.2 k fun h => hk (h3 k h)⟩
theorem Fq_wc {cnt : Nat} {rf : Nat → Option Nat} (x : Fq a0 lo hi ks h h1) (wc : Wc cnt rf h) : Wc cnt rf h1 := by
  unfold Wc at *; rw [x.1]; exact wc
theorem Fq_ur (x : Fq a0 lo hi ks h h1) (ur : Wr h) : Wr h1 := by
  unfold Wr at *; rw [x.1]; exact ur
end PQ
/-! the things -/
abbrev RT (N : Nat) (kd ct mk ow sh kd' ct' mk' ow' sh' : Nat → Int32) : Prop := (N ≤ 12) ∧ (∀ t, t < N → kd t = kd' t) ∧ (∀ t, t < N → ∃ k, k < 6 ∧ kd' t = nI k) ∧ (∀ t, t < N → ct t = ct' t) ∧ (∀ t, t < N → mk t = mk' t) ∧ (∀ t, t < N → ow t = ow' t) ∧ (∀ t, t < N → ∀ i, i < 4 → sh (4 * t + i) = sh' (4 * t + i)) ∧ (∀ t, N ≤ t → t < 12 → ct t = nI 0 ∧ mk t = nI 0 ∧ ow t = nI 0) ∧ (∀ t, N ≤ t → t < 12 → ∀ i, i < 4 → sh (4 * t + i) = mO)
theorem RT.n12 {N : Nat} {kd ct mk ow sh kd' ct' mk' ow' sh' : Nat → Int32} (m : RT N kd ct mk ow sh kd' ct' mk' ow' sh') : N ≤ 12 := m.1
theorem RT.ek {N : Nat} {kd ct mk ow sh kd' ct' mk' ow' sh' : Nat → Int32} (m : RT N kd ct mk ow sh kd' ct' mk' ow' sh') : ∀ t, t < N → kd t = kd' t := m.2.1
theorem RT.sk {N : Nat} {kd ct mk ow sh kd' ct' mk' ow' sh' : Nat → Int32} (m : RT N kd ct mk ow sh kd' ct' mk' ow' sh') : ∀ t, t < N → ∃ k, k < 6 ∧ kd' t = nI k := m.2.2.1
theorem RT.ec {N : Nat} {kd ct mk ow sh kd' ct' mk' ow' sh' : Nat → Int32} (m : RT N kd ct mk ow sh kd' ct' mk' ow' sh') : ∀ t, t < N → ct t = ct' t := m.2.2.2.1
theorem RT.em {N : Nat} {kd ct mk ow sh kd' ct' mk' ow' sh' : Nat → Int32} (m : RT N kd ct mk ow sh kd' ct' mk' ow' sh') : ∀ t, t < N → mk t = mk' t := m.2.2.2.2.1
theorem RT.eo {N : Nat} {kd ct mk ow sh kd' ct' mk' ow' sh' : Nat → Int32} (m : RT N kd ct mk ow sh kd' ct' mk' ow' sh') : ∀ t, t < N → ow t = ow' t := m.2.2.2.2.2.1
theorem RT.es {N : Nat} {kd ct mk ow sh kd' ct' mk' ow' sh' : Nat → Int32} (m : RT N kd ct mk ow sh kd' ct' mk' ow' sh') : ∀ t, t < N → ∀ i, i < 4 → sh (4 * t + i) = sh' (4 * t + i) := m.2.2.2.2.2.2.1
theorem RT.zc {N : Nat} {kd ct mk ow sh kd' ct' mk' ow' sh' : Nat → Int32} (m : RT N kd ct mk ow sh kd' ct' mk' ow' sh') : ∀ t, N ≤ t → t < 12 → ct t = nI 0 ∧ mk t = nI 0 ∧ ow t = nI 0 := m.2.2.2.2.2.2.2.1
theorem RT.zs {N : Nat} {kd ct mk ow sh kd' ct' mk' ow' sh' : Nat → Int32} (m : RT N kd ct mk ow sh kd' ct' mk' ow' sh') : ∀ t, N ≤ t → t < 12 → ∀ i, i < 4 → sh (4 * t + i) = mO := m.2.2.2.2.2.2.2.2
def Rt (N : Nat) (c r : Hp) : Prop := g_I c 8 5 = nI N ∧ g_I r 0 5 = nI N ∧ RT N (g_I c 9) (g_I c 10) (g_I c 11) (g_I c 12) (g_I c 13) (g_I r 6) (g_I r 7) (g_I r 8) (g_I r 9) (g_I r 10)
theorem Rt_f {N : Nat} {c c' r r' : Hp} {lo hi lo' hi' : Nat} {k1 k2 : Nat → Prop} (m : Rt N c r) (f : Fq 1 lo hi k1 c c') (g : Fq 0 lo' hi' k2 r r') (h1 : 13 < lo ∨ hi < 8) (h2 : 10 < lo' ∨ hi' < 6) (h3 : ¬ k2 5) : Rt N c' r' := by
  unfold Rt at *
  rw [(f.2.1 8 (by omega) (by omega)).1, (f.2.1 9 (by omega) (by omega)).1, (f.2.1 10 (by omega) (by omega)).1, (f.2.1 11 (by omega) (by omega)).1, (f.2.1 12 (by omega) (by omega)).1, (f.2.1 13 (by omega) (by omega)).1,
    (g.2.2 5 h3).1, (g.2.1 6 (by omega) (by omega)).1, (g.2.1 7 (by omega) (by omega)).1, (g.2.1 8 (by omega) (by omega)).1, (g.2.1 9 (by omega) (by omega)).1, (g.2.1 10 (by omega) (by omega)).1]
  exact m
theorem RT_c {N : Nat} {kd ct mk ow sh kd' ct' mk' ow' sh' : Nat → Int32} (m : RT N kd ct mk ow sh kd' ct' mk' ow' sh') {t : Nat} (ht : t < N) {x y z : Int32} :
    RT N kd (fun j => if j = t then x else ct j) (fun j => if j = t then y else mk j) (fun j => if j = t then z else ow j) sh kd' (fun j => if j = t then x else ct' j) (fun j => if j = t then y else mk' j) (fun j => if j = t then z else ow' j) sh' := by
  refine ⟨m.n12, m.ek, m.sk, fun j hj => ?_, fun j hj => ?_, fun j hj => ?_, m.es, fun j h1 h2 => ?_, m.zs⟩
  · show (if j = t then _ else _) = (if j = t then _ else _)
    rw [m.ec j hj]
  · show (if j = t then _ else _) = (if j = t then _ else _)
    rw [m.em j hj]
  · show (if j = t then _ else _) = (if j = t then _ else _)
    rw [m.eo j hj]
  · show (if j = t then _ else _) = _ ∧ (if j = t then _ else _) = _ ∧ (if j = t then _ else _) = _
    rw [if_neg (by omega), if_neg (by omega), if_neg (by omega)]
    exact m.zc j h1 h2
theorem if_id {f : Nat → Int32} {t : Nat} : (fun j => if j = t then f t else f j) = f := by
  funext j; split
  · rename_i h; rw [h]
  · rfl
theorem RT_c1 {N : Nat} {kd ct mk ow sh kd' ct' mk' ow' sh' : Nat → Int32} (m : RT N kd ct mk ow sh kd' ct' mk' ow' sh') {t : Nat} (ht : t < N) {x : Int32} :
    RT N kd (fun j => if j = t then x else ct j) mk ow sh kd' (fun j => if j = t then x else ct' j) mk' ow' sh' := by
  have := RT_c m ht (x := x) (y := mk t) (z := ow t)
  rw [if_id, if_id, m.em t ht, m.eo t ht, if_id, if_id] at this; exact this
theorem RT_m1 {N : Nat} {kd ct mk ow sh kd' ct' mk' ow' sh' : Nat → Int32} (m : RT N kd ct mk ow sh kd' ct' mk' ow' sh') {t : Nat} (ht : t < N) {x : Int32} :
    RT N kd ct (fun j => if j = t then x else mk j) ow sh kd' ct' (fun j => if j = t then x else mk' j) ow' sh' := by
  have := RT_c m ht (x := ct t) (y := x) (z := ow t)
  rw [if_id, if_id, m.ec t ht, m.eo t ht, if_id, if_id] at this; exact this
theorem RT_o1 {N : Nat} {kd ct mk ow sh kd' ct' mk' ow' sh' : Nat → Int32} (m : RT N kd ct mk ow sh kd' ct' mk' ow' sh') {t : Nat} (ht : t < N) {x : Int32} :
    RT N kd ct mk (fun j => if j = t then x else ow j) sh kd' ct' mk' (fun j => if j = t then x else ow' j) sh' := by
  have := RT_c m ht (x := ct t) (y := mk t) (z := x)
  rw [if_id, if_id, m.ec t ht, m.em t ht, if_id, if_id] at this; exact this
section PT
variable {cnt N : Nat} {rf : Nat → Option Nat} {c r : Hp}
/-- a message -/
def Sent (N : Nat) (c r : Hp) (x : Int32 × Hp) (r' : Hp) : Prop := ∃ code, code < 13 ∧ x.1 = nI code ∧ g_I r' 0 12 = nI code ∧ (code = 0 → g_I x.2 8 6 = g_I r' 0 11) ∧ (g_J r' 0 13 = if code = 11 then lN 50 else lN 0) ∧ Rt N x.2 r' ∧ Fq 1 8 13 (fun _ => False) c x.2 ∧ Fq 0 6 10 (fun k => k = 11 ∨ k = 12 ∨ k = 13) r r'
end PT
