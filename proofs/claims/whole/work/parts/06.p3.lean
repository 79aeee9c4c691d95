/-! frames of changes -/
def Fr (lo hi : Nat) (h h' : Hp) : Prop := g_R h' = g_R h ∧ ∀ a, (a < lo ∨ hi < a) → g_I h' a = g_I h a ∧ g_J h' a = g_J h a ∧ g_D h' a = g_D h a
theorem Fr_r (lo hi : Nat) (h : Hp) : Fr lo hi h h := ⟨rfl, fun _ _ => ⟨rfl, rfl, rfl⟩⟩
theorem Fr_t {lo hi : Nat} {h h1 h2 : Hp} (x : Fr lo hi h h1) (y : Fr lo hi h1 h2) : Fr lo hi h h2 :=
  ⟨y.1.trans x.1, fun a ha => ⟨(y.2 a ha).1.trans (x.2 a ha).1, (y.2 a ha).2.1.trans (x.2 a ha).2.1, (y.2 a ha).2.2.trans (x.2 a ha).2.2⟩⟩
theorem Fr_i {lo hi : Nat} {h h1 : Hp} (x : Fr lo hi h h1) {a k : Nat} {v : Int32} (ha : lo ≤ a ∧ a ≤ hi) : Fr lo hi h (s_I h1 a k v) :=
  Fr_t x ⟨rRI .., fun c hc => ⟨rI_a _ _ _ _ (by omega), by rw [rJI], by rw [rDI]⟩⟩
theorem Fr_j {lo hi : Nat} {h h1 : Hp} (x : Fr lo hi h h1) {a k : Nat} {v : Int64} (ha : lo ≤ a ∧ a ≤ hi) : Fr lo hi h (s_J h1 a k v) :=
  Fr_t x ⟨rRJ .., fun c hc => ⟨by rw [rIJ], rJ_a _ _ _ _ (by omega), by rw [rDJ]⟩⟩
theorem Fr_d {lo hi : Nat} {h h1 : Hp} (x : Fr lo hi h h1) {a k : Nat} {v : UInt64} (ha : lo ≤ a ∧ a ≤ hi) : Fr lo hi h (s_D h1 a k v) :=
  Fr_t x ⟨rRD .., fun c hc => ⟨by rw [rID], by rw [rJD], rD_a _ _ _ _ (by omega)⟩⟩
theorem Fr_w {lo hi lo' hi' : Nat} {h h1 : Hp} (x : Fr lo hi h h1) (h1' : lo' ≤ lo) (h2 : hi ≤ hi') : Fr lo' hi' h h1 :=
  ⟨x.1, fun a ha => x.2 a (by omega)⟩
theorem Fr_wc {lo hi : Nat} {h h1 : Hp} (x : Fr lo hi h h1) {cnt : Nat} {rf : Nat → Option Nat} (wc : Wc cnt rf h) : Wc cnt rf h1 := by
  unfold Wc at *; rw [x.1]; exact wc
theorem Fr_ur {lo hi : Nat} {h h1 : Hp} (x : Fr lo hi h h1) (ur : Wr h) : Wr h1 := by
  unfold Wr at *; rw [x.1]; exact ur
/-! the rows that use a body -/
def cuN (b : Nat → Int32) (k : Nat) : Nat → Nat
  | 0 => 0
  | n + 1 => cuN b k n + (if b n = nI k then 1 else 0)
theorem cuN_c {b b' : Nat → Int32} {k : Nat} : ∀ n, (∀ r, r < n → b r = b' r) → cuN b k n = cuN b' k n
  | 0, _ => rfl
  | n + 1, h => by
    unfold cuN
    rw [cuN_c n (fun r hr => h r (by omega)), h n (by omega)]
theorem cuN_u (b : Nat → Int32) (k r : Nat) (v : Int32) : ∀ n, r < n → cuN (fun j => if j = r then v else b j) k n + (if b r = nI k then 1 else 0) = cuN b k n + (if v = nI k then 1 else 0)
  | 0, h => by omega
  | n + 1, h => by
    unfold cuN
    by_cases e : n = r
    · subst e
      rw [cuN_c (b' := b) n (fun r hr => if_neg (by omega)), if_pos rfl]; omega
    · have := cuN_u b k r v n (by omega)
      rw [if_neg e]; omega
def toN (b : Nat → Int32) (n : Nat) : Nat → Nat
  | 0 => 0
  | k + 1 => toN b n k + cuN b k n
def onN (x : Int32) : Nat → Nat
  | 0 => 0
  | k + 1 => onN x k + (if x = nI k then 1 else 0)
theorem onN_0 {x : Int32} : ∀ m, (∀ k, k < m → x ≠ nI k) → onN x m = 0
  | 0, _ => rfl
  | m + 1, h => by
    unfold onN
    rw [onN_0 m (fun k hk => h k (by omega)), if_neg (h m (by omega))]
theorem onN_1 {x : Int32} : ∀ m, m ≤ 12 → onN x m ≤ 1
  | 0, _ => by unfold onN; omega
  | m + 1, h => by
    unfold onN
    by_cases e : x = nI m
    · rw [onN_0 m (fun k hk e2 => by
        rw [e2, e_eq (by omega) (by omega)] at e; omega), if_pos e]
      omega
    · have := onN_1 (x := x) m (by omega)
      rw [if_neg e]; omega
theorem toN_s (b : Nat → Int32) (n : Nat) : ∀ m, toN b (n + 1) m = toN b n m + onN (b n) m
  | 0 => rfl
  | m + 1 => by
    unfold toN onN
    rw [toN_s b n m]
    show _ + (cuN b m n + _) = _
    omega
theorem toN_0 (b : Nat → Int32) : ∀ m, toN b 0 m = 0
  | 0 => rfl
  | m + 1 => by unfold toN; rw [toN_0 b m]; rfl
theorem toN_le (b : Nat → Int32) : ∀ n, toN b n 12 ≤ n
  | 0 => by rw [toN_0]; omega
  | n + 1 => by
    have := toN_le b n
    have := onN_1 (x := b n) 12 (by omega)
    rw [toN_s]; omega
theorem toN_lt (b : Nat → Int32) {r : Nat} (hb : ∀ k, k < 12 → b r ≠ nI k) : ∀ n, r < n → toN b n 12 < n
  | 0, h => by omega
  | n + 1, h => by
    rw [toN_s]
    by_cases e : r = n
    · subst e
      have := toN_le b r
      rw [onN_0 12 hb]; omega
    · have := toN_lt b hb n (by omega)
      have := onN_1 (x := b n) 12 (by omega)
      omega
theorem cu_free (b : Nat → Int32) {r : Nat} (hr : r < 12) (hb : b r = mO) : ∃ k, k < 12 ∧ cuN b k 12 = 0 := by
  have := toN_lt b (r := r) (fun k hk e => by rw [hb, mO_nI (by omega)] at e; exact e) 12 hr
  refine Classical.byContradiction fun hn => ?_
  have hk : ∀ k, k < 12 → 1 ≤ cuN b k 12 := fun k hk => Nat.one_le_iff_ne_zero.mpr fun e => hn ⟨k, hk, e⟩
  have hm : ∀ m, m ≤ 12 → m ≤ toN b 12 m := by
    intro m
    induction m with
    | zero => intro _; omega
    | succ m ih =>
      intro h
      have := ih (by omega)
      have := hk m (by omega)
      unfold toN; omega
  have := hm 12 (by omega)
  omega
theorem cu_none {b : Nat → Int32} {k : Nat} : ∀ n, cuN b k n = 0 ↔ ∀ r, r < n → b r ≠ nI k
  | 0 => by simp [cuN]
  | n + 1 => by
    unfold cuN
    have := cu_none (b := b) (k := k) n
    constructor
    · intro h r hr e
      by_cases er : r = n
      · subst er; rw [if_pos e] at h; omega
      · exact this.mp (by omega) r (by omega) e
    · intro h
      rw [this.mpr (fun r hr => h r (by omega)), if_neg (h n (by omega))]
theorem cu_le {b : Nat → Int32} {k : Nat} : ∀ n, cuN b k n ≤ n
  | 0 => by unfold cuN; omega
  | n + 1 => by
    have := cu_le (b := b) (k := k) n
    unfold cuN; split <;> omega
/-! what a lane does with a number -/
def thr (l : Int32) (v : Int64) : Int64 := if l = nI 0 then v &&& lN 1 else if l = nI 1 then v.toInt32.toInt8.toInt32.toInt64 else if l = nI 2 then v.toInt32.toInt16.toInt32.toInt64 else if l = nI 3 then (v.toInt32.toUInt32 % 65536).toInt32.toInt64 else if l = nI 4 then v.toInt32.toInt64 else if l = nI 6 then FP.f2l (FP.l2f v) else if l = nI 7 then FP.d2l (FP.l2d v) else v
theorem thr_e (κ : Kd) (l : Int32) (v : Int64) (h : Hp) : fX3_through κ l v h = some (thr l v) := by
  by_cases h0 : l = nI 0
  · subst h0; rfl
  by_cases h1 : l = nI 1
  · subst h1; rfl
  by_cases h2 : l = nI 2
  · subst h2; rfl
  by_cases h3 : l = nI 3
  · subst h3; rfl
  by_cases h4 : l = nI 4
  · subst h4; rfl
  by_cases h6 : l = nI 6
  · subst h6; rfl
  by_cases h7 : l = nI 7
  · subst h7; rfl
  simp only [fX3_through, thr, L0, L1, L2, L3, L4, L6, L7, h0, h1, h2, h3, h4, h6, h7, if_false]
theorem as_e {n : Nat} (hn : n < 6) (v : Int64) (h : Hp) : fX10_as kR (nI n) v h = some (thr (nI n) v) := by
  have hc : n = 0 ∨ n = 1 ∨ n = 2 ∨ n = 3 ∨ n = 4 ∨ n = 5 := by omega
  rcases hc with rfl | rfl | rfl | rfl | rfl | rfl <;> rfl
def rea (l : Int32) (v : Int64) : UInt64 := if l = nI 6 then FP.f2d (FP.l2f v) else FP.l2d v
theorem dnan (a : UInt64) (h : FP.Core.dIsNaN a = false) : a &&& 0x7fffffffffffffff ≤ 0x7ff0000000000000 := by
  have h1 : ¬ (9218868437227405312 < a.toNat % 2 ^ 63) := fun hh => by rw [(FP.Core.isNaN_bits a).mpr hh] at h; cases h
  show (a &&& 0x7fffffffffffffff).toNat ≤ (0x7ff0000000000000 : UInt64).toNat
  rw [FP.Core.mask_toNat]
  exact Nat.not_lt.mp h1
theorem asReal_e (l : Int32) (v : Int64) (h : Hp) : fX10_asReal kR l v h = some (rea l v) := by
  have hn : FP.f2d (FP.l2f v) &&& 0x7fffffffffffffff ≤ 0x7ff0000000000000 := dnan _ (fp_n v)
  simp only [fX10_asReal, rea, apply_ite some, L6, hn, if_true]
theorem thr_6 (v : Int64) : thr (nI 6) v = FP.d2l (rea (nI 6) v) := by
  have : thr (nI 6) v = FP.f2l (FP.l2f v) := by simp [thr, e_eq]
  rw [this]
  exact fp_4 v
theorem thr_7 (v : Int64) : thr (nI 7) v = FP.d2l (rea (nI 7) v) := by
  have h1 : thr (nI 7) v = FP.d2l (FP.l2d v) := by simp [thr, e_eq]
  have h2 : rea (nI 7) v = FP.l2d v := by simp [rea, e_eq]
  rw [h1, h2]
theorem thr_idem {n : Nat} (hn : n < 8) (v : Int64) : thr (nI n) (thr (nI n) v) = thr (nI n) v := by
  have hc : n = 0 ∨ n = 1 ∨ n = 2 ∨ n = 3 ∨ n = 4 ∨ n = 5 ∨ n = 6 ∨ n = 7 := by omega
  rcases hc with rfl | rfl | rfl | rfl | rfl | rfl | rfl | rfl
  · simp only [thr, if_true]
    rw [Int64.and_assoc]; simp
  · simp [thr, e_eq]
  · simp [thr, e_eq]
  · simp [thr, e_eq]
    rw [show v.toInt32.toUInt32 % 65536 % 65536 = v.toInt32.toUInt32 % 65536 from UInt32.toNat_inj.mp (by simp)]
  · simp [thr, e_eq]
  · simp [thr, e_eq]
  · rw [thr_6, thr_6]
    simp only [rea, if_true]
    exact congrArg (fun z => FP.d2l (FP.f2d z)) (fp_2 v)
  · rw [thr_7, thr_7]
    have : ∀ v, rea (nI 7) v = FP.l2d v := fun v => by simp [rea, e_eq]
    rw [this, this]
    exact congrArg FP.d2l (fp_1 v)

/-- a number that a lane holds stays itself in the lanes into which it goes -/
theorem thr_wide {a b : Nat} (hab : (a = 1 ∧ (b = 2 ∨ b = 4 ∨ b = 5)) ∨ (a = 2 ∧ (b = 4 ∨ b = 5)) ∨ (a = 3 ∧ (b = 4 ∨ b = 5)) ∨ (a = 4 ∧ b = 5)) (x : Int64) (h : thr (nI a) x = x) : thr (nI b) x = x := by
  have h5 : thr (nI 5) x = x := by simp [thr, e_eq]
  rcases hab with ⟨rfl, rfl | rfl | rfl⟩ | ⟨rfl, rfl | rfl⟩ | ⟨rfl, rfl | rfl⟩ | ⟨rfl, rfl⟩
  all_goals first | exact h5 | (rw [← h]; simp [thr, e_eq])
/-- an item of the class beside the two of the reference -/
def Itm (l : Int32) (x w : Int64) (re : UInt64) : Prop := (∀ n, n < 6 → l = nI n → x = w ∧ thr l x = x) ∧ (l = nI 6 → ∃ v, re = FP.f2d (FP.l2f v) ∧ x = FP.d2l re) ∧ (l = nI 7 → ∃ v, re = FP.l2d v ∧ x = FP.d2l re)
abbrev RM (b u l s : Nat → Int32) (it : Nat → Int64) (b' l' s' : Nat → Int32) (w : Nat → Int64) (re : Nat → UInt64) : Prop := (∀ r, r < 12 → b r = b' r) ∧ (∀ k, k < 12 → l k = l' k) ∧ (∀ k, k < 12 → s k = s' k) ∧ (∀ r, r < 12 → b' r = mO ∨ ∃ k, k < 12 ∧ b' r = nI k) ∧ (∀ k, k < 12 → ∃ n, n < 8 ∧ l' k = nI n) ∧ (∀ k, k < 12 → ∃ n, n ≤ 12 ∧ s' k = nI n) ∧ (∀ k, k < 12 → u k = nI (cuN b' k 12)) ∧ (∀ k, k < 12 → ∀ i, i < 12 → Itm (l' k) (it (12 * k + i)) (w (12 * k + i)) (re (12 * k + i)))
theorem RM.eb {b u l s : Nat → Int32} {it : Nat → Int64} {b' l' s' : Nat → Int32} {w : Nat → Int64} {re : Nat → UInt64} (m : RM b u l s it b' l' s' w re) : ∀ r, r < 12 → b r = b' r := m.1
theorem RM.el {b u l s : Nat → Int32} {it : Nat → Int64} {b' l' s' : Nat → Int32} {w : Nat → Int64} {re : Nat → UInt64} (m : RM b u l s it b' l' s' w re) : ∀ k, k < 12 → l k = l' k := m.2.1
theorem RM.es {b u l s : Nat → Int32} {it : Nat → Int64} {b' l' s' : Nat → Int32} {w : Nat → Int64} {re : Nat → UInt64} (m : RM b u l s it b' l' s' w re) : ∀ k, k < 12 → s k = s' k := m.2.2.1
theorem RM.sb {b u l s : Nat → Int32} {it : Nat → Int64} {b' l' s' : Nat → Int32} {w : Nat → Int64} {re : Nat → UInt64} (m : RM b u l s it b' l' s' w re) : ∀ r, r < 12 → b' r = mO ∨ ∃ k, k < 12 ∧ b' r = nI k := m.2.2.2.1
theorem RM.sl {b u l s : Nat → Int32} {it : Nat → Int64} {b' l' s' : Nat → Int32} {w : Nat → Int64} {re : Nat → UInt64} (m : RM b u l s it b' l' s' w re) : ∀ k, k < 12 → ∃ n, n < 8 ∧ l' k = nI n := m.2.2.2.2.1
theorem RM.ss {b u l s : Nat → Int32} {it : Nat → Int64} {b' l' s' : Nat → Int32} {w : Nat → Int64} {re : Nat → UInt64} (m : RM b u l s it b' l' s' w re) : ∀ k, k < 12 → ∃ n, n ≤ 12 ∧ s' k = nI n := m.2.2.2.2.2.1
theorem RM.uu {b u l s : Nat → Int32} {it : Nat → Int64} {b' l' s' : Nat → Int32} {w : Nat → Int64} {re : Nat → UInt64} (m : RM b u l s it b' l' s' w re) : ∀ k, k < 12 → u k = nI (cuN b' k 12) := m.2.2.2.2.2.2.1
theorem RM.ii {b u l s : Nat → Int32} {it : Nat → Int64} {b' l' s' : Nat → Int32} {w : Nat → Int64} {re : Nat → UInt64} (m : RM b u l s it b' l' s' w re) : ∀ k, k < 12 → ∀ i, i < 12 → Itm (l' k) (it (12 * k + i)) (w (12 * k + i)) (re (12 * k + i)) := m.2.2.2.2.2.2.2
def Rm (c r : Hp) : Prop := RM (g_I c 3) (g_I c 4) (g_I c 5) (g_I c 6) (g_J c 7) (g_I r 1) (g_I r 2) (g_I r 3) (g_J r 4) (g_D r 5)
theorem Rm_f {c c' r r' : Hp} {lo hi lo' hi' : Nat} (m : Rm c r) (f : Fr lo hi c c') (g : Fr lo' hi' r r') (h1 : 7 < lo ∨ hi < 3) (h2 : 5 < lo' ∨ hi' < 1) : Rm c' r' := by
  unfold Rm at *
  rw [(f.2 3 (by omega)).1, (f.2 4 (by omega)).1, (f.2 5 (by omega)).1, (f.2 6 (by omega)).1, (f.2 7 (by omega)).2.1,
    (g.2 1 (by omega)).1, (g.2 2 (by omega)).1, (g.2 3 (by omega)).1, (g.2 4 (by omega)).2.1, (g.2 5 (by omega)).2.2]
  exact m
