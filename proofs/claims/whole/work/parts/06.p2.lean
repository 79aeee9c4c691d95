/-! evaluation rows: words of the two worlds, numbers as naturals -/
theorem L0 : (0 : Int32) = nI 0 := rfl
theorem L1 : (1 : Int32) = nI 1 := rfl
theorem L2 : (2 : Int32) = nI 2 := rfl
theorem L3 : (3 : Int32) = nI 3 := rfl
theorem L4 : (4 : Int32) = nI 4 := rfl
theorem L5 : (5 : Int32) = nI 5 := rfl
theorem L6 : (6 : Int32) = nI 6 := rfl
theorem L7 : (7 : Int32) = nI 7 := rfl
theorem L8 : (8 : Int32) = nI 8 := rfl
theorem L9 : (9 : Int32) = nI 9 := rfl
theorem L10 : (10 : Int32) = nI 10 := rfl
theorem L11 : (11 : Int32) = nI 11 := rfl
theorem L12 : (12 : Int32) = nI 12 := rfl
theorem L13 : (13 : Int32) = nI 13 := rfl
theorem L14 : (14 : Int32) = nI 14 := rfl
theorem L15 : (15 : Int32) = nI 15 := rfl
theorem L16 : (16 : Int32) = nI 16 := rfl
theorem L17 : (17 : Int32) = nI 17 := rfl
theorem L18 : (18 : Int32) = nI 18 := rfl
theorem L19 : (19 : Int32) = nI 19 := rfl
theorem L20 : (20 : Int32) = nI 20 := rfl
theorem L21 : (21 : Int32) = nI 21 := rfl
theorem L22 : (22 : Int32) = nI 22 := rfl
theorem L23 : (23 : Int32) = nI 23 := rfl
theorem L24 : (24 : Int32) = nI 24 := rfl
theorem L25 : (25 : Int32) = nI 25 := rfl
theorem L26 : (26 : Int32) = nI 26 := rfl
theorem L27 : (27 : Int32) = nI 27 := rfl
theorem L28 : (28 : Int32) = nI 28 := rfl
theorem L29 : (29 : Int32) = nI 29 := rfl
theorem L30 : (30 : Int32) = nI 30 := rfl
theorem L50 : (50 : Int32) = nI 50 := rfl
theorem L60 : (60 : Int32) = nI 60 := rfl
theorem L100 : (100 : Int32) = nI 100 := rfl
theorem L144 : (144 : Int32) = nI 144 := rfl
theorem L300 : (300 : Int32) = nI 300 := rfl
theorem J0 : (0 : Int64) = lN 0 := rfl
theorem J1 : (1 : Int64) = lN 1 := rfl
theorem J2 : (2 : Int64) = lN 2 := rfl
theorem J5 : (5 : Int64) = lN 5 := rfl
theorem J6 : (6 : Int64) = lN 6 := rfl
theorem J7 : (7 : Int64) = lN 7 := rfl
theorem J8 : (8 : Int64) = lN 8 := rfl
theorem J11 : (11 : Int64) = lN 11 := rfl
theorem J12 : (12 : Int64) = lN 12 := rfl
theorem J18 : (18 : Int64) = lN 18 := rfl
theorem J29 : (29 : Int64) = lN 29 := rfl
theorem J50 : (50 : Int64) = lN 50 := rfl
def mO : Int32 := -1
def oL : Int64 := -1
theorem mO_e : -nI 1 = mO := rfl
theorem oL_e : -lN 1 = oL := rfl
theorem mO_toInt : mO.toInt = -1 := rfl
theorem oL_toInt : oL.toInt = -1 := rfl
theorem i_ext {x y : Int32} (h : x.toInt = y.toInt) : x = y := Int32.toInt_inj.mp h
theorem l_ext {x y : Int64} (h : x.toInt = y.toInt) : x = y := Int64.toInt_inj.mp h
theorem nI_mO {j : Nat} (h : j < 2147483648) : (nI j = mO) ↔ False := by
  refine ⟨fun e => ?_, False.elim⟩
  have := congrArg Int32.toInt e
  rw [tI_nI h, mO_toInt] at this; omega
theorem mO_nI {j : Nat} (h : j < 2147483648) : (mO = nI j) ↔ False := by rw [eq_comm]; exact nI_mO h
theorem mO_lt {j : Nat} (h : j < 2147483648) : (mO < nI j) ↔ True := by
  refine ⟨fun _ => trivial, fun _ => ?_⟩
  rw [Int32.lt_iff_toInt_lt, tI_nI h, mO_toInt]; omega
theorem nlt_mO {j : Nat} (h : j < 2147483648) : (nI j < mO) ↔ False := by
  refine ⟨fun e => ?_, False.elim⟩
  rw [Int32.lt_iff_toInt_lt, tI_nI h, mO_toInt] at e; omega
theorem mO_le {j : Nat} (h : j < 2147483648) : (mO ≤ nI j) ↔ True := by
  refine ⟨fun _ => trivial, fun _ => ?_⟩
  rw [Int32.le_iff_toInt_le, tI_nI h, mO_toInt]; omega
theorem nle_mO {j : Nat} (h : j < 2147483648) : (nI j ≤ mO) ↔ False := by
  refine ⟨fun e => ?_, False.elim⟩
  rw [Int32.le_iff_toInt_le, tI_nI h, mO_toInt] at e; omega
theorem nI_subn {a b : Nat} (h : b ≤ a) : nI a - nI b = nI (a - b) := by
  unfold nI
  rw [Int32.ofNat_sub _ _ h]
theorem nI_muln (a b : Nat) : nI a * nI b = nI (a * b) := by
  unfold nI
  rw [Int32.ofNat_mul]
theorem e_lt {a b : Nat} (ha : a < 2147483648) (hb : b < 2147483648) : (nI a < nI b) ↔ a < b := nI_ltI (by omega) (by omega)
theorem e_le {a b : Nat} (ha : a < 2147483648) (hb : b < 2147483648) : (nI a ≤ nI b) ↔ a ≤ b := nI_leI (by omega) (by omega)
theorem e_eq {a b : Nat} (ha : a < 2147483648) (hb : b < 2147483648) : (nI a = nI b) ↔ a = b := nI_eq (by omega) (by omega)
theorem q_lt {a b : Nat} (ha : a < 2147483648) (hb : b < 2147483648) : (lN a < lN b) ↔ a < b := lN_lt (by omega) (by omega)
theorem q_le {a b : Nat} (ha : a < 2147483648) (hb : b < 2147483648) : (lN a ≤ lN b) ↔ a ≤ b := lN_le (by omega) (by omega)
theorem q_eq {a b : Nat} (ha : a < 2147483648) (hb : b < 2147483648) : (lN a = lN b) ↔ a = b := lN_eq (by omega) (by omega)
theorem i_l {n : Nat} (h : n < 2147483648) : (nI n).toInt64 = lN n := nI_l (by omega)
theorem mO_l : mO.toInt64 = oL := rfl
theorem tL_lN {n : Nat} (h : n < 2147483648) : (lN n).toInt = (n : Int) := lN_toInt (by omega)
theorem oL_lt {j : Nat} (h : j < 2147483648) : (oL < lN j) ↔ True := by
  refine ⟨fun _ => trivial, fun _ => ?_⟩
  rw [Int64.lt_iff_toInt_lt, tL_lN h, oL_toInt]; omega
theorem nlt_oL {j : Nat} (h : j < 2147483648) : (lN j < oL) ↔ False := by
  refine ⟨fun e => ?_, False.elim⟩
  rw [Int64.lt_iff_toInt_lt, tL_lN h, oL_toInt] at e; omega
theorem nI_oL {j : Nat} (h : j < 2147483648) : (lN j = oL) ↔ False := by
  refine ⟨fun e => ?_, False.elim⟩
  have := congrArg Int64.toInt e
  rw [tL_lN h, oL_toInt] at this; omega
/-- an int is below nothing, or a natural -/
theorem i_cs (x : Int32) : x < nI 0 ∨ ∃ j, j < 2147483648 ∧ x = nI j := by
  by_cases h : x < nI 0
  · exact Or.inl h
  · obtain ⟨j, hj, e⟩ := nI_of h
    exact Or.inr ⟨j, by omega, e⟩
theorem l_cs (x : Int64) (n : Nat) (hn : n < 2147483648) : x < lN 0 ∨ (∃ j, j < n ∧ x = lN j) ∨ (¬ x < lN 0 ∧ ¬ x < lN n) := by
  by_cases h : x < lN 0
  · exact Or.inl h
  · by_cases h2 : x < lN n
    · refine Or.inr (Or.inl ⟨x.toInt.toNat, ?_, l_ext ?_⟩)
      · rw [Int64.lt_iff_toInt_lt, tL_lN (by omega)] at h h2; omega
      · rw [Int64.lt_iff_toInt_lt, tL_lN (by omega)] at h h2
        rw [tL_lN (by omega)]; omega
    · exact Or.inr (Or.inr ⟨h, h2⟩)
theorem l_neg {x : Int32} (h : x < nI 0) : x.toInt64 < lN 0 := by
  rw [Int32.lt_iff_toInt_lt, tI_nI (by omega)] at h
  rw [Int64.lt_iff_toInt_lt, tL_lN (by omega), Int32.toInt_toInt64]; exact h
theorem l_big {x : Int64} {n m : Nat} (h : ¬ x < lN n) (hn : n < 2147483648) (hm : m < n) : lN m < x := by
  rw [Int64.lt_iff_toInt_lt, tL_lN hn] at h
  rw [Int64.lt_iff_toInt_lt, tL_lN (by omega)]; omega
theorem l_ge {x : Int64} {n : Nat} (h : ¬ x < lN n) : lN n ≤ x := Int64.not_lt.mp h
theorem i_lt0 {x : Int32} (h : x < nI 0) (j : Nat) (hj : j < 2147483648) : x ≤ nI j ∧ x < nI j ∧ ¬ nI j ≤ x ∧ ¬ nI j < x ∧ ¬ x = nI j := by
  rw [Int32.lt_iff_toInt_lt, tI_nI (by omega)] at h
  rw [Int32.lt_iff_toInt_lt, Int32.le_iff_toInt_le, Int32.lt_iff_toInt_lt, Int32.le_iff_toInt_le, tI_nI hj]
  refine ⟨by omega, by omega, by omega, by omega, fun e => ?_⟩
  rw [e, tI_nI hj] at h; omega
theorem C0_t {n : Nat} {ρ : Type} {f : Nat → Option ρ} : to_ (kC n) (some (0)) 8 f = f (0) := to_s (by rw [kC_0])
theorem C1_t {n : Nat} {ρ : Type} {f : Nat → Option ρ} : to_ (kC n) (some (1)) 4 f = f (1) := to_s (by rw [kC_1])
theorem C2_t {n : Nat} {ρ : Type} {f : Nat → Option ρ} : to_ (kC n) (some (2)) 5 f = f (2) := to_s (by rw [kC_2])
theorem C3_t {n : Nat} {ρ : Type} {f : Nat → Option ρ} : to_ (kC n) (some (3)) 50 f = f (3) := to_s (by rw [kC_3])
theorem C3_a {n : Nat} {ρ : Type} {h : Hp} {j : Nat} {f : Int32 → Option ρ} (hj : j < 12) : a_I (kC n) h (3) (nI j) f = f (g_I h (3) j) := aI_n (by rw [kC_3]; exact hj) (by rw [kC_3]; omega)
theorem C3_w {n : Nat} {ρ : Type} {h : Hp} {j : Nat} {x : Int32} {f : Hp → Option ρ} (hj : j < 12) : w_I (kC n) h (3) (nI j) x f = f (s_I h (3) j x) := wI_n (by rw [kC_3]; exact hj) (by rw [kC_3]; omega)
theorem C4_t {n : Nat} {ρ : Type} {f : Nat → Option ρ} : to_ (kC n) (some (4)) 50 f = f (4) := to_s (by rw [kC_4])
theorem C4_a {n : Nat} {ρ : Type} {h : Hp} {j : Nat} {f : Int32 → Option ρ} (hj : j < 12) : a_I (kC n) h (4) (nI j) f = f (g_I h (4) j) := aI_n (by rw [kC_4]; exact hj) (by rw [kC_4]; omega)
theorem C4_w {n : Nat} {ρ : Type} {h : Hp} {j : Nat} {x : Int32} {f : Hp → Option ρ} (hj : j < 12) : w_I (kC n) h (4) (nI j) x f = f (s_I h (4) j x) := wI_n (by rw [kC_4]; exact hj) (by rw [kC_4]; omega)
theorem C5_t {n : Nat} {ρ : Type} {f : Nat → Option ρ} : to_ (kC n) (some (5)) 50 f = f (5) := to_s (by rw [kC_5])
theorem C5_a {n : Nat} {ρ : Type} {h : Hp} {j : Nat} {f : Int32 → Option ρ} (hj : j < 12) : a_I (kC n) h (5) (nI j) f = f (g_I h (5) j) := aI_n (by rw [kC_5]; exact hj) (by rw [kC_5]; omega)
theorem C5_w {n : Nat} {ρ : Type} {h : Hp} {j : Nat} {x : Int32} {f : Hp → Option ρ} (hj : j < 12) : w_I (kC n) h (5) (nI j) x f = f (s_I h (5) j x) := wI_n (by rw [kC_5]; exact hj) (by rw [kC_5]; omega)
theorem C6_t {n : Nat} {ρ : Type} {f : Nat → Option ρ} : to_ (kC n) (some (6)) 50 f = f (6) := to_s (by rw [kC_6])
theorem C6_a {n : Nat} {ρ : Type} {h : Hp} {j : Nat} {f : Int32 → Option ρ} (hj : j < 12) : a_I (kC n) h (6) (nI j) f = f (g_I h (6) j) := aI_n (by rw [kC_6]; exact hj) (by rw [kC_6]; omega)
theorem C6_w {n : Nat} {ρ : Type} {h : Hp} {j : Nat} {x : Int32} {f : Hp → Option ρ} (hj : j < 12) : w_I (kC n) h (6) (nI j) x f = f (s_I h (6) j x) := wI_n (by rw [kC_6]; exact hj) (by rw [kC_6]; omega)
theorem C7_t {n : Nat} {ρ : Type} {f : Nat → Option ρ} : to_ (kC n) (some (7)) 51 f = f (7) := to_s (by rw [kC_7])
theorem C7_a {n : Nat} {ρ : Type} {h : Hp} {j : Nat} {f : Int64 → Option ρ} (hj : j < 144) : a_J (kC n) h (7) (nI j) f = f (g_J h (7) j) := aJ_n (by rw [kC_7]; exact hj) (by rw [kC_7]; omega)
theorem C7_w {n : Nat} {ρ : Type} {h : Hp} {j : Nat} {x : Int64} {f : Hp → Option ρ} (hj : j < 144) : w_J (kC n) h (7) (nI j) x f = f (s_J h (7) j x) := wJ_n (by rw [kC_7]; exact hj) (by rw [kC_7]; omega)
theorem C8_t {n : Nat} {ρ : Type} {f : Nat → Option ρ} : to_ (kC n) (some (8)) 7 f = f (8) := to_s (by rw [kC_8])
theorem C9_t {n : Nat} {ρ : Type} {f : Nat → Option ρ} : to_ (kC n) (some (9)) 50 f = f (9) := to_s (by rw [kC_9])
theorem C9_a {n : Nat} {ρ : Type} {h : Hp} {j : Nat} {f : Int32 → Option ρ} (hj : j < 12) : a_I (kC n) h (9) (nI j) f = f (g_I h (9) j) := aI_n (by rw [kC_9]; exact hj) (by rw [kC_9]; omega)
theorem C9_w {n : Nat} {ρ : Type} {h : Hp} {j : Nat} {x : Int32} {f : Hp → Option ρ} (hj : j < 12) : w_I (kC n) h (9) (nI j) x f = f (s_I h (9) j x) := wI_n (by rw [kC_9]; exact hj) (by rw [kC_9]; omega)
theorem C10_t {n : Nat} {ρ : Type} {f : Nat → Option ρ} : to_ (kC n) (some (10)) 50 f = f (10) := to_s (by rw [kC_10])
theorem C10_a {n : Nat} {ρ : Type} {h : Hp} {j : Nat} {f : Int32 → Option ρ} (hj : j < 12) : a_I (kC n) h (10) (nI j) f = f (g_I h (10) j) := aI_n (by rw [kC_10]; exact hj) (by rw [kC_10]; omega)
theorem C10_w {n : Nat} {ρ : Type} {h : Hp} {j : Nat} {x : Int32} {f : Hp → Option ρ} (hj : j < 12) : w_I (kC n) h (10) (nI j) x f = f (s_I h (10) j x) := wI_n (by rw [kC_10]; exact hj) (by rw [kC_10]; omega)
theorem C11_t {n : Nat} {ρ : Type} {f : Nat → Option ρ} : to_ (kC n) (some (11)) 50 f = f (11) := to_s (by rw [kC_11])
theorem C11_a {n : Nat} {ρ : Type} {h : Hp} {j : Nat} {f : Int32 → Option ρ} (hj : j < 12) : a_I (kC n) h (11) (nI j) f = f (g_I h (11) j) := aI_n (by rw [kC_11]; exact hj) (by rw [kC_11]; omega)
theorem C11_w {n : Nat} {ρ : Type} {h : Hp} {j : Nat} {x : Int32} {f : Hp → Option ρ} (hj : j < 12) : w_I (kC n) h (11) (nI j) x f = f (s_I h (11) j x) := wI_n (by rw [kC_11]; exact hj) (by rw [kC_11]; omega)
theorem C12_t {n : Nat} {ρ : Type} {f : Nat → Option ρ} : to_ (kC n) (some (12)) 50 f = f (12) := to_s (by rw [kC_12])
theorem C12_a {n : Nat} {ρ : Type} {h : Hp} {j : Nat} {f : Int32 → Option ρ} (hj : j < 12) : a_I (kC n) h (12) (nI j) f = f (g_I h (12) j) := aI_n (by rw [kC_12]; exact hj) (by rw [kC_12]; omega)
theorem C12_w {n : Nat} {ρ : Type} {h : Hp} {j : Nat} {x : Int32} {f : Hp → Option ρ} (hj : j < 12) : w_I (kC n) h (12) (nI j) x f = f (s_I h (12) j x) := wI_n (by rw [kC_12]; exact hj) (by rw [kC_12]; omega)
theorem C13_t {n : Nat} {ρ : Type} {f : Nat → Option ρ} : to_ (kC n) (some (13)) 50 f = f (13) := to_s (by rw [kC_13])
theorem C13_a {n : Nat} {ρ : Type} {h : Hp} {j : Nat} {f : Int32 → Option ρ} (hj : j < 48) : a_I (kC n) h (13) (nI j) f = f (g_I h (13) j) := aI_n (by rw [kC_13]; exact hj) (by rw [kC_13]; omega)
theorem C13_w {n : Nat} {ρ : Type} {h : Hp} {j : Nat} {x : Int32} {f : Hp → Option ρ} (hj : j < 48) : w_I (kC n) h (13) (nI j) x f = f (s_I h (13) j x) := wI_n (by rw [kC_13]; exact hj) (by rw [kC_13]; omega)
theorem C14_t {n : Nat} {ρ : Type} {f : Nat → Option ρ} : to_ (kC n) (some (14)) 3 f = f (14) := to_s (by rw [kC_14])
theorem C15_t {n : Nat} {ρ : Type} {f : Nat → Option ρ} : to_ (kC n) (some (15)) 58 f = f (15) := to_s (by rw [kC_15])
theorem C15_a {n : Nat} {ρ : Type} {h : Hp} {j kd : Nat} {f : Nat → Option ρ} (hj : j < 3) : a_R (kC n) h (15) (nI j) kd f = to_ (kC n) (g_R h (15) j) kd f := aR_n (by rw [kC_15]; exact hj) (by rw [kC_15]; omega)
theorem C16_t {n : Nat} {ρ : Type} {f : Nat → Option ρ} : to_ (kC n) (some (16)) 60 f = f (16) := to_s (by rw [kC_16])
theorem C16_a {n : Nat} {ρ : Type} {h : Hp} {j kd : Nat} {f : Nat → Option ρ} (hj : j < 3) : a_R (kC n) h (16) (nI j) kd f = to_ (kC n) (g_R h (16) j) kd f := aR_n (by rw [kC_16]; exact hj) (by rw [kC_16]; omega)
theorem C53_t {n : Nat} {ρ : Type} {f : Nat → Option ρ} : to_ (kC n) (some (53)) 59 f = f (53) := to_s (by rw [kC_53])
theorem C53_a {n : Nat} {ρ : Type} {h : Hp} {j kd : Nat} {f : Nat → Option ρ} (hj : j < 12) : a_R (kC n) h (53) (nI j) kd f = to_ (kC n) (g_R h (53) j) kd f := aR_n (by rw [kC_53]; exact hj) (by rw [kC_53]; omega)
theorem C54_t {n : Nat} {ρ : Type} {f : Nat → Option ρ} : to_ (kC n) (some (54)) 55 f = f (54) := to_s (by rw [kC_54])
theorem C54_a {n : Nat} {ρ : Type} {h : Hp} {j kd : Nat} {f : Nat → Option ρ} (hj : j < 12) : a_R (kC n) h (54) (nI j) kd f = to_ (kC n) (g_R h (54) j) kd f := aR_n (by rw [kC_54]; exact hj) (by rw [kC_54]; omega)
theorem C55_t {n : Nat} {ρ : Type} {f : Nat → Option ρ} : to_ (kC n) (some (55)) 51 f = f (55) := to_s (by rw [kC_55])
theorem C55_a {n : Nat} {ρ : Type} {h : Hp} {j : Nat} {f : Int64 → Option ρ} (hj : j < 60) : a_J (kC n) h (55) (nI j) f = f (g_J h (55) j) := aJ_n (by rw [kC_55]; exact hj) (by rw [kC_55]; omega)
theorem C55_w {n : Nat} {ρ : Type} {h : Hp} {j : Nat} {x : Int64} {f : Hp → Option ρ} (hj : j < 60) : w_J (kC n) h (55) (nI j) x f = f (s_J h (55) j x) := wJ_n (by rw [kC_55]; exact hj) (by rw [kC_55]; omega)
theorem C56_t {n : Nat} {ρ : Type} {f : Nat → Option ρ} : to_ (kC n) (some (56)) 1 f = f (56) := to_s (by rw [kC_56])
theorem R0_t {ρ : Type} {f : Nat → Option ρ} : to_ kR (some (0)) 9 f = f (0) := to_s (by rw [kR_0])
theorem R1_t {ρ : Type} {f : Nat → Option ρ} : to_ kR (some (1)) 50 f = f (1) := to_s (by rw [kR_1])
theorem R1_a {ρ : Type} {h : Hp} {j : Nat} {f : Int32 → Option ρ} (hj : j < 12) : a_I kR h (1) (nI j) f = f (g_I h (1) j) := aI_n (by rw [kR_1]; exact hj) (by rw [kR_1]; omega)
theorem R1_w {ρ : Type} {h : Hp} {j : Nat} {x : Int32} {f : Hp → Option ρ} (hj : j < 12) : w_I kR h (1) (nI j) x f = f (s_I h (1) j x) := wI_n (by rw [kR_1]; exact hj) (by rw [kR_1]; omega)
theorem R2_t {ρ : Type} {f : Nat → Option ρ} : to_ kR (some (2)) 50 f = f (2) := to_s (by rw [kR_2])
theorem R2_a {ρ : Type} {h : Hp} {j : Nat} {f : Int32 → Option ρ} (hj : j < 12) : a_I kR h (2) (nI j) f = f (g_I h (2) j) := aI_n (by rw [kR_2]; exact hj) (by rw [kR_2]; omega)
theorem R2_w {ρ : Type} {h : Hp} {j : Nat} {x : Int32} {f : Hp → Option ρ} (hj : j < 12) : w_I kR h (2) (nI j) x f = f (s_I h (2) j x) := wI_n (by rw [kR_2]; exact hj) (by rw [kR_2]; omega)
theorem R3_t {ρ : Type} {f : Nat → Option ρ} : to_ kR (some (3)) 50 f = f (3) := to_s (by rw [kR_3])
theorem R3_a {ρ : Type} {h : Hp} {j : Nat} {f : Int32 → Option ρ} (hj : j < 12) : a_I kR h (3) (nI j) f = f (g_I h (3) j) := aI_n (by rw [kR_3]; exact hj) (by rw [kR_3]; omega)
theorem R3_w {ρ : Type} {h : Hp} {j : Nat} {x : Int32} {f : Hp → Option ρ} (hj : j < 12) : w_I kR h (3) (nI j) x f = f (s_I h (3) j x) := wI_n (by rw [kR_3]; exact hj) (by rw [kR_3]; omega)
theorem R4_t {ρ : Type} {f : Nat → Option ρ} : to_ kR (some (4)) 51 f = f (4) := to_s (by rw [kR_4])
theorem R4_a {ρ : Type} {h : Hp} {j : Nat} {f : Int64 → Option ρ} (hj : j < 144) : a_J kR h (4) (nI j) f = f (g_J h (4) j) := aJ_n (by rw [kR_4]; exact hj) (by rw [kR_4]; omega)
theorem R4_w {ρ : Type} {h : Hp} {j : Nat} {x : Int64} {f : Hp → Option ρ} (hj : j < 144) : w_J kR h (4) (nI j) x f = f (s_J h (4) j x) := wJ_n (by rw [kR_4]; exact hj) (by rw [kR_4]; omega)
theorem R5_t {ρ : Type} {f : Nat → Option ρ} : to_ kR (some (5)) 52 f = f (5) := to_s (by rw [kR_5])
theorem R5_a {ρ : Type} {h : Hp} {j : Nat} {f : UInt64 → Option ρ} (hj : j < 144) : a_D kR h (5) (nI j) f = f (g_D h (5) j) := aD_n (by rw [kR_5]; exact hj) (by rw [kR_5]; omega)
theorem R5_w {ρ : Type} {h : Hp} {j : Nat} {x : UInt64} {f : Hp → Option ρ} (hj : j < 144) : w_D kR h (5) (nI j) x f = f (s_D h (5) j x) := wD_n (by rw [kR_5]; exact hj) (by rw [kR_5]; omega)
theorem R6_t {ρ : Type} {f : Nat → Option ρ} : to_ kR (some (6)) 50 f = f (6) := to_s (by rw [kR_6])
theorem R6_a {ρ : Type} {h : Hp} {j : Nat} {f : Int32 → Option ρ} (hj : j < 12) : a_I kR h (6) (nI j) f = f (g_I h (6) j) := aI_n (by rw [kR_6]; exact hj) (by rw [kR_6]; omega)
theorem R6_w {ρ : Type} {h : Hp} {j : Nat} {x : Int32} {f : Hp → Option ρ} (hj : j < 12) : w_I kR h (6) (nI j) x f = f (s_I h (6) j x) := wI_n (by rw [kR_6]; exact hj) (by rw [kR_6]; omega)
theorem R7_t {ρ : Type} {f : Nat → Option ρ} : to_ kR (some (7)) 50 f = f (7) := to_s (by rw [kR_7])
theorem R7_a {ρ : Type} {h : Hp} {j : Nat} {f : Int32 → Option ρ} (hj : j < 12) : a_I kR h (7) (nI j) f = f (g_I h (7) j) := aI_n (by rw [kR_7]; exact hj) (by rw [kR_7]; omega)
theorem R7_w {ρ : Type} {h : Hp} {j : Nat} {x : Int32} {f : Hp → Option ρ} (hj : j < 12) : w_I kR h (7) (nI j) x f = f (s_I h (7) j x) := wI_n (by rw [kR_7]; exact hj) (by rw [kR_7]; omega)
theorem R8_t {ρ : Type} {f : Nat → Option ρ} : to_ kR (some (8)) 50 f = f (8) := to_s (by rw [kR_8])
theorem R8_a {ρ : Type} {h : Hp} {j : Nat} {f : Int32 → Option ρ} (hj : j < 12) : a_I kR h (8) (nI j) f = f (g_I h (8) j) := aI_n (by rw [kR_8]; exact hj) (by rw [kR_8]; omega)
theorem R8_w {ρ : Type} {h : Hp} {j : Nat} {x : Int32} {f : Hp → Option ρ} (hj : j < 12) : w_I kR h (8) (nI j) x f = f (s_I h (8) j x) := wI_n (by rw [kR_8]; exact hj) (by rw [kR_8]; omega)
theorem R9_t {ρ : Type} {f : Nat → Option ρ} : to_ kR (some (9)) 50 f = f (9) := to_s (by rw [kR_9])
theorem R9_a {ρ : Type} {h : Hp} {j : Nat} {f : Int32 → Option ρ} (hj : j < 12) : a_I kR h (9) (nI j) f = f (g_I h (9) j) := aI_n (by rw [kR_9]; exact hj) (by rw [kR_9]; omega)
theorem R9_w {ρ : Type} {h : Hp} {j : Nat} {x : Int32} {f : Hp → Option ρ} (hj : j < 12) : w_I kR h (9) (nI j) x f = f (s_I h (9) j x) := wI_n (by rw [kR_9]; exact hj) (by rw [kR_9]; omega)
theorem R10_t {ρ : Type} {f : Nat → Option ρ} : to_ kR (some (10)) 50 f = f (10) := to_s (by rw [kR_10])
theorem R10_a {ρ : Type} {h : Hp} {j : Nat} {f : Int32 → Option ρ} (hj : j < 48) : a_I kR h (10) (nI j) f = f (g_I h (10) j) := aI_n (by rw [kR_10]; exact hj) (by rw [kR_10]; omega)
theorem R10_w {ρ : Type} {h : Hp} {j : Nat} {x : Int32} {f : Hp → Option ρ} (hj : j < 48) : w_I kR h (10) (nI j) x f = f (s_I h (10) j x) := wI_n (by rw [kR_10]; exact hj) (by rw [kR_10]; omega)
theorem R11_t {ρ : Type} {f : Nat → Option ρ} : to_ kR (some (11)) 50 f = f (11) := to_s (by rw [kR_11])
theorem R11_a {ρ : Type} {h : Hp} {j : Nat} {f : Int32 → Option ρ} (hj : j < 12) : a_I kR h (11) (nI j) f = f (g_I h (11) j) := aI_n (by rw [kR_11]; exact hj) (by rw [kR_11]; omega)
theorem R11_w {ρ : Type} {h : Hp} {j : Nat} {x : Int32} {f : Hp → Option ρ} (hj : j < 12) : w_I kR h (11) (nI j) x f = f (s_I h (11) j x) := wI_n (by rw [kR_11]; exact hj) (by rw [kR_11]; omega)
theorem R12_t {ρ : Type} {f : Nat → Option ρ} : to_ kR (some (12)) 50 f = f (12) := to_s (by rw [kR_12])
theorem R12_a {ρ : Type} {h : Hp} {j : Nat} {f : Int32 → Option ρ} (hj : j < 12) : a_I kR h (12) (nI j) f = f (g_I h (12) j) := aI_n (by rw [kR_12]; exact hj) (by rw [kR_12]; omega)
theorem R12_w {ρ : Type} {h : Hp} {j : Nat} {x : Int32} {f : Hp → Option ρ} (hj : j < 12) : w_I kR h (12) (nI j) x f = f (s_I h (12) j x) := wI_n (by rw [kR_12]; exact hj) (by rw [kR_12]; omega)
theorem R13_t {ρ : Type} {f : Nat → Option ρ} : to_ kR (some (13)) 50 f = f (13) := to_s (by rw [kR_13])
theorem R13_a {ρ : Type} {h : Hp} {j : Nat} {f : Int32 → Option ρ} (hj : j < 12) : a_I kR h (13) (nI j) f = f (g_I h (13) j) := aI_n (by rw [kR_13]; exact hj) (by rw [kR_13]; omega)
theorem R13_w {ρ : Type} {h : Hp} {j : Nat} {x : Int32} {f : Hp → Option ρ} (hj : j < 12) : w_I kR h (13) (nI j) x f = f (s_I h (13) j x) := wI_n (by rw [kR_13]; exact hj) (by rw [kR_13]; omega)
theorem R14_t {ρ : Type} {f : Nat → Option ρ} : to_ kR (some (14)) 50 f = f (14) := to_s (by rw [kR_14])
theorem R14_a {ρ : Type} {h : Hp} {j : Nat} {f : Int32 → Option ρ} (hj : j < 12) : a_I kR h (14) (nI j) f = f (g_I h (14) j) := aI_n (by rw [kR_14]; exact hj) (by rw [kR_14]; omega)
theorem R14_w {ρ : Type} {h : Hp} {j : Nat} {x : Int32} {f : Hp → Option ρ} (hj : j < 12) : w_I kR h (14) (nI j) x f = f (s_I h (14) j x) := wI_n (by rw [kR_14]; exact hj) (by rw [kR_14]; omega)
theorem R15_t {ρ : Type} {f : Nat → Option ρ} : to_ kR (some (15)) 50 f = f (15) := to_s (by rw [kR_15])
theorem R15_a {ρ : Type} {h : Hp} {j : Nat} {f : Int32 → Option ρ} (hj : j < 360) : a_I kR h (15) (nI j) f = f (g_I h (15) j) := aI_n (by rw [kR_15]; exact hj) (by rw [kR_15]; omega)
theorem R15_w {ρ : Type} {h : Hp} {j : Nat} {x : Int32} {f : Hp → Option ρ} (hj : j < 360) : w_I kR h (15) (nI j) x f = f (s_I h (15) j x) := wI_n (by rw [kR_15]; exact hj) (by rw [kR_15]; omega)
theorem R16_t {ρ : Type} {f : Nat → Option ρ} : to_ kR (some (16)) 50 f = f (16) := to_s (by rw [kR_16])
theorem R16_a {ρ : Type} {h : Hp} {j : Nat} {f : Int32 → Option ρ} (hj : j < 360) : a_I kR h (16) (nI j) f = f (g_I h (16) j) := aI_n (by rw [kR_16]; exact hj) (by rw [kR_16]; omega)
theorem R16_w {ρ : Type} {h : Hp} {j : Nat} {x : Int32} {f : Hp → Option ρ} (hj : j < 360) : w_I kR h (16) (nI j) x f = f (s_I h (16) j x) := wI_n (by rw [kR_16]; exact hj) (by rw [kR_16]; omega)
theorem R17_t {ρ : Type} {f : Nat → Option ρ} : to_ kR (some (17)) 50 f = f (17) := to_s (by rw [kR_17])
theorem R17_a {ρ : Type} {h : Hp} {j : Nat} {f : Int32 → Option ρ} (hj : j < 360) : a_I kR h (17) (nI j) f = f (g_I h (17) j) := aI_n (by rw [kR_17]; exact hj) (by rw [kR_17]; omega)
theorem R17_w {ρ : Type} {h : Hp} {j : Nat} {x : Int32} {f : Hp → Option ρ} (hj : j < 360) : w_I kR h (17) (nI j) x f = f (s_I h (17) j x) := wI_n (by rw [kR_17]; exact hj) (by rw [kR_17]; omega)
theorem R18_t {ρ : Type} {f : Nat → Option ρ} : to_ kR (some (18)) 50 f = f (18) := to_s (by rw [kR_18])
theorem R18_a {ρ : Type} {h : Hp} {j : Nat} {f : Int32 → Option ρ} (hj : j < 192) : a_I kR h (18) (nI j) f = f (g_I h (18) j) := aI_n (by rw [kR_18]; exact hj) (by rw [kR_18]; omega)
theorem R18_w {ρ : Type} {h : Hp} {j : Nat} {x : Int32} {f : Hp → Option ρ} (hj : j < 192) : w_I kR h (18) (nI j) x f = f (s_I h (18) j x) := wI_n (by rw [kR_18]; exact hj) (by rw [kR_18]; omega)
theorem R19_t {ρ : Type} {f : Nat → Option ρ} : to_ kR (some (19)) 50 f = f (19) := to_s (by rw [kR_19])
theorem R19_a {ρ : Type} {h : Hp} {j : Nat} {f : Int32 → Option ρ} (hj : j < 12) : a_I kR h (19) (nI j) f = f (g_I h (19) j) := aI_n (by rw [kR_19]; exact hj) (by rw [kR_19]; omega)
theorem R19_w {ρ : Type} {h : Hp} {j : Nat} {x : Int32} {f : Hp → Option ρ} (hj : j < 12) : w_I kR h (19) (nI j) x f = f (s_I h (19) j x) := wI_n (by rw [kR_19]; exact hj) (by rw [kR_19]; omega)
theorem R20_t {ρ : Type} {f : Nat → Option ρ} : to_ kR (some (20)) 50 f = f (20) := to_s (by rw [kR_20])
theorem R20_a {ρ : Type} {h : Hp} {j : Nat} {f : Int32 → Option ρ} (hj : j < 12) : a_I kR h (20) (nI j) f = f (g_I h (20) j) := aI_n (by rw [kR_20]; exact hj) (by rw [kR_20]; omega)
theorem R20_w {ρ : Type} {h : Hp} {j : Nat} {x : Int32} {f : Hp → Option ρ} (hj : j < 12) : w_I kR h (20) (nI j) x f = f (s_I h (20) j x) := wI_n (by rw [kR_20]; exact hj) (by rw [kR_20]; omega)
theorem R21_t {ρ : Type} {f : Nat → Option ρ} : to_ kR (some (21)) 51 f = f (21) := to_s (by rw [kR_21])
theorem R21_a {ρ : Type} {h : Hp} {j : Nat} {f : Int64 → Option ρ} (hj : j < 72) : a_J kR h (21) (nI j) f = f (g_J h (21) j) := aJ_n (by rw [kR_21]; exact hj) (by rw [kR_21]; omega)
theorem R21_w {ρ : Type} {h : Hp} {j : Nat} {x : Int64} {f : Hp → Option ρ} (hj : j < 72) : w_J kR h (21) (nI j) x f = f (s_J h (21) j x) := wJ_n (by rw [kR_21]; exact hj) (by rw [kR_21]; omega)
theorem R22_t {ρ : Type} {f : Nat → Option ρ} : to_ kR (some (22)) 51 f = f (22) := to_s (by rw [kR_22])
theorem R22_a {ρ : Type} {h : Hp} {j : Nat} {f : Int64 → Option ρ} (hj : j < 96) : a_J kR h (22) (nI j) f = f (g_J h (22) j) := aJ_n (by rw [kR_22]; exact hj) (by rw [kR_22]; omega)
theorem R22_w {ρ : Type} {h : Hp} {j : Nat} {x : Int64} {f : Hp → Option ρ} (hj : j < 96) : w_J kR h (22) (nI j) x f = f (s_J h (22) j x) := wJ_n (by rw [kR_22]; exact hj) (by rw [kR_22]; omega)
theorem R23_t {ρ : Type} {f : Nat → Option ρ} : to_ kR (some (23)) 50 f = f (23) := to_s (by rw [kR_23])
theorem R23_a {ρ : Type} {h : Hp} {j : Nat} {f : Int32 → Option ρ} (hj : j < 12) : a_I kR h (23) (nI j) f = f (g_I h (23) j) := aI_n (by rw [kR_23]; exact hj) (by rw [kR_23]; omega)
theorem R23_w {ρ : Type} {h : Hp} {j : Nat} {x : Int32} {f : Hp → Option ρ} (hj : j < 12) : w_I kR h (23) (nI j) x f = f (s_I h (23) j x) := wI_n (by rw [kR_23]; exact hj) (by rw [kR_23]; omega)
theorem R24_t {ρ : Type} {f : Nat → Option ρ} : to_ kR (some (24)) 53 f = f (24) := to_s (by rw [kR_24])
theorem R24_a {ρ : Type} {h : Hp} {j : Nat} {f : Int32 → Option ρ} (hj : j < 12) : a_I kR h (24) (nI j) f = f (g_I h (24) j) := aI_n (by rw [kR_24]; exact hj) (by rw [kR_24]; omega)
theorem R24_w {ρ : Type} {h : Hp} {j : Nat} {x : Int32} {f : Hp → Option ρ} (hj : j < 12) : w_I kR h (24) (nI j) x f = f (s_I h (24) j x) := wI_n (by rw [kR_24]; exact hj) (by rw [kR_24]; omega)
theorem R25_t {ρ : Type} {f : Nat → Option ρ} : to_ kR (some (25)) 50 f = f (25) := to_s (by rw [kR_25])
theorem R25_a {ρ : Type} {h : Hp} {j : Nat} {f : Int32 → Option ρ} (hj : j < 12) : a_I kR h (25) (nI j) f = f (g_I h (25) j) := aI_n (by rw [kR_25]; exact hj) (by rw [kR_25]; omega)
theorem R25_w {ρ : Type} {h : Hp} {j : Nat} {x : Int32} {f : Hp → Option ρ} (hj : j < 12) : w_I kR h (25) (nI j) x f = f (s_I h (25) j x) := wI_n (by rw [kR_25]; exact hj) (by rw [kR_25]; omega)
theorem R26_t {ρ : Type} {f : Nat → Option ρ} : to_ kR (some (26)) 51 f = f (26) := to_s (by rw [kR_26])
theorem R26_a {ρ : Type} {h : Hp} {j : Nat} {f : Int64 → Option ρ} (hj : j < 12) : a_J kR h (26) (nI j) f = f (g_J h (26) j) := aJ_n (by rw [kR_26]; exact hj) (by rw [kR_26]; omega)
theorem R26_w {ρ : Type} {h : Hp} {j : Nat} {x : Int64} {f : Hp → Option ρ} (hj : j < 12) : w_J kR h (26) (nI j) x f = f (s_J h (26) j x) := wJ_n (by rw [kR_26]; exact hj) (by rw [kR_26]; omega)
theorem R27_t {ρ : Type} {f : Nat → Option ρ} : to_ kR (some (27)) 50 f = f (27) := to_s (by rw [kR_27])
theorem R27_a {ρ : Type} {h : Hp} {j : Nat} {f : Int32 → Option ρ} (hj : j < 12) : a_I kR h (27) (nI j) f = f (g_I h (27) j) := aI_n (by rw [kR_27]; exact hj) (by rw [kR_27]; omega)
theorem R27_w {ρ : Type} {h : Hp} {j : Nat} {x : Int32} {f : Hp → Option ρ} (hj : j < 12) : w_I kR h (27) (nI j) x f = f (s_I h (27) j x) := wI_n (by rw [kR_27]; exact hj) (by rw [kR_27]; omega)
theorem R28_t {ρ : Type} {f : Nat → Option ρ} : to_ kR (some (28)) 50 f = f (28) := to_s (by rw [kR_28])
theorem R28_a {ρ : Type} {h : Hp} {j : Nat} {f : Int32 → Option ρ} (hj : j < 12) : a_I kR h (28) (nI j) f = f (g_I h (28) j) := aI_n (by rw [kR_28]; exact hj) (by rw [kR_28]; omega)
theorem R28_w {ρ : Type} {h : Hp} {j : Nat} {x : Int32} {f : Hp → Option ρ} (hj : j < 12) : w_I kR h (28) (nI j) x f = f (s_I h (28) j x) := wI_n (by rw [kR_28]; exact hj) (by rw [kR_28]; omega)
theorem R29_t {ρ : Type} {f : Nat → Option ρ} : to_ kR (some (29)) 51 f = f (29) := to_s (by rw [kR_29])
theorem R29_a {ρ : Type} {h : Hp} {j : Nat} {f : Int64 → Option ρ} (hj : j < 60) : a_J kR h (29) (nI j) f = f (g_J h (29) j) := aJ_n (by rw [kR_29]; exact hj) (by rw [kR_29]; omega)
theorem R29_w {ρ : Type} {h : Hp} {j : Nat} {x : Int64} {f : Hp → Option ρ} (hj : j < 60) : w_J kR h (29) (nI j) x f = f (s_J h (29) j x) := wJ_n (by rw [kR_29]; exact hj) (by rw [kR_29]; omega)
theorem R30_t {ρ : Type} {f : Nat → Option ρ} : to_ kR (some (30)) 50 f = f (30) := to_s (by rw [kR_30])
theorem R30_a {ρ : Type} {h : Hp} {j : Nat} {f : Int32 → Option ρ} (hj : j < 36) : a_I kR h (30) (nI j) f = f (g_I h (30) j) := aI_n (by rw [kR_30]; exact hj) (by rw [kR_30]; omega)
theorem R30_w {ρ : Type} {h : Hp} {j : Nat} {x : Int32} {f : Hp → Option ρ} (hj : j < 36) : w_I kR h (30) (nI j) x f = f (s_I h (30) j x) := wI_n (by rw [kR_30]; exact hj) (by rw [kR_30]; omega)
theorem R31_t {ρ : Type} {f : Nat → Option ρ} : to_ kR (some (31)) 50 f = f (31) := to_s (by rw [kR_31])
theorem R31_a {ρ : Type} {h : Hp} {j : Nat} {f : Int32 → Option ρ} (hj : j < 36) : a_I kR h (31) (nI j) f = f (g_I h (31) j) := aI_n (by rw [kR_31]; exact hj) (by rw [kR_31]; omega)
theorem R31_w {ρ : Type} {h : Hp} {j : Nat} {x : Int32} {f : Hp → Option ρ} (hj : j < 36) : w_I kR h (31) (nI j) x f = f (s_I h (31) j x) := wI_n (by rw [kR_31]; exact hj) (by rw [kR_31]; omega)
theorem R32_t {ρ : Type} {f : Nat → Option ρ} : to_ kR (some (32)) 50 f = f (32) := to_s (by rw [kR_32])
theorem R32_a {ρ : Type} {h : Hp} {j : Nat} {f : Int32 → Option ρ} (hj : j < 36) : a_I kR h (32) (nI j) f = f (g_I h (32) j) := aI_n (by rw [kR_32]; exact hj) (by rw [kR_32]; omega)
theorem R32_w {ρ : Type} {h : Hp} {j : Nat} {x : Int32} {f : Hp → Option ρ} (hj : j < 36) : w_I kR h (32) (nI j) x f = f (s_I h (32) j x) := wI_n (by rw [kR_32]; exact hj) (by rw [kR_32]; omega)
theorem R33_t {ρ : Type} {f : Nat → Option ρ} : to_ kR (some (33)) 51 f = f (33) := to_s (by rw [kR_33])
theorem R33_a {ρ : Type} {h : Hp} {j : Nat} {f : Int64 → Option ρ} (hj : j < 432) : a_J kR h (33) (nI j) f = f (g_J h (33) j) := aJ_n (by rw [kR_33]; exact hj) (by rw [kR_33]; omega)
theorem R33_w {ρ : Type} {h : Hp} {j : Nat} {x : Int64} {f : Hp → Option ρ} (hj : j < 432) : w_J kR h (33) (nI j) x f = f (s_J h (33) j x) := wJ_n (by rw [kR_33]; exact hj) (by rw [kR_33]; omega)
theorem R34_t {ρ : Type} {f : Nat → Option ρ} : to_ kR (some (34)) 52 f = f (34) := to_s (by rw [kR_34])
theorem R34_a {ρ : Type} {h : Hp} {j : Nat} {f : UInt64 → Option ρ} (hj : j < 432) : a_D kR h (34) (nI j) f = f (g_D h (34) j) := aD_n (by rw [kR_34]; exact hj) (by rw [kR_34]; omega)
theorem R34_w {ρ : Type} {h : Hp} {j : Nat} {x : UInt64} {f : Hp → Option ρ} (hj : j < 432) : w_D kR h (34) (nI j) x f = f (s_D h (34) j x) := wD_n (by rw [kR_34]; exact hj) (by rw [kR_34]; omega)
theorem R35_t {ρ : Type} {f : Nat → Option ρ} : to_ kR (some (35)) 50 f = f (35) := to_s (by rw [kR_35])
theorem R35_a {ρ : Type} {h : Hp} {j : Nat} {f : Int32 → Option ρ} (hj : j < 3) : a_I kR h (35) (nI j) f = f (g_I h (35) j) := aI_n (by rw [kR_35]; exact hj) (by rw [kR_35]; omega)
theorem R35_w {ρ : Type} {h : Hp} {j : Nat} {x : Int32} {f : Hp → Option ρ} (hj : j < 3) : w_I kR h (35) (nI j) x f = f (s_I h (35) j x) := wI_n (by rw [kR_35]; exact hj) (by rw [kR_35]; omega)
theorem R36_t {ρ : Type} {f : Nat → Option ρ} : to_ kR (some (36)) 50 f = f (36) := to_s (by rw [kR_36])
theorem R36_a {ρ : Type} {h : Hp} {j : Nat} {f : Int32 → Option ρ} (hj : j < 36) : a_I kR h (36) (nI j) f = f (g_I h (36) j) := aI_n (by rw [kR_36]; exact hj) (by rw [kR_36]; omega)
theorem R36_w {ρ : Type} {h : Hp} {j : Nat} {x : Int32} {f : Hp → Option ρ} (hj : j < 36) : w_I kR h (36) (nI j) x f = f (s_I h (36) j x) := wI_n (by rw [kR_36]; exact hj) (by rw [kR_36]; omega)
theorem R37_t {ρ : Type} {f : Nat → Option ρ} : to_ kR (some (37)) 50 f = f (37) := to_s (by rw [kR_37])
theorem R37_a {ρ : Type} {h : Hp} {j : Nat} {f : Int32 → Option ρ} (hj : j < 36) : a_I kR h (37) (nI j) f = f (g_I h (37) j) := aI_n (by rw [kR_37]; exact hj) (by rw [kR_37]; omega)
theorem R37_w {ρ : Type} {h : Hp} {j : Nat} {x : Int32} {f : Hp → Option ρ} (hj : j < 36) : w_I kR h (37) (nI j) x f = f (s_I h (37) j x) := wI_n (by rw [kR_37]; exact hj) (by rw [kR_37]; omega)
theorem R38_t {ρ : Type} {f : Nat → Option ρ} : to_ kR (some (38)) 50 f = f (38) := to_s (by rw [kR_38])
theorem R38_a {ρ : Type} {h : Hp} {j : Nat} {f : Int32 → Option ρ} (hj : j < 36) : a_I kR h (38) (nI j) f = f (g_I h (38) j) := aI_n (by rw [kR_38]; exact hj) (by rw [kR_38]; omega)
theorem R38_w {ρ : Type} {h : Hp} {j : Nat} {x : Int32} {f : Hp → Option ρ} (hj : j < 36) : w_I kR h (38) (nI j) x f = f (s_I h (38) j x) := wI_n (by rw [kR_38]; exact hj) (by rw [kR_38]; omega)
theorem R39_t {ρ : Type} {f : Nat → Option ρ} : to_ kR (some (39)) 50 f = f (39) := to_s (by rw [kR_39])
theorem R39_a {ρ : Type} {h : Hp} {j : Nat} {f : Int32 → Option ρ} (hj : j < 144) : a_I kR h (39) (nI j) f = f (g_I h (39) j) := aI_n (by rw [kR_39]; exact hj) (by rw [kR_39]; omega)
theorem R39_w {ρ : Type} {h : Hp} {j : Nat} {x : Int32} {f : Hp → Option ρ} (hj : j < 144) : w_I kR h (39) (nI j) x f = f (s_I h (39) j x) := wI_n (by rw [kR_39]; exact hj) (by rw [kR_39]; omega)
theorem F0_t {n d : Nat} {ρ : Type} {f : Nat → Option ρ} (hd : d < 12) : to_ (kC n) (some (57 + 4 * d)) 2 f = f (57 + 4 * d) := to_s (by rw [kCf_0 n hd])
theorem F0_k (n : Nat) {d : Nat} (hd : d < 12) : (kC n (57 + 4 * d)).1 = 2 := by rw [kCf_0 n hd]
theorem F1_t {n d : Nat} {ρ : Type} {f : Nat → Option ρ} (hd : d < 12) : to_ (kC n) (some (57 + 4 * d + 1)) 51 f = f (57 + 4 * d + 1) := to_s (by rw [kCf_1 n hd])
theorem F1_a {n d : Nat} {ρ : Type} {h : Hp} {j : Nat} {f : Int64 → Option ρ} (hd : d < 12) (hj : j < 6) : a_J (kC n) h (57 + 4 * d + 1) (nI j) f = f (g_J h (57 + 4 * d + 1) j) := aJ_n (by rw [kCf_1 n hd]; exact hj) (by rw [kCf_1 n hd]; omega)
theorem F1_w {n d : Nat} {ρ : Type} {h : Hp} {j : Nat} {x : Int64} {f : Hp → Option ρ} (hd : d < 12) (hj : j < 6) : w_J (kC n) h (57 + 4 * d + 1) (nI j) x f = f (s_J h (57 + 4 * d + 1) j x) := wJ_n (by rw [kCf_1 n hd]; exact hj) (by rw [kCf_1 n hd]; omega)
theorem F1_k (n : Nat) {d : Nat} (hd : d < 12) : (kC n (57 + 4 * d + 1)).1 = 51 := by rw [kCf_1 n hd]
theorem F2_t {n d : Nat} {ρ : Type} {f : Nat → Option ρ} (hd : d < 12) : to_ (kC n) (some (57 + 4 * d + 2)) 51 f = f (57 + 4 * d + 2) := to_s (by rw [kCf_2 n hd])
theorem F2_a {n d : Nat} {ρ : Type} {h : Hp} {j : Nat} {f : Int64 → Option ρ} (hd : d < 12) (hj : j < 8) : a_J (kC n) h (57 + 4 * d + 2) (nI j) f = f (g_J h (57 + 4 * d + 2) j) := aJ_n (by rw [kCf_2 n hd]; exact hj) (by rw [kCf_2 n hd]; omega)
theorem F2_w {n d : Nat} {ρ : Type} {h : Hp} {j : Nat} {x : Int64} {f : Hp → Option ρ} (hd : d < 12) (hj : j < 8) : w_J (kC n) h (57 + 4 * d + 2) (nI j) x f = f (s_J h (57 + 4 * d + 2) j x) := wJ_n (by rw [kCf_2 n hd]; exact hj) (by rw [kCf_2 n hd]; omega)
theorem F2_k (n : Nat) {d : Nat} (hd : d < 12) : (kC n (57 + 4 * d + 2)).1 = 51 := by rw [kCf_2 n hd]
theorem F3_t {n d : Nat} {ρ : Type} {f : Nat → Option ρ} (hd : d < 12) : to_ (kC n) (some (57 + 4 * d + 3)) 1 f = f (57 + 4 * d + 3) := to_s (by rw [kCf_3 n hd])
theorem F3_k (n : Nat) {d : Nat} (hd : d < 12) : (kC n (57 + 4 * d + 3)).1 = 1 := by rw [kCf_3 n hd]
theorem T0_t {n r : Nat} {ρ : Type} {f : Nat → Option ρ} (hr : r < n) : to_ (kC n) (some (105 + 8 * r)) 6 f = f (105 + 8 * r) := to_s (by rw [kCt_0 hr])
theorem T0_k {n r : Nat} (hr : r < n) : (kC n (105 + 8 * r)).1 = 6 := by rw [kCt_0 hr]
theorem T1_t {n r : Nat} {ρ : Type} {f : Nat → Option ρ} (hr : r < n) : to_ (kC n) (some (105 + 8 * r + 1)) 50 f = f (105 + 8 * r + 1) := to_s (by rw [kCt_1 hr])
theorem T1_a {n r : Nat} {ρ : Type} {h : Hp} {j : Nat} {f : Int32 → Option ρ} (hr : r < n) (hj : j < 30) : a_I (kC n) h (105 + 8 * r + 1) (nI j) f = f (g_I h (105 + 8 * r + 1) j) := aI_n (by rw [kCt_1 hr]; exact hj) (by rw [kCt_1 hr]; omega)
theorem T1_w {n r : Nat} {ρ : Type} {h : Hp} {j : Nat} {x : Int32} {f : Hp → Option ρ} (hr : r < n) (hj : j < 30) : w_I (kC n) h (105 + 8 * r + 1) (nI j) x f = f (s_I h (105 + 8 * r + 1) j x) := wI_n (by rw [kCt_1 hr]; exact hj) (by rw [kCt_1 hr]; omega)
theorem T1_k {n r : Nat} (hr : r < n) : (kC n (105 + 8 * r + 1)).1 = 50 := by rw [kCt_1 hr]
theorem T2_t {n r : Nat} {ρ : Type} {f : Nat → Option ρ} (hr : r < n) : to_ (kC n) (some (105 + 8 * r + 2)) 50 f = f (105 + 8 * r + 2) := to_s (by rw [kCt_2 hr])
theorem T2_a {n r : Nat} {ρ : Type} {h : Hp} {j : Nat} {f : Int32 → Option ρ} (hr : r < n) (hj : j < 30) : a_I (kC n) h (105 + 8 * r + 2) (nI j) f = f (g_I h (105 + 8 * r + 2) j) := aI_n (by rw [kCt_2 hr]; exact hj) (by rw [kCt_2 hr]; omega)
theorem T2_w {n r : Nat} {ρ : Type} {h : Hp} {j : Nat} {x : Int32} {f : Hp → Option ρ} (hr : r < n) (hj : j < 30) : w_I (kC n) h (105 + 8 * r + 2) (nI j) x f = f (s_I h (105 + 8 * r + 2) j x) := wI_n (by rw [kCt_2 hr]; exact hj) (by rw [kCt_2 hr]; omega)
theorem T2_k {n r : Nat} (hr : r < n) : (kC n (105 + 8 * r + 2)).1 = 50 := by rw [kCt_2 hr]
theorem T3_t {n r : Nat} {ρ : Type} {f : Nat → Option ρ} (hr : r < n) : to_ (kC n) (some (105 + 8 * r + 3)) 50 f = f (105 + 8 * r + 3) := to_s (by rw [kCt_3 hr])
theorem T3_a {n r : Nat} {ρ : Type} {h : Hp} {j : Nat} {f : Int32 → Option ρ} (hr : r < n) (hj : j < 30) : a_I (kC n) h (105 + 8 * r + 3) (nI j) f = f (g_I h (105 + 8 * r + 3) j) := aI_n (by rw [kCt_3 hr]; exact hj) (by rw [kCt_3 hr]; omega)
theorem T3_w {n r : Nat} {ρ : Type} {h : Hp} {j : Nat} {x : Int32} {f : Hp → Option ρ} (hr : r < n) (hj : j < 30) : w_I (kC n) h (105 + 8 * r + 3) (nI j) x f = f (s_I h (105 + 8 * r + 3) j x) := wI_n (by rw [kCt_3 hr]; exact hj) (by rw [kCt_3 hr]; omega)
theorem T3_k {n r : Nat} (hr : r < n) : (kC n (105 + 8 * r + 3)).1 = 50 := by rw [kCt_3 hr]
theorem T4_t {n r : Nat} {ρ : Type} {f : Nat → Option ρ} (hr : r < n) : to_ (kC n) (some (105 + 8 * r + 4)) 50 f = f (105 + 8 * r + 4) := to_s (by rw [kCt_4 hr])
theorem T4_a {n r : Nat} {ρ : Type} {h : Hp} {j : Nat} {f : Int32 → Option ρ} (hr : r < n) (hj : j < 4) : a_I (kC n) h (105 + 8 * r + 4) (nI j) f = f (g_I h (105 + 8 * r + 4) j) := aI_n (by rw [kCt_4 hr]; exact hj) (by rw [kCt_4 hr]; omega)
theorem T4_w {n r : Nat} {ρ : Type} {h : Hp} {j : Nat} {x : Int32} {f : Hp → Option ρ} (hr : r < n) (hj : j < 4) : w_I (kC n) h (105 + 8 * r + 4) (nI j) x f = f (s_I h (105 + 8 * r + 4) j x) := wI_n (by rw [kCt_4 hr]; exact hj) (by rw [kCt_4 hr]; omega)
theorem T4_k {n r : Nat} (hr : r < n) : (kC n (105 + 8 * r + 4)).1 = 50 := by rw [kCt_4 hr]
theorem T5_t {n r : Nat} {ρ : Type} {f : Nat → Option ρ} (hr : r < n) : to_ (kC n) (some (105 + 8 * r + 5)) 50 f = f (105 + 8 * r + 5) := to_s (by rw [kCt_5 hr])
theorem T5_a {n r : Nat} {ρ : Type} {h : Hp} {j : Nat} {f : Int32 → Option ρ} (hr : r < n) (hj : j < 4) : a_I (kC n) h (105 + 8 * r + 5) (nI j) f = f (g_I h (105 + 8 * r + 5) j) := aI_n (by rw [kCt_5 hr]; exact hj) (by rw [kCt_5 hr]; omega)
theorem T5_w {n r : Nat} {ρ : Type} {h : Hp} {j : Nat} {x : Int32} {f : Hp → Option ρ} (hr : r < n) (hj : j < 4) : w_I (kC n) h (105 + 8 * r + 5) (nI j) x f = f (s_I h (105 + 8 * r + 5) j x) := wI_n (by rw [kCt_5 hr]; exact hj) (by rw [kCt_5 hr]; omega)
theorem T5_k {n r : Nat} (hr : r < n) : (kC n (105 + 8 * r + 5)).1 = 50 := by rw [kCt_5 hr]
theorem T6_t {n r : Nat} {ρ : Type} {f : Nat → Option ρ} (hr : r < n) : to_ (kC n) (some (105 + 8 * r + 6)) 50 f = f (105 + 8 * r + 6) := to_s (by rw [kCt_6 hr])
theorem T6_a {n r : Nat} {ρ : Type} {h : Hp} {j : Nat} {f : Int32 → Option ρ} (hr : r < n) (hj : j < 4) : a_I (kC n) h (105 + 8 * r + 6) (nI j) f = f (g_I h (105 + 8 * r + 6) j) := aI_n (by rw [kCt_6 hr]; exact hj) (by rw [kCt_6 hr]; omega)
theorem T6_w {n r : Nat} {ρ : Type} {h : Hp} {j : Nat} {x : Int32} {f : Hp → Option ρ} (hr : r < n) (hj : j < 4) : w_I (kC n) h (105 + 8 * r + 6) (nI j) x f = f (s_I h (105 + 8 * r + 6) j x) := wI_n (by rw [kCt_6 hr]; exact hj) (by rw [kCt_6 hr]; omega)
theorem T6_k {n r : Nat} (hr : r < n) : (kC n (105 + 8 * r + 6)).1 = 50 := by rw [kCt_6 hr]
theorem T7_t {n r : Nat} {ρ : Type} {f : Nat → Option ρ} (hr : r < n) : to_ (kC n) (some (105 + 8 * r + 7)) 50 f = f (105 + 8 * r + 7) := to_s (by rw [kCt_7 hr])
theorem T7_a {n r : Nat} {ρ : Type} {h : Hp} {j : Nat} {f : Int32 → Option ρ} (hr : r < n) (hj : j < 4) : a_I (kC n) h (105 + 8 * r + 7) (nI j) f = f (g_I h (105 + 8 * r + 7) j) := aI_n (by rw [kCt_7 hr]; exact hj) (by rw [kCt_7 hr]; omega)
theorem T7_w {n r : Nat} {ρ : Type} {h : Hp} {j : Nat} {x : Int32} {f : Hp → Option ρ} (hr : r < n) (hj : j < 4) : w_I (kC n) h (105 + 8 * r + 7) (nI j) x f = f (s_I h (105 + 8 * r + 7) j x) := wI_n (by rw [kCt_7 hr]; exact hj) (by rw [kCt_7 hr]; omega)
theorem T7_k {n r : Nat} (hr : r < n) : (kC n (105 + 8 * r + 7)).1 = 50 := by rw [kCt_7 hr]
theorem M0_t {n q : Nat} {ρ : Type} {f : Nat → Option ρ} (hq : q < 3) : to_ (kC n) (some (17 + 12 * q)) 5 f = f (17 + 12 * q) := to_s (by rw [kCm_0 n hq])
theorem M0_k (n : Nat) {q : Nat} (hq : q < 3) : (kC n (17 + 12 * q)).1 = 5 := by rw [kCm_0 n hq]
theorem M1_t {n q : Nat} {ρ : Type} {f : Nat → Option ρ} (hq : q < 3) : to_ (kC n) (some (17 + 12 * q + 1)) 50 f = f (17 + 12 * q + 1) := to_s (by rw [kCm_1 n hq])
theorem M1_a {n q : Nat} {ρ : Type} {h : Hp} {j : Nat} {f : Int32 → Option ρ} (hq : q < 3) (hj : j < 12) : a_I (kC n) h (17 + 12 * q + 1) (nI j) f = f (g_I h (17 + 12 * q + 1) j) := aI_n (by rw [kCm_1 n hq]; exact hj) (by rw [kCm_1 n hq]; omega)
theorem M1_w {n q : Nat} {ρ : Type} {h : Hp} {j : Nat} {x : Int32} {f : Hp → Option ρ} (hq : q < 3) (hj : j < 12) : w_I (kC n) h (17 + 12 * q + 1) (nI j) x f = f (s_I h (17 + 12 * q + 1) j x) := wI_n (by rw [kCm_1 n hq]; exact hj) (by rw [kCm_1 n hq]; omega)
theorem M1_k (n : Nat) {q : Nat} (hq : q < 3) : (kC n (17 + 12 * q + 1)).1 = 50 := by rw [kCm_1 n hq]
theorem M2_t {n q : Nat} {ρ : Type} {f : Nat → Option ρ} (hq : q < 3) : to_ (kC n) (some (17 + 12 * q + 2)) 50 f = f (17 + 12 * q + 2) := to_s (by rw [kCm_2 n hq])
theorem M2_a {n q : Nat} {ρ : Type} {h : Hp} {j : Nat} {f : Int32 → Option ρ} (hq : q < 3) (hj : j < 12) : a_I (kC n) h (17 + 12 * q + 2) (nI j) f = f (g_I h (17 + 12 * q + 2) j) := aI_n (by rw [kCm_2 n hq]; exact hj) (by rw [kCm_2 n hq]; omega)
theorem M2_w {n q : Nat} {ρ : Type} {h : Hp} {j : Nat} {x : Int32} {f : Hp → Option ρ} (hq : q < 3) (hj : j < 12) : w_I (kC n) h (17 + 12 * q + 2) (nI j) x f = f (s_I h (17 + 12 * q + 2) j x) := wI_n (by rw [kCm_2 n hq]; exact hj) (by rw [kCm_2 n hq]; omega)
theorem M2_k (n : Nat) {q : Nat} (hq : q < 3) : (kC n (17 + 12 * q + 2)).1 = 50 := by rw [kCm_2 n hq]
theorem M3_t {n q : Nat} {ρ : Type} {f : Nat → Option ρ} (hq : q < 3) : to_ (kC n) (some (17 + 12 * q + 3)) 50 f = f (17 + 12 * q + 3) := to_s (by rw [kCm_3 n hq])
theorem M3_a {n q : Nat} {ρ : Type} {h : Hp} {j : Nat} {f : Int32 → Option ρ} (hq : q < 3) (hj : j < 12) : a_I (kC n) h (17 + 12 * q + 3) (nI j) f = f (g_I h (17 + 12 * q + 3) j) := aI_n (by rw [kCm_3 n hq]; exact hj) (by rw [kCm_3 n hq]; omega)
theorem M3_w {n q : Nat} {ρ : Type} {h : Hp} {j : Nat} {x : Int32} {f : Hp → Option ρ} (hq : q < 3) (hj : j < 12) : w_I (kC n) h (17 + 12 * q + 3) (nI j) x f = f (s_I h (17 + 12 * q + 3) j x) := wI_n (by rw [kCm_3 n hq]; exact hj) (by rw [kCm_3 n hq]; omega)
theorem M3_k (n : Nat) {q : Nat} (hq : q < 3) : (kC n (17 + 12 * q + 3)).1 = 50 := by rw [kCm_3 n hq]
theorem M4_t {n q : Nat} {ρ : Type} {f : Nat → Option ρ} (hq : q < 3) : to_ (kC n) (some (17 + 12 * q + 4)) 50 f = f (17 + 12 * q + 4) := to_s (by rw [kCm_4 n hq])
theorem M4_a {n q : Nat} {ρ : Type} {h : Hp} {j : Nat} {f : Int32 → Option ρ} (hq : q < 3) (hj : j < 12) : a_I (kC n) h (17 + 12 * q + 4) (nI j) f = f (g_I h (17 + 12 * q + 4) j) := aI_n (by rw [kCm_4 n hq]; exact hj) (by rw [kCm_4 n hq]; omega)
theorem M4_w {n q : Nat} {ρ : Type} {h : Hp} {j : Nat} {x : Int32} {f : Hp → Option ρ} (hq : q < 3) (hj : j < 12) : w_I (kC n) h (17 + 12 * q + 4) (nI j) x f = f (s_I h (17 + 12 * q + 4) j x) := wI_n (by rw [kCm_4 n hq]; exact hj) (by rw [kCm_4 n hq]; omega)
theorem M4_k (n : Nat) {q : Nat} (hq : q < 3) : (kC n (17 + 12 * q + 4)).1 = 50 := by rw [kCm_4 n hq]
theorem M5_t {n q : Nat} {ρ : Type} {f : Nat → Option ρ} (hq : q < 3) : to_ (kC n) (some (17 + 12 * q + 5)) 51 f = f (17 + 12 * q + 5) := to_s (by rw [kCm_5 n hq])
theorem M5_a {n q : Nat} {ρ : Type} {h : Hp} {j : Nat} {f : Int64 → Option ρ} (hq : q < 3) (hj : j < 144) : a_J (kC n) h (17 + 12 * q + 5) (nI j) f = f (g_J h (17 + 12 * q + 5) j) := aJ_n (by rw [kCm_5 n hq]; exact hj) (by rw [kCm_5 n hq]; omega)
theorem M5_w {n q : Nat} {ρ : Type} {h : Hp} {j : Nat} {x : Int64} {f : Hp → Option ρ} (hq : q < 3) (hj : j < 144) : w_J (kC n) h (17 + 12 * q + 5) (nI j) x f = f (s_J h (17 + 12 * q + 5) j x) := wJ_n (by rw [kCm_5 n hq]; exact hj) (by rw [kCm_5 n hq]; omega)
theorem M5_k (n : Nat) {q : Nat} (hq : q < 3) : (kC n (17 + 12 * q + 5)).1 = 51 := by rw [kCm_5 n hq]
theorem H0_t {n q : Nat} {ρ : Type} {f : Nat → Option ρ} (hq : q < 3) : to_ (kC n) (some (23 + 12 * q)) 7 f = f (23 + 12 * q) := to_s (by rw [kCh_0 n hq])
theorem H0_k (n : Nat) {q : Nat} (hq : q < 3) : (kC n (23 + 12 * q)).1 = 7 := by rw [kCh_0 n hq]
theorem H1_t {n q : Nat} {ρ : Type} {f : Nat → Option ρ} (hq : q < 3) : to_ (kC n) (some (23 + 12 * q + 1)) 50 f = f (23 + 12 * q + 1) := to_s (by rw [kCh_1 n hq])
theorem H1_a {n q : Nat} {ρ : Type} {h : Hp} {j : Nat} {f : Int32 → Option ρ} (hq : q < 3) (hj : j < 12) : a_I (kC n) h (23 + 12 * q + 1) (nI j) f = f (g_I h (23 + 12 * q + 1) j) := aI_n (by rw [kCh_1 n hq]; exact hj) (by rw [kCh_1 n hq]; omega)
theorem H1_w {n q : Nat} {ρ : Type} {h : Hp} {j : Nat} {x : Int32} {f : Hp → Option ρ} (hq : q < 3) (hj : j < 12) : w_I (kC n) h (23 + 12 * q + 1) (nI j) x f = f (s_I h (23 + 12 * q + 1) j x) := wI_n (by rw [kCh_1 n hq]; exact hj) (by rw [kCh_1 n hq]; omega)
theorem H1_k (n : Nat) {q : Nat} (hq : q < 3) : (kC n (23 + 12 * q + 1)).1 = 50 := by rw [kCh_1 n hq]
theorem H2_t {n q : Nat} {ρ : Type} {f : Nat → Option ρ} (hq : q < 3) : to_ (kC n) (some (23 + 12 * q + 2)) 50 f = f (23 + 12 * q + 2) := to_s (by rw [kCh_2 n hq])
theorem H2_a {n q : Nat} {ρ : Type} {h : Hp} {j : Nat} {f : Int32 → Option ρ} (hq : q < 3) (hj : j < 12) : a_I (kC n) h (23 + 12 * q + 2) (nI j) f = f (g_I h (23 + 12 * q + 2) j) := aI_n (by rw [kCh_2 n hq]; exact hj) (by rw [kCh_2 n hq]; omega)
theorem H2_w {n q : Nat} {ρ : Type} {h : Hp} {j : Nat} {x : Int32} {f : Hp → Option ρ} (hq : q < 3) (hj : j < 12) : w_I (kC n) h (23 + 12 * q + 2) (nI j) x f = f (s_I h (23 + 12 * q + 2) j x) := wI_n (by rw [kCh_2 n hq]; exact hj) (by rw [kCh_2 n hq]; omega)
theorem H2_k (n : Nat) {q : Nat} (hq : q < 3) : (kC n (23 + 12 * q + 2)).1 = 50 := by rw [kCh_2 n hq]
theorem H3_t {n q : Nat} {ρ : Type} {f : Nat → Option ρ} (hq : q < 3) : to_ (kC n) (some (23 + 12 * q + 3)) 50 f = f (23 + 12 * q + 3) := to_s (by rw [kCh_3 n hq])
theorem H3_a {n q : Nat} {ρ : Type} {h : Hp} {j : Nat} {f : Int32 → Option ρ} (hq : q < 3) (hj : j < 12) : a_I (kC n) h (23 + 12 * q + 3) (nI j) f = f (g_I h (23 + 12 * q + 3) j) := aI_n (by rw [kCh_3 n hq]; exact hj) (by rw [kCh_3 n hq]; omega)
theorem H3_w {n q : Nat} {ρ : Type} {h : Hp} {j : Nat} {x : Int32} {f : Hp → Option ρ} (hq : q < 3) (hj : j < 12) : w_I (kC n) h (23 + 12 * q + 3) (nI j) x f = f (s_I h (23 + 12 * q + 3) j x) := wI_n (by rw [kCh_3 n hq]; exact hj) (by rw [kCh_3 n hq]; omega)
theorem H3_k (n : Nat) {q : Nat} (hq : q < 3) : (kC n (23 + 12 * q + 3)).1 = 50 := by rw [kCh_3 n hq]
theorem H4_t {n q : Nat} {ρ : Type} {f : Nat → Option ρ} (hq : q < 3) : to_ (kC n) (some (23 + 12 * q + 4)) 50 f = f (23 + 12 * q + 4) := to_s (by rw [kCh_4 n hq])
theorem H4_a {n q : Nat} {ρ : Type} {h : Hp} {j : Nat} {f : Int32 → Option ρ} (hq : q < 3) (hj : j < 12) : a_I (kC n) h (23 + 12 * q + 4) (nI j) f = f (g_I h (23 + 12 * q + 4) j) := aI_n (by rw [kCh_4 n hq]; exact hj) (by rw [kCh_4 n hq]; omega)
theorem H4_w {n q : Nat} {ρ : Type} {h : Hp} {j : Nat} {x : Int32} {f : Hp → Option ρ} (hq : q < 3) (hj : j < 12) : w_I (kC n) h (23 + 12 * q + 4) (nI j) x f = f (s_I h (23 + 12 * q + 4) j x) := wI_n (by rw [kCh_4 n hq]; exact hj) (by rw [kCh_4 n hq]; omega)
theorem H4_k (n : Nat) {q : Nat} (hq : q < 3) : (kC n (23 + 12 * q + 4)).1 = 50 := by rw [kCh_4 n hq]
theorem H5_t {n q : Nat} {ρ : Type} {f : Nat → Option ρ} (hq : q < 3) : to_ (kC n) (some (23 + 12 * q + 5)) 50 f = f (23 + 12 * q + 5) := to_s (by rw [kCh_5 n hq])
theorem H5_a {n q : Nat} {ρ : Type} {h : Hp} {j : Nat} {f : Int32 → Option ρ} (hq : q < 3) (hj : j < 48) : a_I (kC n) h (23 + 12 * q + 5) (nI j) f = f (g_I h (23 + 12 * q + 5) j) := aI_n (by rw [kCh_5 n hq]; exact hj) (by rw [kCh_5 n hq]; omega)
theorem H5_w {n q : Nat} {ρ : Type} {h : Hp} {j : Nat} {x : Int32} {f : Hp → Option ρ} (hq : q < 3) (hj : j < 48) : w_I (kC n) h (23 + 12 * q + 5) (nI j) x f = f (s_I h (23 + 12 * q + 5) j x) := wI_n (by rw [kCh_5 n hq]; exact hj) (by rw [kCh_5 n hq]; omega)
theorem H5_k (n : Nat) {q : Nat} (hq : q < 3) : (kC n (23 + 12 * q + 5)).1 = 50 := by rw [kCh_5 n hq]
theorem wf_0 {cnt : Nat} {rf : Nat → Option Nat} {h : Hp} (hw : Wc cnt rf h) {d : Nat} (hd : d < 12) : g_R h (57 + 4 * d) 0 = some (57 + 4 * d + 1) := w_f hw hd (by omega)
theorem wf_1 {cnt : Nat} {rf : Nat → Option Nat} {h : Hp} (hw : Wc cnt rf h) {d : Nat} (hd : d < 12) : g_R h (57 + 4 * d) 1 = some (57 + 4 * d + 2) := w_f hw hd (by omega)
theorem wf_2 {cnt : Nat} {rf : Nat → Option Nat} {h : Hp} (hw : Wc cnt rf h) {d : Nat} (hd : d < 12) : g_R h (57 + 4 * d) 2 = some (57 + 4 * d + 3) := w_f hw hd (by omega)
theorem wt_1 {cnt : Nat} {rf : Nat → Option Nat} {h : Hp} (hw : Wc cnt rf h) {r : Nat} (hr : r < cnt) : g_R h (105 + 8 * r) 1 = some (105 + 8 * r + 1) := w_t hw hr (by omega)
theorem wt_2 {cnt : Nat} {rf : Nat → Option Nat} {h : Hp} (hw : Wc cnt rf h) {r : Nat} (hr : r < cnt) : g_R h (105 + 8 * r) 2 = some (105 + 8 * r + 2) := w_t hw hr (by omega)
theorem wt_3 {cnt : Nat} {rf : Nat → Option Nat} {h : Hp} (hw : Wc cnt rf h) {r : Nat} (hr : r < cnt) : g_R h (105 + 8 * r) 3 = some (105 + 8 * r + 3) := w_t hw hr (by omega)
theorem wt_4 {cnt : Nat} {rf : Nat → Option Nat} {h : Hp} (hw : Wc cnt rf h) {r : Nat} (hr : r < cnt) : g_R h (105 + 8 * r) 4 = some (105 + 8 * r + 4) := w_t hw hr (by omega)
theorem wt_5 {cnt : Nat} {rf : Nat → Option Nat} {h : Hp} (hw : Wc cnt rf h) {r : Nat} (hr : r < cnt) : g_R h (105 + 8 * r) 5 = some (105 + 8 * r + 5) := w_t hw hr (by omega)
theorem wt_6 {cnt : Nat} {rf : Nat → Option Nat} {h : Hp} (hw : Wc cnt rf h) {r : Nat} (hr : r < cnt) : g_R h (105 + 8 * r) 6 = some (105 + 8 * r + 6) := w_t hw hr (by omega)
theorem wt_7 {cnt : Nat} {rf : Nat → Option Nat} {h : Hp} (hw : Wc cnt rf h) {r : Nat} (hr : r < cnt) : g_R h (105 + 8 * r) 7 = some (105 + 8 * r + 7) := w_t hw hr (by omega)
theorem wm_0 {cnt : Nat} {rf : Nat → Option Nat} {h : Hp} (hw : Wc cnt rf h) {q : Nat} (hq : q < 3) : g_R h (17 + 12 * q) 0 = some (17 + 12 * q + 1) := w_m hw hq (by omega)
theorem wh_0 {cnt : Nat} {rf : Nat → Option Nat} {h : Hp} (hw : Wc cnt rf h) {q : Nat} (hq : q < 3) : g_R h (23 + 12 * q) 0 = some (23 + 12 * q + 1) := w_th hw hq (by omega)
theorem wm_1 {cnt : Nat} {rf : Nat → Option Nat} {h : Hp} (hw : Wc cnt rf h) {q : Nat} (hq : q < 3) : g_R h (17 + 12 * q) 1 = some (17 + 12 * q + 2) := w_m hw hq (by omega)
theorem wh_1 {cnt : Nat} {rf : Nat → Option Nat} {h : Hp} (hw : Wc cnt rf h) {q : Nat} (hq : q < 3) : g_R h (23 + 12 * q) 1 = some (23 + 12 * q + 2) := w_th hw hq (by omega)
theorem wm_2 {cnt : Nat} {rf : Nat → Option Nat} {h : Hp} (hw : Wc cnt rf h) {q : Nat} (hq : q < 3) : g_R h (17 + 12 * q) 2 = some (17 + 12 * q + 3) := w_m hw hq (by omega)
theorem wh_2 {cnt : Nat} {rf : Nat → Option Nat} {h : Hp} (hw : Wc cnt rf h) {q : Nat} (hq : q < 3) : g_R h (23 + 12 * q) 2 = some (23 + 12 * q + 3) := w_th hw hq (by omega)
theorem wm_3 {cnt : Nat} {rf : Nat → Option Nat} {h : Hp} (hw : Wc cnt rf h) {q : Nat} (hq : q < 3) : g_R h (17 + 12 * q) 3 = some (17 + 12 * q + 4) := w_m hw hq (by omega)
theorem wh_3 {cnt : Nat} {rf : Nat → Option Nat} {h : Hp} (hw : Wc cnt rf h) {q : Nat} (hq : q < 3) : g_R h (23 + 12 * q) 3 = some (23 + 12 * q + 4) := w_th hw hq (by omega)
theorem wm_4 {cnt : Nat} {rf : Nat → Option Nat} {h : Hp} (hw : Wc cnt rf h) {q : Nat} (hq : q < 3) : g_R h (17 + 12 * q) 4 = some (17 + 12 * q + 5) := w_m hw hq (by omega)
theorem wh_4 {cnt : Nat} {rf : Nat → Option Nat} {h : Hp} (hw : Wc cnt rf h) {q : Nat} (hq : q < 3) : g_R h (23 + 12 * q) 4 = some (23 + 12 * q + 5) := w_th hw hq (by omega)
theorem tsI {ρ : Type} {κ : Kd} {h : Hp} {a k x y kd : Nat} {v : Int32} {f : Nat → Option ρ} : to_ κ (g_R (s_I h a k v) x y) kd f = to_ κ (g_R h x y) kd f := rfl
theorem tsJ {ρ : Type} {κ : Kd} {h : Hp} {a k x y kd : Nat} {v : Int64} {f : Nat → Option ρ} : to_ κ (g_R (s_J h a k v) x y) kd f = to_ κ (g_R h x y) kd f := rfl
theorem tsD {ρ : Type} {κ : Kd} {h : Hp} {a k x y kd : Nat} {v : UInt64} {f : Nat → Option ρ} : to_ κ (g_R (s_D h a k v) x y) kd f = to_ κ (g_R h x y) kd f := rfl
theorem tu_0 {ρ : Type} {h : Hp} {f : Nat → Option ρ} (hw : Wr h) : to_ kR (g_R h 0 0) 50 f = f 1 := by rw [u_0 hw, R1_t]
theorem tu_1 {ρ : Type} {h : Hp} {f : Nat → Option ρ} (hw : Wr h) : to_ kR (g_R h 0 1) 50 f = f 2 := by rw [u_1 hw, R2_t]
theorem tu_2 {ρ : Type} {h : Hp} {f : Nat → Option ρ} (hw : Wr h) : to_ kR (g_R h 0 2) 50 f = f 3 := by rw [u_2 hw, R3_t]
theorem tu_3 {ρ : Type} {h : Hp} {f : Nat → Option ρ} (hw : Wr h) : to_ kR (g_R h 0 3) 51 f = f 4 := by rw [u_3 hw, R4_t]
theorem tu_4 {ρ : Type} {h : Hp} {f : Nat → Option ρ} (hw : Wr h) : to_ kR (g_R h 0 4) 52 f = f 5 := by rw [u_4 hw, R5_t]
theorem tu_6 {ρ : Type} {h : Hp} {f : Nat → Option ρ} (hw : Wr h) : to_ kR (g_R h 0 6) 50 f = f 6 := by rw [u_6 hw, R6_t]
theorem tu_7 {ρ : Type} {h : Hp} {f : Nat → Option ρ} (hw : Wr h) : to_ kR (g_R h 0 7) 50 f = f 7 := by rw [u_7 hw, R7_t]
theorem tu_8 {ρ : Type} {h : Hp} {f : Nat → Option ρ} (hw : Wr h) : to_ kR (g_R h 0 8) 50 f = f 8 := by rw [u_8 hw, R8_t]
theorem tu_9 {ρ : Type} {h : Hp} {f : Nat → Option ρ} (hw : Wr h) : to_ kR (g_R h 0 9) 50 f = f 9 := by rw [u_9 hw, R9_t]
theorem tu_10 {ρ : Type} {h : Hp} {f : Nat → Option ρ} (hw : Wr h) : to_ kR (g_R h 0 10) 50 f = f 10 := by rw [u_10 hw, R10_t]
theorem tu_15 {ρ : Type} {h : Hp} {f : Nat → Option ρ} (hw : Wr h) : to_ kR (g_R h 0 15) 50 f = f 11 := by rw [u_15 hw, R11_t]
theorem tu_16 {ρ : Type} {h : Hp} {f : Nat → Option ρ} (hw : Wr h) : to_ kR (g_R h 0 16) 50 f = f 12 := by rw [u_16 hw, R12_t]
theorem tu_17 {ρ : Type} {h : Hp} {f : Nat → Option ρ} (hw : Wr h) : to_ kR (g_R h 0 17) 50 f = f 13 := by rw [u_17 hw, R13_t]
theorem tu_18 {ρ : Type} {h : Hp} {f : Nat → Option ρ} (hw : Wr h) : to_ kR (g_R h 0 18) 50 f = f 14 := by rw [u_18 hw, R14_t]
theorem tu_19 {ρ : Type} {h : Hp} {f : Nat → Option ρ} (hw : Wr h) : to_ kR (g_R h 0 19) 50 f = f 15 := by rw [u_19 hw, R15_t]
theorem tu_20 {ρ : Type} {h : Hp} {f : Nat → Option ρ} (hw : Wr h) : to_ kR (g_R h 0 20) 50 f = f 16 := by rw [u_20 hw, R16_t]
theorem tu_21 {ρ : Type} {h : Hp} {f : Nat → Option ρ} (hw : Wr h) : to_ kR (g_R h 0 21) 50 f = f 17 := by rw [u_21 hw, R17_t]
theorem tu_22 {ρ : Type} {h : Hp} {f : Nat → Option ρ} (hw : Wr h) : to_ kR (g_R h 0 22) 50 f = f 18 := by rw [u_22 hw, R18_t]
theorem tu_24 {ρ : Type} {h : Hp} {f : Nat → Option ρ} (hw : Wr h) : to_ kR (g_R h 0 24) 50 f = f 19 := by rw [u_24 hw, R19_t]
theorem tu_25 {ρ : Type} {h : Hp} {f : Nat → Option ρ} (hw : Wr h) : to_ kR (g_R h 0 25) 50 f = f 20 := by rw [u_25 hw, R20_t]
theorem tu_26 {ρ : Type} {h : Hp} {f : Nat → Option ρ} (hw : Wr h) : to_ kR (g_R h 0 26) 51 f = f 21 := by rw [u_26 hw, R21_t]
theorem tu_27 {ρ : Type} {h : Hp} {f : Nat → Option ρ} (hw : Wr h) : to_ kR (g_R h 0 27) 51 f = f 22 := by rw [u_27 hw, R22_t]
theorem tu_28 {ρ : Type} {h : Hp} {f : Nat → Option ρ} (hw : Wr h) : to_ kR (g_R h 0 28) 50 f = f 23 := by rw [u_28 hw, R23_t]
theorem tu_29 {ρ : Type} {h : Hp} {f : Nat → Option ρ} (hw : Wr h) : to_ kR (g_R h 0 29) 53 f = f 24 := by rw [u_29 hw, R24_t]
theorem tu_30 {ρ : Type} {h : Hp} {f : Nat → Option ρ} (hw : Wr h) : to_ kR (g_R h 0 30) 50 f = f 25 := by rw [u_30 hw, R25_t]
theorem tu_31 {ρ : Type} {h : Hp} {f : Nat → Option ρ} (hw : Wr h) : to_ kR (g_R h 0 31) 51 f = f 26 := by rw [u_31 hw, R26_t]
theorem tu_32 {ρ : Type} {h : Hp} {f : Nat → Option ρ} (hw : Wr h) : to_ kR (g_R h 0 32) 50 f = f 27 := by rw [u_32 hw, R27_t]
theorem tu_33 {ρ : Type} {h : Hp} {f : Nat → Option ρ} (hw : Wr h) : to_ kR (g_R h 0 33) 50 f = f 28 := by rw [u_33 hw, R28_t]
theorem tu_40 {ρ : Type} {h : Hp} {f : Nat → Option ρ} (hw : Wr h) : to_ kR (g_R h 0 40) 51 f = f 29 := by rw [u_40 hw, R29_t]
theorem tu_53 {ρ : Type} {h : Hp} {f : Nat → Option ρ} (hw : Wr h) : to_ kR (g_R h 0 53) 50 f = f 30 := by rw [u_53 hw, R30_t]
theorem tu_54 {ρ : Type} {h : Hp} {f : Nat → Option ρ} (hw : Wr h) : to_ kR (g_R h 0 54) 50 f = f 31 := by rw [u_54 hw, R31_t]
theorem tu_55 {ρ : Type} {h : Hp} {f : Nat → Option ρ} (hw : Wr h) : to_ kR (g_R h 0 55) 50 f = f 32 := by rw [u_55 hw, R32_t]
theorem tu_56 {ρ : Type} {h : Hp} {f : Nat → Option ρ} (hw : Wr h) : to_ kR (g_R h 0 56) 51 f = f 33 := by rw [u_56 hw, R33_t]
theorem tu_57 {ρ : Type} {h : Hp} {f : Nat → Option ρ} (hw : Wr h) : to_ kR (g_R h 0 57) 52 f = f 34 := by rw [u_57 hw, R34_t]
theorem tu_58 {ρ : Type} {h : Hp} {f : Nat → Option ρ} (hw : Wr h) : to_ kR (g_R h 0 58) 50 f = f 35 := by rw [u_58 hw, R35_t]
theorem tu_59 {ρ : Type} {h : Hp} {f : Nat → Option ρ} (hw : Wr h) : to_ kR (g_R h 0 59) 50 f = f 36 := by rw [u_59 hw, R36_t]
theorem tu_60 {ρ : Type} {h : Hp} {f : Nat → Option ρ} (hw : Wr h) : to_ kR (g_R h 0 60) 50 f = f 37 := by rw [u_60 hw, R37_t]
theorem tu_61 {ρ : Type} {h : Hp} {f : Nat → Option ρ} (hw : Wr h) : to_ kR (g_R h 0 61) 50 f = f 38 := by rw [u_61 hw, R38_t]
theorem tu_62 {ρ : Type} {h : Hp} {f : Nat → Option ρ} (hw : Wr h) : to_ kR (g_R h 0 62) 50 f = f 39 := by rw [u_62 hw, R39_t]
theorem tw_0_0 {cnt : Nat} {rf : Nat → Option Nat} {ρ : Type} {h : Hp} {f : Nat → Option ρ} (hw : Wc cnt rf h) : to_ (kC cnt) (g_R h 0 0) 4 f = f 1 := by rw [w_0_0 hw, C1_t]
theorem tw_1_0 {cnt : Nat} {rf : Nat → Option Nat} {ρ : Type} {h : Hp} {f : Nat → Option ρ} (hw : Wc cnt rf h) : to_ (kC cnt) (g_R h 1 0) 5 f = f 2 := by rw [w_1_0 hw, C2_t]
theorem tw_1_1 {cnt : Nat} {rf : Nat → Option Nat} {ρ : Type} {h : Hp} {f : Nat → Option ρ} (hw : Wc cnt rf h) : to_ (kC cnt) (g_R h 1 1) 7 f = f 8 := by rw [w_1_1 hw, C8_t]
theorem tw_1_2 {cnt : Nat} {rf : Nat → Option Nat} {ρ : Type} {h : Hp} {f : Nat → Option ρ} (hw : Wc cnt rf h) : to_ (kC cnt) (g_R h 1 2) 3 f = f 14 := by rw [w_1_2 hw, C14_t]
theorem tw_1_3 {cnt : Nat} {rf : Nat → Option Nat} {ρ : Type} {h : Hp} {f : Nat → Option ρ} (hw : Wc cnt rf h) : to_ (kC cnt) (g_R h 1 3) 59 f = f 53 := by rw [w_1_3 hw, C53_t]
theorem tw_1_5 {cnt : Nat} {rf : Nat → Option Nat} {ρ : Type} {h : Hp} {f : Nat → Option ρ} (hw : Wc cnt rf h) : to_ (kC cnt) (g_R h 1 5) 55 f = f 54 := by rw [w_1_5 hw, C54_t]
theorem tw_1_6 {cnt : Nat} {rf : Nat → Option Nat} {ρ : Type} {h : Hp} {f : Nat → Option ρ} (hw : Wc cnt rf h) : to_ (kC cnt) (g_R h 1 6) 51 f = f 55 := by rw [w_1_6 hw, C55_t]
theorem tw_1_7 {cnt : Nat} {rf : Nat → Option Nat} {ρ : Type} {h : Hp} {f : Nat → Option ρ} (hw : Wc cnt rf h) : to_ (kC cnt) (g_R h 1 7) 1 f = f 56 := by rw [w_1_7 hw, C56_t]
theorem tw_2_0 {cnt : Nat} {rf : Nat → Option Nat} {ρ : Type} {h : Hp} {f : Nat → Option ρ} (hw : Wc cnt rf h) : to_ (kC cnt) (g_R h 2 0) 50 f = f 3 := by rw [w_2_0 hw, C3_t]
theorem tw_2_1 {cnt : Nat} {rf : Nat → Option Nat} {ρ : Type} {h : Hp} {f : Nat → Option ρ} (hw : Wc cnt rf h) : to_ (kC cnt) (g_R h 2 1) 50 f = f 4 := by rw [w_2_1 hw, C4_t]
theorem tw_2_2 {cnt : Nat} {rf : Nat → Option Nat} {ρ : Type} {h : Hp} {f : Nat → Option ρ} (hw : Wc cnt rf h) : to_ (kC cnt) (g_R h 2 2) 50 f = f 5 := by rw [w_2_2 hw, C5_t]
theorem tw_2_3 {cnt : Nat} {rf : Nat → Option Nat} {ρ : Type} {h : Hp} {f : Nat → Option ρ} (hw : Wc cnt rf h) : to_ (kC cnt) (g_R h 2 3) 50 f = f 6 := by rw [w_2_3 hw, C6_t]
theorem tw_2_4 {cnt : Nat} {rf : Nat → Option Nat} {ρ : Type} {h : Hp} {f : Nat → Option ρ} (hw : Wc cnt rf h) : to_ (kC cnt) (g_R h 2 4) 51 f = f 7 := by rw [w_2_4 hw, C7_t]
theorem tw_8_0 {cnt : Nat} {rf : Nat → Option Nat} {ρ : Type} {h : Hp} {f : Nat → Option ρ} (hw : Wc cnt rf h) : to_ (kC cnt) (g_R h 8 0) 50 f = f 9 := by rw [w_8_0 hw, C9_t]
theorem tw_8_1 {cnt : Nat} {rf : Nat → Option Nat} {ρ : Type} {h : Hp} {f : Nat → Option ρ} (hw : Wc cnt rf h) : to_ (kC cnt) (g_R h 8 1) 50 f = f 10 := by rw [w_8_1 hw, C10_t]
theorem tw_8_2 {cnt : Nat} {rf : Nat → Option Nat} {ρ : Type} {h : Hp} {f : Nat → Option ρ} (hw : Wc cnt rf h) : to_ (kC cnt) (g_R h 8 2) 50 f = f 11 := by rw [w_8_2 hw, C11_t]
theorem tw_8_3 {cnt : Nat} {rf : Nat → Option Nat} {ρ : Type} {h : Hp} {f : Nat → Option ρ} (hw : Wc cnt rf h) : to_ (kC cnt) (g_R h 8 3) 50 f = f 12 := by rw [w_8_3 hw, C12_t]
theorem tw_8_4 {cnt : Nat} {rf : Nat → Option Nat} {ρ : Type} {h : Hp} {f : Nat → Option ρ} (hw : Wc cnt rf h) : to_ (kC cnt) (g_R h 8 4) 50 f = f 13 := by rw [w_8_4 hw, C13_t]
theorem tw_14_0 {cnt : Nat} {rf : Nat → Option Nat} {ρ : Type} {h : Hp} {f : Nat → Option ρ} (hw : Wc cnt rf h) : to_ (kC cnt) (g_R h 14 0) 58 f = f 15 := by rw [w_14_0 hw, C15_t]
theorem tw_14_1 {cnt : Nat} {rf : Nat → Option Nat} {ρ : Type} {h : Hp} {f : Nat → Option ρ} (hw : Wc cnt rf h) : to_ (kC cnt) (g_R h 14 1) 60 f = f 16 := by rw [w_14_1 hw, C16_t]
theorem tf_0 {cnt : Nat} {rf : Nat → Option Nat} {ρ : Type} {h : Hp} {f : Nat → Option ρ} (hw : Wc cnt rf h) {d : Nat} (hd : d < 12) : to_ (kC cnt) (g_R h (57 + 4 * d) 0) 51 f = f (57 + 4 * d + 1) := by rw [wf_0 hw hd, F1_t hd]
theorem tf_1 {cnt : Nat} {rf : Nat → Option Nat} {ρ : Type} {h : Hp} {f : Nat → Option ρ} (hw : Wc cnt rf h) {d : Nat} (hd : d < 12) : to_ (kC cnt) (g_R h (57 + 4 * d) 1) 51 f = f (57 + 4 * d + 2) := by rw [wf_1 hw hd, F2_t hd]
theorem tf_2 {cnt : Nat} {rf : Nat → Option Nat} {ρ : Type} {h : Hp} {f : Nat → Option ρ} (hw : Wc cnt rf h) {d : Nat} (hd : d < 12) : to_ (kC cnt) (g_R h (57 + 4 * d) 2) 1 f = f (57 + 4 * d + 3) := by rw [wf_2 hw hd, F3_t hd]
theorem tt_1 {cnt : Nat} {rf : Nat → Option Nat} {ρ : Type} {h : Hp} {f : Nat → Option ρ} (hw : Wc cnt rf h) {r : Nat} (hr : r < cnt) : to_ (kC cnt) (g_R h (105 + 8 * r) 1) 50 f = f (105 + 8 * r + 1) := by rw [wt_1 hw hr, T1_t hr]
theorem tt_2 {cnt : Nat} {rf : Nat → Option Nat} {ρ : Type} {h : Hp} {f : Nat → Option ρ} (hw : Wc cnt rf h) {r : Nat} (hr : r < cnt) : to_ (kC cnt) (g_R h (105 + 8 * r) 2) 50 f = f (105 + 8 * r + 2) := by rw [wt_2 hw hr, T2_t hr]
theorem tt_3 {cnt : Nat} {rf : Nat → Option Nat} {ρ : Type} {h : Hp} {f : Nat → Option ρ} (hw : Wc cnt rf h) {r : Nat} (hr : r < cnt) : to_ (kC cnt) (g_R h (105 + 8 * r) 3) 50 f = f (105 + 8 * r + 3) := by rw [wt_3 hw hr, T3_t hr]
theorem tt_4 {cnt : Nat} {rf : Nat → Option Nat} {ρ : Type} {h : Hp} {f : Nat → Option ρ} (hw : Wc cnt rf h) {r : Nat} (hr : r < cnt) : to_ (kC cnt) (g_R h (105 + 8 * r) 4) 50 f = f (105 + 8 * r + 4) := by rw [wt_4 hw hr, T4_t hr]
theorem tt_5 {cnt : Nat} {rf : Nat → Option Nat} {ρ : Type} {h : Hp} {f : Nat → Option ρ} (hw : Wc cnt rf h) {r : Nat} (hr : r < cnt) : to_ (kC cnt) (g_R h (105 + 8 * r) 5) 50 f = f (105 + 8 * r + 5) := by rw [wt_5 hw hr, T5_t hr]
theorem tt_6 {cnt : Nat} {rf : Nat → Option Nat} {ρ : Type} {h : Hp} {f : Nat → Option ρ} (hw : Wc cnt rf h) {r : Nat} (hr : r < cnt) : to_ (kC cnt) (g_R h (105 + 8 * r) 6) 50 f = f (105 + 8 * r + 6) := by rw [wt_6 hw hr, T6_t hr]
theorem tt_7 {cnt : Nat} {rf : Nat → Option Nat} {ρ : Type} {h : Hp} {f : Nat → Option ρ} (hw : Wc cnt rf h) {r : Nat} (hr : r < cnt) : to_ (kC cnt) (g_R h (105 + 8 * r) 7) 50 f = f (105 + 8 * r + 7) := by rw [wt_7 hw hr, T7_t hr]
