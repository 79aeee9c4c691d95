/-! ===== the pure part: no machine from here on ===== -/
/-! reads and writes of the heap's words -/
theorem rI_s (h : Hp) (a k : Nat) (v : Int32) : g_I (s_I h a k v) a k = v := by simp [g_I, s_I, up2]
theorem rI_a (h : Hp) (a k : Nat) (v : Int32) {b : Nat} (hb : b ≠ a) : g_I (s_I h a k v) b = g_I h b := by funext j; simp [g_I, s_I, up2, hb]
theorem rI_k (h : Hp) (a k : Nat) (v : Int32) {j : Nat} (hj : j ≠ k) : g_I (s_I h a k v) a j = g_I h a j := by simp [g_I, s_I, up2, hj]
theorem rI_f (h : Hp) (a k : Nat) (v : Int32) : g_I (s_I h a k v) a = fun j => if j = k then v else g_I h a j := by funext j; simp [g_I, s_I, up2]
theorem rJ_s (h : Hp) (a k : Nat) (v : Int64) : g_J (s_J h a k v) a k = v := by simp [g_J, s_J, up2]
theorem rJ_a (h : Hp) (a k : Nat) (v : Int64) {b : Nat} (hb : b ≠ a) : g_J (s_J h a k v) b = g_J h b := by funext j; simp [g_J, s_J, up2, hb]
theorem rJ_k (h : Hp) (a k : Nat) (v : Int64) {j : Nat} (hj : j ≠ k) : g_J (s_J h a k v) a j = g_J h a j := by simp [g_J, s_J, up2, hj]
theorem rJ_f (h : Hp) (a k : Nat) (v : Int64) : g_J (s_J h a k v) a = fun j => if j = k then v else g_J h a j := by funext j; simp [g_J, s_J, up2]
theorem rD_s (h : Hp) (a k : Nat) (v : UInt64) : g_D (s_D h a k v) a k = v := by simp [g_D, s_D, up2]
theorem rD_a (h : Hp) (a k : Nat) (v : UInt64) {b : Nat} (hb : b ≠ a) : g_D (s_D h a k v) b = g_D h b := by funext j; simp [g_D, s_D, up2, hb]
theorem rD_k (h : Hp) (a k : Nat) (v : UInt64) {j : Nat} (hj : j ≠ k) : g_D (s_D h a k v) a j = g_D h a j := by simp [g_D, s_D, up2, hj]
theorem rD_f (h : Hp) (a k : Nat) (v : UInt64) : g_D (s_D h a k v) a = fun j => if j = k then v else g_D h a j := by funext j; simp [g_D, s_D, up2]
theorem rR_s (h : Hp) (a k : Nat) (v : Option Nat) : g_R (s_R h a k v) a k = v := by simp [g_R, s_R, up2]
theorem rR_a (h : Hp) (a k : Nat) (v : Option Nat) {b : Nat} (hb : b ≠ a) : g_R (s_R h a k v) b = g_R h b := by funext j; simp [g_R, s_R, up2, hb]
theorem rR_k (h : Hp) (a k : Nat) (v : Option Nat) {j : Nat} (hj : j ≠ k) : g_R (s_R h a k v) a j = g_R h a j := by simp [g_R, s_R, up2, hj]
theorem rJI (h : Hp) (a k : Nat) (v : Int32) : g_J (s_I h a k v) = g_J h := rfl
theorem rDI (h : Hp) (a k : Nat) (v : Int32) : g_D (s_I h a k v) = g_D h := rfl
theorem rRI (h : Hp) (a k : Nat) (v : Int32) : g_R (s_I h a k v) = g_R h := rfl
theorem rIJ (h : Hp) (a k : Nat) (v : Int64) : g_I (s_J h a k v) = g_I h := rfl
theorem rDJ (h : Hp) (a k : Nat) (v : Int64) : g_D (s_J h a k v) = g_D h := rfl
theorem rRJ (h : Hp) (a k : Nat) (v : Int64) : g_R (s_J h a k v) = g_R h := rfl
theorem rID (h : Hp) (a k : Nat) (v : UInt64) : g_I (s_D h a k v) = g_I h := rfl
theorem rJD (h : Hp) (a k : Nat) (v : UInt64) : g_J (s_D h a k v) = g_J h := rfl
theorem rRD (h : Hp) (a k : Nat) (v : UInt64) : g_R (s_D h a k v) = g_R h := rfl
theorem rIR (h : Hp) (a k : Nat) (v : Option Nat) : g_I (s_R h a k v) = g_I h := rfl
theorem rJR (h : Hp) (a k : Nat) (v : Option Nat) : g_J (s_R h a k v) = g_J h := rfl
theorem rDR (h : Hp) (a k : Nat) (v : Option Nat) : g_D (s_R h a k v) = g_D h := rfl
theorem rcJI (h : Hp) (b sp a dp n : Nat) : g_J (cp_I h b sp a dp n) = g_J h := rfl
theorem rcDI (h : Hp) (b sp a dp n : Nat) : g_D (cp_I h b sp a dp n) = g_D h := rfl
theorem rcRI (h : Hp) (b sp a dp n : Nat) : g_R (cp_I h b sp a dp n) = g_R h := rfl
theorem rcI_a (h : Hp) (b sp a dp n : Nat) {c : Nat} (hc : c ≠ a) : g_I (cp_I h b sp a dp n) c = g_I h c := by funext j; simp [g_I, cp_I, hc]
theorem rcI_f (h : Hp) (b a n : Nat) : g_I (cp_I h b 0 a 0 n) a = fun j => if j < n then g_I h b j else g_I h a j := by funext j; simp [g_I, cp_I]
theorem rcIJ (h : Hp) (b sp a dp n : Nat) : g_I (cp_J h b sp a dp n) = g_I h := rfl
theorem rcDJ (h : Hp) (b sp a dp n : Nat) : g_D (cp_J h b sp a dp n) = g_D h := rfl
theorem rcRJ (h : Hp) (b sp a dp n : Nat) : g_R (cp_J h b sp a dp n) = g_R h := rfl
theorem rcJ_a (h : Hp) (b sp a dp n : Nat) {c : Nat} (hc : c ≠ a) : g_J (cp_J h b sp a dp n) c = g_J h c := by funext j; simp [g_J, cp_J, hc]
theorem rcJ_f (h : Hp) (b a n : Nat) : g_J (cp_J h b 0 a 0 n) a = fun j => if j < n then g_J h b j else g_J h a j := by funext j; simp [g_J, cp_J]
/-! numbers as naturals -/
theorem tI_nI {n : Nat} (h : n < 2147483648) : (nI n).toInt = (n : Int) := nI_toInt (by omega)
theorem li_n (n : Nat) : (OfNat.ofNat n : Int32) = nI n := rfl
section PA
variable {ρ : Type} {κ : Kd} {h : Hp} {b N j : Nat}
theorem to_s {kd : Nat} {f : Nat → Option ρ} (hk : (κ b).1 = kd) : to_ κ (some b) kd f = f b := by simp [to_, hk]
theorem aI_n {f : Int32 → Option ρ} (hj : j < (κ b).2) (hN : (κ b).2 < 2147483648) : a_I κ h b (nI j) f = f (g_I h b j) := by
  unfold a_I
  rw [tI_nI (by omega), if_pos (by omega)]
  rfl
theorem aJ_n {f : Int64 → Option ρ} (hj : j < (κ b).2) (hN : (κ b).2 < 2147483648) : a_J κ h b (nI j) f = f (g_J h b j) := by
  unfold a_J
  rw [tI_nI (by omega), if_pos (by omega)]
  rfl
theorem aD_n {f : UInt64 → Option ρ} (hj : j < (κ b).2) (hN : (κ b).2 < 2147483648) : a_D κ h b (nI j) f = f (g_D h b j) := by
  unfold a_D
  rw [tI_nI (by omega), if_pos (by omega)]
  rfl
theorem aR_n {kd : Nat} {f : Nat → Option ρ} (hj : j < (κ b).2) (hN : (κ b).2 < 2147483648) : a_R κ h b (nI j) kd f = to_ κ (g_R h b j) kd f := by
  unfold a_R
  rw [tI_nI (by omega), if_pos (by omega)]
  rfl
theorem wI_n {x : Int32} {f : Hp → Option ρ} (hj : j < (κ b).2) (hN : (κ b).2 < 2147483648) : w_I κ h b (nI j) x f = f (s_I h b j x) := by
  unfold w_I
  rw [tI_nI (by omega), if_pos (by omega)]
  rfl
theorem wJ_n {x : Int64} {f : Hp → Option ρ} (hj : j < (κ b).2) (hN : (κ b).2 < 2147483648) : w_J κ h b (nI j) x f = f (s_J h b j x) := by
  unfold w_J
  rw [tI_nI (by omega), if_pos (by omega)]
  rfl
theorem wD_n {x : UInt64} {f : Hp → Option ρ} (hj : j < (κ b).2) (hN : (κ b).2 < 2147483648) : w_D κ h b (nI j) x f = f (s_D h b j x) := by
  unfold w_D
  rw [tI_nI (by omega), if_pos (by omega)]
  rfl
theorem wR_n {x : Nat} {f : Hp → Option ρ} (hj : j < (κ b).2) (hN : (κ b).2 < 2147483648) : w_R κ h b (nI j) x f = f (s_R h b j (some x)) := by
  unfold w_R
  rw [tI_nI (by omega), if_pos (by omega)]
  rfl
theorem cI_n {a m : Nat} {f : Hp → Option ρ} (h1 : m ≤ (κ b).2) (h2 : m ≤ (κ a).2) (hN : m < 2147483648) : c_I κ h b 0 a 0 (nI m) f = f (cp_I h b 0 a 0 m) := by
  unfold c_I
  rw [tI_nI hN, show (0 : Int32).toInt = 0 from rfl, if_pos (by omega)]
  rfl
theorem cJ_n {a m : Nat} {f : Hp → Option ρ} (h1 : m ≤ (κ b).2) (h2 : m ≤ (κ a).2) (hN : m < 2147483648) : c_J κ h b 0 a 0 (nI m) f = f (cp_J h b 0 a 0 m) := by
  unfold c_J
  rw [tI_nI hN, show (0 : Int32).toInt = 0 from rfl, if_pos (by omega)]
  rfl
theorem sl_n {n : Nat} {f : Int32 → Option ρ} (hj : j < (st_n n).2.2) (hN : (st_n n).2.2 < 2147483648) : s_ld n (nI j) f = f ((st_v n).getD j 0) := by
  unfold s_ld
  rw [tI_nI (by omega), if_pos (by omega)]
  rfl
theorem lt_e {α β : Type} (x : α) (f : α → β) : lt_ x f = f x := rfl
theorem bs_e {α β : Type} (x : α) (f : α → Option β) : (some x).bind f = f x := rfl
theorem b2_e {α : Type} (x : α) (h : Hp) (f : α → Hp → Option ρ) : b2 (some (x, h)) f = f x h := rfl
end PA
def sh_C : List (Nat × Nat) := [(8, 0), (4, 0), (5, 0), (50, 12), (50, 12), (50, 12), (50, 12), (51, 144), (7, 0), (50, 12), (50, 12), (50, 12), (50, 12), (50, 48), (3, 0), (58, 3), (60, 3), (5, 0), (50, 12), (50, 12), (50, 12), (50, 12), (51, 144), (7, 0), (50, 12), (50, 12), (50, 12), (50, 12), (50, 48), (5, 0), (50, 12), (50, 12), (50, 12), (50, 12), (51, 144), (7, 0), (50, 12), (50, 12), (50, 12), (50, 12), (50, 48), (5, 0), (50, 12), (50, 12), (50, 12), (50, 12), (51, 144), (7, 0), (50, 12), (50, 12), (50, 12), (50, 12), (50, 48), (59, 12), (55, 12), (51, 60), (1, 0)]
def sh_F : List (Nat × Nat) := [(2, 0), (51, 6), (51, 8), (1, 0)]
def sh_T : List (Nat × Nat) := [(6, 0), (50, 30), (50, 30), (50, 30), (50, 4), (50, 4), (50, 4), (50, 4)]
def kC (cnt : Nat) : Kd := fun a => if a < 57 then sh_C.getD a (0, 0) else if a < 105 then sh_F.getD ((a - 57) % 4) (0, 0) else if a < 105 + 8 * cnt then sh_T.getD ((a - 105) % 8) (0, 0) else (0, 0)
theorem kC_0 (n : Nat) : kC n 0 = (8, 0) := rfl
theorem kC_1 (n : Nat) : kC n 1 = (4, 0) := rfl
theorem kC_2 (n : Nat) : kC n 2 = (5, 0) := rfl
theorem kC_3 (n : Nat) : kC n 3 = (50, 12) := rfl
theorem kC_4 (n : Nat) : kC n 4 = (50, 12) := rfl
theorem kC_5 (n : Nat) : kC n 5 = (50, 12) := rfl
theorem kC_6 (n : Nat) : kC n 6 = (50, 12) := rfl
theorem kC_7 (n : Nat) : kC n 7 = (51, 144) := rfl
theorem kC_8 (n : Nat) : kC n 8 = (7, 0) := rfl
theorem kC_9 (n : Nat) : kC n 9 = (50, 12) := rfl
theorem kC_10 (n : Nat) : kC n 10 = (50, 12) := rfl
theorem kC_11 (n : Nat) : kC n 11 = (50, 12) := rfl
theorem kC_12 (n : Nat) : kC n 12 = (50, 12) := rfl
theorem kC_13 (n : Nat) : kC n 13 = (50, 48) := rfl
theorem kC_14 (n : Nat) : kC n 14 = (3, 0) := rfl
theorem kC_15 (n : Nat) : kC n 15 = (58, 3) := rfl
theorem kC_16 (n : Nat) : kC n 16 = (60, 3) := rfl
theorem kC_17 (n : Nat) : kC n 17 = (5, 0) := rfl
theorem kC_18 (n : Nat) : kC n 18 = (50, 12) := rfl
theorem kC_19 (n : Nat) : kC n 19 = (50, 12) := rfl
theorem kC_20 (n : Nat) : kC n 20 = (50, 12) := rfl
theorem kC_21 (n : Nat) : kC n 21 = (50, 12) := rfl
theorem kC_22 (n : Nat) : kC n 22 = (51, 144) := rfl
theorem kC_23 (n : Nat) : kC n 23 = (7, 0) := rfl
theorem kC_24 (n : Nat) : kC n 24 = (50, 12) := rfl
theorem kC_25 (n : Nat) : kC n 25 = (50, 12) := rfl
theorem kC_26 (n : Nat) : kC n 26 = (50, 12) := rfl
theorem kC_27 (n : Nat) : kC n 27 = (50, 12) := rfl
theorem kC_28 (n : Nat) : kC n 28 = (50, 48) := rfl
theorem kC_29 (n : Nat) : kC n 29 = (5, 0) := rfl
theorem kC_30 (n : Nat) : kC n 30 = (50, 12) := rfl
theorem kC_31 (n : Nat) : kC n 31 = (50, 12) := rfl
theorem kC_32 (n : Nat) : kC n 32 = (50, 12) := rfl
theorem kC_33 (n : Nat) : kC n 33 = (50, 12) := rfl
theorem kC_34 (n : Nat) : kC n 34 = (51, 144) := rfl
theorem kC_35 (n : Nat) : kC n 35 = (7, 0) := rfl
theorem kC_36 (n : Nat) : kC n 36 = (50, 12) := rfl
theorem kC_37 (n : Nat) : kC n 37 = (50, 12) := rfl
theorem kC_38 (n : Nat) : kC n 38 = (50, 12) := rfl
theorem kC_39 (n : Nat) : kC n 39 = (50, 12) := rfl
theorem kC_40 (n : Nat) : kC n 40 = (50, 48) := rfl
theorem kC_41 (n : Nat) : kC n 41 = (5, 0) := rfl
theorem kC_42 (n : Nat) : kC n 42 = (50, 12) := rfl
theorem kC_43 (n : Nat) : kC n 43 = (50, 12) := rfl
theorem kC_44 (n : Nat) : kC n 44 = (50, 12) := rfl
theorem kC_45 (n : Nat) : kC n 45 = (50, 12) := rfl
theorem kC_46 (n : Nat) : kC n 46 = (51, 144) := rfl
theorem kC_47 (n : Nat) : kC n 47 = (7, 0) := rfl
theorem kC_48 (n : Nat) : kC n 48 = (50, 12) := rfl
theorem kC_49 (n : Nat) : kC n 49 = (50, 12) := rfl
theorem kC_50 (n : Nat) : kC n 50 = (50, 12) := rfl
theorem kC_51 (n : Nat) : kC n 51 = (50, 12) := rfl
theorem kC_52 (n : Nat) : kC n 52 = (50, 48) := rfl
theorem kC_53 (n : Nat) : kC n 53 = (59, 12) := rfl
theorem kC_54 (n : Nat) : kC n 54 = (55, 12) := rfl
theorem kC_55 (n : Nat) : kC n 55 = (51, 60) := rfl
theorem kC_56 (n : Nat) : kC n 56 = (1, 0) := rfl
theorem kCf_0 (n : Nat) {d : Nat} (hd : d < 12) : kC n (57 + 4 * d) = (2, 0) := by
  unfold kC
  rw [if_neg (by omega), if_pos (by omega), show (57 + 4 * d - 57) % 4 = 0 by omega]
  rfl
theorem kCf_1 (n : Nat) {d : Nat} (hd : d < 12) : kC n (57 + 4 * d + 1) = (51, 6) := by
  unfold kC
  rw [if_neg (by omega), if_pos (by omega), show (57 + 4 * d + 1 - 57) % 4 = 1 by omega]
  rfl
theorem kCf_2 (n : Nat) {d : Nat} (hd : d < 12) : kC n (57 + 4 * d + 2) = (51, 8) := by
  unfold kC
  rw [if_neg (by omega), if_pos (by omega), show (57 + 4 * d + 2 - 57) % 4 = 2 by omega]
  rfl
theorem kCf_3 (n : Nat) {d : Nat} (hd : d < 12) : kC n (57 + 4 * d + 3) = (1, 0) := by
  unfold kC
  rw [if_neg (by omega), if_pos (by omega), show (57 + 4 * d + 3 - 57) % 4 = 3 by omega]
  rfl
theorem kCt_0 {n : Nat} {q : Nat} (hq : q < n) : kC n (105 + 8 * q) = (6, 0) := by
  unfold kC
  rw [if_neg (by omega), if_neg (by omega), if_pos (by omega), show (105 + 8 * q - 105) % 8 = 0 by omega]
  rfl
theorem kCt_1 {n : Nat} {q : Nat} (hq : q < n) : kC n (105 + 8 * q + 1) = (50, 30) := by
  unfold kC
  rw [if_neg (by omega), if_neg (by omega), if_pos (by omega), show (105 + 8 * q + 1 - 105) % 8 = 1 by omega]
  rfl
theorem kCt_2 {n : Nat} {q : Nat} (hq : q < n) : kC n (105 + 8 * q + 2) = (50, 30) := by
  unfold kC
  rw [if_neg (by omega), if_neg (by omega), if_pos (by omega), show (105 + 8 * q + 2 - 105) % 8 = 2 by omega]
  rfl
theorem kCt_3 {n : Nat} {q : Nat} (hq : q < n) : kC n (105 + 8 * q + 3) = (50, 30) := by
  unfold kC
  rw [if_neg (by omega), if_neg (by omega), if_pos (by omega), show (105 + 8 * q + 3 - 105) % 8 = 3 by omega]
  rfl
theorem kCt_4 {n : Nat} {q : Nat} (hq : q < n) : kC n (105 + 8 * q + 4) = (50, 4) := by
  unfold kC
  rw [if_neg (by omega), if_neg (by omega), if_pos (by omega), show (105 + 8 * q + 4 - 105) % 8 = 4 by omega]
  rfl
theorem kCt_5 {n : Nat} {q : Nat} (hq : q < n) : kC n (105 + 8 * q + 5) = (50, 4) := by
  unfold kC
  rw [if_neg (by omega), if_neg (by omega), if_pos (by omega), show (105 + 8 * q + 5 - 105) % 8 = 5 by omega]
  rfl
theorem kCt_6 {n : Nat} {q : Nat} (hq : q < n) : kC n (105 + 8 * q + 6) = (50, 4) := by
  unfold kC
  rw [if_neg (by omega), if_neg (by omega), if_pos (by omega), show (105 + 8 * q + 6 - 105) % 8 = 6 by omega]
  rfl
theorem kCt_7 {n : Nat} {q : Nat} (hq : q < n) : kC n (105 + 8 * q + 7) = (50, 4) := by
  unfold kC
  rw [if_neg (by omega), if_neg (by omega), if_pos (by omega), show (105 + 8 * q + 7 - 105) % 8 = 7 by omega]
  rfl
def wt_C : List (List (Option Nat)) := [[some 1], [some 2, some 8, some 14, some 53, none, some 54, some 55, some 56], [some 3, some 4, some 5, some 6, some 7], [], [], [], [], [], [some 9, some 10, some 11, some 12, some 13], [], [], [], [], [], [some 15, some 16], [some 17, some 29, some 41], [some 23, some 35, some 47], [some 18, some 19, some 20, some 21, some 22], [], [], [], [], [], [some 24, some 25, some 26, some 27, some 28], [], [], [], [], [], [some 30, some 31, some 32, some 33, some 34], [], [], [], [], [], [some 36, some 37, some 38, some 39, some 40], [], [], [], [], [], [some 42, some 43, some 44, some 45, some 46], [], [], [], [], [], [some 48, some 49, some 50, some 51, some 52], [], [], [], [], [], [], [some 57, some 61, some 65, some 69, some 73, some 77, some 81, some 85, some 89, some 93, some 97, some 101], [], []]
def wC (cnt : Nat) (rf : Nat → Option Nat) (a k : Nat) : Option Nat := if a < 57 then (if a = 53 then (if k < cnt then some (105 + 8 * k) else none) else (wt_C.getD a []).getD k none) else if a < 105 then (if (a - 57) % 4 = 0 then (if k < 3 then some (a + (k + 1)) else if k = 3 then rf ((a - 57) / 4) else none) else none) else (if (a - 105) % 8 = 0 then (if 1 ≤ k ∧ k < 8 then some (a + k) else none) else none)
/-- the class's references stand as they were laid; rf: which routine each frame has -/
def Wc (cnt : Nat) (rf : Nat → Option Nat) (h : Hp) : Prop := ∀ a k, a < 105 + 8 * cnt → k < 20 → g_R h a k = wC cnt rf a k
section PW
variable {cnt : Nat} {rf : Nat → Option Nat} {h : Hp}
theorem w_0_0 (hw : Wc cnt rf h) : g_R h 0 0 = some 1 := hw 0 0 (by omega) (by decide)
theorem w_1_0 (hw : Wc cnt rf h) : g_R h 1 0 = some 2 := hw 1 0 (by omega) (by decide)
theorem w_1_1 (hw : Wc cnt rf h) : g_R h 1 1 = some 8 := hw 1 1 (by omega) (by decide)
theorem w_1_2 (hw : Wc cnt rf h) : g_R h 1 2 = some 14 := hw 1 2 (by omega) (by decide)
theorem w_1_3 (hw : Wc cnt rf h) : g_R h 1 3 = some 53 := hw 1 3 (by omega) (by decide)
theorem w_1_5 (hw : Wc cnt rf h) : g_R h 1 5 = some 54 := hw 1 5 (by omega) (by decide)
theorem w_1_6 (hw : Wc cnt rf h) : g_R h 1 6 = some 55 := hw 1 6 (by omega) (by decide)
theorem w_1_7 (hw : Wc cnt rf h) : g_R h 1 7 = some 56 := hw 1 7 (by omega) (by decide)
theorem w_2_0 (hw : Wc cnt rf h) : g_R h 2 0 = some 3 := hw 2 0 (by omega) (by decide)
theorem w_2_1 (hw : Wc cnt rf h) : g_R h 2 1 = some 4 := hw 2 1 (by omega) (by decide)
theorem w_2_2 (hw : Wc cnt rf h) : g_R h 2 2 = some 5 := hw 2 2 (by omega) (by decide)
theorem w_2_3 (hw : Wc cnt rf h) : g_R h 2 3 = some 6 := hw 2 3 (by omega) (by decide)
theorem w_2_4 (hw : Wc cnt rf h) : g_R h 2 4 = some 7 := hw 2 4 (by omega) (by decide)
theorem w_8_0 (hw : Wc cnt rf h) : g_R h 8 0 = some 9 := hw 8 0 (by omega) (by decide)
theorem w_8_1 (hw : Wc cnt rf h) : g_R h 8 1 = some 10 := hw 8 1 (by omega) (by decide)
theorem w_8_2 (hw : Wc cnt rf h) : g_R h 8 2 = some 11 := hw 8 2 (by omega) (by decide)
theorem w_8_3 (hw : Wc cnt rf h) : g_R h 8 3 = some 12 := hw 8 3 (by omega) (by decide)
theorem w_8_4 (hw : Wc cnt rf h) : g_R h 8 4 = some 13 := hw 8 4 (by omega) (by decide)
theorem w_14_0 (hw : Wc cnt rf h) : g_R h 14 0 = some 15 := hw 14 0 (by omega) (by decide)
theorem w_14_1 (hw : Wc cnt rf h) : g_R h 14 1 = some 16 := hw 14 1 (by omega) (by decide)
theorem w_15_0 (hw : Wc cnt rf h) : g_R h 15 0 = some 17 := hw 15 0 (by omega) (by decide)
theorem w_15_1 (hw : Wc cnt rf h) : g_R h 15 1 = some 29 := hw 15 1 (by omega) (by decide)
theorem w_15_2 (hw : Wc cnt rf h) : g_R h 15 2 = some 41 := hw 15 2 (by omega) (by decide)
theorem w_16_0 (hw : Wc cnt rf h) : g_R h 16 0 = some 23 := hw 16 0 (by omega) (by decide)
theorem w_16_1 (hw : Wc cnt rf h) : g_R h 16 1 = some 35 := hw 16 1 (by omega) (by decide)
theorem w_16_2 (hw : Wc cnt rf h) : g_R h 16 2 = some 47 := hw 16 2 (by omega) (by decide)
theorem w_17_0 (hw : Wc cnt rf h) : g_R h 17 0 = some 18 := hw 17 0 (by omega) (by decide)
theorem w_17_1 (hw : Wc cnt rf h) : g_R h 17 1 = some 19 := hw 17 1 (by omega) (by decide)
theorem w_17_2 (hw : Wc cnt rf h) : g_R h 17 2 = some 20 := hw 17 2 (by omega) (by decide)
theorem w_17_3 (hw : Wc cnt rf h) : g_R h 17 3 = some 21 := hw 17 3 (by omega) (by decide)
theorem w_17_4 (hw : Wc cnt rf h) : g_R h 17 4 = some 22 := hw 17 4 (by omega) (by decide)
theorem w_23_0 (hw : Wc cnt rf h) : g_R h 23 0 = some 24 := hw 23 0 (by omega) (by decide)
theorem w_23_1 (hw : Wc cnt rf h) : g_R h 23 1 = some 25 := hw 23 1 (by omega) (by decide)
theorem w_23_2 (hw : Wc cnt rf h) : g_R h 23 2 = some 26 := hw 23 2 (by omega) (by decide)
theorem w_23_3 (hw : Wc cnt rf h) : g_R h 23 3 = some 27 := hw 23 3 (by omega) (by decide)
theorem w_23_4 (hw : Wc cnt rf h) : g_R h 23 4 = some 28 := hw 23 4 (by omega) (by decide)
theorem w_29_0 (hw : Wc cnt rf h) : g_R h 29 0 = some 30 := hw 29 0 (by omega) (by decide)
theorem w_29_1 (hw : Wc cnt rf h) : g_R h 29 1 = some 31 := hw 29 1 (by omega) (by decide)
theorem w_29_2 (hw : Wc cnt rf h) : g_R h 29 2 = some 32 := hw 29 2 (by omega) (by decide)
theorem w_29_3 (hw : Wc cnt rf h) : g_R h 29 3 = some 33 := hw 29 3 (by omega) (by decide)
theorem w_29_4 (hw : Wc cnt rf h) : g_R h 29 4 = some 34 := hw 29 4 (by omega) (by decide)
theorem w_35_0 (hw : Wc cnt rf h) : g_R h 35 0 = some 36 := hw 35 0 (by omega) (by decide)
theorem w_35_1 (hw : Wc cnt rf h) : g_R h 35 1 = some 37 := hw 35 1 (by omega) (by decide)
theorem w_35_2 (hw : Wc cnt rf h) : g_R h 35 2 = some 38 := hw 35 2 (by omega) (by decide)
theorem w_35_3 (hw : Wc cnt rf h) : g_R h 35 3 = some 39 := hw 35 3 (by omega) (by decide)
theorem w_35_4 (hw : Wc cnt rf h) : g_R h 35 4 = some 40 := hw 35 4 (by omega) (by decide)
theorem w_41_0 (hw : Wc cnt rf h) : g_R h 41 0 = some 42 := hw 41 0 (by omega) (by decide)
theorem w_41_1 (hw : Wc cnt rf h) : g_R h 41 1 = some 43 := hw 41 1 (by omega) (by decide)
theorem w_41_2 (hw : Wc cnt rf h) : g_R h 41 2 = some 44 := hw 41 2 (by omega) (by decide)
theorem w_41_3 (hw : Wc cnt rf h) : g_R h 41 3 = some 45 := hw 41 3 (by omega) (by decide)
theorem w_41_4 (hw : Wc cnt rf h) : g_R h 41 4 = some 46 := hw 41 4 (by omega) (by decide)
theorem w_47_0 (hw : Wc cnt rf h) : g_R h 47 0 = some 48 := hw 47 0 (by omega) (by decide)
theorem w_47_1 (hw : Wc cnt rf h) : g_R h 47 1 = some 49 := hw 47 1 (by omega) (by decide)
theorem w_47_2 (hw : Wc cnt rf h) : g_R h 47 2 = some 50 := hw 47 2 (by omega) (by decide)
theorem w_47_3 (hw : Wc cnt rf h) : g_R h 47 3 = some 51 := hw 47 3 (by omega) (by decide)
theorem w_47_4 (hw : Wc cnt rf h) : g_R h 47 4 = some 52 := hw 47 4 (by omega) (by decide)
theorem w_53 (hw : Wc cnt rf h) {q : Nat} (hq : q < cnt) (hc : cnt ≤ 12) : g_R h 53 q = some (105 + 8 * q) := by
  rw [hw 53 q (by omega) (by omega)]
  simp [wC, hq]
theorem w_54 (hw : Wc cnt rf h) {d : Nat} (hd : d < 12) : g_R h 54 d = some (57 + 4 * d) := by
  rw [hw 54 d (by omega) (by omega)]
  match d, hd with
  | 0, _ => rfl
  | 1, _ => rfl
  | 2, _ => rfl
  | 3, _ => rfl
  | 4, _ => rfl
  | 5, _ => rfl
  | 6, _ => rfl
  | 7, _ => rfl
  | 8, _ => rfl
  | 9, _ => rfl
  | 10, _ => rfl
  | 11, _ => rfl
theorem w_15 (hw : Wc cnt rf h) {q : Nat} (hq : q < 3) : g_R h 15 q = some (17 + 12 * q) := by
  rw [hw 15 q (by omega) (by omega)]
  match q, hq with
  | 0, _ => rfl
  | 1, _ => rfl
  | 2, _ => rfl
theorem w_16 (hw : Wc cnt rf h) {q : Nat} (hq : q < 3) : g_R h 16 q = some (23 + 12 * q) := by
  rw [hw 16 q (by omega) (by omega)]
  match q, hq with
  | 0, _ => rfl
  | 1, _ => rfl
  | 2, _ => rfl
theorem w_f (hw : Wc cnt rf h) {d k : Nat} (hd : d < 12) (hk : k < 3) : g_R h (57 + 4 * d) k = some (57 + 4 * d + (k + 1)) := by
  rw [hw _ k (by omega) (by omega)]
  unfold wC
  rw [if_neg (by omega), if_pos (by omega), if_pos (by omega), if_pos hk]
theorem w_f3 (hw : Wc cnt rf h) {d : Nat} (hd : d < 12) : g_R h (57 + 4 * d) 3 = rf d := by
  rw [hw _ 3 (by omega) (by omega)]
  unfold wC
  rw [if_neg (by omega), if_pos (by omega), if_pos (by omega), if_neg (by omega), if_pos rfl]
  congr 1
  omega
theorem w_t (hw : Wc cnt rf h) {q k : Nat} (hq : q < cnt) (hk : 1 ≤ k ∧ k < 8) : g_R h (105 + 8 * q) k = some (105 + 8 * q + k) := by
  rw [hw _ k (by omega) (by omega)]
  unfold wC
  rw [if_neg (by omega), if_neg (by omega), if_pos (by omega), if_pos hk]
theorem w_m (hw : Wc cnt rf h) {q k : Nat} (hq : q < 3) (hk : k < 5) : g_R h (17 + 12 * q) k = some (17 + 12 * q + (k + 1)) := by
  rw [hw _ k (by omega) (by omega)]
  match q, hq with
  | 0, _ => match k, hk with
    | 0, _ => rfl
    | 1, _ => rfl
    | 2, _ => rfl
    | 3, _ => rfl
    | 4, _ => rfl
  | 1, _ => match k, hk with
    | 0, _ => rfl
    | 1, _ => rfl
    | 2, _ => rfl
    | 3, _ => rfl
    | 4, _ => rfl
  | 2, _ => match k, hk with
    | 0, _ => rfl
    | 1, _ => rfl
    | 2, _ => rfl
    | 3, _ => rfl
    | 4, _ => rfl
theorem w_th (hw : Wc cnt rf h) {q k : Nat} (hq : q < 3) (hk : k < 5) : g_R h (23 + 12 * q) k = some (23 + 12 * q + (k + 1)) := by
  rw [hw _ k (by omega) (by omega)]
  match q, hq with
  | 0, _ => match k, hk with
    | 0, _ => rfl
    | 1, _ => rfl
    | 2, _ => rfl
    | 3, _ => rfl
    | 4, _ => rfl
  | 1, _ => match k, hk with
    | 0, _ => rfl
    | 1, _ => rfl
    | 2, _ => rfl
    | 3, _ => rfl
    | 4, _ => rfl
  | 2, _ => match k, hk with
    | 0, _ => rfl
    | 1, _ => rfl
    | 2, _ => rfl
    | 3, _ => rfl
    | 4, _ => rfl
end PW
theorem kCm_0 (n : Nat) {q : Nat} (hq : q < 3) : kC n (17 + 12 * q) = (5, 0) := by
  match q, hq with
  | 0, _ => rfl
  | 1, _ => rfl
  | 2, _ => rfl
theorem kCh_0 (n : Nat) {q : Nat} (hq : q < 3) : kC n (23 + 12 * q) = (7, 0) := by
  match q, hq with
  | 0, _ => rfl
  | 1, _ => rfl
  | 2, _ => rfl
theorem kCm_1 (n : Nat) {q : Nat} (hq : q < 3) : kC n (17 + 12 * q + 1) = (50, 12) := by
  match q, hq with
  | 0, _ => rfl
  | 1, _ => rfl
  | 2, _ => rfl
theorem kCh_1 (n : Nat) {q : Nat} (hq : q < 3) : kC n (23 + 12 * q + 1) = (50, 12) := by
  match q, hq with
  | 0, _ => rfl
  | 1, _ => rfl
  | 2, _ => rfl
theorem kCm_2 (n : Nat) {q : Nat} (hq : q < 3) : kC n (17 + 12 * q + 2) = (50, 12) := by
  match q, hq with
  | 0, _ => rfl
  | 1, _ => rfl
  | 2, _ => rfl
theorem kCh_2 (n : Nat) {q : Nat} (hq : q < 3) : kC n (23 + 12 * q + 2) = (50, 12) := by
  match q, hq with
  | 0, _ => rfl
  | 1, _ => rfl
  | 2, _ => rfl
theorem kCm_3 (n : Nat) {q : Nat} (hq : q < 3) : kC n (17 + 12 * q + 3) = (50, 12) := by
  match q, hq with
  | 0, _ => rfl
  | 1, _ => rfl
  | 2, _ => rfl
theorem kCh_3 (n : Nat) {q : Nat} (hq : q < 3) : kC n (23 + 12 * q + 3) = (50, 12) := by
  match q, hq with
  | 0, _ => rfl
  | 1, _ => rfl
  | 2, _ => rfl
theorem kCm_4 (n : Nat) {q : Nat} (hq : q < 3) : kC n (17 + 12 * q + 4) = (50, 12) := by
  match q, hq with
  | 0, _ => rfl
  | 1, _ => rfl
  | 2, _ => rfl
theorem kCh_4 (n : Nat) {q : Nat} (hq : q < 3) : kC n (23 + 12 * q + 4) = (50, 12) := by
  match q, hq with
  | 0, _ => rfl
  | 1, _ => rfl
  | 2, _ => rfl
theorem kCm_5 (n : Nat) {q : Nat} (hq : q < 3) : kC n (17 + 12 * q + 5) = (51, 144) := by
  match q, hq with
  | 0, _ => rfl
  | 1, _ => rfl
  | 2, _ => rfl
theorem kCh_5 (n : Nat) {q : Nat} (hq : q < 3) : kC n (23 + 12 * q + 5) = (50, 48) := by
  match q, hq with
  | 0, _ => rfl
  | 1, _ => rfl
  | 2, _ => rfl
def sh_R : List (Nat × Nat) := [(9, 0), (50, 12), (50, 12), (50, 12), (51, 144), (52, 144), (50, 12), (50, 12), (50, 12), (50, 12), (50, 48), (50, 12), (50, 12), (50, 12), (50, 12), (50, 360), (50, 360), (50, 360), (50, 192), (50, 12), (50, 12), (51, 72), (51, 96), (50, 12), (53, 12), (50, 12), (51, 12), (50, 12), (50, 12), (51, 60), (50, 36), (50, 36), (50, 36), (51, 432), (52, 432), (50, 3), (50, 36), (50, 36), (50, 36), (50, 144)]
def kR : Kd := fun a => sh_R.getD a (0, 0)
theorem kR_0 : kR 0 = (9, 0) := rfl
theorem kR_1 : kR 1 = (50, 12) := rfl
theorem kR_2 : kR 2 = (50, 12) := rfl
theorem kR_3 : kR 3 = (50, 12) := rfl
theorem kR_4 : kR 4 = (51, 144) := rfl
theorem kR_5 : kR 5 = (52, 144) := rfl
theorem kR_6 : kR 6 = (50, 12) := rfl
theorem kR_7 : kR 7 = (50, 12) := rfl
theorem kR_8 : kR 8 = (50, 12) := rfl
theorem kR_9 : kR 9 = (50, 12) := rfl
theorem kR_10 : kR 10 = (50, 48) := rfl
theorem kR_11 : kR 11 = (50, 12) := rfl
theorem kR_12 : kR 12 = (50, 12) := rfl
theorem kR_13 : kR 13 = (50, 12) := rfl
theorem kR_14 : kR 14 = (50, 12) := rfl
theorem kR_15 : kR 15 = (50, 360) := rfl
theorem kR_16 : kR 16 = (50, 360) := rfl
theorem kR_17 : kR 17 = (50, 360) := rfl
theorem kR_18 : kR 18 = (50, 192) := rfl
theorem kR_19 : kR 19 = (50, 12) := rfl
theorem kR_20 : kR 20 = (50, 12) := rfl
theorem kR_21 : kR 21 = (51, 72) := rfl
theorem kR_22 : kR 22 = (51, 96) := rfl
theorem kR_23 : kR 23 = (50, 12) := rfl
theorem kR_24 : kR 24 = (53, 12) := rfl
theorem kR_25 : kR 25 = (50, 12) := rfl
theorem kR_26 : kR 26 = (51, 12) := rfl
theorem kR_27 : kR 27 = (50, 12) := rfl
theorem kR_28 : kR 28 = (50, 12) := rfl
theorem kR_29 : kR 29 = (51, 60) := rfl
theorem kR_30 : kR 30 = (50, 36) := rfl
theorem kR_31 : kR 31 = (50, 36) := rfl
theorem kR_32 : kR 32 = (50, 36) := rfl
theorem kR_33 : kR 33 = (51, 432) := rfl
theorem kR_34 : kR 34 = (52, 432) := rfl
theorem kR_35 : kR 35 = (50, 3) := rfl
theorem kR_36 : kR 36 = (50, 36) := rfl
theorem kR_37 : kR 37 = (50, 36) := rfl
theorem kR_38 : kR 38 = (50, 36) := rfl
theorem kR_39 : kR 39 = (50, 144) := rfl
def wt_R : List (Option Nat) := [some 1, some 2, some 3, some 4, some 5, none, some 6, some 7, some 8, some 9, some 10, none, none, none, none, some 11, some 12, some 13, some 14, some 15, some 16, some 17, some 18, none, some 19, some 20, some 21, some 22, some 23, some 24, some 25, some 26, some 27, some 28, none, none, none, none, none, none, some 29, none, none, none, none, none, none, none, none, none, none, none, none, some 30, some 31, some 32, some 33, some 34, some 35, some 36, some 37, some 38, some 39]
def Wr (h : Hp) : Prop := ∀ k, k < 63 → g_R h 0 k = wt_R.getD k none
theorem u_0 {h : Hp} (hw : Wr h) : g_R h 0 0 = some 1 := hw 0 (by decide)
theorem u_1 {h : Hp} (hw : Wr h) : g_R h 0 1 = some 2 := hw 1 (by decide)
theorem u_2 {h : Hp} (hw : Wr h) : g_R h 0 2 = some 3 := hw 2 (by decide)
theorem u_3 {h : Hp} (hw : Wr h) : g_R h 0 3 = some 4 := hw 3 (by decide)
theorem u_4 {h : Hp} (hw : Wr h) : g_R h 0 4 = some 5 := hw 4 (by decide)
theorem u_6 {h : Hp} (hw : Wr h) : g_R h 0 6 = some 6 := hw 6 (by decide)
theorem u_7 {h : Hp} (hw : Wr h) : g_R h 0 7 = some 7 := hw 7 (by decide)
theorem u_8 {h : Hp} (hw : Wr h) : g_R h 0 8 = some 8 := hw 8 (by decide)
theorem u_9 {h : Hp} (hw : Wr h) : g_R h 0 9 = some 9 := hw 9 (by decide)
theorem u_10 {h : Hp} (hw : Wr h) : g_R h 0 10 = some 10 := hw 10 (by decide)
theorem u_15 {h : Hp} (hw : Wr h) : g_R h 0 15 = some 11 := hw 15 (by decide)
theorem u_16 {h : Hp} (hw : Wr h) : g_R h 0 16 = some 12 := hw 16 (by decide)
theorem u_17 {h : Hp} (hw : Wr h) : g_R h 0 17 = some 13 := hw 17 (by decide)
theorem u_18 {h : Hp} (hw : Wr h) : g_R h 0 18 = some 14 := hw 18 (by decide)
theorem u_19 {h : Hp} (hw : Wr h) : g_R h 0 19 = some 15 := hw 19 (by decide)
theorem u_20 {h : Hp} (hw : Wr h) : g_R h 0 20 = some 16 := hw 20 (by decide)
theorem u_21 {h : Hp} (hw : Wr h) : g_R h 0 21 = some 17 := hw 21 (by decide)
theorem u_22 {h : Hp} (hw : Wr h) : g_R h 0 22 = some 18 := hw 22 (by decide)
theorem u_24 {h : Hp} (hw : Wr h) : g_R h 0 24 = some 19 := hw 24 (by decide)
theorem u_25 {h : Hp} (hw : Wr h) : g_R h 0 25 = some 20 := hw 25 (by decide)
theorem u_26 {h : Hp} (hw : Wr h) : g_R h 0 26 = some 21 := hw 26 (by decide)
theorem u_27 {h : Hp} (hw : Wr h) : g_R h 0 27 = some 22 := hw 27 (by decide)
theorem u_28 {h : Hp} (hw : Wr h) : g_R h 0 28 = some 23 := hw 28 (by decide)
theorem u_29 {h : Hp} (hw : Wr h) : g_R h 0 29 = some 24 := hw 29 (by decide)
theorem u_30 {h : Hp} (hw : Wr h) : g_R h 0 30 = some 25 := hw 30 (by decide)
theorem u_31 {h : Hp} (hw : Wr h) : g_R h 0 31 = some 26 := hw 31 (by decide)
theorem u_32 {h : Hp} (hw : Wr h) : g_R h 0 32 = some 27 := hw 32 (by decide)
theorem u_33 {h : Hp} (hw : Wr h) : g_R h 0 33 = some 28 := hw 33 (by decide)
theorem u_40 {h : Hp} (hw : Wr h) : g_R h 0 40 = some 29 := hw 40 (by decide)
theorem u_53 {h : Hp} (hw : Wr h) : g_R h 0 53 = some 30 := hw 53 (by decide)
theorem u_54 {h : Hp} (hw : Wr h) : g_R h 0 54 = some 31 := hw 54 (by decide)
theorem u_55 {h : Hp} (hw : Wr h) : g_R h 0 55 = some 32 := hw 55 (by decide)
theorem u_56 {h : Hp} (hw : Wr h) : g_R h 0 56 = some 33 := hw 56 (by decide)
theorem u_57 {h : Hp} (hw : Wr h) : g_R h 0 57 = some 34 := hw 57 (by decide)
theorem u_58 {h : Hp} (hw : Wr h) : g_R h 0 58 = some 35 := hw 58 (by decide)
theorem u_59 {h : Hp} (hw : Wr h) : g_R h 0 59 = some 36 := hw 59 (by decide)
theorem u_60 {h : Hp} (hw : Wr h) : g_R h 0 60 = some 37 := hw 60 (by decide)
theorem u_61 {h : Hp} (hw : Wr h) : g_R h 0 61 = some 38 := hw 61 (by decide)
theorem u_62 {h : Hp} (hw : Wr h) : g_R h 0 62 = some 39 := hw 62 (by decide)
