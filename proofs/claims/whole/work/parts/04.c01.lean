def fX0_init (κ : Kd) (a0 : Nat) (h : Hp) : Option (Hp) :=
  if (κ a0).1 = 1 then (
  lt_ (s_I h a0 2 (-1 : Int32)) fun h1 =>
  lt_ (s_I h1 a0 3 (-1 : Int32)) fun h2 =>
  some h2) else none
set_option maxHeartbeats 4000000 in
set_option maxRecDepth 100000 in
theorem tX0_init (κ : Kd) (n lim : Nat) (h : Hp) (a0 : Nat) : Ct_ mX0_init [.ref (a0)] κ n lim h (eV κ n) (fX0_init κ a0 h) := by
  refine ct_of (by decide) (Nat.le_of_ble_eq_true rfl) ?_
  unfold fX0_init
  refine z_sub (L' := [(0, .ref (a0))]) [0] rfl ?_
  refine z_or (fun k_a0 => ?_)
  refine z_aload_n dX0_init_0 rfl 0 rfl ?_
  refine z_oi dX0_init_1 oi_X0_3 ⟨by decide, Nat.le_of_ble_eq_true rfl⟩ ?_
  refine z_aload_n dX0_init_4 rfl 0 rfl ?_
  refine z_iconst (v := -1) dX0_init_5 (by decide) ?_
  refine z_putI dX0_init_6 fl_X0_9 (Or.inl rfl) k_a0 (fun h1 => ?_)
  refine z_aload_n dX0_init_9 rfl 0 rfl ?_
  refine z_iconst (v := -1) dX0_init_10 (by decide) ?_
  refine z_putI dX0_init_11 fl_X0_15 (Or.inl rfl) k_a0 (fun h2 => ?_)
  exact z_vret dX0_init_14 rfl (en0 _ _ _ _) rfl
def fX0_become (κ : Kd) (a0 : Nat) (l1 : Int32) (l2 : Int64) (l4 : Int32) (l5 : Int32) (h : Hp) : Option (Hp) :=
  if (κ a0).1 = 1 then (
  lt_ (s_I h a0 0 l1) fun h1 =>
  lt_ (s_J h1 a0 1 l2) fun h2 =>
  lt_ (s_I h2 a0 2 l4) fun h3 =>
  lt_ (s_I h3 a0 3 l5) fun h4 =>
  some h4) else none
set_option maxHeartbeats 4000000 in
set_option maxRecDepth 100000 in
theorem tX0_become (κ : Kd) (n lim : Nat) (h : Hp) (a0 : Nat) (l1 : Int32) (l2 : Int64) (l4 : Int32) (l5 : Int32) : Ct_ mX0_become [.ref (a0), .int (l1), .long (l2), .int (l4), .int (l5)] κ n lim h (eV κ n) (fX0_become κ a0 l1 l2 l4 l5 h) := by
  refine ct_of (by decide) (Nat.le_of_ble_eq_true rfl) ?_
  unfold fX0_become
  refine z_sub (L' := [(0, .ref (a0)), (1, .int (l1)), (2, .long (l2)), (4, .int (l4)), (5, .int (l5))]) [0, 1, 2, 3, 4] rfl ?_
  refine z_or (fun k_a0 => ?_)
  refine z_aload_n dX0_become_0 rfl 0 rfl ?_
  refine z_iload_n dX0_become_1 rfl 1 rfl ?_
  refine z_putI dX0_become_2 fl_X0_18 (Or.inl rfl) k_a0 (fun h1 => ?_)
  refine z_aload_n dX0_become_5 rfl 0 rfl ?_
  refine z_lload_n dX0_become_6 rfl 2 rfl ?_
  refine z_putJ dX0_become_7 fl_X0_21 (Or.inl rfl) k_a0 (fun h2 => ?_)
  refine z_aload_n dX0_become_10 rfl 0 rfl ?_
  refine z_iload dX0_become_11 3 rfl ?_
  refine z_putI dX0_become_13 fl_X0_9 (Or.inl rfl) k_a0 (fun h3 => ?_)
  refine z_aload_n dX0_become_16 rfl 0 rfl ?_
  refine z_iload dX0_become_17 4 rfl ?_
  refine z_putI dX0_become_19 fl_X0_15 (Or.inl rfl) k_a0 (fun h4 => ?_)
  exact z_vret dX0_become_22 rfl (en0 _ _ _ _) rfl
def fX0_becomeNone (κ : Kd) (a0 : Nat) (h : Hp) : Option (Hp) :=
  if (κ a0).1 = 1 then (
  (fX0_become κ a0 (0 : Int32) (0 : Int64) (-1 : Int32) (-1 : Int32) h).bind fun h1 =>
  some h1) else none
set_option maxHeartbeats 4000000 in
set_option maxRecDepth 100000 in
theorem tX0_becomeNone (κ : Kd) (n lim : Nat) (h : Hp) (a0 : Nat) : Ct_ mX0_becomeNone [.ref (a0)] κ n lim h (eV κ n) (fX0_becomeNone κ a0 h) := by
  refine ct_of (by decide) (Nat.le_of_ble_eq_true rfl) ?_
  unfold fX0_becomeNone
  refine z_sub (L' := [(0, .ref (a0))]) [0] rfl ?_
  refine z_or (fun k_a0 => ?_)
  refine z_aload_n dX0_becomeNone_0 rfl 0 rfl ?_
  refine z_iconst (v := 0) dX0_becomeNone_1 (by decide) ?_
  refine z_lconst (v := 0) dX0_becomeNone_2 (by decide) ?_
  refine z_iconst (v := -1) dX0_becomeNone_3 (by decide) ?_
  refine z_iconst (v := -1) dX0_becomeNone_4 (by decide) ?_
  refine z_cV (as := [.ref (a0), .int ((0 : Int32)), .long ((0 : Int64)), .int ((-1 : Int32)), .int ((-1 : Int32))]) (rn_V dX0_becomeNone_5 mf_X0_become in_X0_become lk_X0_25 ⟨by decide, by decide⟩ cl_0 rfl k_a0 rfl (Nat.le_of_ble_eq_true rfl)) (tX0_become _ _ _ _ _ _ _ _ _) cz_X0_become (c00 _) (fun h1 => ?_)
  exact z_vret dX0_becomeNone_8 rfl (en0 _ _ _ _) rfl
def fX0_becomeAs (κ : Kd) (a0 : Nat) (a1 : Nat) (h : Hp) : Option (Hp) :=
  if (κ a0).1 = 1 then (
  if (κ a1).1 = 1 then (
  (fX0_become κ a0 (g_I h a1 0) (g_J h a1 1) (g_I h a1 2) (g_I h a1 3) h).bind fun h1 =>
  some h1) else none) else none
set_option maxHeartbeats 4000000 in
set_option maxRecDepth 100000 in
theorem tX0_becomeAs (κ : Kd) (n lim : Nat) (h : Hp) (a0 : Nat) (a1 : Nat) : Ct_ mX0_becomeAs [.ref (a0), .ref (a1)] κ n lim h (eV κ n) (fX0_becomeAs κ a0 a1 h) := by
  refine ct_of (by decide) (Nat.le_of_ble_eq_true rfl) ?_
  unfold fX0_becomeAs
  refine z_sub (L' := [(0, .ref (a0)), (1, .ref (a1))]) [0, 1] rfl ?_
  refine z_or (fun k_a0 => ?_)
  refine z_or (fun k_a1 => ?_)
  refine z_aload_n dX0_becomeAs_0 rfl 0 rfl ?_
  refine z_aload_n dX0_becomeAs_1 rfl 1 rfl ?_
  refine z_getI dX0_becomeAs_2 fl_X0_18 k_a1 ?_
  refine z_aload_n dX0_becomeAs_5 rfl 1 rfl ?_
  refine z_getJ dX0_becomeAs_6 fl_X0_21 k_a1 ?_
  refine z_aload_n dX0_becomeAs_9 rfl 1 rfl ?_
  refine z_getI dX0_becomeAs_10 fl_X0_9 k_a1 ?_
  refine z_aload_n dX0_becomeAs_13 rfl 1 rfl ?_
  refine z_getI dX0_becomeAs_14 fl_X0_15 k_a1 ?_
  refine z_cV (as := [.ref (a0), .int (g_I h a1 0), .long (g_J h a1 1), .int (g_I h a1 2), .int (g_I h a1 3)]) (rn_V dX0_becomeAs_17 mf_X0_become in_X0_become lk_X0_25 ⟨by decide, by decide⟩ cl_0 rfl k_a0 rfl (Nat.le_of_ble_eq_true rfl)) (tX0_become _ _ _ _ _ _ _ _ _) cz_X0_become (c00 _) (fun h1 => ?_)
  exact z_vret dX0_becomeAs_20 rfl (en0 _ _ _ _) rfl
abbrev kX1_init_1 (κ : Kd) (n : Nat) : Kd := up_K κ n (51, 6)
abbrev kX1_init_2 (κ : Kd) (n : Nat) : Kd := up_K (kX1_init_1 κ n) (n + 1) (51, 8)
abbrev kX1_init_3 (κ : Kd) (n : Nat) : Kd := up_K (kX1_init_2 κ n) (n + 2) (1, 0)
abbrev kX1_init (κ : Kd) (n : Nat) : Kd := kX1_init_3 κ n
theorem lvk_X1_init {κ : Kd} {n : Nat} (hv : Lv_ κ n) : Lv_ (kX1_init κ n) (n + 3) := by
  have hv := lv_up (v := (51, 6)) hv
  have hv := lv_up (v := (51, 8)) hv
  have hv := lv_up (v := (1, 0)) hv
  exact hv
theorem kp_X1_init {κ : Kd} {n b x : Nat} (hv : Lv_ κ n) (hb : (κ b).1 = x) (hx : x ≠ 0) : (kX1_init κ n b).1 = x := by
  have hb := up_ne (v := (51, 6)) hv hb hx
  have hv := lv_up (v := (51, 6)) hv
  have hb := up_ne (v := (51, 8)) hv hb hx
  have hv := lv_up (v := (51, 8)) hv
  have hb := up_ne (v := (1, 0)) hv hb hx
  have hv := lv_up (v := (1, 0)) hv
  exact hb
def fX1_init (κ : Kd) (n : Nat) (a0 : Nat) (h : Hp) : Option (Hp) :=
  if (κ a0).1 = 2 then (
  lt_ (nw_ h n) fun h1 =>
  lt_ (s_R h1 a0 0 (some n)) fun h2 =>
  lt_ (nw_ h2 (n + 1)) fun h3 =>
  lt_ (s_R h3 a0 1 (some (n + 1))) fun h4 =>
  lt_ (nw_ h4 (n + 2)) fun h5 =>
  (fX0_init (kX1_init_3 κ n) (n + 2) h5).bind fun h6 =>
  lt_ (s_R h6 a0 2 (some (n + 2))) fun h7 =>
  some h7) else none
set_option maxHeartbeats 4000000 in
set_option maxRecDepth 100000 in
theorem tX1_init (κ : Kd) (n lim : Nat) (h : Hp) (a0 : Nat) (hv : Lv_ κ n) (hl : n + 3 ≤ lim) : Ct_ mX1_init [.ref (a0)] κ n lim h (eV (kX1_init κ n) (n + 3)) (fX1_init κ n a0 h) := by
  refine ct_of (by decide) (Nat.le_of_ble_eq_true rfl) ?_
  unfold fX1_init
  refine z_sub (L' := [(0, .ref (a0))]) [0] rfl ?_
  refine z_or (fun k_a0 => ?_)
  refine z_aload_n dX1_init_0 rfl 0 rfl ?_
  refine z_oi dX1_init_1 oi_X1_3 ⟨by decide, Nat.le_of_ble_eq_true rfl⟩ ?_
  refine z_aload_n dX1_init_4 rfl 0 rfl ?_
  refine z_bipush (v := 6) dX1_init_5 (by decide) ?_
  refine z_newa (N := 6) dX1_init_7 pk_51 (by decide) (by decide) ⟨by omega, by decide, by decide⟩ (fun h1 => ?_)
  have k_a0 := up_ne (v := (51, 6)) hv k_a0 (by decide)
  have kn1 := up_eq κ n (51, 6)
  have hv := lv_up (v := (51, 6)) hv
  refine z_putR dX1_init_9 fl_X1_9 (Or.inr ⟨rfl, rfl, ff_X1_9⟩) k_a0 (fun h2 => ?_)
  refine z_aload_n dX1_init_12 rfl 0 rfl ?_
  refine z_bipush (v := 8) dX1_init_13 (by decide) ?_
  refine z_newa (N := 8) dX1_init_15 pk_51 (by decide) (by decide) ⟨by omega, by decide, by decide⟩ (fun h3 => ?_)
  have k_a0 := up_ne (v := (51, 8)) hv k_a0 (by decide)
  have kn1 := up_ne (v := (51, 8)) hv kn1 (by decide)
  have kn2 := up_eq (kX1_init_1 κ n) (n + 1) (51, 8)
  have hv := lv_up (v := (51, 8)) hv
  refine z_putR dX1_init_17 fl_X1_15 (Or.inr ⟨rfl, rfl, ff_X1_15⟩) k_a0 (fun h4 => ?_)
  refine z_aload_n dX1_init_20 rfl 0 rfl ?_
  refine z_new dX1_init_21 cl_0 nc_X1_18 (by decide) (by decide) ⟨by omega, by decide, by decide⟩ (fun h5 => ?_)
  have k_a0 := up_ne (v := (1, 0)) hv k_a0 (by decide)
  have kn1 := up_ne (v := (1, 0)) hv kn1 (by decide)
  have kn2 := up_ne (v := (1, 0)) hv kn2 (by decide)
  have kn3 := up_eq (kX1_init_2 κ n) (n + 2) (1, 0)
  have hv := lv_up (v := (1, 0)) hv
  refine z_dup dX1_init_24 rfl ?_
  refine z_cV (as := [.ref (n + 2)]) (rn_I dX1_init_25 mf_X0_init rfl in_X0_init lk_X1_20 ⟨by decide, by decide⟩ rfl (Nat.le_of_ble_eq_true rfl)) (tX0_init _ _ _ _ _) cz_X0_init ⟨by decide, by decide⟩ (fun h6 => ?_)
  refine z_putR dX1_init_28 fl_X1_21 (Or.inr ⟨rfl, rfl, ff_X1_21⟩) k_a0 (fun h7 => ?_)
  exact z_vret dX1_init_31 rfl ⟨Nat.le_of_ble_eq_true rfl, Nat.le_of_ble_eq_true rfl⟩ rfl
def fJ7_fill_d0a16_b6 (κ : Kd) (a0 : Nat) (l1 : Int64) (l4 : Int32) : Nat → Int32 → Hp → Option (Hp)
  | 0, _, _ => none
  | N + 1, l3, h =>
    if l4 ≤ l3 then (
      some h
    ) else (
      w_J κ h a0 l3 l1 fun h1 =>
      fJ7_fill_d0a16_b6 κ a0 l1 l4 N (l3 + 1) h1
    )
set_option maxRecDepth 100000 in
theorem zJ7_fill_d0a16_b6 (κ : Kd) (n lim : Nat) (a0 : Nat) (l1 : Int64) (l4 : Int32) (k_a0 : (κ a0).1 = 51) : ∀ (N : Nat) (l3 : Int32) (h : Hp), ZQ mJ7_fill_d0a16 (eV κ n) (κ, n, 0, lim) 6 [(0, .ref (a0)), (1, .long (l1)), (3, .int (l3)), (4, .int (l4))] [] h (fJ7_fill_d0a16_b6 κ a0 l1 l4 N l3 h) := by
  intro N
  induction N with
  | zero =>
    intro l3 h
    rw [fJ7_fill_d0a16_b6]
    exact z_no
  | succ N ih =>
    intro l3 h
    rw [fJ7_fill_d0a16_b6]
    refine z_iload_n dJ7_fill_d0a16_6 rfl 2 rfl ?_
    refine z_iload dJ7_fill_d0a16_7 3 rfl ?_
    refine z_icmp_ge (tgt := 22) dJ7_fill_d0a16_9 (by first | decide | omega) (fun _ => ?_) (fun _ => ?_)
    · skip
      exact z_vret dJ7_fill_d0a16_22 rfl (en0 _ _ _ _) rfl
    · skip
      refine z_aload_n dJ7_fill_d0a16_12 rfl 0 rfl ?_
      refine z_iload_n dJ7_fill_d0a16_13 rfl 2 rfl ?_
      refine z_lload_n dJ7_fill_d0a16_14 rfl 1 rfl ?_
      refine z_last dJ7_fill_d0a16_15 k_a0 (fun h1 => ?_)
      refine z_iinc (j := 2) (v := l3 + 1) (L' := [(3, .int (l3 + 1)), (0, .ref (a0)), (1, .long (l1)), (4, .int (l4))]) dJ7_fill_d0a16_16 rfl rfl (by decide) rfl ?_
      refine z_goto (tgt := 6) dJ7_fill_d0a16_19 (by decide) ?_
      refine z_sub [1, 2, 0, 3] rfl ?_
      exact ih ((l3 + 1)) h1
def fJ7_fill_d0a16 (κ : Kd) (a0 : Nat) (l1 : Int64) (h : Hp) : Option (Hp) :=
  if (κ a0).1 = 51 then (
  fJ7_fill_d0a16_b6 κ a0 l1 (Int32.ofNat (κ a0).2) fu_ (0 : Int32) h) else none
set_option maxHeartbeats 4000000 in
set_option maxRecDepth 100000 in
theorem tJ7_fill_d0a16 (κ : Kd) (n lim : Nat) (h : Hp) (a0 : Nat) (l1 : Int64) : Ct_ mJ7_fill_d0a16 [.ref (a0), .long (l1)] κ n lim h (eV κ n) (fJ7_fill_d0a16 κ a0 l1 h) := by
  refine ct_of (by decide) (Nat.le_of_ble_eq_true rfl) ?_
  unfold fJ7_fill_d0a16
  refine z_sub (L' := [(0, .ref (a0)), (1, .long (l1))]) [0, 1] rfl ?_
  refine z_or (fun k_a0 => ?_)
  refine z_iconst (v := 0) dJ7_fill_d0a16_0 (by decide) ?_
  refine z_istore_n (L' := [(3, .int ((0 : Int32))), (0, .ref (a0)), (1, .long (l1))]) dJ7_fill_d0a16_1 rfl (by decide) rfl ?_
  refine z_aload_n dJ7_fill_d0a16_2 rfl 1 rfl ?_
  refine z_alen (t := 51) (j := 1) (ty := .long) dJ7_fill_d0a16_3 (by decide) (fun _ => rfl) k_a0 ?_
  refine z_istore (L' := [(4, .int (Int32.ofNat (κ a0).2)), (3, .int ((0 : Int32))), (0, .ref (a0)), (1, .long (l1))]) dJ7_fill_d0a16_4 (by decide) rfl ?_
  refine z_sub [2, 3, 1, 0] rfl ?_
  exact zJ7_fill_d0a16_b6 _ _ _ a0 l1 (Int32.ofNat (κ a0).2) k_a0 fu_ (0 : Int32) h
def fX1_beginWith (κ : Kd) (a0 : Nat) (l1 : Int32) (a2 : Nat) (h : Hp) : Option (Hp) :=
  if (κ a0).1 = 2 then (
  if (κ a2).1 = 6 then (
  lt_ (s_R h a0 3 (some a2)) fun h1 =>
  lt_ (s_I h1 a0 4 l1) fun h2 =>
  lt_ (s_I h2 a0 5 (0 : Int32)) fun h3 =>
  lt_ (s_I h3 a0 6 (0 : Int32)) fun h4 =>
  lt_ (s_I h4 a0 7 (0 : Int32)) fun h5 =>
  lt_ (s_I h5 a0 8 (0 : Int32)) fun h6 =>
  to_ κ (g_R h6 a0 0) 51 fun r7 =>
  (fJ7_fill_d0a16 κ r7 (0 : Int64) h6).bind fun h8 =>
  some h8) else none) else none
set_option maxHeartbeats 4000000 in
set_option maxRecDepth 100000 in
theorem tX1_beginWith (κ : Kd) (n lim : Nat) (h : Hp) (a0 : Nat) (l1 : Int32) (a2 : Nat) : Ct_ mX1_beginWith [.ref (a0), .int (l1), .ref (a2)] κ n lim h (eV κ n) (fX1_beginWith κ a0 l1 a2 h) := by
  refine ct_of (by decide) (Nat.le_of_ble_eq_true rfl) ?_
  unfold fX1_beginWith
  refine z_sub (L' := [(0, .ref (a0)), (1, .int (l1)), (2, .ref (a2))]) [0, 1, 2] rfl ?_
  refine z_or (fun k_a0 => ?_)
  refine z_or (fun k_a2 => ?_)
  refine z_aload_n dX1_beginWith_0 rfl 0 rfl ?_
  refine z_aload_n dX1_beginWith_1 rfl 2 rfl ?_
  refine z_putR dX1_beginWith_2 fl_X1_25 (Or.inl rfl) k_a0 (fun h1 => ?_)
  refine z_aload_n dX1_beginWith_5 rfl 0 rfl ?_
  refine z_iload_n dX1_beginWith_6 rfl 1 rfl ?_
  refine z_putI dX1_beginWith_7 fl_X1_29 (Or.inl rfl) k_a0 (fun h2 => ?_)
  refine z_aload_n dX1_beginWith_10 rfl 0 rfl ?_
  refine z_iconst (v := 0) dX1_beginWith_11 (by decide) ?_
  refine z_putI dX1_beginWith_12 fl_X1_33 (Or.inl rfl) k_a0 (fun h3 => ?_)
  refine z_aload_n dX1_beginWith_15 rfl 0 rfl ?_
  refine z_iconst (v := 0) dX1_beginWith_16 (by decide) ?_
  refine z_putI dX1_beginWith_17 fl_X1_36 (Or.inl rfl) k_a0 (fun h4 => ?_)
  refine z_aload_n dX1_beginWith_20 rfl 0 rfl ?_
  refine z_iconst (v := 0) dX1_beginWith_21 (by decide) ?_
  refine z_putI dX1_beginWith_22 fl_X1_39 (Or.inl rfl) k_a0 (fun h5 => ?_)
  refine z_aload_n dX1_beginWith_25 rfl 0 rfl ?_
  refine z_iconst (v := 0) dX1_beginWith_26 (by decide) ?_
  refine z_putZ dX1_beginWith_27 fl_X1_42 (Or.inl rfl) ⟨rfl, rfl⟩ k_a0 (fun h6 => ?_)
  refine z_aload_n dX1_beginWith_30 rfl 0 rfl ?_
  refine z_getR (kd := 51) dX1_beginWith_31 fl_X1_9 k_a0 (fun r7 kr7 => ?_)
  refine z_lconst (v := 0) dX1_beginWith_34 (by decide) ?_
  refine z_cV (as := [.ref (r7), .long ((0 : Int64))]) (rn_S dX1_beginWith_35 mf_J7_fill_d0a16 in_J7_fill_d0a16 lk_X1_46 ⟨by decide, by decide⟩ rfl (Nat.le_of_ble_eq_true rfl)) (tJ7_fill_d0a16 _ _ _ _ _ _) cz_J7_fill_d0a16 (c00 _) (fun h8 => ?_)
  exact z_vret dX1_beginWith_38 rfl (en0 _ _ _ _) rfl
def fX1_take (κ : Kd) (a0 : Nat) (l1 : Int32) (h : Hp) : Option (Int32 × Hp) :=
  if (κ a0).1 = 2 then (
  if l1 ≤ (g_I h a0 7) then (
    lt_ (s_I h a0 7 ((g_I h a0 7) - l1)) fun h1 =>
    some ((1 : Int32), h1)
  ) else (
    some ((0 : Int32), h)
  )) else none
set_option maxHeartbeats 4000000 in
set_option maxRecDepth 100000 in
theorem tX1_take (κ : Kd) (n lim : Nat) (h : Hp) (a0 : Nat) (l1 : Int32) : Ct_ mX1_take [.ref (a0), .int (l1)] κ n lim h (eI κ n) (fX1_take κ a0 l1 h) := by
  refine ct_of (by decide) (Nat.le_of_ble_eq_true rfl) ?_
  unfold fX1_take
  refine z_sub (L' := [(0, .ref (a0)), (1, .int (l1))]) [0, 1] rfl ?_
  refine z_or (fun k_a0 => ?_)
  refine z_aload_n dX1_take_0 rfl 0 rfl ?_
  refine z_getI dX1_take_1 fl_X1_39 k_a0 ?_
  refine z_iload_n dX1_take_4 rfl 1 rfl ?_
  refine z_icmp_ge (tgt := 10) dX1_take_5 (by first | decide | omega) (fun _ => ?_) (fun _ => ?_)
  · skip
    refine z_aload_n dX1_take_10 rfl 0 rfl ?_
    refine z_dup dX1_take_11 rfl ?_
    refine z_getI dX1_take_12 fl_X1_39 k_a0 ?_
    refine z_iload_n dX1_take_15 rfl 1 rfl ?_
    refine z_isub dX1_take_16 ?_
    refine z_putI dX1_take_17 fl_X1_39 (Or.inl rfl) k_a0 (fun h1 => ?_)
    refine z_iconst (v := 1) dX1_take_20 (by decide) ?_
    exact z_zret dX1_take_21 rfl rfl (en0 _ _ _ _) rfl
  · skip
    refine z_iconst (v := 0) dX1_take_8 (by decide) ?_
    exact z_zret dX1_take_9 rfl rfl (en0 _ _ _ _) rfl
def fX1_taken (κ : Kd) (a0 : Nat) (l1 : Int32) (h : Hp) : Option (Int64) :=
  if (κ a0).1 = 2 then (
  if (8 : Int32) ≤ ((g_I h a0 7) + l1) then (
    some ((0 : Int64))
  ) else (
    to_ κ (g_R h a0 1) 51 fun r1 =>
    a_J κ h r1 ((g_I h a0 7) + l1) fun v2 =>
    some (v2)
  )) else none
set_option maxHeartbeats 4000000 in
set_option maxRecDepth 100000 in
theorem tX1_taken (κ : Kd) (n lim : Nat) (h : Hp) (a0 : Nat) (l1 : Int32) : Ct_ mX1_taken [.ref (a0), .int (l1)] κ n lim h (pJ κ n h) (fX1_taken κ a0 l1 h) := by
  refine ct_of (by decide) (Nat.le_of_ble_eq_true rfl) ?_
  unfold fX1_taken
  refine z_sub (L' := [(0, .ref (a0)), (1, .int (l1))]) [0, 1] rfl ?_
  refine z_or (fun k_a0 => ?_)
  refine z_aload_n dX1_taken_0 rfl 0 rfl ?_
  refine z_getI dX1_taken_1 fl_X1_39 k_a0 ?_
  refine z_iload_n dX1_taken_4 rfl 1 rfl ?_
  refine z_iadd dX1_taken_5 ?_
  refine z_istore_n (L' := [(2, .int ((g_I h a0 7) + l1)), (0, .ref (a0)), (1, .int (l1))]) dX1_taken_6 rfl (by decide) rfl ?_
  refine z_iload_n dX1_taken_7 rfl 0 rfl ?_
  refine z_bipush (v := 8) dX1_taken_8 (by decide) ?_
  refine z_icmp_ge (tgt := 22) dX1_taken_10 (by first | decide | omega) (fun _ => ?_) (fun _ => ?_)
  · skip
    refine z_lconst (v := 0) dX1_taken_22 (by decide) ?_
    exact z_lret dX1_taken_23 rfl (en0 _ _ _ _) rfl
  · skip
    refine z_aload_n dX1_taken_13 rfl 1 rfl ?_
    refine z_getR (kd := 51) dX1_taken_14 fl_X1_15 k_a0 (fun r1 kr1 => ?_)
    refine z_iload_n dX1_taken_17 rfl 0 rfl ?_
    refine z_lald dX1_taken_18 kr1 (fun v2 => ?_)
    refine z_goto (tgt := 23) dX1_taken_19 (by decide) ?_
    exact z_lret dX1_taken_23 rfl (en0 _ _ _ _) rfl
def fX1_lay (κ : Kd) (a0 : Nat) (l1 : Int64) (h : Hp) : Option (Int32 × Hp) :=
  if (κ a0).1 = 2 then (
  if (g_I h a0 7) < (8 : Int32) then (
    to_ κ (g_R h a0 1) 51 fun r1 =>
    w_J κ h r1 (g_I h a0 7) l1 fun h2 =>
    lt_ (s_I h2 a0 7 ((g_I h2 a0 7) + (1 : Int32))) fun h3 =>
    some ((0 : Int32), h3)
  ) else (
    some ((8 : Int32), h)
  )) else none
set_option maxHeartbeats 4000000 in
set_option maxRecDepth 100000 in
theorem tX1_lay (κ : Kd) (n lim : Nat) (h : Hp) (a0 : Nat) (l1 : Int64) : Ct_ mX1_lay [.ref (a0), .long (l1)] κ n lim h (eI κ n) (fX1_lay κ a0 l1 h) := by
  refine ct_of (by decide) (Nat.le_of_ble_eq_true rfl) ?_
  unfold fX1_lay
  refine z_sub (L' := [(0, .ref (a0)), (1, .long (l1))]) [0, 1] rfl ?_
  refine z_or (fun k_a0 => ?_)
  refine z_aload_n dX1_lay_0 rfl 0 rfl ?_
  refine z_getI dX1_lay_1 fl_X1_39 k_a0 ?_
  refine z_bipush (v := 8) dX1_lay_4 (by decide) ?_
  refine z_icmp_lt (tgt := 12) dX1_lay_6 (by first | decide | omega) (fun _ => ?_) (fun _ => ?_)
  · skip
    refine z_aload_n dX1_lay_12 rfl 0 rfl ?_
    refine z_getR (kd := 51) dX1_lay_13 fl_X1_15 k_a0 (fun r1 kr1 => ?_)
    refine z_aload_n dX1_lay_16 rfl 0 rfl ?_
    refine z_getI dX1_lay_17 fl_X1_39 k_a0 ?_
    refine z_lload_n dX1_lay_20 rfl 1 rfl ?_
    refine z_last dX1_lay_21 kr1 (fun h2 => ?_)
    refine z_aload_n dX1_lay_22 rfl 0 rfl ?_
    refine z_dup dX1_lay_23 rfl ?_
    refine z_getI dX1_lay_24 fl_X1_39 k_a0 ?_
    refine z_iconst (v := 1) dX1_lay_27 (by decide) ?_
    refine z_iadd dX1_lay_28 ?_
    refine z_putI dX1_lay_29 fl_X1_39 (Or.inl rfl) k_a0 (fun h3 => ?_)
    refine z_iconst (v := 0) dX1_lay_32 (by decide) ?_
    exact z_iret dX1_lay_33 rfl (en0 _ _ _ _) rfl
  · skip
    refine z_bipush (v := 8) dX1_lay_9 (by decide) ?_
    exact z_iret dX1_lay_11 rfl (en0 _ _ _ _) rfl
def fX1_local (κ : Kd) (a0 : Nat) (l1 : Int32) (h : Hp) : Option (Int64) :=
  if (κ a0).1 = 2 then (
  if l1 < 0 then (
    some ((0 : Int64))
  ) else (
    if (6 : Int32) ≤ l1 then (
      some ((0 : Int64))
    ) else (
      to_ κ (g_R h a0 0) 51 fun r1 =>
      a_J κ h r1 l1 fun v2 =>
      some (v2)
    )
  )) else none
set_option maxHeartbeats 4000000 in
set_option maxRecDepth 100000 in
theorem tX1_local (κ : Kd) (n lim : Nat) (h : Hp) (a0 : Nat) (l1 : Int32) : Ct_ mX1_local [.ref (a0), .int (l1)] κ n lim h (pJ κ n h) (fX1_local κ a0 l1 h) := by
  refine ct_of (by decide) (Nat.le_of_ble_eq_true rfl) ?_
  unfold fX1_local
  refine z_sub (L' := [(0, .ref (a0)), (1, .int (l1))]) [0, 1] rfl ?_
  refine z_or (fun k_a0 => ?_)
  refine z_iload_n dX1_local_0 rfl 1 rfl ?_
  refine z_if_lt (tgt := 19) dX1_local_1 (by first | decide | omega) (fun _ => ?_) (fun _ => ?_)
  · skip
    refine z_lconst (v := 0) dX1_local_19 (by decide) ?_
    exact z_lret dX1_local_20 rfl (en0 _ _ _ _) rfl
  · skip
    refine z_iload_n dX1_local_4 rfl 1 rfl ?_
    refine z_bipush (v := 6) dX1_local_5 (by decide) ?_
    refine z_icmp_ge (tgt := 19) dX1_local_7 (by first | decide | omega) (fun _ => ?_) (fun _ => ?_)
    · skip
      refine z_lconst (v := 0) dX1_local_19 (by decide) ?_
      exact z_lret dX1_local_20 rfl (en0 _ _ _ _) rfl
    · skip
      refine z_aload_n dX1_local_10 rfl 0 rfl ?_
      refine z_getR (kd := 51) dX1_local_11 fl_X1_9 k_a0 (fun r1 kr1 => ?_)
      refine z_iload_n dX1_local_14 rfl 1 rfl ?_
      refine z_lald dX1_local_15 kr1 (fun v2 => ?_)
      refine z_goto (tgt := 20) dX1_local_16 (by decide) ?_
      exact z_lret dX1_local_20 rfl (en0 _ _ _ _) rfl
def fX1_setLocal (κ : Kd) (a0 : Nat) (l1 : Int32) (l2 : Int64) (h : Hp) : Option (Hp) :=
  if (κ a0).1 = 2 then (
  if l1 < 0 then (
    some h
  ) else (
    if (6 : Int32) ≤ l1 then (
      some h
    ) else (
      to_ κ (g_R h a0 0) 51 fun r1 =>
      w_J κ h r1 l1 l2 fun h2 =>
      some h2
    )
  )) else none
set_option maxHeartbeats 4000000 in
set_option maxRecDepth 100000 in
theorem tX1_setLocal (κ : Kd) (n lim : Nat) (h : Hp) (a0 : Nat) (l1 : Int32) (l2 : Int64) : Ct_ mX1_setLocal [.ref (a0), .int (l1), .long (l2)] κ n lim h (eV κ n) (fX1_setLocal κ a0 l1 l2 h) := by
  refine ct_of (by decide) (Nat.le_of_ble_eq_true rfl) ?_
  unfold fX1_setLocal
  refine z_sub (L' := [(0, .ref (a0)), (1, .int (l1)), (2, .long (l2))]) [0, 1, 2] rfl ?_
  refine z_or (fun k_a0 => ?_)
  refine z_iload_n dX1_setLocal_0 rfl 1 rfl ?_
  refine z_if_lt (tgt := 17) dX1_setLocal_1 (by first | decide | omega) (fun _ => ?_) (fun _ => ?_)
  · skip
    exact z_vret dX1_setLocal_17 rfl (en0 _ _ _ _) rfl
  · skip
    refine z_iload_n dX1_setLocal_4 rfl 1 rfl ?_
    refine z_bipush (v := 6) dX1_setLocal_5 (by decide) ?_
    refine z_icmp_ge (tgt := 17) dX1_setLocal_7 (by first | decide | omega) (fun _ => ?_) (fun _ => ?_)
    · skip
      exact z_vret dX1_setLocal_17 rfl (en0 _ _ _ _) rfl
    · skip
      refine z_aload_n dX1_setLocal_10 rfl 0 rfl ?_
      refine z_getR (kd := 51) dX1_setLocal_11 fl_X1_9 k_a0 (fun r1 kr1 => ?_)
      refine z_iload_n dX1_setLocal_14 rfl 1 rfl ?_
      refine z_lload_n dX1_setLocal_15 rfl 2 rfl ?_
      refine z_last dX1_setLocal_16 kr1 (fun h2 => ?_)
      exact z_vret dX1_setLocal_17 rfl (en0 _ _ _ _) rfl
def fX7_hasOp (κ : Kd) (a0 : Nat) (l1 : Int32) (h : Hp) : Option (Int32) :=
  if (κ a0).1 = 6 then (
  if l1 < 0 then (
    some ((0 : Int32))
  ) else (
    if (g_I h a0 8) ≤ l1 then (
      some ((0 : Int32))
    ) else (
      some ((1 : Int32))
    )
  )) else none
set_option maxHeartbeats 4000000 in
set_option maxRecDepth 100000 in
theorem tX7_hasOp (κ : Kd) (n lim : Nat) (h : Hp) (a0 : Nat) (l1 : Int32) : Ct_ mX7_hasOp [.ref (a0), .int (l1)] κ n lim h (pI κ n h) (fX7_hasOp κ a0 l1 h) := by
  refine ct_of (by decide) (Nat.le_of_ble_eq_true rfl) ?_
  unfold fX7_hasOp
  refine z_sub (L' := [(0, .ref (a0)), (1, .int (l1))]) [0, 1] rfl ?_
  refine z_or (fun k_a0 => ?_)
  refine z_iload_n dX7_hasOp_0 rfl 1 rfl ?_
  refine z_if_lt (tgt := 16) dX7_hasOp_1 (by first | decide | omega) (fun _ => ?_) (fun _ => ?_)
  · skip
    refine z_iconst (v := 0) dX7_hasOp_16 (by decide) ?_
    exact z_zret dX7_hasOp_17 rfl rfl (en0 _ _ _ _) rfl
  · skip
    refine z_iload_n dX7_hasOp_4 rfl 1 rfl ?_
    refine z_aload_n dX7_hasOp_5 rfl 0 rfl ?_
    refine z_getI dX7_hasOp_6 fl_X7_52 k_a0 ?_
    refine z_icmp_ge (tgt := 16) dX7_hasOp_9 (by first | decide | omega) (fun _ => ?_) (fun _ => ?_)
    · skip
      refine z_iconst (v := 0) dX7_hasOp_16 (by decide) ?_
      exact z_zret dX7_hasOp_17 rfl rfl (en0 _ _ _ _) rfl
    · skip
      refine z_iconst (v := 1) dX7_hasOp_12 (by decide) ?_
      refine z_goto (tgt := 17) dX7_hasOp_13 (by decide) ?_
      exact z_zret dX7_hasOp_17 rfl rfl (en0 _ _ _ _) rfl
def fX1_beginsLast (κ : Kd) (a0 : Nat) (h : Hp) : Option (Int32 × Hp) :=
  if (κ a0).1 = 2 then (
  if (g_I h a0 8) = 0 then (
    to_ κ (g_R h a0 3) 6 fun r1 =>
    to_ κ (g_R h a0 3) 6 fun r2 =>
    (fX7_hasOp κ r1 (g_I h r2 10) h).bind fun v3 =>
    if v3 = 0 then (
      some ((0 : Int32), h)
    ) else (
      lt_ (s_I h a0 8 (1 : Int32)) fun h4 =>
      lt_ (s_I h4 a0 7 (0 : Int32)) fun h5 =>
      to_ κ (g_R h5 a0 3) 6 fun r6 =>
      lt_ (s_I h5 a0 6 (g_I h5 r6 10)) fun h7 =>
      some ((1 : Int32), h7)
    )
  ) else (
    some ((0 : Int32), h)
  )) else none
set_option maxHeartbeats 4000000 in
set_option maxRecDepth 100000 in
theorem tX1_beginsLast (κ : Kd) (n lim : Nat) (h : Hp) (a0 : Nat) : Ct_ mX1_beginsLast [.ref (a0)] κ n lim h (eI κ n) (fX1_beginsLast κ a0 h) := by
  refine ct_of (by decide) (Nat.le_of_ble_eq_true rfl) ?_
  unfold fX1_beginsLast
  refine z_sub (L' := [(0, .ref (a0))]) [0] rfl ?_
  refine z_or (fun k_a0 => ?_)
  refine z_aload_n dX1_beginsLast_0 rfl 0 rfl ?_
  refine z_getZ dX1_beginsLast_1 fl_X1_42 k_a0 ?_
  refine z_if_ne (tgt := 24) dX1_beginsLast_4 (by first | decide | omega) (fun _ => ?_) (fun _ => ?_)
  · skip
    refine z_iconst (v := 0) dX1_beginsLast_24 (by decide) ?_
    exact z_zret dX1_beginsLast_25 rfl rfl (en0 _ _ _ _) rfl
  · skip
    refine z_aload_n dX1_beginsLast_7 rfl 0 rfl ?_
    refine z_getR (kd := 6) dX1_beginsLast_8 fl_X1_25 k_a0 (fun r1 kr1 => ?_)
    refine z_aload_n dX1_beginsLast_11 rfl 0 rfl ?_
    refine z_getR (kd := 6) dX1_beginsLast_12 fl_X1_25 k_a0 (fun r2 kr2 => ?_)
    refine z_getI dX1_beginsLast_15 fl_X1_52 kr2 ?_
    refine z_pI (as := [.ref (r1), .int (g_I h r2 10)]) (rn_V dX1_beginsLast_18 mf_X7_hasOp in_X7_hasOp lk_X1_57 ⟨by decide, by decide⟩ cl_5 rfl kr1 rfl (Nat.le_of_ble_eq_true rfl)) (tX7_hasOp _ _ _ _ _ _) cz_X7_hasOp (c00 _) (fun v3 => ?_)
    refine z_if_ne (tgt := 26) dX1_beginsLast_21 (by first | decide | omega) (fun _ => ?_) (fun _ => ?_)
    · skip
      refine z_aload_n dX1_beginsLast_26 rfl 0 rfl ?_
      refine z_iconst (v := 1) dX1_beginsLast_27 (by decide) ?_
      refine z_putZ dX1_beginsLast_28 fl_X1_42 (Or.inl rfl) ⟨rfl, rfl⟩ k_a0 (fun h4 => ?_)
      refine z_aload_n dX1_beginsLast_31 rfl 0 rfl ?_
      refine z_iconst (v := 0) dX1_beginsLast_32 (by decide) ?_
      refine z_putI dX1_beginsLast_33 fl_X1_39 (Or.inl rfl) k_a0 (fun h5 => ?_)
      refine z_aload_n dX1_beginsLast_36 rfl 0 rfl ?_
      refine z_aload_n dX1_beginsLast_37 rfl 0 rfl ?_
      refine z_getR (kd := 6) dX1_beginsLast_38 fl_X1_25 k_a0 (fun r6 kr6 => ?_)
      refine z_getI dX1_beginsLast_41 fl_X1_52 kr6 ?_
      refine z_putI dX1_beginsLast_44 fl_X1_36 (Or.inl rfl) k_a0 (fun h7 => ?_)
      refine z_iconst (v := 1) dX1_beginsLast_47 (by decide) ?_
      exact z_zret dX1_beginsLast_48 rfl rfl (en0 _ _ _ _) rfl
    · skip
      refine z_iconst (v := 0) dX1_beginsLast_24 (by decide) ?_
      exact z_zret dX1_beginsLast_25 rfl rfl (en0 _ _ _ _) rfl
def fX1_putNumberAside (κ : Kd) (a0 : Nat) (l1 : Int64) (h : Hp) : Option (Hp) :=
  if (κ a0).1 = 2 then (
  lt_ (s_I h a0 9 (0 : Int32)) fun h1 =>
  lt_ (s_J h1 a0 10 l1) fun h2 =>
  some h2) else none
set_option maxHeartbeats 4000000 in
set_option maxRecDepth 100000 in
theorem tX1_putNumberAside (κ : Kd) (n lim : Nat) (h : Hp) (a0 : Nat) (l1 : Int64) : Ct_ mX1_putNumberAside [.ref (a0), .long (l1)] κ n lim h (eV κ n) (fX1_putNumberAside κ a0 l1 h) := by
  refine ct_of (by decide) (Nat.le_of_ble_eq_true rfl) ?_
  unfold fX1_putNumberAside
  refine z_sub (L' := [(0, .ref (a0)), (1, .long (l1))]) [0, 1] rfl ?_
  refine z_or (fun k_a0 => ?_)
  refine z_aload_n dX1_putNumberAside_0 rfl 0 rfl ?_
  refine z_iconst (v := 0) dX1_putNumberAside_1 (by decide) ?_
  refine z_putZ dX1_putNumberAside_2 fl_X1_61 (Or.inl rfl) ⟨rfl, rfl⟩ k_a0 (fun h1 => ?_)
  refine z_aload_n dX1_putNumberAside_5 rfl 0 rfl ?_
  refine z_lload_n dX1_putNumberAside_6 rfl 1 rfl ?_
  refine z_putJ dX1_putNumberAside_7 fl_X1_64 (Or.inl rfl) k_a0 (fun h2 => ?_)
  exact z_vret dX1_putNumberAside_10 rfl (en0 _ _ _ _) rfl
def fX1_putFaultAside (κ : Kd) (a0 : Nat) (a1 : Nat) (h : Hp) : Option (Hp) :=
  if (κ a0).1 = 2 then (
  if (κ a1).1 = 1 then (
  lt_ (s_I h a0 9 (1 : Int32)) fun h1 =>
  to_ κ (g_R h1 a0 2) 1 fun r2 =>
  (fX0_becomeAs κ r2 a1 h1).bind fun h3 =>
  some h3) else none) else none
set_option maxHeartbeats 4000000 in
set_option maxRecDepth 100000 in
theorem tX1_putFaultAside (κ : Kd) (n lim : Nat) (h : Hp) (a0 : Nat) (a1 : Nat) : Ct_ mX1_putFaultAside [.ref (a0), .ref (a1)] κ n lim h (eV κ n) (fX1_putFaultAside κ a0 a1 h) := by
  refine ct_of (by decide) (Nat.le_of_ble_eq_true rfl) ?_
  unfold fX1_putFaultAside
  refine z_sub (L' := [(0, .ref (a0)), (1, .ref (a1))]) [0, 1] rfl ?_
  refine z_or (fun k_a0 => ?_)
  refine z_or (fun k_a1 => ?_)
  refine z_aload_n dX1_putFaultAside_0 rfl 0 rfl ?_
  refine z_iconst (v := 1) dX1_putFaultAside_1 (by decide) ?_
  refine z_putZ dX1_putFaultAside_2 fl_X1_61 (Or.inl rfl) ⟨rfl, rfl⟩ k_a0 (fun h1 => ?_)
  refine z_aload_n dX1_putFaultAside_5 rfl 0 rfl ?_
  refine z_getR (kd := 1) dX1_putFaultAside_6 fl_X1_21 k_a0 (fun r2 kr2 => ?_)
  refine z_aload_n dX1_putFaultAside_9 rfl 1 rfl ?_
  refine z_cV (as := [.ref (r2), .ref (a1)]) (rn_V dX1_putFaultAside_10 mf_X0_becomeAs in_X0_becomeAs lk_X1_68 ⟨by decide, by decide⟩ cl_0 rfl kr2 rfl (Nat.le_of_ble_eq_true rfl)) (tX0_becomeAs _ _ _ _ _ _) cz_X0_becomeAs (c00 _) (fun h3 => ?_)
  exact z_vret dX1_putFaultAside_13 rfl (en0 _ _ _ _) rfl
def fX1_goOn (κ : Kd) (a0 : Nat) (h : Hp) : Option (Int32 × Hp) :=
  if (κ a0).1 = 2 then (
  to_ κ (g_R h a0 3) 6 fun r1 =>
  (fX7_hasOp κ r1 (g_I h a0 6) h).bind fun v2 =>
  if v2 = 0 then (
    some ((10 : Int32), h)
  ) else (
    lt_ (s_I h a0 5 (g_I h a0 6)) fun h3 =>
    some ((0 : Int32), h3)
  )) else none
set_option maxHeartbeats 4000000 in
set_option maxRecDepth 100000 in
theorem tX1_goOn (κ : Kd) (n lim : Nat) (h : Hp) (a0 : Nat) : Ct_ mX1_goOn [.ref (a0)] κ n lim h (eI κ n) (fX1_goOn κ a0 h) := by
  refine ct_of (by decide) (Nat.le_of_ble_eq_true rfl) ?_
  unfold fX1_goOn
  refine z_sub (L' := [(0, .ref (a0))]) [0] rfl ?_
  refine z_or (fun k_a0 => ?_)
  refine z_aload_n dX1_goOn_0 rfl 0 rfl ?_
  refine z_getR (kd := 6) dX1_goOn_1 fl_X1_25 k_a0 (fun r1 kr1 => ?_)
  refine z_aload_n dX1_goOn_4 rfl 0 rfl ?_
  refine z_getI dX1_goOn_5 fl_X1_36 k_a0 ?_
  refine z_pI (as := [.ref (r1), .int (g_I h a0 6)]) (rn_V dX1_goOn_8 mf_X7_hasOp in_X7_hasOp lk_X1_57 ⟨by decide, by decide⟩ cl_5 rfl kr1 rfl (Nat.le_of_ble_eq_true rfl)) (tX7_hasOp _ _ _ _ _ _) cz_X7_hasOp (c00 _) (fun v2 => ?_)
  refine z_if_ne (tgt := 17) dX1_goOn_11 (by first | decide | omega) (fun _ => ?_) (fun _ => ?_)
  · skip
    refine z_aload_n dX1_goOn_17 rfl 0 rfl ?_
    refine z_aload_n dX1_goOn_18 rfl 0 rfl ?_
    refine z_getI dX1_goOn_19 fl_X1_36 k_a0 ?_
    refine z_putI dX1_goOn_22 fl_X1_33 (Or.inl rfl) k_a0 (fun h3 => ?_)
    refine z_iconst (v := 0) dX1_goOn_25 (by decide) ?_
    exact z_iret dX1_goOn_26 rfl (en0 _ _ _ _) rfl
  · skip
    refine z_bipush (v := 10) dX1_goOn_14 (by decide) ?_
    exact z_iret dX1_goOn_16 rfl (en0 _ _ _ _) rfl
def fJ7_fill_53178_b5 (κ : Kd) (a0 : Nat) (l1 : Int32) (l3 : Int32) : Nat → Int32 → Hp → Option (Hp)
  | 0, _, _ => none
  | N + 1, l2, h =>
    if l3 ≤ l2 then (
      some h
    ) else (
      w_I κ h a0 l2 l1 fun h1 =>
      fJ7_fill_53178_b5 κ a0 l1 l3 N (l2 + 1) h1
    )
set_option maxRecDepth 100000 in
theorem zJ7_fill_53178_b5 (κ : Kd) (n lim : Nat) (a0 : Nat) (l1 : Int32) (l3 : Int32) (k_a0 : (κ a0).1 = 50) : ∀ (N : Nat) (l2 : Int32) (h : Hp), ZQ mJ7_fill_53178 (eV κ n) (κ, n, 0, lim) 5 [(0, .ref (a0)), (1, .int (l1)), (2, .int (l2)), (3, .int (l3))] [] h (fJ7_fill_53178_b5 κ a0 l1 l3 N l2 h) := by
  intro N
  induction N with
  | zero =>
    intro l2 h
    rw [fJ7_fill_53178_b5]
    exact z_no
  | succ N ih =>
    intro l2 h
    rw [fJ7_fill_53178_b5]
    refine z_iload_n dJ7_fill_53178_5 rfl 2 rfl ?_
    refine z_iload_n dJ7_fill_53178_6 rfl 3 rfl ?_
    refine z_icmp_ge (tgt := 20) dJ7_fill_53178_7 (by first | decide | omega) (fun _ => ?_) (fun _ => ?_)
    · skip
      exact z_vret dJ7_fill_53178_20 rfl (en0 _ _ _ _) rfl
    · skip
      refine z_aload_n dJ7_fill_53178_10 rfl 0 rfl ?_
      refine z_iload_n dJ7_fill_53178_11 rfl 2 rfl ?_
      refine z_iload_n dJ7_fill_53178_12 rfl 1 rfl ?_
      refine z_iast dJ7_fill_53178_13 k_a0 (fun h1 => ?_)
      refine z_iinc (j := 2) (v := l2 + 1) (L' := [(2, .int (l2 + 1)), (0, .ref (a0)), (1, .int (l1)), (3, .int (l3))]) dJ7_fill_53178_14 rfl rfl (by decide) rfl ?_
      refine z_goto (tgt := 5) dJ7_fill_53178_17 (by decide) ?_
      refine z_sub [1, 2, 0, 3] rfl ?_
      exact ih ((l2 + 1)) h1
def fJ7_fill_53178 (κ : Kd) (a0 : Nat) (l1 : Int32) (h : Hp) : Option (Hp) :=
  if (κ a0).1 = 50 then (
  fJ7_fill_53178_b5 κ a0 l1 (Int32.ofNat (κ a0).2) fu_ (0 : Int32) h) else none
set_option maxHeartbeats 4000000 in
set_option maxRecDepth 100000 in
theorem tJ7_fill_53178 (κ : Kd) (n lim : Nat) (h : Hp) (a0 : Nat) (l1 : Int32) : Ct_ mJ7_fill_53178 [.ref (a0), .int (l1)] κ n lim h (eV κ n) (fJ7_fill_53178 κ a0 l1 h) := by
  refine ct_of (by decide) (Nat.le_of_ble_eq_true rfl) ?_
  unfold fJ7_fill_53178
  refine z_sub (L' := [(0, .ref (a0)), (1, .int (l1))]) [0, 1] rfl ?_
  refine z_or (fun k_a0 => ?_)
  refine z_iconst (v := 0) dJ7_fill_53178_0 (by decide) ?_
  refine z_istore_n (L' := [(2, .int ((0 : Int32))), (0, .ref (a0)), (1, .int (l1))]) dJ7_fill_53178_1 rfl (by decide) rfl ?_
  refine z_aload_n dJ7_fill_53178_2 rfl 1 rfl ?_
  refine z_alen (t := 50) (j := 0) (ty := .int) dJ7_fill_53178_3 (by decide) (fun _ => rfl) k_a0 ?_
  refine z_istore_n (L' := [(3, .int (Int32.ofNat (κ a0).2)), (2, .int ((0 : Int32))), (0, .ref (a0)), (1, .int (l1))]) dJ7_fill_53178_4 rfl (by decide) rfl ?_
  refine z_sub [2, 3, 1, 0] rfl ?_
  exact zJ7_fill_53178_b5 _ _ _ a0 l1 (Int32.ofNat (κ a0).2) k_a0 fu_ (0 : Int32) h
abbrev kX5_init_1 (κ : Kd) (n : Nat) : Kd := up_K κ n (50, 12)
abbrev kX5_init_2 (κ : Kd) (n : Nat) : Kd := up_K (kX5_init_1 κ n) (n + 1) (50, 12)
abbrev kX5_init_3 (κ : Kd) (n : Nat) : Kd := up_K (kX5_init_2 κ n) (n + 2) (50, 12)
abbrev kX5_init_4 (κ : Kd) (n : Nat) : Kd := up_K (kX5_init_3 κ n) (n + 3) (50, 12)
abbrev kX5_init_5 (κ : Kd) (n : Nat) : Kd := up_K (kX5_init_4 κ n) (n + 4) (51, 144)
abbrev kX5_init (κ : Kd) (n : Nat) : Kd := kX5_init_5 κ n
theorem lvk_X5_init {κ : Kd} {n : Nat} (hv : Lv_ κ n) : Lv_ (kX5_init κ n) (n + 5) := by
  have hv := lv_up (v := (50, 12)) hv
  have hv := lv_up (v := (50, 12)) hv
  have hv := lv_up (v := (50, 12)) hv
  have hv := lv_up (v := (50, 12)) hv
  have hv := lv_up (v := (51, 144)) hv
  exact hv
theorem kp_X5_init {κ : Kd} {n b x : Nat} (hv : Lv_ κ n) (hb : (κ b).1 = x) (hx : x ≠ 0) : (kX5_init κ n b).1 = x := by
  have hb := up_ne (v := (50, 12)) hv hb hx
  have hv := lv_up (v := (50, 12)) hv
  have hb := up_ne (v := (50, 12)) hv hb hx
  have hv := lv_up (v := (50, 12)) hv
  have hb := up_ne (v := (50, 12)) hv hb hx
  have hv := lv_up (v := (50, 12)) hv
  have hb := up_ne (v := (50, 12)) hv hb hx
  have hv := lv_up (v := (50, 12)) hv
  have hb := up_ne (v := (51, 144)) hv hb hx
  have hv := lv_up (v := (51, 144)) hv
  exact hb
def fX5_init (κ : Kd) (n : Nat) (a0 : Nat) (h : Hp) : Option (Hp) :=
  if (κ a0).1 = 5 then (
  lt_ (nw_ h n) fun h1 =>
  lt_ (s_R h1 a0 0 (some n)) fun h2 =>
  lt_ (nw_ h2 (n + 1)) fun h3 =>
  lt_ (s_R h3 a0 1 (some (n + 1))) fun h4 =>
  lt_ (nw_ h4 (n + 2)) fun h5 =>
  lt_ (s_R h5 a0 2 (some (n + 2))) fun h6 =>
  lt_ (nw_ h6 (n + 3)) fun h7 =>
  lt_ (s_R h7 a0 3 (some (n + 3))) fun h8 =>
  lt_ (nw_ h8 (n + 4)) fun h9 =>
  lt_ (s_R h9 a0 4 (some (n + 4))) fun h10 =>
  to_ (kX5_init_5 κ n) (g_R h10 a0 0) 50 fun r11 =>
  (fJ7_fill_53178 (kX5_init_5 κ n) r11 (-1 : Int32) h10).bind fun h12 =>
  some h12) else none
set_option maxHeartbeats 4000000 in
set_option maxRecDepth 100000 in
theorem tX5_init (κ : Kd) (n lim : Nat) (h : Hp) (a0 : Nat) (hv : Lv_ κ n) (hl : n + 5 ≤ lim) : Ct_ mX5_init [.ref (a0)] κ n lim h (eV (kX5_init κ n) (n + 5)) (fX5_init κ n a0 h) := by
  refine ct_of (by decide) (Nat.le_of_ble_eq_true rfl) ?_
  unfold fX5_init
  refine z_sub (L' := [(0, .ref (a0))]) [0] rfl ?_
  refine z_or (fun k_a0 => ?_)
  refine z_aload_n dX5_init_0 rfl 0 rfl ?_
  refine z_oi dX5_init_1 oi_X5_3 ⟨by decide, Nat.le_of_ble_eq_true rfl⟩ ?_
  refine z_aload_n dX5_init_4 rfl 0 rfl ?_
  refine z_bipush (v := 12) dX5_init_5 (by decide) ?_
  refine z_newa (N := 12) dX5_init_7 pk_50 (by decide) (by decide) ⟨by omega, by decide, by decide⟩ (fun h1 => ?_)
  have k_a0 := up_ne (v := (50, 12)) hv k_a0 (by decide)
  have kn1 := up_eq κ n (50, 12)
  have hv := lv_up (v := (50, 12)) hv
  refine z_putR dX5_init_9 fl_X5_9 (Or.inr ⟨rfl, rfl, ff_X5_9⟩) k_a0 (fun h2 => ?_)
  refine z_aload_n dX5_init_12 rfl 0 rfl ?_
  refine z_bipush (v := 12) dX5_init_13 (by decide) ?_
  refine z_newa (N := 12) dX5_init_15 pk_50 (by decide) (by decide) ⟨by omega, by decide, by decide⟩ (fun h3 => ?_)
  have k_a0 := up_ne (v := (50, 12)) hv k_a0 (by decide)
  have kn1 := up_ne (v := (50, 12)) hv kn1 (by decide)
  have kn2 := up_eq (kX5_init_1 κ n) (n + 1) (50, 12)
  have hv := lv_up (v := (50, 12)) hv
  refine z_putR dX5_init_17 fl_X5_15 (Or.inr ⟨rfl, rfl, ff_X5_15⟩) k_a0 (fun h4 => ?_)
  refine z_aload_n dX5_init_20 rfl 0 rfl ?_
  refine z_bipush (v := 12) dX5_init_21 (by decide) ?_
  refine z_newa (N := 12) dX5_init_23 pk_50 (by decide) (by decide) ⟨by omega, by decide, by decide⟩ (fun h5 => ?_)
  have k_a0 := up_ne (v := (50, 12)) hv k_a0 (by decide)
  have kn1 := up_ne (v := (50, 12)) hv kn1 (by decide)
  have kn2 := up_ne (v := (50, 12)) hv kn2 (by decide)
  have kn3 := up_eq (kX5_init_2 κ n) (n + 2) (50, 12)
  have hv := lv_up (v := (50, 12)) hv
  refine z_putR dX5_init_25 fl_X5_18 (Or.inr ⟨rfl, rfl, ff_X5_18⟩) k_a0 (fun h6 => ?_)
  refine z_aload_n dX5_init_28 rfl 0 rfl ?_
  refine z_bipush (v := 12) dX5_init_29 (by decide) ?_
  refine z_newa (N := 12) dX5_init_31 pk_50 (by decide) (by decide) ⟨by omega, by decide, by decide⟩ (fun h7 => ?_)
  have k_a0 := up_ne (v := (50, 12)) hv k_a0 (by decide)
  have kn1 := up_ne (v := (50, 12)) hv kn1 (by decide)
  have kn2 := up_ne (v := (50, 12)) hv kn2 (by decide)
  have kn3 := up_ne (v := (50, 12)) hv kn3 (by decide)
  have kn4 := up_eq (kX5_init_3 κ n) (n + 3) (50, 12)
  have hv := lv_up (v := (50, 12)) hv
  refine z_putR dX5_init_33 fl_X5_21 (Or.inr ⟨rfl, rfl, ff_X5_21⟩) k_a0 (fun h8 => ?_)
  refine z_aload_n dX5_init_36 rfl 0 rfl ?_
  refine z_sipush (v := 144) dX5_init_37 (by decide) ?_
  refine z_newa (N := 144) dX5_init_40 pk_51 (by decide) (by decide) ⟨by omega, by decide, by decide⟩ (fun h9 => ?_)
  have k_a0 := up_ne (v := (51, 144)) hv k_a0 (by decide)
  have kn1 := up_ne (v := (51, 144)) hv kn1 (by decide)
  have kn2 := up_ne (v := (51, 144)) hv kn2 (by decide)
  have kn3 := up_ne (v := (51, 144)) hv kn3 (by decide)
  have kn4 := up_ne (v := (51, 144)) hv kn4 (by decide)
  have kn5 := up_eq (kX5_init_4 κ n) (n + 4) (51, 144)
  have hv := lv_up (v := (51, 144)) hv
  refine z_putR dX5_init_42 fl_X5_24 (Or.inr ⟨rfl, rfl, ff_X5_24⟩) k_a0 (fun h10 => ?_)
  refine z_aload_n dX5_init_45 rfl 0 rfl ?_
  refine z_getR (kd := 50) dX5_init_46 fl_X5_9 k_a0 (fun r11 kr11 => ?_)
  refine z_iconst (v := -1) dX5_init_49 (by decide) ?_
  refine z_cV (as := [.ref (r11), .int ((-1 : Int32))]) (rn_S dX5_init_50 mf_J7_fill_53178 in_J7_fill_53178 lk_X5_28 ⟨by decide, by decide⟩ rfl (Nat.le_of_ble_eq_true rfl)) (tJ7_fill_53178 _ _ _ _ _ _) cz_J7_fill_53178 ⟨by decide, by decide⟩ (fun h12 => ?_)
  exact z_vret dX5_init_53 rfl ⟨Nat.le_of_ble_eq_true rfl, Nat.le_of_ble_eq_true rfl⟩ rfl
abbrev kX8_init_1 (κ : Kd) (n : Nat) : Kd := up_K κ n (50, 12)
abbrev kX8_init_2 (κ : Kd) (n : Nat) : Kd := up_K (kX8_init_1 κ n) (n + 1) (50, 12)
abbrev kX8_init_3 (κ : Kd) (n : Nat) : Kd := up_K (kX8_init_2 κ n) (n + 2) (50, 12)
abbrev kX8_init_4 (κ : Kd) (n : Nat) : Kd := up_K (kX8_init_3 κ n) (n + 3) (50, 12)
abbrev kX8_init_5 (κ : Kd) (n : Nat) : Kd := up_K (kX8_init_4 κ n) (n + 4) (50, 48)
abbrev kX8_init (κ : Kd) (n : Nat) : Kd := kX8_init_5 κ n
theorem lvk_X8_init {κ : Kd} {n : Nat} (hv : Lv_ κ n) : Lv_ (kX8_init κ n) (n + 5) := by
  have hv := lv_up (v := (50, 12)) hv
  have hv := lv_up (v := (50, 12)) hv
  have hv := lv_up (v := (50, 12)) hv
  have hv := lv_up (v := (50, 12)) hv
  have hv := lv_up (v := (50, 48)) hv
  exact hv
theorem kp_X8_init {κ : Kd} {n b x : Nat} (hv : Lv_ κ n) (hb : (κ b).1 = x) (hx : x ≠ 0) : (kX8_init κ n b).1 = x := by
  have hb := up_ne (v := (50, 12)) hv hb hx
  have hv := lv_up (v := (50, 12)) hv
  have hb := up_ne (v := (50, 12)) hv hb hx
  have hv := lv_up (v := (50, 12)) hv
  have hb := up_ne (v := (50, 12)) hv hb hx
  have hv := lv_up (v := (50, 12)) hv
  have hb := up_ne (v := (50, 12)) hv hb hx
  have hv := lv_up (v := (50, 12)) hv
  have hb := up_ne (v := (50, 48)) hv hb hx
  have hv := lv_up (v := (50, 48)) hv
  exact hb
def fX8_init (κ : Kd) (n : Nat) (a0 : Nat) (h : Hp) : Option (Hp) :=
  if (κ a0).1 = 7 then (
  lt_ (nw_ h n) fun h1 =>
  lt_ (s_R h1 a0 0 (some n)) fun h2 =>
  lt_ (nw_ h2 (n + 1)) fun h3 =>
  lt_ (s_R h3 a0 1 (some (n + 1))) fun h4 =>
  lt_ (nw_ h4 (n + 2)) fun h5 =>
  lt_ (s_R h5 a0 2 (some (n + 2))) fun h6 =>
  lt_ (nw_ h6 (n + 3)) fun h7 =>
  lt_ (s_R h7 a0 3 (some (n + 3))) fun h8 =>
  lt_ (nw_ h8 (n + 4)) fun h9 =>
  lt_ (s_R h9 a0 4 (some (n + 4))) fun h10 =>
  to_ (kX8_init_5 κ n) (g_R h10 a0 4) 50 fun r11 =>
  (fJ7_fill_53178 (kX8_init_5 κ n) r11 (-1 : Int32) h10).bind fun h12 =>
  some h12) else none
set_option maxHeartbeats 4000000 in
set_option maxRecDepth 100000 in
theorem tX8_init (κ : Kd) (n lim : Nat) (h : Hp) (a0 : Nat) (hv : Lv_ κ n) (hl : n + 5 ≤ lim) : Ct_ mX8_init [.ref (a0)] κ n lim h (eV (kX8_init κ n) (n + 5)) (fX8_init κ n a0 h) := by
  refine ct_of (by decide) (Nat.le_of_ble_eq_true rfl) ?_
  unfold fX8_init
  refine z_sub (L' := [(0, .ref (a0))]) [0] rfl ?_
  refine z_or (fun k_a0 => ?_)
  refine z_aload_n dX8_init_0 rfl 0 rfl ?_
  refine z_oi dX8_init_1 oi_X8_3 ⟨by decide, Nat.le_of_ble_eq_true rfl⟩ ?_
  refine z_aload_n dX8_init_4 rfl 0 rfl ?_
  refine z_bipush (v := 12) dX8_init_5 (by decide) ?_
  refine z_newa (N := 12) dX8_init_7 pk_50 (by decide) (by decide) ⟨by omega, by decide, by decide⟩ (fun h1 => ?_)
  have k_a0 := up_ne (v := (50, 12)) hv k_a0 (by decide)
  have kn1 := up_eq κ n (50, 12)
  have hv := lv_up (v := (50, 12)) hv
  refine z_putR dX8_init_9 fl_X8_9 (Or.inr ⟨rfl, rfl, ff_X8_9⟩) k_a0 (fun h2 => ?_)
  refine z_aload_n dX8_init_12 rfl 0 rfl ?_
  refine z_bipush (v := 12) dX8_init_13 (by decide) ?_
  refine z_newa (N := 12) dX8_init_15 pk_50 (by decide) (by decide) ⟨by omega, by decide, by decide⟩ (fun h3 => ?_)
  have k_a0 := up_ne (v := (50, 12)) hv k_a0 (by decide)
  have kn1 := up_ne (v := (50, 12)) hv kn1 (by decide)
  have kn2 := up_eq (kX8_init_1 κ n) (n + 1) (50, 12)
  have hv := lv_up (v := (50, 12)) hv
  refine z_putR dX8_init_17 fl_X8_15 (Or.inr ⟨rfl, rfl, ff_X8_15⟩) k_a0 (fun h4 => ?_)
  refine z_aload_n dX8_init_20 rfl 0 rfl ?_
  refine z_bipush (v := 12) dX8_init_21 (by decide) ?_
  refine z_newa (N := 12) dX8_init_23 pk_50 (by decide) (by decide) ⟨by omega, by decide, by decide⟩ (fun h5 => ?_)
  have k_a0 := up_ne (v := (50, 12)) hv k_a0 (by decide)
  have kn1 := up_ne (v := (50, 12)) hv kn1 (by decide)
  have kn2 := up_ne (v := (50, 12)) hv kn2 (by decide)
  have kn3 := up_eq (kX8_init_2 κ n) (n + 2) (50, 12)
  have hv := lv_up (v := (50, 12)) hv
  refine z_putR dX8_init_25 fl_X8_18 (Or.inr ⟨rfl, rfl, ff_X8_18⟩) k_a0 (fun h6 => ?_)
  refine z_aload_n dX8_init_28 rfl 0 rfl ?_
  refine z_bipush (v := 12) dX8_init_29 (by decide) ?_
  refine z_newa (N := 12) dX8_init_31 pk_50 (by decide) (by decide) ⟨by omega, by decide, by decide⟩ (fun h7 => ?_)
  have k_a0 := up_ne (v := (50, 12)) hv k_a0 (by decide)
  have kn1 := up_ne (v := (50, 12)) hv kn1 (by decide)
  have kn2 := up_ne (v := (50, 12)) hv kn2 (by decide)
  have kn3 := up_ne (v := (50, 12)) hv kn3 (by decide)
  have kn4 := up_eq (kX8_init_3 κ n) (n + 3) (50, 12)
  have hv := lv_up (v := (50, 12)) hv
  refine z_putR dX8_init_33 fl_X8_21 (Or.inr ⟨rfl, rfl, ff_X8_21⟩) k_a0 (fun h8 => ?_)
  refine z_aload_n dX8_init_36 rfl 0 rfl ?_
  refine z_bipush (v := 48) dX8_init_37 (by decide) ?_
  refine z_newa (N := 48) dX8_init_39 pk_50 (by decide) (by decide) ⟨by omega, by decide, by decide⟩ (fun h9 => ?_)
  have k_a0 := up_ne (v := (50, 48)) hv k_a0 (by decide)
  have kn1 := up_ne (v := (50, 48)) hv kn1 (by decide)
  have kn2 := up_ne (v := (50, 48)) hv kn2 (by decide)
  have kn3 := up_ne (v := (50, 48)) hv kn3 (by decide)
  have kn4 := up_ne (v := (50, 48)) hv kn4 (by decide)
  have kn5 := up_eq (kX8_init_4 κ n) (n + 4) (50, 48)
  have hv := lv_up (v := (50, 48)) hv
  refine z_putR dX8_init_41 fl_X8_24 (Or.inr ⟨rfl, rfl, ff_X8_24⟩) k_a0 (fun h10 => ?_)
  refine z_aload_n dX8_init_44 rfl 0 rfl ?_
  refine z_getR (kd := 50) dX8_init_45 fl_X8_24 k_a0 (fun r11 kr11 => ?_)
  refine z_iconst (v := -1) dX8_init_48 (by decide) ?_
  refine z_cV (as := [.ref (r11), .int ((-1 : Int32))]) (rn_S dX8_init_49 mf_J7_fill_53178 in_J7_fill_53178 lk_X8_27 ⟨by decide, by decide⟩ rfl (Nat.le_of_ble_eq_true rfl)) (tJ7_fill_53178 _ _ _ _ _ _) cz_J7_fill_53178 ⟨by decide, by decide⟩ (fun h12 => ?_)
  exact z_vret dX8_init_52 rfl ⟨Nat.le_of_ble_eq_true rfl, Nat.le_of_ble_eq_true rfl⟩ rfl
abbrev kX2_init_1 (κ : Kd) (n : Nat) : Kd := up_K κ n (58, 3)
abbrev kX2_init_2 (κ : Kd) (n : Nat) : Kd := up_K (kX2_init_1 κ n) (n + 1) (60, 3)
abbrev kX2_init_3 (κ : Kd) (n : Nat) : Kd := up_K (kX2_init_2 κ n) (n + 2) (5, 0)
abbrev kX2_init_4 (κ : Kd) (n : Nat) : Kd := kX5_init (kX2_init_3 κ n) (n + 3)
abbrev kX2_init_5 (κ : Kd) (n : Nat) : Kd := up_K (kX2_init_4 κ n) (n + 8) (7, 0)
abbrev kX2_init_6 (κ : Kd) (n : Nat) : Kd := kX8_init (kX2_init_5 κ n) (n + 9)
abbrev kX2_init_7 (κ : Kd) (n : Nat) : Kd := up_K (kX2_init_6 κ n) (n + 14) (5, 0)
abbrev kX2_init_8 (κ : Kd) (n : Nat) : Kd := kX5_init (kX2_init_7 κ n) (n + 15)
abbrev kX2_init_9 (κ : Kd) (n : Nat) : Kd := up_K (kX2_init_8 κ n) (n + 20) (7, 0)
abbrev kX2_init_10 (κ : Kd) (n : Nat) : Kd := kX8_init (kX2_init_9 κ n) (n + 21)
abbrev kX2_init_11 (κ : Kd) (n : Nat) : Kd := up_K (kX2_init_10 κ n) (n + 26) (5, 0)
abbrev kX2_init_12 (κ : Kd) (n : Nat) : Kd := kX5_init (kX2_init_11 κ n) (n + 27)
abbrev kX2_init_13 (κ : Kd) (n : Nat) : Kd := up_K (kX2_init_12 κ n) (n + 32) (7, 0)
abbrev kX2_init_14 (κ : Kd) (n : Nat) : Kd := kX8_init (kX2_init_13 κ n) (n + 33)
abbrev kX2_init (κ : Kd) (n : Nat) : Kd := kX2_init_14 κ n
theorem lvk_X2_init {κ : Kd} {n : Nat} (hv : Lv_ κ n) : Lv_ (kX2_init κ n) (n + 38) := by
  have hv := lv_up (v := (58, 3)) hv
  have hv := lv_up (v := (60, 3)) hv
  have hv := lv_up (v := (5, 0)) hv
  have hv := lvk_X5_init hv
  have hv := lv_up (v := (7, 0)) hv
  have hv := lvk_X8_init hv
  have hv := lv_up (v := (5, 0)) hv
  have hv := lvk_X5_init hv
  have hv := lv_up (v := (7, 0)) hv
  have hv := lvk_X8_init hv
  have hv := lv_up (v := (5, 0)) hv
  have hv := lvk_X5_init hv
  have hv := lv_up (v := (7, 0)) hv
  have hv := lvk_X8_init hv
  exact hv
theorem kp_X2_init {κ : Kd} {n b x : Nat} (hv : Lv_ κ n) (hb : (κ b).1 = x) (hx : x ≠ 0) : (kX2_init κ n b).1 = x := by
  have hb := up_ne (v := (58, 3)) hv hb hx
  have hv := lv_up (v := (58, 3)) hv
  have hb := up_ne (v := (60, 3)) hv hb hx
  have hv := lv_up (v := (60, 3)) hv
  have hb := up_ne (v := (5, 0)) hv hb hx
  have hv := lv_up (v := (5, 0)) hv
  have hb := kp_X5_init hv hb hx
  have hv := lvk_X5_init hv
  have hb := up_ne (v := (7, 0)) hv hb hx
  have hv := lv_up (v := (7, 0)) hv
  have hb := kp_X8_init hv hb hx
  have hv := lvk_X8_init hv
  have hb := up_ne (v := (5, 0)) hv hb hx
  have hv := lv_up (v := (5, 0)) hv
  have hb := kp_X5_init hv hb hx
  have hv := lvk_X5_init hv
  have hb := up_ne (v := (7, 0)) hv hb hx
  have hv := lv_up (v := (7, 0)) hv
  have hb := kp_X8_init hv hb hx
  have hv := lvk_X8_init hv
  have hb := up_ne (v := (5, 0)) hv hb hx
  have hv := lv_up (v := (5, 0)) hv
  have hb := kp_X5_init hv hb hx
  have hv := lvk_X5_init hv
  have hb := up_ne (v := (7, 0)) hv hb hx
  have hv := lv_up (v := (7, 0)) hv
  have hb := kp_X8_init hv hb hx
  have hv := lvk_X8_init hv
  exact hb
def fX2_init (κ : Kd) (n : Nat) (a0 : Nat) (h : Hp) : Option (Hp) :=
  if (κ a0).1 = 3 then (
  lt_ (nw_ h n) fun h1 =>
  lt_ (s_R h1 a0 0 (some n)) fun h2 =>
  lt_ (nw_ h2 (n + 1)) fun h3 =>
  lt_ (s_R h3 a0 1 (some (n + 1))) fun h4 =>
  to_ (kX2_init_2 κ n) (g_R h4 a0 0) 58 fun r5 =>
  lt_ (nw_ h4 (n + 2)) fun h6 =>
  (fX5_init (kX2_init_3 κ n) (n + 3) (n + 2) h6).bind fun h7 =>
  w_R (kX2_init_4 κ n) h7 r5 (0 : Int32) (n + 2) fun h8 =>
  to_ (kX2_init_4 κ n) (g_R h8 a0 1) 60 fun r9 =>
  lt_ (nw_ h8 (n + 8)) fun h10 =>
  (fX8_init (kX2_init_5 κ n) (n + 9) (n + 8) h10).bind fun h11 =>
  w_R (kX2_init_6 κ n) h11 r9 (0 : Int32) (n + 8) fun h12 =>
  to_ (kX2_init_6 κ n) (g_R h12 a0 0) 58 fun r13 =>
  lt_ (nw_ h12 (n + 14)) fun h14 =>
  (fX5_init (kX2_init_7 κ n) (n + 15) (n + 14) h14).bind fun h15 =>
  w_R (kX2_init_8 κ n) h15 r13 (1 : Int32) (n + 14) fun h16 =>
  to_ (kX2_init_8 κ n) (g_R h16 a0 1) 60 fun r17 =>
  lt_ (nw_ h16 (n + 20)) fun h18 =>
  (fX8_init (kX2_init_9 κ n) (n + 21) (n + 20) h18).bind fun h19 =>
  w_R (kX2_init_10 κ n) h19 r17 (1 : Int32) (n + 20) fun h20 =>
  to_ (kX2_init_10 κ n) (g_R h20 a0 0) 58 fun r21 =>
  lt_ (nw_ h20 (n + 26)) fun h22 =>
  (fX5_init (kX2_init_11 κ n) (n + 27) (n + 26) h22).bind fun h23 =>
  w_R (kX2_init_12 κ n) h23 r21 (2 : Int32) (n + 26) fun h24 =>
  to_ (kX2_init_12 κ n) (g_R h24 a0 1) 60 fun r25 =>
  lt_ (nw_ h24 (n + 32)) fun h26 =>
  (fX8_init (kX2_init_13 κ n) (n + 33) (n + 32) h26).bind fun h27 =>
  w_R (kX2_init_14 κ n) h27 r25 (2 : Int32) (n + 32) fun h28 =>
  some h28) else none
set_option maxHeartbeats 4000000 in
set_option maxRecDepth 100000 in
theorem tX2_init (κ : Kd) (n lim : Nat) (h : Hp) (a0 : Nat) (hv : Lv_ κ n) (hl : n + 38 ≤ lim) : Ct_ mX2_init [.ref (a0)] κ n lim h (eV (kX2_init κ n) (n + 38)) (fX2_init κ n a0 h) := by
  refine ct_of (by decide) (Nat.le_of_ble_eq_true rfl) ?_
  unfold fX2_init
  refine z_sub (L' := [(0, .ref (a0))]) [0] rfl ?_
  refine z_or (fun k_a0 => ?_)
  refine z_aload_n dX2_init_0 rfl 0 rfl ?_
  refine z_oi dX2_init_1 oi_X2_3 ⟨by decide, Nat.le_of_ble_eq_true rfl⟩ ?_
  refine z_aload_n dX2_init_4 rfl 0 rfl ?_
  refine z_iconst (v := 3) dX2_init_5 (by decide) ?_
  refine z_anew (N := 3) dX2_init_6 rk_58 na_X2_9 (by decide) (by decide) ⟨by omega, by decide, by decide⟩ (fun h1 => ?_)
  have k_a0 := up_ne (v := (58, 3)) hv k_a0 (by decide)
  have kn1 := up_eq κ n (58, 3)
  have hv := lv_up (v := (58, 3)) hv
  refine z_putR dX2_init_9 fl_X2_11 (Or.inr ⟨rfl, rfl, ff_X2_11⟩) k_a0 (fun h2 => ?_)
  refine z_aload_n dX2_init_12 rfl 0 rfl ?_
  refine z_iconst (v := 3) dX2_init_13 (by decide) ?_
  refine z_anew (N := 3) dX2_init_14 rk_60 na_X2_17 (by decide) (by decide) ⟨by omega, by decide, by decide⟩ (fun h3 => ?_)
  have k_a0 := up_ne (v := (60, 3)) hv k_a0 (by decide)
  have kn1 := up_ne (v := (60, 3)) hv kn1 (by decide)
  have kn2 := up_eq (kX2_init_1 κ n) (n + 1) (60, 3)
  have hv := lv_up (v := (60, 3)) hv
  refine z_putR dX2_init_17 fl_X2_19 (Or.inr ⟨rfl, rfl, ff_X2_19⟩) k_a0 (fun h4 => ?_)
  refine z_iconst (v := 0) dX2_init_20 (by decide) ?_
  refine z_istore_n (L' := [(1, .int ((0 : Int32))), (0, .ref (a0))]) dX2_init_21 rfl (by decide) rfl ?_
  refine z_iload_n dX2_init_22 rfl 0 rfl ?_
  refine z_iconst (v := 3) dX2_init_23 (by decide) ?_
  refine z_icmp_geF (tgt := 59) dX2_init_24 (by decide) (by decide) ?_
  refine z_aload_n dX2_init_27 rfl 1 rfl ?_
  refine z_getR (kd := 58) dX2_init_28 fl_X2_11 k_a0 (fun r5 kr5 => ?_)
  refine z_iload_n dX2_init_31 rfl 0 rfl ?_
  refine z_new dX2_init_32 cl_4 nc_X2_9 (by decide) (by decide) ⟨by omega, by decide, by decide⟩ (fun h6 => ?_)
  have k_a0 := up_ne (v := (5, 0)) hv k_a0 (by decide)
  have kn1 := up_ne (v := (5, 0)) hv kn1 (by decide)
  have kn2 := up_ne (v := (5, 0)) hv kn2 (by decide)
  have kr5 := up_ne (v := (5, 0)) hv kr5 (by decide)
  have kn3 := up_eq (kX2_init_2 κ n) (n + 2) (5, 0)
  have hv := lv_up (v := (5, 0)) hv
  refine z_dup dX2_init_35 rfl ?_
  refine z_aV (as := [.ref (n + 2)]) (rn_I dX2_init_36 mf_X5_init rfl in_X5_init lk_X2_23 ⟨by decide, by decide⟩ rfl (Nat.le_of_ble_eq_true rfl)) (tX5_init _ _ _ _ _ hv (by omega)) rfl ⟨by decide, by decide, rfl⟩ (fun h7 => ?_)
  have k_a0 := kp_X5_init hv k_a0 (by decide)
  have kn1 := kp_X5_init hv kn1 (by decide)
  have kn2 := kp_X5_init hv kn2 (by decide)
  have kr5 := kp_X5_init hv kr5 (by decide)
  have kn3 := kp_X5_init hv kn3 (by decide)
  have hv := lvk_X5_init hv
  refine z_aast dX2_init_39 rk_58 cl_4 rfl kr5 kn3 (fun h8 => ?_)
  refine z_aload_n dX2_init_40 rfl 1 rfl ?_
  refine z_getR (kd := 60) dX2_init_41 fl_X2_19 k_a0 (fun r9 kr9 => ?_)
  refine z_iload_n dX2_init_44 rfl 0 rfl ?_
  refine z_new dX2_init_45 cl_6 nc_X2_17 (by decide) (by decide) ⟨by omega, by decide, by decide⟩ (fun h10 => ?_)
  have k_a0 := up_ne (v := (7, 0)) hv k_a0 (by decide)
  have kn1 := up_ne (v := (7, 0)) hv kn1 (by decide)
  have kn2 := up_ne (v := (7, 0)) hv kn2 (by decide)
  have kr5 := up_ne (v := (7, 0)) hv kr5 (by decide)
  have kn3 := up_ne (v := (7, 0)) hv kn3 (by decide)
  have kr9 := up_ne (v := (7, 0)) hv kr9 (by decide)
  have kn5 := up_eq (kX2_init_4 κ n) (n + 8) (7, 0)
  have hv := lv_up (v := (7, 0)) hv
  refine z_dup dX2_init_48 rfl ?_
  refine z_aV (as := [.ref (n + 8)]) (rn_I dX2_init_49 mf_X8_init rfl in_X8_init lk_X2_24 ⟨by decide, by decide⟩ rfl (Nat.le_of_ble_eq_true rfl)) (tX8_init _ _ _ _ _ hv (by omega)) rfl ⟨by decide, by decide, rfl⟩ (fun h11 => ?_)
  have k_a0 := kp_X8_init hv k_a0 (by decide)
  have kn1 := kp_X8_init hv kn1 (by decide)
  have kn2 := kp_X8_init hv kn2 (by decide)
  have kr5 := kp_X8_init hv kr5 (by decide)
  have kn3 := kp_X8_init hv kn3 (by decide)
  have kr9 := kp_X8_init hv kr9 (by decide)
  have kn5 := kp_X8_init hv kn5 (by decide)
  have hv := lvk_X8_init hv
  refine z_aast dX2_init_52 rk_60 cl_6 rfl kr9 kn5 (fun h12 => ?_)
  refine z_iinc (j := 0) (v := (1 : Int32)) (L' := [(1, .int ((1 : Int32))), (0, .ref (a0))]) dX2_init_53 rfl (by decide) (by decide) rfl ?_
  refine z_goto (tgt := 22) dX2_init_56 (by decide) ?_
  refine z_iload_n dX2_init_22 rfl 0 rfl ?_
  refine z_iconst (v := 3) dX2_init_23 (by decide) ?_
  refine z_icmp_geF (tgt := 59) dX2_init_24 (by decide) (by decide) ?_
  refine z_aload_n dX2_init_27 rfl 1 rfl ?_
  refine z_getR (kd := 58) dX2_init_28 fl_X2_11 k_a0 (fun r13 kr13 => ?_)
  refine z_iload_n dX2_init_31 rfl 0 rfl ?_
  refine z_new dX2_init_32 cl_4 nc_X2_9 (by decide) (by decide) ⟨by omega, by decide, by decide⟩ (fun h14 => ?_)
  have k_a0 := up_ne (v := (5, 0)) hv k_a0 (by decide)
  have kn1 := up_ne (v := (5, 0)) hv kn1 (by decide)
  have kn2 := up_ne (v := (5, 0)) hv kn2 (by decide)
  have kr5 := up_ne (v := (5, 0)) hv kr5 (by decide)
  have kn3 := up_ne (v := (5, 0)) hv kn3 (by decide)
  have kr9 := up_ne (v := (5, 0)) hv kr9 (by decide)
  have kn5 := up_ne (v := (5, 0)) hv kn5 (by decide)
  have kr13 := up_ne (v := (5, 0)) hv kr13 (by decide)
  have kn7 := up_eq (kX2_init_6 κ n) (n + 14) (5, 0)
  have hv := lv_up (v := (5, 0)) hv
  refine z_dup dX2_init_35 rfl ?_
  refine z_aV (as := [.ref (n + 14)]) (rn_I dX2_init_36 mf_X5_init rfl in_X5_init lk_X2_23 ⟨by decide, by decide⟩ rfl (Nat.le_of_ble_eq_true rfl)) (tX5_init _ _ _ _ _ hv (by omega)) rfl ⟨by decide, by decide, rfl⟩ (fun h15 => ?_)
  have k_a0 := kp_X5_init hv k_a0 (by decide)
  have kn1 := kp_X5_init hv kn1 (by decide)
  have kn2 := kp_X5_init hv kn2 (by decide)
  have kr5 := kp_X5_init hv kr5 (by decide)
  have kn3 := kp_X5_init hv kn3 (by decide)
  have kr9 := kp_X5_init hv kr9 (by decide)
  have kn5 := kp_X5_init hv kn5 (by decide)
  have kr13 := kp_X5_init hv kr13 (by decide)
  have kn7 := kp_X5_init hv kn7 (by decide)
  have hv := lvk_X5_init hv
  refine z_aast dX2_init_39 rk_58 cl_4 rfl kr13 kn7 (fun h16 => ?_)
  refine z_aload_n dX2_init_40 rfl 1 rfl ?_
  refine z_getR (kd := 60) dX2_init_41 fl_X2_19 k_a0 (fun r17 kr17 => ?_)
  refine z_iload_n dX2_init_44 rfl 0 rfl ?_
  refine z_new dX2_init_45 cl_6 nc_X2_17 (by decide) (by decide) ⟨by omega, by decide, by decide⟩ (fun h18 => ?_)
  have k_a0 := up_ne (v := (7, 0)) hv k_a0 (by decide)
  have kn1 := up_ne (v := (7, 0)) hv kn1 (by decide)
  have kn2 := up_ne (v := (7, 0)) hv kn2 (by decide)
  have kr5 := up_ne (v := (7, 0)) hv kr5 (by decide)
  have kn3 := up_ne (v := (7, 0)) hv kn3 (by decide)
  have kr9 := up_ne (v := (7, 0)) hv kr9 (by decide)
  have kn5 := up_ne (v := (7, 0)) hv kn5 (by decide)
  have kr13 := up_ne (v := (7, 0)) hv kr13 (by decide)
  have kn7 := up_ne (v := (7, 0)) hv kn7 (by decide)
  have kr17 := up_ne (v := (7, 0)) hv kr17 (by decide)
  have kn9 := up_eq (kX2_init_8 κ n) (n + 20) (7, 0)
  have hv := lv_up (v := (7, 0)) hv
  refine z_dup dX2_init_48 rfl ?_
  refine z_aV (as := [.ref (n + 20)]) (rn_I dX2_init_49 mf_X8_init rfl in_X8_init lk_X2_24 ⟨by decide, by decide⟩ rfl (Nat.le_of_ble_eq_true rfl)) (tX8_init _ _ _ _ _ hv (by omega)) rfl ⟨by decide, by decide, rfl⟩ (fun h19 => ?_)
  have k_a0 := kp_X8_init hv k_a0 (by decide)
  have kn1 := kp_X8_init hv kn1 (by decide)
  have kn2 := kp_X8_init hv kn2 (by decide)
  have kr5 := kp_X8_init hv kr5 (by decide)
  have kn3 := kp_X8_init hv kn3 (by decide)
  have kr9 := kp_X8_init hv kr9 (by decide)
  have kn5 := kp_X8_init hv kn5 (by decide)
  have kr13 := kp_X8_init hv kr13 (by decide)
  have kn7 := kp_X8_init hv kn7 (by decide)
  have kr17 := kp_X8_init hv kr17 (by decide)
  have kn9 := kp_X8_init hv kn9 (by decide)
  have hv := lvk_X8_init hv
  refine z_aast dX2_init_52 rk_60 cl_6 rfl kr17 kn9 (fun h20 => ?_)
  refine z_iinc (j := 0) (v := (2 : Int32)) (L' := [(1, .int ((2 : Int32))), (0, .ref (a0))]) dX2_init_53 rfl (by decide) (by decide) rfl ?_
  refine z_goto (tgt := 22) dX2_init_56 (by decide) ?_
  refine z_iload_n dX2_init_22 rfl 0 rfl ?_
  refine z_iconst (v := 3) dX2_init_23 (by decide) ?_
  refine z_icmp_geF (tgt := 59) dX2_init_24 (by decide) (by decide) ?_
  refine z_aload_n dX2_init_27 rfl 1 rfl ?_
  refine z_getR (kd := 58) dX2_init_28 fl_X2_11 k_a0 (fun r21 kr21 => ?_)
  refine z_iload_n dX2_init_31 rfl 0 rfl ?_
  refine z_new dX2_init_32 cl_4 nc_X2_9 (by decide) (by decide) ⟨by omega, by decide, by decide⟩ (fun h22 => ?_)
  have k_a0 := up_ne (v := (5, 0)) hv k_a0 (by decide)
  have kn1 := up_ne (v := (5, 0)) hv kn1 (by decide)
  have kn2 := up_ne (v := (5, 0)) hv kn2 (by decide)
  have kr5 := up_ne (v := (5, 0)) hv kr5 (by decide)
  have kn3 := up_ne (v := (5, 0)) hv kn3 (by decide)
  have kr9 := up_ne (v := (5, 0)) hv kr9 (by decide)
  have kn5 := up_ne (v := (5, 0)) hv kn5 (by decide)
  have kr13 := up_ne (v := (5, 0)) hv kr13 (by decide)
  have kn7 := up_ne (v := (5, 0)) hv kn7 (by decide)
  have kr17 := up_ne (v := (5, 0)) hv kr17 (by decide)
  have kn9 := up_ne (v := (5, 0)) hv kn9 (by decide)
  have kr21 := up_ne (v := (5, 0)) hv kr21 (by decide)
  have kn11 := up_eq (kX2_init_10 κ n) (n + 26) (5, 0)
  have hv := lv_up (v := (5, 0)) hv
  refine z_dup dX2_init_35 rfl ?_
  refine z_aV (as := [.ref (n + 26)]) (rn_I dX2_init_36 mf_X5_init rfl in_X5_init lk_X2_23 ⟨by decide, by decide⟩ rfl (Nat.le_of_ble_eq_true rfl)) (tX5_init _ _ _ _ _ hv (by omega)) rfl ⟨by decide, by decide, rfl⟩ (fun h23 => ?_)
  have k_a0 := kp_X5_init hv k_a0 (by decide)
  have kn1 := kp_X5_init hv kn1 (by decide)
  have kn2 := kp_X5_init hv kn2 (by decide)
  have kr5 := kp_X5_init hv kr5 (by decide)
  have kn3 := kp_X5_init hv kn3 (by decide)
  have kr9 := kp_X5_init hv kr9 (by decide)
  have kn5 := kp_X5_init hv kn5 (by decide)
  have kr13 := kp_X5_init hv kr13 (by decide)
  have kn7 := kp_X5_init hv kn7 (by decide)
  have kr17 := kp_X5_init hv kr17 (by decide)
  have kn9 := kp_X5_init hv kn9 (by decide)
  have kr21 := kp_X5_init hv kr21 (by decide)
  have kn11 := kp_X5_init hv kn11 (by decide)
  have hv := lvk_X5_init hv
  refine z_aast dX2_init_39 rk_58 cl_4 rfl kr21 kn11 (fun h24 => ?_)
  refine z_aload_n dX2_init_40 rfl 1 rfl ?_
  refine z_getR (kd := 60) dX2_init_41 fl_X2_19 k_a0 (fun r25 kr25 => ?_)
  refine z_iload_n dX2_init_44 rfl 0 rfl ?_
  refine z_new dX2_init_45 cl_6 nc_X2_17 (by decide) (by decide) ⟨by omega, by decide, by decide⟩ (fun h26 => ?_)
  have k_a0 := up_ne (v := (7, 0)) hv k_a0 (by decide)
  have kn1 := up_ne (v := (7, 0)) hv kn1 (by decide)
  have kn2 := up_ne (v := (7, 0)) hv kn2 (by decide)
  have kr5 := up_ne (v := (7, 0)) hv kr5 (by decide)
  have kn3 := up_ne (v := (7, 0)) hv kn3 (by decide)
  have kr9 := up_ne (v := (7, 0)) hv kr9 (by decide)
  have kn5 := up_ne (v := (7, 0)) hv kn5 (by decide)
  have kr13 := up_ne (v := (7, 0)) hv kr13 (by decide)
  have kn7 := up_ne (v := (7, 0)) hv kn7 (by decide)
  have kr17 := up_ne (v := (7, 0)) hv kr17 (by decide)
  have kn9 := up_ne (v := (7, 0)) hv kn9 (by decide)
  have kr21 := up_ne (v := (7, 0)) hv kr21 (by decide)
  have kn11 := up_ne (v := (7, 0)) hv kn11 (by decide)
  have kr25 := up_ne (v := (7, 0)) hv kr25 (by decide)
  have kn13 := up_eq (kX2_init_12 κ n) (n + 32) (7, 0)
  have hv := lv_up (v := (7, 0)) hv
  refine z_dup dX2_init_48 rfl ?_
  refine z_aV (as := [.ref (n + 32)]) (rn_I dX2_init_49 mf_X8_init rfl in_X8_init lk_X2_24 ⟨by decide, by decide⟩ rfl (Nat.le_of_ble_eq_true rfl)) (tX8_init _ _ _ _ _ hv (by omega)) rfl ⟨by decide, by decide, rfl⟩ (fun h27 => ?_)
  have k_a0 := kp_X8_init hv k_a0 (by decide)
  have kn1 := kp_X8_init hv kn1 (by decide)
  have kn2 := kp_X8_init hv kn2 (by decide)
  have kr5 := kp_X8_init hv kr5 (by decide)
  have kn3 := kp_X8_init hv kn3 (by decide)
  have kr9 := kp_X8_init hv kr9 (by decide)
  have kn5 := kp_X8_init hv kn5 (by decide)
  have kr13 := kp_X8_init hv kr13 (by decide)
  have kn7 := kp_X8_init hv kn7 (by decide)
  have kr17 := kp_X8_init hv kr17 (by decide)
  have kn9 := kp_X8_init hv kn9 (by decide)
  have kr21 := kp_X8_init hv kr21 (by decide)
  have kn11 := kp_X8_init hv kn11 (by decide)
  have kr25 := kp_X8_init hv kr25 (by decide)
  have kn13 := kp_X8_init hv kn13 (by decide)
  have hv := lvk_X8_init hv
  refine z_aast dX2_init_52 rk_60 cl_6 rfl kr25 kn13 (fun h28 => ?_)
  refine z_iinc (j := 0) (v := (3 : Int32)) (L' := [(1, .int ((3 : Int32))), (0, .ref (a0))]) dX2_init_53 rfl (by decide) (by decide) rfl ?_
  refine z_goto (tgt := 22) dX2_init_56 (by decide) ?_
  refine z_iload_n dX2_init_22 rfl 0 rfl ?_
  refine z_iconst (v := 3) dX2_init_23 (by decide) ?_
  refine z_icmp_geT (tgt := 59) dX2_init_24 (by decide) (by decide) ?_
  exact z_vret dX2_init_59 rfl ⟨Nat.le_of_ble_eq_true rfl, Nat.le_of_ble_eq_true rfl⟩ rfl
