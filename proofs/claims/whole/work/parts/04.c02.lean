def fX2_isFull (κ : Kd) (a0 : Nat) (h : Hp) : Option (Int32) :=
  if (κ a0).1 = 3 then (
  if (g_I h a0 2) < (3 : Int32) then (
    some ((0 : Int32))
  ) else (
    some ((1 : Int32))
  )) else none
set_option maxHeartbeats 4000000 in
set_option maxRecDepth 100000 in
theorem tX2_isFull (κ : Kd) (n lim : Nat) (h : Hp) (a0 : Nat) : Ct_ mX2_isFull [.ref (a0)] κ n lim h (pI κ n h) (fX2_isFull κ a0 h) := by
  refine ct_of (by decide) (Nat.le_of_ble_eq_true rfl) ?_
  unfold fX2_isFull
  refine z_sub (L' := [(0, .ref (a0))]) [0] rfl ?_
  refine z_or (fun k_a0 => ?_)
  refine z_aload_n dX2_isFull_0 rfl 0 rfl ?_
  refine z_getI dX2_isFull_1 fl_X2_25 k_a0 ?_
  refine z_iconst (v := 3) dX2_isFull_4 (by decide) ?_
  refine z_icmp_lt (tgt := 12) dX2_isFull_5 (by first | decide | omega) (fun _ => ?_) (fun _ => ?_)
  · skip
    refine z_iconst (v := 0) dX2_isFull_12 (by decide) ?_
    exact z_zret dX2_isFull_13 rfl rfl (en0 _ _ _ _) rfl
  · skip
    refine z_iconst (v := 1) dX2_isFull_8 (by decide) ?_
    refine z_goto (tgt := 13) dX2_isFull_9 (by decide) ?_
    exact z_zret dX2_isFull_13 rfl rfl (en0 _ _ _ _) rfl
def fX5_copyFrom (κ : Kd) (a0 : Nat) (a1 : Nat) (h : Hp) : Option (Hp) :=
  if (κ a0).1 = 5 then (
  if (κ a1).1 = 5 then (
  to_ κ (g_R h a1 0) 50 fun r1 =>
  to_ κ (g_R h a0 0) 50 fun r2 =>
  c_I κ h r1 (0 : Int32) r2 (0 : Int32) (12 : Int32) fun h3 =>
  to_ κ (g_R h3 a1 1) 50 fun r4 =>
  to_ κ (g_R h3 a0 1) 50 fun r5 =>
  c_I κ h3 r4 (0 : Int32) r5 (0 : Int32) (12 : Int32) fun h6 =>
  to_ κ (g_R h6 a1 2) 50 fun r7 =>
  to_ κ (g_R h6 a0 2) 50 fun r8 =>
  c_I κ h6 r7 (0 : Int32) r8 (0 : Int32) (12 : Int32) fun h9 =>
  to_ κ (g_R h9 a1 3) 50 fun r10 =>
  to_ κ (g_R h9 a0 3) 50 fun r11 =>
  c_I κ h9 r10 (0 : Int32) r11 (0 : Int32) (12 : Int32) fun h12 =>
  to_ κ (g_R h12 a1 4) 51 fun r13 =>
  to_ κ (g_R h12 a0 4) 51 fun r14 =>
  c_J κ h12 r13 (0 : Int32) r14 (0 : Int32) (144 : Int32) fun h15 =>
  some h15) else none) else none
set_option maxHeartbeats 4000000 in
set_option maxRecDepth 100000 in
theorem tX5_copyFrom (κ : Kd) (n lim : Nat) (h : Hp) (a0 : Nat) (a1 : Nat) : Ct_ mX5_copyFrom [.ref (a0), .ref (a1)] κ n lim h (eV κ n) (fX5_copyFrom κ a0 a1 h) := by
  refine ct_of (by decide) (Nat.le_of_ble_eq_true rfl) ?_
  unfold fX5_copyFrom
  refine z_sub (L' := [(0, .ref (a0)), (1, .ref (a1))]) [0, 1] rfl ?_
  refine z_or (fun k_a0 => ?_)
  refine z_or (fun k_a1 => ?_)
  refine z_aload_n dX5_copyFrom_0 rfl 1 rfl ?_
  refine z_getR (kd := 50) dX5_copyFrom_1 fl_X5_9 k_a1 (fun r1 kr1 => ?_)
  refine z_iconst (v := 0) dX5_copyFrom_4 (by decide) ?_
  refine z_aload_n dX5_copyFrom_5 rfl 0 rfl ?_
  refine z_getR (kd := 50) dX5_copyFrom_6 fl_X5_9 k_a0 (fun r2 kr2 => ?_)
  refine z_iconst (v := 0) dX5_copyFrom_9 (by decide) ?_
  refine z_bipush (v := 12) dX5_copyFrom_10 (by decide) ?_
  refine z_cpI dX5_copyFrom_12 ⟨cy_X5_66.1, cy_X5_66.2.1, cy_X5_66.2.2.1, cy_X5_66.2.2.2, by decide, Nat.le_of_ble_eq_true rfl⟩ kr1 kr2 (fun h3 => ?_)
  refine z_aload_n dX5_copyFrom_15 rfl 1 rfl ?_
  refine z_getR (kd := 50) dX5_copyFrom_16 fl_X5_15 k_a1 (fun r4 kr4 => ?_)
  refine z_iconst (v := 0) dX5_copyFrom_19 (by decide) ?_
  refine z_aload_n dX5_copyFrom_20 rfl 0 rfl ?_
  refine z_getR (kd := 50) dX5_copyFrom_21 fl_X5_15 k_a0 (fun r5 kr5 => ?_)
  refine z_iconst (v := 0) dX5_copyFrom_24 (by decide) ?_
  refine z_bipush (v := 12) dX5_copyFrom_25 (by decide) ?_
  refine z_cpI dX5_copyFrom_27 ⟨cy_X5_66.1, cy_X5_66.2.1, cy_X5_66.2.2.1, cy_X5_66.2.2.2, by decide, Nat.le_of_ble_eq_true rfl⟩ kr4 kr5 (fun h6 => ?_)
  refine z_aload_n dX5_copyFrom_30 rfl 1 rfl ?_
  refine z_getR (kd := 50) dX5_copyFrom_31 fl_X5_18 k_a1 (fun r7 kr7 => ?_)
  refine z_iconst (v := 0) dX5_copyFrom_34 (by decide) ?_
  refine z_aload_n dX5_copyFrom_35 rfl 0 rfl ?_
  refine z_getR (kd := 50) dX5_copyFrom_36 fl_X5_18 k_a0 (fun r8 kr8 => ?_)
  refine z_iconst (v := 0) dX5_copyFrom_39 (by decide) ?_
  refine z_bipush (v := 12) dX5_copyFrom_40 (by decide) ?_
  refine z_cpI dX5_copyFrom_42 ⟨cy_X5_66.1, cy_X5_66.2.1, cy_X5_66.2.2.1, cy_X5_66.2.2.2, by decide, Nat.le_of_ble_eq_true rfl⟩ kr7 kr8 (fun h9 => ?_)
  refine z_aload_n dX5_copyFrom_45 rfl 1 rfl ?_
  refine z_getR (kd := 50) dX5_copyFrom_46 fl_X5_21 k_a1 (fun r10 kr10 => ?_)
  refine z_iconst (v := 0) dX5_copyFrom_49 (by decide) ?_
  refine z_aload_n dX5_copyFrom_50 rfl 0 rfl ?_
  refine z_getR (kd := 50) dX5_copyFrom_51 fl_X5_21 k_a0 (fun r11 kr11 => ?_)
  refine z_iconst (v := 0) dX5_copyFrom_54 (by decide) ?_
  refine z_bipush (v := 12) dX5_copyFrom_55 (by decide) ?_
  refine z_cpI dX5_copyFrom_57 ⟨cy_X5_66.1, cy_X5_66.2.1, cy_X5_66.2.2.1, cy_X5_66.2.2.2, by decide, Nat.le_of_ble_eq_true rfl⟩ kr10 kr11 (fun h12 => ?_)
  refine z_aload_n dX5_copyFrom_60 rfl 1 rfl ?_
  refine z_getR (kd := 51) dX5_copyFrom_61 fl_X5_24 k_a1 (fun r13 kr13 => ?_)
  refine z_iconst (v := 0) dX5_copyFrom_64 (by decide) ?_
  refine z_aload_n dX5_copyFrom_65 rfl 0 rfl ?_
  refine z_getR (kd := 51) dX5_copyFrom_66 fl_X5_24 k_a0 (fun r14 kr14 => ?_)
  refine z_iconst (v := 0) dX5_copyFrom_69 (by decide) ?_
  refine z_sipush (v := 144) dX5_copyFrom_70 (by decide) ?_
  refine z_cpJ dX5_copyFrom_73 ⟨cy_X5_66.1, cy_X5_66.2.1, cy_X5_66.2.2.1, cy_X5_66.2.2.2, by decide, Nat.le_of_ble_eq_true rfl⟩ kr13 kr14 (fun h15 => ?_)
  exact z_vret dX5_copyFrom_76 rfl (en0 _ _ _ _) rfl
def fX8_copyFirst (κ : Kd) (a0 : Nat) (a1 : Nat) (l2 : Int32) (h : Hp) : Option (Hp) :=
  if (κ a0).1 = 7 then (
  if (κ a1).1 = 7 then (
  to_ κ (g_R h a1 1) 50 fun r1 =>
  to_ κ (g_R h a0 1) 50 fun r2 =>
  c_I κ h r1 (0 : Int32) r2 (0 : Int32) l2 fun h3 =>
  to_ κ (g_R h3 a1 2) 50 fun r4 =>
  to_ κ (g_R h3 a0 2) 50 fun r5 =>
  c_I κ h3 r4 (0 : Int32) r5 (0 : Int32) l2 fun h6 =>
  to_ κ (g_R h6 a1 3) 50 fun r7 =>
  to_ κ (g_R h6 a0 3) 50 fun r8 =>
  c_I κ h6 r7 (0 : Int32) r8 (0 : Int32) l2 fun h9 =>
  to_ κ (g_R h9 a1 4) 50 fun r10 =>
  to_ κ (g_R h9 a0 4) 50 fun r11 =>
  c_I κ h9 r10 (0 : Int32) r11 (0 : Int32) (l2 * (4 : Int32)) fun h12 =>
  some h12) else none) else none
set_option maxHeartbeats 4000000 in
set_option maxRecDepth 100000 in
theorem tX8_copyFirst (κ : Kd) (n lim : Nat) (h : Hp) (a0 : Nat) (a1 : Nat) (l2 : Int32) : Ct_ mX8_copyFirst [.ref (a0), .ref (a1), .int (l2)] κ n lim h (eV κ n) (fX8_copyFirst κ a0 a1 l2 h) := by
  refine ct_of (by decide) (Nat.le_of_ble_eq_true rfl) ?_
  unfold fX8_copyFirst
  refine z_sub (L' := [(0, .ref (a0)), (1, .ref (a1)), (2, .int (l2))]) [0, 1, 2] rfl ?_
  refine z_or (fun k_a0 => ?_)
  refine z_or (fun k_a1 => ?_)
  refine z_aload_n dX8_copyFirst_0 rfl 1 rfl ?_
  refine z_getR (kd := 50) dX8_copyFirst_1 fl_X8_15 k_a1 (fun r1 kr1 => ?_)
  refine z_iconst (v := 0) dX8_copyFirst_4 (by decide) ?_
  refine z_aload_n dX8_copyFirst_5 rfl 0 rfl ?_
  refine z_getR (kd := 50) dX8_copyFirst_6 fl_X8_15 k_a0 (fun r2 kr2 => ?_)
  refine z_iconst (v := 0) dX8_copyFirst_9 (by decide) ?_
  refine z_iload_n dX8_copyFirst_10 rfl 2 rfl ?_
  refine z_cpI dX8_copyFirst_11 ⟨cy_X8_88.1, cy_X8_88.2.1, cy_X8_88.2.2.1, cy_X8_88.2.2.2, by decide, Nat.le_of_ble_eq_true rfl⟩ kr1 kr2 (fun h3 => ?_)
  refine z_aload_n dX8_copyFirst_14 rfl 1 rfl ?_
  refine z_getR (kd := 50) dX8_copyFirst_15 fl_X8_18 k_a1 (fun r4 kr4 => ?_)
  refine z_iconst (v := 0) dX8_copyFirst_18 (by decide) ?_
  refine z_aload_n dX8_copyFirst_19 rfl 0 rfl ?_
  refine z_getR (kd := 50) dX8_copyFirst_20 fl_X8_18 k_a0 (fun r5 kr5 => ?_)
  refine z_iconst (v := 0) dX8_copyFirst_23 (by decide) ?_
  refine z_iload_n dX8_copyFirst_24 rfl 2 rfl ?_
  refine z_cpI dX8_copyFirst_25 ⟨cy_X8_88.1, cy_X8_88.2.1, cy_X8_88.2.2.1, cy_X8_88.2.2.2, by decide, Nat.le_of_ble_eq_true rfl⟩ kr4 kr5 (fun h6 => ?_)
  refine z_aload_n dX8_copyFirst_28 rfl 1 rfl ?_
  refine z_getR (kd := 50) dX8_copyFirst_29 fl_X8_21 k_a1 (fun r7 kr7 => ?_)
  refine z_iconst (v := 0) dX8_copyFirst_32 (by decide) ?_
  refine z_aload_n dX8_copyFirst_33 rfl 0 rfl ?_
  refine z_getR (kd := 50) dX8_copyFirst_34 fl_X8_21 k_a0 (fun r8 kr8 => ?_)
  refine z_iconst (v := 0) dX8_copyFirst_37 (by decide) ?_
  refine z_iload_n dX8_copyFirst_38 rfl 2 rfl ?_
  refine z_cpI dX8_copyFirst_39 ⟨cy_X8_88.1, cy_X8_88.2.1, cy_X8_88.2.2.1, cy_X8_88.2.2.2, by decide, Nat.le_of_ble_eq_true rfl⟩ kr7 kr8 (fun h9 => ?_)
  refine z_aload_n dX8_copyFirst_42 rfl 1 rfl ?_
  refine z_getR (kd := 50) dX8_copyFirst_43 fl_X8_24 k_a1 (fun r10 kr10 => ?_)
  refine z_iconst (v := 0) dX8_copyFirst_46 (by decide) ?_
  refine z_aload_n dX8_copyFirst_47 rfl 0 rfl ?_
  refine z_getR (kd := 50) dX8_copyFirst_48 fl_X8_24 k_a0 (fun r11 kr11 => ?_)
  refine z_iconst (v := 0) dX8_copyFirst_51 (by decide) ?_
  refine z_iload_n dX8_copyFirst_52 rfl 2 rfl ?_
  refine z_iconst (v := 4) dX8_copyFirst_53 (by decide) ?_
  refine z_imul dX8_copyFirst_54 ?_
  refine z_cpI dX8_copyFirst_55 ⟨cy_X8_88.1, cy_X8_88.2.1, cy_X8_88.2.2.1, cy_X8_88.2.2.2, by decide, Nat.le_of_ble_eq_true rfl⟩ kr10 kr11 (fun h12 => ?_)
  exact z_vret dX8_copyFirst_58 rfl (en0 _ _ _ _) rfl
def fX2_keep (κ : Kd) (a0 : Nat) (a1 : Nat) (a2 : Nat) (h : Hp) : Option (Hp) :=
  if (κ a0).1 = 3 then (
  if (κ a1).1 = 5 then (
  if (κ a2).1 = 7 then (
  (fX2_isFull κ a0 h).bind fun v1 =>
  if v1 = 0 then (
    to_ κ (g_R h a0 0) 58 fun r2 =>
    a_R κ h r2 (g_I h a0 2) 5 fun r3 =>
    (fX5_copyFrom κ r3 a1 h).bind fun h4 =>
    to_ κ (g_R h4 a0 1) 60 fun r5 =>
    a_R κ h4 r5 (g_I h4 a0 2) 7 fun r6 =>
    (fX8_copyFirst κ r6 a2 (g_I h4 a2 5) h4).bind fun h7 =>
    to_ κ (g_R h7 a0 1) 60 fun r8 =>
    a_R κ h7 r8 (g_I h7 a0 2) 7 fun r9 =>
    lt_ (s_I h7 r9 5 (g_I h7 a2 5)) fun h10 =>
    lt_ (s_I h10 a0 2 ((g_I h10 a0 2) + (1 : Int32))) fun h11 =>
    some h11
  ) else (
    some h
  )) else none) else none) else none
set_option maxHeartbeats 4000000 in
set_option maxRecDepth 100000 in
theorem tX2_keep (κ : Kd) (n lim : Nat) (h : Hp) (a0 : Nat) (a1 : Nat) (a2 : Nat) : Ct_ mX2_keep [.ref (a0), .ref (a1), .ref (a2)] κ n lim h (eV κ n) (fX2_keep κ a0 a1 a2 h) := by
  refine ct_of (by decide) (Nat.le_of_ble_eq_true rfl) ?_
  unfold fX2_keep
  refine z_sub (L' := [(0, .ref (a0)), (1, .ref (a1)), (2, .ref (a2))]) [0, 1, 2] rfl ?_
  refine z_or (fun k_a0 => ?_)
  refine z_or (fun k_a1 => ?_)
  refine z_or (fun k_a2 => ?_)
  refine z_aload_n dX2_keep_0 rfl 0 rfl ?_
  refine z_pI (as := [.ref (a0)]) (rn_V dX2_keep_1 mf_X2_isFull in_X2_isFull lk_X2_29 ⟨by decide, by decide⟩ cl_2 rfl k_a0 rfl (Nat.le_of_ble_eq_true rfl)) (tX2_isFull _ _ _ _ _) cz_X2_isFull (c00 _) (fun v1 => ?_)
  refine z_if_ne (tgt := 63) dX2_keep_4 (by first | decide | omega) (fun _ => ?_) (fun _ => ?_)
  · skip
    exact z_vret dX2_keep_63 rfl (en0 _ _ _ _) rfl
  · skip
    refine z_aload_n dX2_keep_7 rfl 0 rfl ?_
    refine z_getR (kd := 58) dX2_keep_8 fl_X2_11 k_a0 (fun r2 kr2 => ?_)
    refine z_aload_n dX2_keep_11 rfl 0 rfl ?_
    refine z_getI dX2_keep_12 fl_X2_25 k_a0 ?_
    refine z_aald (kd := 5) dX2_keep_15 rk_58 kr2 (fun r3 kr3 => ?_)
    refine z_aload_n dX2_keep_16 rfl 1 rfl ?_
    refine z_cV (as := [.ref (r3), .ref (a1)]) (rn_V dX2_keep_17 mf_X5_copyFrom in_X5_copyFrom lk_X2_33 ⟨by decide, by decide⟩ cl_4 rfl kr3 rfl (Nat.le_of_ble_eq_true rfl)) (tX5_copyFrom _ _ _ _ _ _) cz_X5_copyFrom (c00 _) (fun h4 => ?_)
    refine z_aload_n dX2_keep_20 rfl 0 rfl ?_
    refine z_getR (kd := 60) dX2_keep_21 fl_X2_19 k_a0 (fun r5 kr5 => ?_)
    refine z_aload_n dX2_keep_24 rfl 0 rfl ?_
    refine z_getI dX2_keep_25 fl_X2_25 k_a0 ?_
    refine z_aald (kd := 7) dX2_keep_28 rk_60 kr5 (fun r6 kr6 => ?_)
    refine z_aload_n dX2_keep_29 rfl 2 rfl ?_
    refine z_aload_n dX2_keep_30 rfl 2 rfl ?_
    refine z_getI dX2_keep_31 fl_X2_37 k_a2 ?_
    refine z_cV (as := [.ref (r6), .ref (a2), .int (g_I h4 a2 5)]) (rn_V dX2_keep_34 mf_X8_copyFirst in_X8_copyFirst lk_X2_40 ⟨by decide, by decide⟩ cl_6 rfl kr6 rfl (Nat.le_of_ble_eq_true rfl)) (tX8_copyFirst _ _ _ _ _ _ _) cz_X8_copyFirst (c00 _) (fun h7 => ?_)
    refine z_aload_n dX2_keep_37 rfl 0 rfl ?_
    refine z_getR (kd := 60) dX2_keep_38 fl_X2_19 k_a0 (fun r8 kr8 => ?_)
    refine z_aload_n dX2_keep_41 rfl 0 rfl ?_
    refine z_getI dX2_keep_42 fl_X2_25 k_a0 ?_
    refine z_aald (kd := 7) dX2_keep_45 rk_60 kr8 (fun r9 kr9 => ?_)
    refine z_aload_n dX2_keep_46 rfl 2 rfl ?_
    refine z_getI dX2_keep_47 fl_X2_37 k_a2 ?_
    refine z_putI dX2_keep_50 fl_X2_37 (Or.inl rfl) kr9 (fun h10 => ?_)
    refine z_aload_n dX2_keep_53 rfl 0 rfl ?_
    refine z_dup dX2_keep_54 rfl ?_
    refine z_getI dX2_keep_55 fl_X2_25 k_a0 ?_
    refine z_iconst (v := 1) dX2_keep_58 (by decide) ?_
    refine z_iadd dX2_keep_59 ?_
    refine z_putI dX2_keep_60 fl_X2_25 (Or.inl rfl) k_a0 (fun h11 => ?_)
    exact z_vret dX2_keep_63 rfl (en0 _ _ _ _) rfl
def fX2_bringBack (κ : Kd) (a0 : Nat) (a1 : Nat) (a2 : Nat) (h : Hp) : Option (Int32 × Hp) :=
  if (κ a0).1 = 3 then (
  if (κ a1).1 = 5 then (
  if (κ a2).1 = 7 then (
  if (g_I h a0 2) = 0 then (
    some ((0 : Int32), h)
  ) else (
    lt_ (s_I h a0 2 ((g_I h a0 2) - (1 : Int32))) fun h1 =>
    to_ κ (g_R h1 a0 0) 58 fun r2 =>
    a_R κ h1 r2 (g_I h1 a0 2) 5 fun r3 =>
    (fX5_copyFrom κ a1 r3 h1).bind fun h4 =>
    to_ κ (g_R h4 a0 1) 60 fun r5 =>
    a_R κ h4 r5 (g_I h4 a0 2) 7 fun r6 =>
    to_ κ (g_R h4 a0 1) 60 fun r7 =>
    a_R κ h4 r7 (g_I h4 a0 2) 7 fun r8 =>
    (fX8_copyFirst κ a2 r6 (g_I h4 r8 5) h4).bind fun h9 =>
    some ((1 : Int32), h9)
  )) else none) else none) else none
set_option maxHeartbeats 4000000 in
set_option maxRecDepth 100000 in
theorem tX2_bringBack (κ : Kd) (n lim : Nat) (h : Hp) (a0 : Nat) (a1 : Nat) (a2 : Nat) : Ct_ mX2_bringBack [.ref (a0), .ref (a1), .ref (a2)] κ n lim h (eI κ n) (fX2_bringBack κ a0 a1 a2 h) := by
  refine ct_of (by decide) (Nat.le_of_ble_eq_true rfl) ?_
  unfold fX2_bringBack
  refine z_sub (L' := [(0, .ref (a0)), (1, .ref (a1)), (2, .ref (a2))]) [0, 1, 2] rfl ?_
  refine z_or (fun k_a0 => ?_)
  refine z_or (fun k_a1 => ?_)
  refine z_or (fun k_a2 => ?_)
  refine z_aload_n dX2_bringBack_0 rfl 0 rfl ?_
  refine z_getI dX2_bringBack_1 fl_X2_25 k_a0 ?_
  refine z_if_ne (tgt := 9) dX2_bringBack_4 (by first | decide | omega) (fun _ => ?_) (fun _ => ?_)
  · skip
    refine z_aload_n dX2_bringBack_9 rfl 0 rfl ?_
    refine z_dup dX2_bringBack_10 rfl ?_
    refine z_getI dX2_bringBack_11 fl_X2_25 k_a0 ?_
    refine z_iconst (v := 1) dX2_bringBack_14 (by decide) ?_
    refine z_isub dX2_bringBack_15 ?_
    refine z_putI dX2_bringBack_16 fl_X2_25 (Or.inl rfl) k_a0 (fun h1 => ?_)
    refine z_aload_n dX2_bringBack_19 rfl 1 rfl ?_
    refine z_aload_n dX2_bringBack_20 rfl 0 rfl ?_
    refine z_getR (kd := 58) dX2_bringBack_21 fl_X2_11 k_a0 (fun r2 kr2 => ?_)
    refine z_aload_n dX2_bringBack_24 rfl 0 rfl ?_
    refine z_getI dX2_bringBack_25 fl_X2_25 k_a0 ?_
    refine z_aald (kd := 5) dX2_bringBack_28 rk_58 kr2 (fun r3 kr3 => ?_)
    refine z_cV (as := [.ref (a1), .ref (r3)]) (rn_V dX2_bringBack_29 mf_X5_copyFrom in_X5_copyFrom lk_X2_33 ⟨by decide, by decide⟩ cl_4 rfl k_a1 rfl (Nat.le_of_ble_eq_true rfl)) (tX5_copyFrom _ _ _ _ _ _) cz_X5_copyFrom (c00 _) (fun h4 => ?_)
    refine z_aload_n dX2_bringBack_32 rfl 2 rfl ?_
    refine z_aload_n dX2_bringBack_33 rfl 0 rfl ?_
    refine z_getR (kd := 60) dX2_bringBack_34 fl_X2_19 k_a0 (fun r5 kr5 => ?_)
    refine z_aload_n dX2_bringBack_37 rfl 0 rfl ?_
    refine z_getI dX2_bringBack_38 fl_X2_25 k_a0 ?_
    refine z_aald (kd := 7) dX2_bringBack_41 rk_60 kr5 (fun r6 kr6 => ?_)
    refine z_aload_n dX2_bringBack_42 rfl 0 rfl ?_
    refine z_getR (kd := 60) dX2_bringBack_43 fl_X2_19 k_a0 (fun r7 kr7 => ?_)
    refine z_aload_n dX2_bringBack_46 rfl 0 rfl ?_
    refine z_getI dX2_bringBack_47 fl_X2_25 k_a0 ?_
    refine z_aald (kd := 7) dX2_bringBack_50 rk_60 kr7 (fun r8 kr8 => ?_)
    refine z_getI dX2_bringBack_51 fl_X2_37 kr8 ?_
    refine z_cV (as := [.ref (a2), .ref (r6), .int (g_I h4 r8 5)]) (rn_V dX2_bringBack_54 mf_X8_copyFirst in_X8_copyFirst lk_X2_40 ⟨by decide, by decide⟩ cl_6 rfl k_a2 rfl (Nat.le_of_ble_eq_true rfl)) (tX8_copyFirst _ _ _ _ _ _ _) cz_X8_copyFirst (c00 _) (fun h9 => ?_)
    refine z_iconst (v := 1) dX2_bringBack_57 (by decide) ?_
    exact z_zret dX2_bringBack_58 rfl rfl (en0 _ _ _ _) rfl
  · skip
    refine z_iconst (v := 0) dX2_bringBack_7 (by decide) ?_
    exact z_zret dX2_bringBack_8 rfl rfl (en0 _ _ _ _) rfl
def fX2_clear (κ : Kd) (a0 : Nat) (h : Hp) : Option (Int32 × Hp) :=
  if (κ a0).1 = 3 then (
  lt_ (s_I h a0 2 (0 : Int32)) fun h1 =>
  some (g_I h a0 2, h1)) else none
set_option maxHeartbeats 4000000 in
set_option maxRecDepth 100000 in
theorem tX2_clear (κ : Kd) (n lim : Nat) (h : Hp) (a0 : Nat) : Ct_ mX2_clear [.ref (a0)] κ n lim h (eI κ n) (fX2_clear κ a0 h) := by
  refine ct_of (by decide) (Nat.le_of_ble_eq_true rfl) ?_
  unfold fX2_clear
  refine z_sub (L' := [(0, .ref (a0))]) [0] rfl ?_
  refine z_or (fun k_a0 => ?_)
  refine z_aload_n dX2_clear_0 rfl 0 rfl ?_
  refine z_getI dX2_clear_1 fl_X2_25 k_a0 ?_
  refine z_istore_n (L' := [(1, .int (g_I h a0 2)), (0, .ref (a0))]) dX2_clear_4 rfl (by decide) rfl ?_
  refine z_aload_n dX2_clear_5 rfl 1 rfl ?_
  refine z_iconst (v := 0) dX2_clear_6 (by decide) ?_
  refine z_putI dX2_clear_7 fl_X2_25 (Or.inl rfl) k_a0 (fun h1 => ?_)
  refine z_iload_n dX2_clear_10 rfl 0 rfl ?_
  exact z_iret dX2_clear_11 rfl (en0 _ _ _ _) rfl
def fX3_through (κ : Kd) (l0 : Int32) (l1 : Int64) (h : Hp) : Option (Int64) :=
  if l0 = (0 : Int32) then (
    some (l1 &&& (1 : Int64))
  ) else
  if l0 = (1 : Int32) then (
    some (l1.toInt32.toInt8.toInt32.toInt64)
  ) else
  if l0 = (2 : Int32) then (
    some (l1.toInt32.toInt16.toInt32.toInt64)
  ) else
  if l0 = (3 : Int32) then (
    some (((l1.toInt32.toUInt32 % 65536).toInt32).toInt64)
  ) else
  if l0 = (4 : Int32) then (
    some (l1.toInt32.toInt64)
  ) else
  if l0 = (6 : Int32) then (
    some (FP.f2l (FP.l2f l1))
  ) else
  if l0 = (7 : Int32) then (
    some (FP.d2l (FP.l2d l1))
  ) else
  (
    some (l1)
  )
set_option maxHeartbeats 4000000 in
set_option maxRecDepth 100000 in
theorem tX3_through (κ : Kd) (n lim : Nat) (h : Hp) (l0 : Int32) (l1 : Int64) : Ct_ mX3_through [.int (l0), .long (l1)] κ n lim h (pJ κ n h) (fX3_through κ l0 l1 h) := by
  refine ct_of (by decide) (Nat.le_of_ble_eq_true rfl) ?_
  unfold fX3_through
  refine z_sub (L' := [(0, .int (l0)), (1, .long (l1))]) [0, 1] rfl ?_
  refine z_iload_n dX3_through_0 rfl 0 rfl ?_
  refine z_ite (fun c2 => ?_) (fun n1 => ?_)
  · refine z_tin (tgt := 48) dX3_through_1 (0) c2 (by decide) (by decide) rfl (by decide) ?_
    refine z_lload_n dX3_through_48 rfl 1 rfl ?_
    refine z_lconst (v := 1) dX3_through_49 (by decide) ?_
    refine z_land dX3_through_50 ?_
    exact z_lret dX3_through_51 rfl (en0 _ _ _ _) rfl
  refine z_ite (fun c4 => ?_) (fun n3 => ?_)
  · refine z_tin (tgt := 52) dX3_through_1 (1) c4 (by decide) (by decide) rfl (by decide) ?_
    refine z_lload_n dX3_through_52 rfl 1 rfl ?_
    refine z_l2i dX3_through_53 ?_
    refine z_i2b dX3_through_54 ?_
    refine z_i2l dX3_through_55 ?_
    exact z_lret dX3_through_56 rfl (en0 _ _ _ _) rfl
  refine z_ite (fun c6 => ?_) (fun n5 => ?_)
  · refine z_tin (tgt := 57) dX3_through_1 (2) c6 (by decide) (by decide) rfl (by decide) ?_
    refine z_lload_n dX3_through_57 rfl 1 rfl ?_
    refine z_l2i dX3_through_58 ?_
    refine z_i2s dX3_through_59 ?_
    refine z_i2l dX3_through_60 ?_
    exact z_lret dX3_through_61 rfl (en0 _ _ _ _) rfl
  refine z_ite (fun c8 => ?_) (fun n7 => ?_)
  · refine z_tin (tgt := 62) dX3_through_1 (3) c8 (by decide) (by decide) rfl (by decide) ?_
    refine z_lload_n dX3_through_62 rfl 1 rfl ?_
    refine z_l2i dX3_through_63 ?_
    refine z_i2c dX3_through_64 ?_
    refine z_i2l dX3_through_65 ?_
    exact z_lret dX3_through_66 rfl (en0 _ _ _ _) rfl
  refine z_ite (fun c10 => ?_) (fun n9 => ?_)
  · refine z_tin (tgt := 67) dX3_through_1 (4) c10 (by decide) (by decide) rfl (by decide) ?_
    refine z_lload_n dX3_through_67 rfl 1 rfl ?_
    refine z_l2i dX3_through_68 ?_
    refine z_i2l dX3_through_69 ?_
    exact z_lret dX3_through_70 rfl (en0 _ _ _ _) rfl
  refine z_ite (fun c12 => ?_) (fun n11 => ?_)
  · refine z_tin (tgt := 71) dX3_through_1 (6) c12 (by decide) (by decide) rfl (by decide) ?_
    refine z_lload_n dX3_through_71 rfl 1 rfl ?_
    refine z_l2f dX3_through_72 ?_
    refine z_f2l dX3_through_73 ?_
    exact z_lret dX3_through_74 rfl (en0 _ _ _ _) rfl
  refine z_ite (fun c14 => ?_) (fun n13 => ?_)
  · refine z_tin (tgt := 75) dX3_through_1 (7) c14 (by decide) (by decide) rfl (by decide) ?_
    refine z_lload_n dX3_through_75 rfl 1 rfl ?_
    refine z_l2d dX3_through_76 ?_
    refine z_d2l dX3_through_77 ?_
    exact z_lret dX3_through_78 rfl (en0 _ _ _ _) rfl
  refine z_tdef (tgt := 79) dX3_through_1 [0, 1, 2, 3, 4, 6, 7] (List.forall_mem_cons.mpr ⟨n1, List.forall_mem_cons.mpr ⟨n3, List.forall_mem_cons.mpr ⟨n5, List.forall_mem_cons.mpr ⟨n7, List.forall_mem_cons.mpr ⟨n9, List.forall_mem_cons.mpr ⟨n11, List.forall_mem_cons.mpr ⟨n13, fun _ h => absurd h List.not_mem_nil⟩⟩⟩⟩⟩⟩⟩) (by decide +kernel) (by decide) ?_
  refine z_lload_n dX3_through_79 rfl 1 rfl ?_
  exact z_lret dX3_through_80 rfl (en0 _ _ _ _) rfl
def fX3_goesInto (κ : Kd) (l0 : Int32) (l1 : Int32) (h : Hp) : Option (Int32) :=
  if l0 < (1 : Int32) then (
    some ((0 : Int32))
  ) else (
    if l1 ≤ l0 then (
      some ((0 : Int32))
    ) else (
      if l1 = (3 : Int32) then (
        some ((0 : Int32))
      ) else (
        some ((1 : Int32))
      )
    )
  )
set_option maxHeartbeats 4000000 in
set_option maxRecDepth 100000 in
theorem tX3_goesInto (κ : Kd) (n lim : Nat) (h : Hp) (l0 : Int32) (l1 : Int32) : Ct_ mX3_goesInto [.int (l0), .int (l1)] κ n lim h (pI κ n h) (fX3_goesInto κ l0 l1 h) := by
  refine ct_of (by decide) (Nat.le_of_ble_eq_true rfl) ?_
  unfold fX3_goesInto
  refine z_sub (L' := [(0, .int (l0)), (1, .int (l1))]) [0, 1] rfl ?_
  refine z_iload_n dX3_goesInto_0 rfl 0 rfl ?_
  refine z_iconst (v := 1) dX3_goesInto_1 (by decide) ?_
  refine z_icmp_lt (tgt := 19) dX3_goesInto_2 (by first | decide | omega) (fun _ => ?_) (fun _ => ?_)
  · skip
    refine z_iconst (v := 0) dX3_goesInto_19 (by decide) ?_
    exact z_zret dX3_goesInto_20 rfl rfl (en0 _ _ _ _) rfl
  · skip
    refine z_iload_n dX3_goesInto_5 rfl 0 rfl ?_
    refine z_iload_n dX3_goesInto_6 rfl 1 rfl ?_
    refine z_icmp_ge (tgt := 19) dX3_goesInto_7 (by first | decide | omega) (fun _ => ?_) (fun _ => ?_)
    · skip
      refine z_iconst (v := 0) dX3_goesInto_19 (by decide) ?_
      exact z_zret dX3_goesInto_20 rfl rfl (en0 _ _ _ _) rfl
    · skip
      refine z_iload_n dX3_goesInto_10 rfl 1 rfl ?_
      refine z_iconst (v := 3) dX3_goesInto_11 (by decide) ?_
      refine z_icmp_eq (tgt := 19) dX3_goesInto_12 (by first | decide | omega) (fun _ => ?_) (fun _ => ?_)
      · skip
        refine z_iconst (v := 0) dX3_goesInto_19 (by decide) ?_
        exact z_zret dX3_goesInto_20 rfl rfl (en0 _ _ _ _) rfl
      · skip
        refine z_iconst (v := 1) dX3_goesInto_15 (by decide) ?_
        refine z_goto (tgt := 20) dX3_goesInto_16 (by decide) ?_
        exact z_zret dX3_goesInto_20 rfl rfl (en0 _ _ _ _) rfl
abbrev kX4_init_1 (κ : Kd) (n : Nat) : Kd := up_K κ n (5, 0)
abbrev kX4_init_2 (κ : Kd) (n : Nat) : Kd := kX5_init (kX4_init_1 κ n) (n + 1)
abbrev kX4_init_3 (κ : Kd) (n : Nat) : Kd := up_K (kX4_init_2 κ n) (n + 6) (7, 0)
abbrev kX4_init_4 (κ : Kd) (n : Nat) : Kd := kX8_init (kX4_init_3 κ n) (n + 7)
abbrev kX4_init_5 (κ : Kd) (n : Nat) : Kd := up_K (kX4_init_4 κ n) (n + 12) (3, 0)
abbrev kX4_init_6 (κ : Kd) (n : Nat) : Kd := kX2_init (kX4_init_5 κ n) (n + 13)
abbrev kX4_init_7 (κ : Kd) (n : Nat) : Kd := up_K (kX4_init_6 κ n) (n + 51) (59, 12)
abbrev kX4_init_8 (κ : Kd) (n : Nat) : Kd := up_K (kX4_init_7 κ n) (n + 52) (55, 12)
abbrev kX4_init_9 (κ : Kd) (n : Nat) : Kd := up_K (kX4_init_8 κ n) (n + 53) (51, 60)
abbrev kX4_init_10 (κ : Kd) (n : Nat) : Kd := up_K (kX4_init_9 κ n) (n + 54) (1, 0)
abbrev kX4_init_11 (κ : Kd) (n : Nat) : Kd := up_K (kX4_init_10 κ n) (n + 55) (2, 0)
abbrev kX4_init_12 (κ : Kd) (n : Nat) : Kd := kX1_init (kX4_init_11 κ n) (n + 56)
abbrev kX4_init_13 (κ : Kd) (n : Nat) : Kd := up_K (kX4_init_12 κ n) (n + 59) (2, 0)
abbrev kX4_init_14 (κ : Kd) (n : Nat) : Kd := kX1_init (kX4_init_13 κ n) (n + 60)
abbrev kX4_init_15 (κ : Kd) (n : Nat) : Kd := up_K (kX4_init_14 κ n) (n + 63) (2, 0)
abbrev kX4_init_16 (κ : Kd) (n : Nat) : Kd := kX1_init (kX4_init_15 κ n) (n + 64)
abbrev kX4_init_17 (κ : Kd) (n : Nat) : Kd := up_K (kX4_init_16 κ n) (n + 67) (2, 0)
abbrev kX4_init_18 (κ : Kd) (n : Nat) : Kd := kX1_init (kX4_init_17 κ n) (n + 68)
abbrev kX4_init_19 (κ : Kd) (n : Nat) : Kd := up_K (kX4_init_18 κ n) (n + 71) (2, 0)
abbrev kX4_init_20 (κ : Kd) (n : Nat) : Kd := kX1_init (kX4_init_19 κ n) (n + 72)
abbrev kX4_init_21 (κ : Kd) (n : Nat) : Kd := up_K (kX4_init_20 κ n) (n + 75) (2, 0)
abbrev kX4_init_22 (κ : Kd) (n : Nat) : Kd := kX1_init (kX4_init_21 κ n) (n + 76)
abbrev kX4_init_23 (κ : Kd) (n : Nat) : Kd := up_K (kX4_init_22 κ n) (n + 79) (2, 0)
abbrev kX4_init_24 (κ : Kd) (n : Nat) : Kd := kX1_init (kX4_init_23 κ n) (n + 80)
abbrev kX4_init_25 (κ : Kd) (n : Nat) : Kd := up_K (kX4_init_24 κ n) (n + 83) (2, 0)
abbrev kX4_init_26 (κ : Kd) (n : Nat) : Kd := kX1_init (kX4_init_25 κ n) (n + 84)
abbrev kX4_init_27 (κ : Kd) (n : Nat) : Kd := up_K (kX4_init_26 κ n) (n + 87) (2, 0)
abbrev kX4_init_28 (κ : Kd) (n : Nat) : Kd := kX1_init (kX4_init_27 κ n) (n + 88)
abbrev kX4_init_29 (κ : Kd) (n : Nat) : Kd := up_K (kX4_init_28 κ n) (n + 91) (2, 0)
abbrev kX4_init_30 (κ : Kd) (n : Nat) : Kd := kX1_init (kX4_init_29 κ n) (n + 92)
abbrev kX4_init_31 (κ : Kd) (n : Nat) : Kd := up_K (kX4_init_30 κ n) (n + 95) (2, 0)
abbrev kX4_init_32 (κ : Kd) (n : Nat) : Kd := kX1_init (kX4_init_31 κ n) (n + 96)
abbrev kX4_init_33 (κ : Kd) (n : Nat) : Kd := up_K (kX4_init_32 κ n) (n + 99) (2, 0)
abbrev kX4_init_34 (κ : Kd) (n : Nat) : Kd := kX1_init (kX4_init_33 κ n) (n + 100)
abbrev kX4_init (κ : Kd) (n : Nat) : Kd := kX4_init_34 κ n
theorem lvk_X4_init {κ : Kd} {n : Nat} (hv : Lv_ κ n) : Lv_ (kX4_init κ n) (n + 103) := by
  have hv := lv_up (v := (5, 0)) hv
  have hv := lvk_X5_init hv
  have hv := lv_up (v := (7, 0)) hv
  have hv := lvk_X8_init hv
  have hv := lv_up (v := (3, 0)) hv
  have hv := lvk_X2_init hv
  have hv := lv_up (v := (59, 12)) hv
  have hv := lv_up (v := (55, 12)) hv
  have hv := lv_up (v := (51, 60)) hv
  have hv := lv_up (v := (1, 0)) hv
  have hv := lv_up (v := (2, 0)) hv
  have hv := lvk_X1_init hv
  have hv := lv_up (v := (2, 0)) hv
  have hv := lvk_X1_init hv
  have hv := lv_up (v := (2, 0)) hv
  have hv := lvk_X1_init hv
  have hv := lv_up (v := (2, 0)) hv
  have hv := lvk_X1_init hv
  have hv := lv_up (v := (2, 0)) hv
  have hv := lvk_X1_init hv
  have hv := lv_up (v := (2, 0)) hv
  have hv := lvk_X1_init hv
  have hv := lv_up (v := (2, 0)) hv
  have hv := lvk_X1_init hv
  have hv := lv_up (v := (2, 0)) hv
  have hv := lvk_X1_init hv
  have hv := lv_up (v := (2, 0)) hv
  have hv := lvk_X1_init hv
  have hv := lv_up (v := (2, 0)) hv
  have hv := lvk_X1_init hv
  have hv := lv_up (v := (2, 0)) hv
  have hv := lvk_X1_init hv
  have hv := lv_up (v := (2, 0)) hv
  have hv := lvk_X1_init hv
  exact hv
theorem kp_X4_init {κ : Kd} {n b x : Nat} (hv : Lv_ κ n) (hb : (κ b).1 = x) (hx : x ≠ 0) : (kX4_init κ n b).1 = x := by
  have hb := up_ne (v := (5, 0)) hv hb hx
  have hv := lv_up (v := (5, 0)) hv
  have hb := kp_X5_init hv hb hx
  have hv := lvk_X5_init hv
  have hb := up_ne (v := (7, 0)) hv hb hx
  have hv := lv_up (v := (7, 0)) hv
  have hb := kp_X8_init hv hb hx
  have hv := lvk_X8_init hv
  have hb := up_ne (v := (3, 0)) hv hb hx
  have hv := lv_up (v := (3, 0)) hv
  have hb := kp_X2_init hv hb hx
  have hv := lvk_X2_init hv
  have hb := up_ne (v := (59, 12)) hv hb hx
  have hv := lv_up (v := (59, 12)) hv
  have hb := up_ne (v := (55, 12)) hv hb hx
  have hv := lv_up (v := (55, 12)) hv
  have hb := up_ne (v := (51, 60)) hv hb hx
  have hv := lv_up (v := (51, 60)) hv
  have hb := up_ne (v := (1, 0)) hv hb hx
  have hv := lv_up (v := (1, 0)) hv
  have hb := up_ne (v := (2, 0)) hv hb hx
  have hv := lv_up (v := (2, 0)) hv
  have hb := kp_X1_init hv hb hx
  have hv := lvk_X1_init hv
  have hb := up_ne (v := (2, 0)) hv hb hx
  have hv := lv_up (v := (2, 0)) hv
  have hb := kp_X1_init hv hb hx
  have hv := lvk_X1_init hv
  have hb := up_ne (v := (2, 0)) hv hb hx
  have hv := lv_up (v := (2, 0)) hv
  have hb := kp_X1_init hv hb hx
  have hv := lvk_X1_init hv
  have hb := up_ne (v := (2, 0)) hv hb hx
  have hv := lv_up (v := (2, 0)) hv
  have hb := kp_X1_init hv hb hx
  have hv := lvk_X1_init hv
  have hb := up_ne (v := (2, 0)) hv hb hx
  have hv := lv_up (v := (2, 0)) hv
  have hb := kp_X1_init hv hb hx
  have hv := lvk_X1_init hv
  have hb := up_ne (v := (2, 0)) hv hb hx
  have hv := lv_up (v := (2, 0)) hv
  have hb := kp_X1_init hv hb hx
  have hv := lvk_X1_init hv
  have hb := up_ne (v := (2, 0)) hv hb hx
  have hv := lv_up (v := (2, 0)) hv
  have hb := kp_X1_init hv hb hx
  have hv := lvk_X1_init hv
  have hb := up_ne (v := (2, 0)) hv hb hx
  have hv := lv_up (v := (2, 0)) hv
  have hb := kp_X1_init hv hb hx
  have hv := lvk_X1_init hv
  have hb := up_ne (v := (2, 0)) hv hb hx
  have hv := lv_up (v := (2, 0)) hv
  have hb := kp_X1_init hv hb hx
  have hv := lvk_X1_init hv
  have hb := up_ne (v := (2, 0)) hv hb hx
  have hv := lv_up (v := (2, 0)) hv
  have hb := kp_X1_init hv hb hx
  have hv := lvk_X1_init hv
  have hb := up_ne (v := (2, 0)) hv hb hx
  have hv := lv_up (v := (2, 0)) hv
  have hb := kp_X1_init hv hb hx
  have hv := lvk_X1_init hv
  have hb := up_ne (v := (2, 0)) hv hb hx
  have hv := lv_up (v := (2, 0)) hv
  have hb := kp_X1_init hv hb hx
  have hv := lvk_X1_init hv
  exact hb
def fX4_init (κ : Kd) (n : Nat) (a0 : Nat) (h : Hp) : Option (Hp) :=
  if (κ a0).1 = 4 then (
  lt_ (nw_ h n) fun h1 =>
  (fX5_init (kX4_init_1 κ n) (n + 1) n h1).bind fun h2 =>
  lt_ (s_R h2 a0 0 (some n)) fun h3 =>
  lt_ (nw_ h3 (n + 6)) fun h4 =>
  (fX8_init (kX4_init_3 κ n) (n + 7) (n + 6) h4).bind fun h5 =>
  lt_ (s_R h5 a0 1 (some (n + 6))) fun h6 =>
  lt_ (nw_ h6 (n + 12)) fun h7 =>
  (fX2_init (kX4_init_5 κ n) (n + 13) (n + 12) h7).bind fun h8 =>
  lt_ (s_R h8 a0 2 (some (n + 12))) fun h9 =>
  lt_ (nw_ h9 (n + 51)) fun h10 =>
  lt_ (s_R h10 a0 3 (some (n + 51))) fun h11 =>
  lt_ (nw_ h11 (n + 52)) fun h12 =>
  lt_ (s_R h12 a0 5 (some (n + 52))) fun h13 =>
  lt_ (nw_ h13 (n + 53)) fun h14 =>
  lt_ (s_R h14 a0 6 (some (n + 53))) fun h15 =>
  lt_ (nw_ h15 (n + 54)) fun h16 =>
  (fX0_init (kX4_init_10 κ n) (n + 54) h16).bind fun h17 =>
  lt_ (s_R h17 a0 7 (some (n + 54))) fun h18 =>
  to_ (kX4_init_10 κ n) (g_R h18 a0 5) 55 fun r19 =>
  lt_ (nw_ h18 (n + 55)) fun h20 =>
  (fX1_init (kX4_init_11 κ n) (n + 56) (n + 55) h20).bind fun h21 =>
  w_R (kX4_init_12 κ n) h21 r19 (0 : Int32) (n + 55) fun h22 =>
  to_ (kX4_init_12 κ n) (g_R h22 a0 5) 55 fun r23 =>
  lt_ (nw_ h22 (n + 59)) fun h24 =>
  (fX1_init (kX4_init_13 κ n) (n + 60) (n + 59) h24).bind fun h25 =>
  w_R (kX4_init_14 κ n) h25 r23 (1 : Int32) (n + 59) fun h26 =>
  to_ (kX4_init_14 κ n) (g_R h26 a0 5) 55 fun r27 =>
  lt_ (nw_ h26 (n + 63)) fun h28 =>
  (fX1_init (kX4_init_15 κ n) (n + 64) (n + 63) h28).bind fun h29 =>
  w_R (kX4_init_16 κ n) h29 r27 (2 : Int32) (n + 63) fun h30 =>
  to_ (kX4_init_16 κ n) (g_R h30 a0 5) 55 fun r31 =>
  lt_ (nw_ h30 (n + 67)) fun h32 =>
  (fX1_init (kX4_init_17 κ n) (n + 68) (n + 67) h32).bind fun h33 =>
  w_R (kX4_init_18 κ n) h33 r31 (3 : Int32) (n + 67) fun h34 =>
  to_ (kX4_init_18 κ n) (g_R h34 a0 5) 55 fun r35 =>
  lt_ (nw_ h34 (n + 71)) fun h36 =>
  (fX1_init (kX4_init_19 κ n) (n + 72) (n + 71) h36).bind fun h37 =>
  w_R (kX4_init_20 κ n) h37 r35 (4 : Int32) (n + 71) fun h38 =>
  to_ (kX4_init_20 κ n) (g_R h38 a0 5) 55 fun r39 =>
  lt_ (nw_ h38 (n + 75)) fun h40 =>
  (fX1_init (kX4_init_21 κ n) (n + 76) (n + 75) h40).bind fun h41 =>
  w_R (kX4_init_22 κ n) h41 r39 (5 : Int32) (n + 75) fun h42 =>
  to_ (kX4_init_22 κ n) (g_R h42 a0 5) 55 fun r43 =>
  lt_ (nw_ h42 (n + 79)) fun h44 =>
  (fX1_init (kX4_init_23 κ n) (n + 80) (n + 79) h44).bind fun h45 =>
  w_R (kX4_init_24 κ n) h45 r43 (6 : Int32) (n + 79) fun h46 =>
  to_ (kX4_init_24 κ n) (g_R h46 a0 5) 55 fun r47 =>
  lt_ (nw_ h46 (n + 83)) fun h48 =>
  (fX1_init (kX4_init_25 κ n) (n + 84) (n + 83) h48).bind fun h49 =>
  w_R (kX4_init_26 κ n) h49 r47 (7 : Int32) (n + 83) fun h50 =>
  to_ (kX4_init_26 κ n) (g_R h50 a0 5) 55 fun r51 =>
  lt_ (nw_ h50 (n + 87)) fun h52 =>
  (fX1_init (kX4_init_27 κ n) (n + 88) (n + 87) h52).bind fun h53 =>
  w_R (kX4_init_28 κ n) h53 r51 (8 : Int32) (n + 87) fun h54 =>
  to_ (kX4_init_28 κ n) (g_R h54 a0 5) 55 fun r55 =>
  lt_ (nw_ h54 (n + 91)) fun h56 =>
  (fX1_init (kX4_init_29 κ n) (n + 92) (n + 91) h56).bind fun h57 =>
  w_R (kX4_init_30 κ n) h57 r55 (9 : Int32) (n + 91) fun h58 =>
  to_ (kX4_init_30 κ n) (g_R h58 a0 5) 55 fun r59 =>
  lt_ (nw_ h58 (n + 95)) fun h60 =>
  (fX1_init (kX4_init_31 κ n) (n + 96) (n + 95) h60).bind fun h61 =>
  w_R (kX4_init_32 κ n) h61 r59 (10 : Int32) (n + 95) fun h62 =>
  to_ (kX4_init_32 κ n) (g_R h62 a0 5) 55 fun r63 =>
  lt_ (nw_ h62 (n + 99)) fun h64 =>
  (fX1_init (kX4_init_33 κ n) (n + 100) (n + 99) h64).bind fun h65 =>
  w_R (kX4_init_34 κ n) h65 r63 (11 : Int32) (n + 99) fun h66 =>
  some h66) else none
set_option maxHeartbeats 4000000 in
set_option maxRecDepth 100000 in
theorem tX4_init (κ : Kd) (n lim : Nat) (h : Hp) (a0 : Nat) (hv : Lv_ κ n) (hl : n + 103 ≤ lim) : Ct_ mX4_init [.ref (a0)] κ n lim h (eV (kX4_init κ n) (n + 103)) (fX4_init κ n a0 h) := by
  refine ct_of (by decide) (Nat.le_of_ble_eq_true rfl) ?_
  unfold fX4_init
  refine z_sub (L' := [(0, .ref (a0))]) [0] rfl ?_
  refine z_or (fun k_a0 => ?_)
  refine z_aload_n dX4_init_0 rfl 0 rfl ?_
  refine z_oi dX4_init_1 oi_X4_3 ⟨by decide, Nat.le_of_ble_eq_true rfl⟩ ?_
  refine z_aload_n dX4_init_4 rfl 0 rfl ?_
  refine z_new dX4_init_5 cl_4 nc_X4_9 (by decide) (by decide) ⟨by omega, by decide, by decide⟩ (fun h1 => ?_)
  have k_a0 := up_ne (v := (5, 0)) hv k_a0 (by decide)
  have kn1 := up_eq κ n (5, 0)
  have hv := lv_up (v := (5, 0)) hv
  refine z_dup dX4_init_8 rfl ?_
  refine z_aV (as := [.ref (n)]) (rn_I dX4_init_9 mf_X5_init rfl in_X5_init lk_X4_11 ⟨by decide, by decide⟩ rfl (Nat.le_of_ble_eq_true rfl)) (tX5_init _ _ _ _ _ hv (by omega)) rfl ⟨by decide, by decide, rfl⟩ (fun h2 => ?_)
  have k_a0 := kp_X5_init hv k_a0 (by decide)
  have kn1 := kp_X5_init hv kn1 (by decide)
  have hv := lvk_X5_init hv
  refine z_putR dX4_init_12 fl_X4_12 (Or.inr ⟨rfl, rfl, ff_X4_12⟩) k_a0 (fun h3 => ?_)
  refine z_aload_n dX4_init_15 rfl 0 rfl ?_
  refine z_new dX4_init_16 cl_6 nc_X4_18 (by decide) (by decide) ⟨by omega, by decide, by decide⟩ (fun h4 => ?_)
  have k_a0 := up_ne (v := (7, 0)) hv k_a0 (by decide)
  have kn1 := up_ne (v := (7, 0)) hv kn1 (by decide)
  have kn3 := up_eq (kX4_init_2 κ n) (n + 6) (7, 0)
  have hv := lv_up (v := (7, 0)) hv
  refine z_dup dX4_init_19 rfl ?_
  refine z_aV (as := [.ref (n + 6)]) (rn_I dX4_init_20 mf_X8_init rfl in_X8_init lk_X4_20 ⟨by decide, by decide⟩ rfl (Nat.le_of_ble_eq_true rfl)) (tX8_init _ _ _ _ _ hv (by omega)) rfl ⟨by decide, by decide, rfl⟩ (fun h5 => ?_)
  have k_a0 := kp_X8_init hv k_a0 (by decide)
  have kn1 := kp_X8_init hv kn1 (by decide)
  have kn3 := kp_X8_init hv kn3 (by decide)
  have hv := lvk_X8_init hv
  refine z_putR dX4_init_23 fl_X4_21 (Or.inr ⟨rfl, rfl, ff_X4_21⟩) k_a0 (fun h6 => ?_)
  refine z_aload_n dX4_init_26 rfl 0 rfl ?_
  refine z_new dX4_init_27 cl_2 nc_X4_25 (by decide) (by decide) ⟨by omega, by decide, by decide⟩ (fun h7 => ?_)
  have k_a0 := up_ne (v := (3, 0)) hv k_a0 (by decide)
  have kn1 := up_ne (v := (3, 0)) hv kn1 (by decide)
  have kn3 := up_ne (v := (3, 0)) hv kn3 (by decide)
  have kn5 := up_eq (kX4_init_4 κ n) (n + 12) (3, 0)
  have hv := lv_up (v := (3, 0)) hv
  refine z_dup dX4_init_30 rfl ?_
  refine z_aV (as := [.ref (n + 12)]) (rn_I dX4_init_31 mf_X2_init rfl in_X2_init lk_X4_27 ⟨by decide, by decide⟩ rfl (Nat.le_of_ble_eq_true rfl)) (tX2_init _ _ _ _ _ hv (by omega)) rfl ⟨by decide, by decide, rfl⟩ (fun h8 => ?_)
  have k_a0 := kp_X2_init hv k_a0 (by decide)
  have kn1 := kp_X2_init hv kn1 (by decide)
  have kn3 := kp_X2_init hv kn3 (by decide)
  have kn5 := kp_X2_init hv kn5 (by decide)
  have hv := lvk_X2_init hv
  refine z_putR dX4_init_34 fl_X4_28 (Or.inr ⟨rfl, rfl, ff_X4_28⟩) k_a0 (fun h9 => ?_)
  refine z_aload_n dX4_init_37 rfl 0 rfl ?_
  refine z_bipush (v := 12) dX4_init_38 (by decide) ?_
  refine z_anew (N := 12) dX4_init_40 rk_59 na_X4_32 (by decide) (by decide) ⟨by omega, by decide, by decide⟩ (fun h10 => ?_)
  have k_a0 := up_ne (v := (59, 12)) hv k_a0 (by decide)
  have kn1 := up_ne (v := (59, 12)) hv kn1 (by decide)
  have kn3 := up_ne (v := (59, 12)) hv kn3 (by decide)
  have kn5 := up_ne (v := (59, 12)) hv kn5 (by decide)
  have kn7 := up_eq (kX4_init_6 κ n) (n + 51) (59, 12)
  have hv := lv_up (v := (59, 12)) hv
  refine z_putR dX4_init_43 fl_X4_34 (Or.inr ⟨rfl, rfl, ff_X4_34⟩) k_a0 (fun h11 => ?_)
  refine z_aload_n dX4_init_46 rfl 0 rfl ?_
  refine z_bipush (v := 12) dX4_init_47 (by decide) ?_
  refine z_anew (N := 12) dX4_init_49 rk_55 na_X4_38 (by decide) (by decide) ⟨by omega, by decide, by decide⟩ (fun h12 => ?_)
  have k_a0 := up_ne (v := (55, 12)) hv k_a0 (by decide)
  have kn1 := up_ne (v := (55, 12)) hv kn1 (by decide)
  have kn3 := up_ne (v := (55, 12)) hv kn3 (by decide)
  have kn5 := up_ne (v := (55, 12)) hv kn5 (by decide)
  have kn7 := up_ne (v := (55, 12)) hv kn7 (by decide)
  have kn8 := up_eq (kX4_init_7 κ n) (n + 52) (55, 12)
  have hv := lv_up (v := (55, 12)) hv
  refine z_putR dX4_init_52 fl_X4_40 (Or.inr ⟨rfl, rfl, ff_X4_40⟩) k_a0 (fun h13 => ?_)
  refine z_aload_n dX4_init_55 rfl 0 rfl ?_
  refine z_bipush (v := 60) dX4_init_56 (by decide) ?_
  refine z_newa (N := 60) dX4_init_58 pk_51 (by decide) (by decide) ⟨by omega, by decide, by decide⟩ (fun h14 => ?_)
  have k_a0 := up_ne (v := (51, 60)) hv k_a0 (by decide)
  have kn1 := up_ne (v := (51, 60)) hv kn1 (by decide)
  have kn3 := up_ne (v := (51, 60)) hv kn3 (by decide)
  have kn5 := up_ne (v := (51, 60)) hv kn5 (by decide)
  have kn7 := up_ne (v := (51, 60)) hv kn7 (by decide)
  have kn8 := up_ne (v := (51, 60)) hv kn8 (by decide)
  have kn9 := up_eq (kX4_init_8 κ n) (n + 53) (51, 60)
  have hv := lv_up (v := (51, 60)) hv
  refine z_putR dX4_init_60 fl_X4_44 (Or.inr ⟨rfl, rfl, ff_X4_44⟩) k_a0 (fun h15 => ?_)
  refine z_aload_n dX4_init_63 rfl 0 rfl ?_
  refine z_new dX4_init_64 cl_0 nc_X4_48 (by decide) (by decide) ⟨by omega, by decide, by decide⟩ (fun h16 => ?_)
  have k_a0 := up_ne (v := (1, 0)) hv k_a0 (by decide)
  have kn1 := up_ne (v := (1, 0)) hv kn1 (by decide)
  have kn3 := up_ne (v := (1, 0)) hv kn3 (by decide)
  have kn5 := up_ne (v := (1, 0)) hv kn5 (by decide)
  have kn7 := up_ne (v := (1, 0)) hv kn7 (by decide)
  have kn8 := up_ne (v := (1, 0)) hv kn8 (by decide)
  have kn9 := up_ne (v := (1, 0)) hv kn9 (by decide)
  have kn10 := up_eq (kX4_init_9 κ n) (n + 54) (1, 0)
  have hv := lv_up (v := (1, 0)) hv
  refine z_dup dX4_init_67 rfl ?_
  refine z_cV (as := [.ref (n + 54)]) (rn_I dX4_init_68 mf_X0_init rfl in_X0_init lk_X4_50 ⟨by decide, by decide⟩ rfl (Nat.le_of_ble_eq_true rfl)) (tX0_init _ _ _ _ _) cz_X0_init ⟨by decide, by decide⟩ (fun h17 => ?_)
  refine z_putR dX4_init_71 fl_X4_51 (Or.inr ⟨rfl, rfl, ff_X4_51⟩) k_a0 (fun h18 => ?_)
  refine z_iconst (v := 0) dX4_init_74 (by decide) ?_
  refine z_istore_n (L' := [(1, .int ((0 : Int32))), (0, .ref (a0))]) dX4_init_75 rfl (by decide) rfl ?_
  refine z_iload_n dX4_init_76 rfl 0 rfl ?_
  refine z_bipush (v := 12) dX4_init_77 (by decide) ?_
  refine z_icmp_geF (tgt := 101) dX4_init_79 (by decide) (by decide) ?_
  refine z_aload_n dX4_init_82 rfl 1 rfl ?_
  refine z_getR (kd := 55) dX4_init_83 fl_X4_40 k_a0 (fun r19 kr19 => ?_)
  refine z_iload_n dX4_init_86 rfl 0 rfl ?_
  refine z_new dX4_init_87 cl_1 nc_X4_38 (by decide) (by decide) ⟨by omega, by decide, by decide⟩ (fun h20 => ?_)
  have k_a0 := up_ne (v := (2, 0)) hv k_a0 (by decide)
  have kn1 := up_ne (v := (2, 0)) hv kn1 (by decide)
  have kn3 := up_ne (v := (2, 0)) hv kn3 (by decide)
  have kn5 := up_ne (v := (2, 0)) hv kn5 (by decide)
  have kn7 := up_ne (v := (2, 0)) hv kn7 (by decide)
  have kn8 := up_ne (v := (2, 0)) hv kn8 (by decide)
  have kn9 := up_ne (v := (2, 0)) hv kn9 (by decide)
  have kn10 := up_ne (v := (2, 0)) hv kn10 (by decide)
  have kr19 := up_ne (v := (2, 0)) hv kr19 (by decide)
  have kn11 := up_eq (kX4_init_10 κ n) (n + 55) (2, 0)
  have hv := lv_up (v := (2, 0)) hv
  refine z_dup dX4_init_90 rfl ?_
  refine z_aV (as := [.ref (n + 55)]) (rn_I dX4_init_91 mf_X1_init rfl in_X1_init lk_X4_55 ⟨by decide, by decide⟩ rfl (Nat.le_of_ble_eq_true rfl)) (tX1_init _ _ _ _ _ hv (by omega)) rfl ⟨by decide, by decide, rfl⟩ (fun h21 => ?_)
  have k_a0 := kp_X1_init hv k_a0 (by decide)
  have kn1 := kp_X1_init hv kn1 (by decide)
  have kn3 := kp_X1_init hv kn3 (by decide)
  have kn5 := kp_X1_init hv kn5 (by decide)
  have kn7 := kp_X1_init hv kn7 (by decide)
  have kn8 := kp_X1_init hv kn8 (by decide)
  have kn9 := kp_X1_init hv kn9 (by decide)
  have kn10 := kp_X1_init hv kn10 (by decide)
  have kr19 := kp_X1_init hv kr19 (by decide)
  have kn11 := kp_X1_init hv kn11 (by decide)
  have hv := lvk_X1_init hv
  refine z_aast dX4_init_94 rk_55 cl_1 rfl kr19 kn11 (fun h22 => ?_)
  refine z_iinc (j := 0) (v := (1 : Int32)) (L' := [(1, .int ((1 : Int32))), (0, .ref (a0))]) dX4_init_95 rfl (by decide) (by decide) rfl ?_
  refine z_goto (tgt := 76) dX4_init_98 (by decide) ?_
  refine z_iload_n dX4_init_76 rfl 0 rfl ?_
  refine z_bipush (v := 12) dX4_init_77 (by decide) ?_
  refine z_icmp_geF (tgt := 101) dX4_init_79 (by decide) (by decide) ?_
  refine z_aload_n dX4_init_82 rfl 1 rfl ?_
  refine z_getR (kd := 55) dX4_init_83 fl_X4_40 k_a0 (fun r23 kr23 => ?_)
  refine z_iload_n dX4_init_86 rfl 0 rfl ?_
  refine z_new dX4_init_87 cl_1 nc_X4_38 (by decide) (by decide) ⟨by omega, by decide, by decide⟩ (fun h24 => ?_)
  have k_a0 := up_ne (v := (2, 0)) hv k_a0 (by decide)
  have kn1 := up_ne (v := (2, 0)) hv kn1 (by decide)
  have kn3 := up_ne (v := (2, 0)) hv kn3 (by decide)
  have kn5 := up_ne (v := (2, 0)) hv kn5 (by decide)
  have kn7 := up_ne (v := (2, 0)) hv kn7 (by decide)
  have kn8 := up_ne (v := (2, 0)) hv kn8 (by decide)
  have kn9 := up_ne (v := (2, 0)) hv kn9 (by decide)
  have kn10 := up_ne (v := (2, 0)) hv kn10 (by decide)
  have kr19 := up_ne (v := (2, 0)) hv kr19 (by decide)
  have kn11 := up_ne (v := (2, 0)) hv kn11 (by decide)
  have kr23 := up_ne (v := (2, 0)) hv kr23 (by decide)
  have kn13 := up_eq (kX4_init_12 κ n) (n + 59) (2, 0)
  have hv := lv_up (v := (2, 0)) hv
  refine z_dup dX4_init_90 rfl ?_
  refine z_aV (as := [.ref (n + 59)]) (rn_I dX4_init_91 mf_X1_init rfl in_X1_init lk_X4_55 ⟨by decide, by decide⟩ rfl (Nat.le_of_ble_eq_true rfl)) (tX1_init _ _ _ _ _ hv (by omega)) rfl ⟨by decide, by decide, rfl⟩ (fun h25 => ?_)
  have k_a0 := kp_X1_init hv k_a0 (by decide)
  have kn1 := kp_X1_init hv kn1 (by decide)
  have kn3 := kp_X1_init hv kn3 (by decide)
  have kn5 := kp_X1_init hv kn5 (by decide)
  have kn7 := kp_X1_init hv kn7 (by decide)
  have kn8 := kp_X1_init hv kn8 (by decide)
  have kn9 := kp_X1_init hv kn9 (by decide)
  have kn10 := kp_X1_init hv kn10 (by decide)
  have kr19 := kp_X1_init hv kr19 (by decide)
  have kn11 := kp_X1_init hv kn11 (by decide)
  have kr23 := kp_X1_init hv kr23 (by decide)
  have kn13 := kp_X1_init hv kn13 (by decide)
  have hv := lvk_X1_init hv
  refine z_aast dX4_init_94 rk_55 cl_1 rfl kr23 kn13 (fun h26 => ?_)
  refine z_iinc (j := 0) (v := (2 : Int32)) (L' := [(1, .int ((2 : Int32))), (0, .ref (a0))]) dX4_init_95 rfl (by decide) (by decide) rfl ?_
  refine z_goto (tgt := 76) dX4_init_98 (by decide) ?_
  refine z_iload_n dX4_init_76 rfl 0 rfl ?_
  refine z_bipush (v := 12) dX4_init_77 (by decide) ?_
  refine z_icmp_geF (tgt := 101) dX4_init_79 (by decide) (by decide) ?_
  refine z_aload_n dX4_init_82 rfl 1 rfl ?_
  refine z_getR (kd := 55) dX4_init_83 fl_X4_40 k_a0 (fun r27 kr27 => ?_)
  refine z_iload_n dX4_init_86 rfl 0 rfl ?_
  refine z_new dX4_init_87 cl_1 nc_X4_38 (by decide) (by decide) ⟨by omega, by decide, by decide⟩ (fun h28 => ?_)
  have k_a0 := up_ne (v := (2, 0)) hv k_a0 (by decide)
  have kn1 := up_ne (v := (2, 0)) hv kn1 (by decide)
  have kn3 := up_ne (v := (2, 0)) hv kn3 (by decide)
  have kn5 := up_ne (v := (2, 0)) hv kn5 (by decide)
  have kn7 := up_ne (v := (2, 0)) hv kn7 (by decide)
  have kn8 := up_ne (v := (2, 0)) hv kn8 (by decide)
  have kn9 := up_ne (v := (2, 0)) hv kn9 (by decide)
  have kn10 := up_ne (v := (2, 0)) hv kn10 (by decide)
  have kr19 := up_ne (v := (2, 0)) hv kr19 (by decide)
  have kn11 := up_ne (v := (2, 0)) hv kn11 (by decide)
  have kr23 := up_ne (v := (2, 0)) hv kr23 (by decide)
  have kn13 := up_ne (v := (2, 0)) hv kn13 (by decide)
  have kr27 := up_ne (v := (2, 0)) hv kr27 (by decide)
  have kn15 := up_eq (kX4_init_14 κ n) (n + 63) (2, 0)
  have hv := lv_up (v := (2, 0)) hv
  refine z_dup dX4_init_90 rfl ?_
  refine z_aV (as := [.ref (n + 63)]) (rn_I dX4_init_91 mf_X1_init rfl in_X1_init lk_X4_55 ⟨by decide, by decide⟩ rfl (Nat.le_of_ble_eq_true rfl)) (tX1_init _ _ _ _ _ hv (by omega)) rfl ⟨by decide, by decide, rfl⟩ (fun h29 => ?_)
  have k_a0 := kp_X1_init hv k_a0 (by decide)
  have kn1 := kp_X1_init hv kn1 (by decide)
  have kn3 := kp_X1_init hv kn3 (by decide)
  have kn5 := kp_X1_init hv kn5 (by decide)
  have kn7 := kp_X1_init hv kn7 (by decide)
  have kn8 := kp_X1_init hv kn8 (by decide)
  have kn9 := kp_X1_init hv kn9 (by decide)
  have kn10 := kp_X1_init hv kn10 (by decide)
  have kr19 := kp_X1_init hv kr19 (by decide)
  have kn11 := kp_X1_init hv kn11 (by decide)
  have kr23 := kp_X1_init hv kr23 (by decide)
  have kn13 := kp_X1_init hv kn13 (by decide)
  have kr27 := kp_X1_init hv kr27 (by decide)
  have kn15 := kp_X1_init hv kn15 (by decide)
  have hv := lvk_X1_init hv
  refine z_aast dX4_init_94 rk_55 cl_1 rfl kr27 kn15 (fun h30 => ?_)
  refine z_iinc (j := 0) (v := (3 : Int32)) (L' := [(1, .int ((3 : Int32))), (0, .ref (a0))]) dX4_init_95 rfl (by decide) (by decide) rfl ?_
  refine z_goto (tgt := 76) dX4_init_98 (by decide) ?_
  refine z_iload_n dX4_init_76 rfl 0 rfl ?_
  refine z_bipush (v := 12) dX4_init_77 (by decide) ?_
  refine z_icmp_geF (tgt := 101) dX4_init_79 (by decide) (by decide) ?_
  refine z_aload_n dX4_init_82 rfl 1 rfl ?_
  refine z_getR (kd := 55) dX4_init_83 fl_X4_40 k_a0 (fun r31 kr31 => ?_)
  refine z_iload_n dX4_init_86 rfl 0 rfl ?_
  refine z_new dX4_init_87 cl_1 nc_X4_38 (by decide) (by decide) ⟨by omega, by decide, by decide⟩ (fun h32 => ?_)
  have k_a0 := up_ne (v := (2, 0)) hv k_a0 (by decide)
  have kn1 := up_ne (v := (2, 0)) hv kn1 (by decide)
  have kn3 := up_ne (v := (2, 0)) hv kn3 (by decide)
  have kn5 := up_ne (v := (2, 0)) hv kn5 (by decide)
  have kn7 := up_ne (v := (2, 0)) hv kn7 (by decide)
  have kn8 := up_ne (v := (2, 0)) hv kn8 (by decide)
  have kn9 := up_ne (v := (2, 0)) hv kn9 (by decide)
  have kn10 := up_ne (v := (2, 0)) hv kn10 (by decide)
  have kr19 := up_ne (v := (2, 0)) hv kr19 (by decide)
  have kn11 := up_ne (v := (2, 0)) hv kn11 (by decide)
  have kr23 := up_ne (v := (2, 0)) hv kr23 (by decide)
  have kn13 := up_ne (v := (2, 0)) hv kn13 (by decide)
  have kr27 := up_ne (v := (2, 0)) hv kr27 (by decide)
  have kn15 := up_ne (v := (2, 0)) hv kn15 (by decide)
  have kr31 := up_ne (v := (2, 0)) hv kr31 (by decide)
  have kn17 := up_eq (kX4_init_16 κ n) (n + 67) (2, 0)
  have hv := lv_up (v := (2, 0)) hv
  refine z_dup dX4_init_90 rfl ?_
  refine z_aV (as := [.ref (n + 67)]) (rn_I dX4_init_91 mf_X1_init rfl in_X1_init lk_X4_55 ⟨by decide, by decide⟩ rfl (Nat.le_of_ble_eq_true rfl)) (tX1_init _ _ _ _ _ hv (by omega)) rfl ⟨by decide, by decide, rfl⟩ (fun h33 => ?_)
  have k_a0 := kp_X1_init hv k_a0 (by decide)
  have kn1 := kp_X1_init hv kn1 (by decide)
  have kn3 := kp_X1_init hv kn3 (by decide)
  have kn5 := kp_X1_init hv kn5 (by decide)
  have kn7 := kp_X1_init hv kn7 (by decide)
  have kn8 := kp_X1_init hv kn8 (by decide)
  have kn9 := kp_X1_init hv kn9 (by decide)
  have kn10 := kp_X1_init hv kn10 (by decide)
  have kr19 := kp_X1_init hv kr19 (by decide)
  have kn11 := kp_X1_init hv kn11 (by decide)
  have kr23 := kp_X1_init hv kr23 (by decide)
  have kn13 := kp_X1_init hv kn13 (by decide)
  have kr27 := kp_X1_init hv kr27 (by decide)
  have kn15 := kp_X1_init hv kn15 (by decide)
  have kr31 := kp_X1_init hv kr31 (by decide)
  have kn17 := kp_X1_init hv kn17 (by decide)
  have hv := lvk_X1_init hv
  refine z_aast dX4_init_94 rk_55 cl_1 rfl kr31 kn17 (fun h34 => ?_)
  refine z_iinc (j := 0) (v := (4 : Int32)) (L' := [(1, .int ((4 : Int32))), (0, .ref (a0))]) dX4_init_95 rfl (by decide) (by decide) rfl ?_
  refine z_goto (tgt := 76) dX4_init_98 (by decide) ?_
  refine z_iload_n dX4_init_76 rfl 0 rfl ?_
  refine z_bipush (v := 12) dX4_init_77 (by decide) ?_
  refine z_icmp_geF (tgt := 101) dX4_init_79 (by decide) (by decide) ?_
  refine z_aload_n dX4_init_82 rfl 1 rfl ?_
  refine z_getR (kd := 55) dX4_init_83 fl_X4_40 k_a0 (fun r35 kr35 => ?_)
  refine z_iload_n dX4_init_86 rfl 0 rfl ?_
  refine z_new dX4_init_87 cl_1 nc_X4_38 (by decide) (by decide) ⟨by omega, by decide, by decide⟩ (fun h36 => ?_)
  have k_a0 := up_ne (v := (2, 0)) hv k_a0 (by decide)
  have kn1 := up_ne (v := (2, 0)) hv kn1 (by decide)
  have kn3 := up_ne (v := (2, 0)) hv kn3 (by decide)
  have kn5 := up_ne (v := (2, 0)) hv kn5 (by decide)
  have kn7 := up_ne (v := (2, 0)) hv kn7 (by decide)
  have kn8 := up_ne (v := (2, 0)) hv kn8 (by decide)
  have kn9 := up_ne (v := (2, 0)) hv kn9 (by decide)
  have kn10 := up_ne (v := (2, 0)) hv kn10 (by decide)
  have kr19 := up_ne (v := (2, 0)) hv kr19 (by decide)
  have kn11 := up_ne (v := (2, 0)) hv kn11 (by decide)
  have kr23 := up_ne (v := (2, 0)) hv kr23 (by decide)
  have kn13 := up_ne (v := (2, 0)) hv kn13 (by decide)
  have kr27 := up_ne (v := (2, 0)) hv kr27 (by decide)
  have kn15 := up_ne (v := (2, 0)) hv kn15 (by decide)
  have kr31 := up_ne (v := (2, 0)) hv kr31 (by decide)
  have kn17 := up_ne (v := (2, 0)) hv kn17 (by decide)
  have kr35 := up_ne (v := (2, 0)) hv kr35 (by decide)
  have kn19 := up_eq (kX4_init_18 κ n) (n + 71) (2, 0)
  have hv := lv_up (v := (2, 0)) hv
  refine z_dup dX4_init_90 rfl ?_
  refine z_aV (as := [.ref (n + 71)]) (rn_I dX4_init_91 mf_X1_init rfl in_X1_init lk_X4_55 ⟨by decide, by decide⟩ rfl (Nat.le_of_ble_eq_true rfl)) (tX1_init _ _ _ _ _ hv (by omega)) rfl ⟨by decide, by decide, rfl⟩ (fun h37 => ?_)
  have k_a0 := kp_X1_init hv k_a0 (by decide)
  have kn1 := kp_X1_init hv kn1 (by decide)
  have kn3 := kp_X1_init hv kn3 (by decide)
  have kn5 := kp_X1_init hv kn5 (by decide)
  have kn7 := kp_X1_init hv kn7 (by decide)
  have kn8 := kp_X1_init hv kn8 (by decide)
  have kn9 := kp_X1_init hv kn9 (by decide)
  have kn10 := kp_X1_init hv kn10 (by decide)
  have kr19 := kp_X1_init hv kr19 (by decide)
  have kn11 := kp_X1_init hv kn11 (by decide)
  have kr23 := kp_X1_init hv kr23 (by decide)
  have kn13 := kp_X1_init hv kn13 (by decide)
  have kr27 := kp_X1_init hv kr27 (by decide)
  have kn15 := kp_X1_init hv kn15 (by decide)
  have kr31 := kp_X1_init hv kr31 (by decide)
  have kn17 := kp_X1_init hv kn17 (by decide)
  have kr35 := kp_X1_init hv kr35 (by decide)
  have kn19 := kp_X1_init hv kn19 (by decide)
  have hv := lvk_X1_init hv
  refine z_aast dX4_init_94 rk_55 cl_1 rfl kr35 kn19 (fun h38 => ?_)
  refine z_iinc (j := 0) (v := (5 : Int32)) (L' := [(1, .int ((5 : Int32))), (0, .ref (a0))]) dX4_init_95 rfl (by decide) (by decide) rfl ?_
  refine z_goto (tgt := 76) dX4_init_98 (by decide) ?_
  refine z_iload_n dX4_init_76 rfl 0 rfl ?_
  refine z_bipush (v := 12) dX4_init_77 (by decide) ?_
  refine z_icmp_geF (tgt := 101) dX4_init_79 (by decide) (by decide) ?_
  refine z_aload_n dX4_init_82 rfl 1 rfl ?_
  refine z_getR (kd := 55) dX4_init_83 fl_X4_40 k_a0 (fun r39 kr39 => ?_)
  refine z_iload_n dX4_init_86 rfl 0 rfl ?_
  refine z_new dX4_init_87 cl_1 nc_X4_38 (by decide) (by decide) ⟨by omega, by decide, by decide⟩ (fun h40 => ?_)
  have k_a0 := up_ne (v := (2, 0)) hv k_a0 (by decide)
  have kn1 := up_ne (v := (2, 0)) hv kn1 (by decide)
  have kn3 := up_ne (v := (2, 0)) hv kn3 (by decide)
  have kn5 := up_ne (v := (2, 0)) hv kn5 (by decide)
  have kn7 := up_ne (v := (2, 0)) hv kn7 (by decide)
  have kn8 := up_ne (v := (2, 0)) hv kn8 (by decide)
  have kn9 := up_ne (v := (2, 0)) hv kn9 (by decide)
  have kn10 := up_ne (v := (2, 0)) hv kn10 (by decide)
  have kr19 := up_ne (v := (2, 0)) hv kr19 (by decide)
  have kn11 := up_ne (v := (2, 0)) hv kn11 (by decide)
  have kr23 := up_ne (v := (2, 0)) hv kr23 (by decide)
  have kn13 := up_ne (v := (2, 0)) hv kn13 (by decide)
  have kr27 := up_ne (v := (2, 0)) hv kr27 (by decide)
  have kn15 := up_ne (v := (2, 0)) hv kn15 (by decide)
  have kr31 := up_ne (v := (2, 0)) hv kr31 (by decide)
  have kn17 := up_ne (v := (2, 0)) hv kn17 (by decide)
  have kr35 := up_ne (v := (2, 0)) hv kr35 (by decide)
  have kn19 := up_ne (v := (2, 0)) hv kn19 (by decide)
  have kr39 := up_ne (v := (2, 0)) hv kr39 (by decide)
  have kn21 := up_eq (kX4_init_20 κ n) (n + 75) (2, 0)
  have hv := lv_up (v := (2, 0)) hv
  refine z_dup dX4_init_90 rfl ?_
  refine z_aV (as := [.ref (n + 75)]) (rn_I dX4_init_91 mf_X1_init rfl in_X1_init lk_X4_55 ⟨by decide, by decide⟩ rfl (Nat.le_of_ble_eq_true rfl)) (tX1_init _ _ _ _ _ hv (by omega)) rfl ⟨by decide, by decide, rfl⟩ (fun h41 => ?_)
  have k_a0 := kp_X1_init hv k_a0 (by decide)
  have kn1 := kp_X1_init hv kn1 (by decide)
  have kn3 := kp_X1_init hv kn3 (by decide)
  have kn5 := kp_X1_init hv kn5 (by decide)
  have kn7 := kp_X1_init hv kn7 (by decide)
  have kn8 := kp_X1_init hv kn8 (by decide)
  have kn9 := kp_X1_init hv kn9 (by decide)
  have kn10 := kp_X1_init hv kn10 (by decide)
  have kr19 := kp_X1_init hv kr19 (by decide)
  have kn11 := kp_X1_init hv kn11 (by decide)
  have kr23 := kp_X1_init hv kr23 (by decide)
  have kn13 := kp_X1_init hv kn13 (by decide)
  have kr27 := kp_X1_init hv kr27 (by decide)
  have kn15 := kp_X1_init hv kn15 (by decide)
  have kr31 := kp_X1_init hv kr31 (by decide)
  have kn17 := kp_X1_init hv kn17 (by decide)
  have kr35 := kp_X1_init hv kr35 (by decide)
  have kn19 := kp_X1_init hv kn19 (by decide)
  have kr39 := kp_X1_init hv kr39 (by decide)
  have kn21 := kp_X1_init hv kn21 (by decide)
  have hv := lvk_X1_init hv
  refine z_aast dX4_init_94 rk_55 cl_1 rfl kr39 kn21 (fun h42 => ?_)
  refine z_iinc (j := 0) (v := (6 : Int32)) (L' := [(1, .int ((6 : Int32))), (0, .ref (a0))]) dX4_init_95 rfl (by decide) (by decide) rfl ?_
  refine z_goto (tgt := 76) dX4_init_98 (by decide) ?_
  refine z_iload_n dX4_init_76 rfl 0 rfl ?_
  refine z_bipush (v := 12) dX4_init_77 (by decide) ?_
  refine z_icmp_geF (tgt := 101) dX4_init_79 (by decide) (by decide) ?_
  refine z_aload_n dX4_init_82 rfl 1 rfl ?_
  refine z_getR (kd := 55) dX4_init_83 fl_X4_40 k_a0 (fun r43 kr43 => ?_)
  refine z_iload_n dX4_init_86 rfl 0 rfl ?_
  refine z_new dX4_init_87 cl_1 nc_X4_38 (by decide) (by decide) ⟨by omega, by decide, by decide⟩ (fun h44 => ?_)
  have k_a0 := up_ne (v := (2, 0)) hv k_a0 (by decide)
  have kn1 := up_ne (v := (2, 0)) hv kn1 (by decide)
  have kn3 := up_ne (v := (2, 0)) hv kn3 (by decide)
  have kn5 := up_ne (v := (2, 0)) hv kn5 (by decide)
  have kn7 := up_ne (v := (2, 0)) hv kn7 (by decide)
  have kn8 := up_ne (v := (2, 0)) hv kn8 (by decide)
  have kn9 := up_ne (v := (2, 0)) hv kn9 (by decide)
  have kn10 := up_ne (v := (2, 0)) hv kn10 (by decide)
  have kr19 := up_ne (v := (2, 0)) hv kr19 (by decide)
  have kn11 := up_ne (v := (2, 0)) hv kn11 (by decide)
  have kr23 := up_ne (v := (2, 0)) hv kr23 (by decide)
  have kn13 := up_ne (v := (2, 0)) hv kn13 (by decide)
  have kr27 := up_ne (v := (2, 0)) hv kr27 (by decide)
  have kn15 := up_ne (v := (2, 0)) hv kn15 (by decide)
  have kr31 := up_ne (v := (2, 0)) hv kr31 (by decide)
  have kn17 := up_ne (v := (2, 0)) hv kn17 (by decide)
  have kr35 := up_ne (v := (2, 0)) hv kr35 (by decide)
  have kn19 := up_ne (v := (2, 0)) hv kn19 (by decide)
  have kr39 := up_ne (v := (2, 0)) hv kr39 (by decide)
  have kn21 := up_ne (v := (2, 0)) hv kn21 (by decide)
  have kr43 := up_ne (v := (2, 0)) hv kr43 (by decide)
  have kn23 := up_eq (kX4_init_22 κ n) (n + 79) (2, 0)
  have hv := lv_up (v := (2, 0)) hv
  refine z_dup dX4_init_90 rfl ?_
  refine z_aV (as := [.ref (n + 79)]) (rn_I dX4_init_91 mf_X1_init rfl in_X1_init lk_X4_55 ⟨by decide, by decide⟩ rfl (Nat.le_of_ble_eq_true rfl)) (tX1_init _ _ _ _ _ hv (by omega)) rfl ⟨by decide, by decide, rfl⟩ (fun h45 => ?_)
  have k_a0 := kp_X1_init hv k_a0 (by decide)
  have kn1 := kp_X1_init hv kn1 (by decide)
  have kn3 := kp_X1_init hv kn3 (by decide)
  have kn5 := kp_X1_init hv kn5 (by decide)
  have kn7 := kp_X1_init hv kn7 (by decide)
  have kn8 := kp_X1_init hv kn8 (by decide)
  have kn9 := kp_X1_init hv kn9 (by decide)
  have kn10 := kp_X1_init hv kn10 (by decide)
  have kr19 := kp_X1_init hv kr19 (by decide)
  have kn11 := kp_X1_init hv kn11 (by decide)
  have kr23 := kp_X1_init hv kr23 (by decide)
  have kn13 := kp_X1_init hv kn13 (by decide)
  have kr27 := kp_X1_init hv kr27 (by decide)
  have kn15 := kp_X1_init hv kn15 (by decide)
  have kr31 := kp_X1_init hv kr31 (by decide)
  have kn17 := kp_X1_init hv kn17 (by decide)
  have kr35 := kp_X1_init hv kr35 (by decide)
  have kn19 := kp_X1_init hv kn19 (by decide)
  have kr39 := kp_X1_init hv kr39 (by decide)
  have kn21 := kp_X1_init hv kn21 (by decide)
  have kr43 := kp_X1_init hv kr43 (by decide)
  have kn23 := kp_X1_init hv kn23 (by decide)
  have hv := lvk_X1_init hv
  refine z_aast dX4_init_94 rk_55 cl_1 rfl kr43 kn23 (fun h46 => ?_)
  refine z_iinc (j := 0) (v := (7 : Int32)) (L' := [(1, .int ((7 : Int32))), (0, .ref (a0))]) dX4_init_95 rfl (by decide) (by decide) rfl ?_
  refine z_goto (tgt := 76) dX4_init_98 (by decide) ?_
  refine z_iload_n dX4_init_76 rfl 0 rfl ?_
  refine z_bipush (v := 12) dX4_init_77 (by decide) ?_
  refine z_icmp_geF (tgt := 101) dX4_init_79 (by decide) (by decide) ?_
  refine z_aload_n dX4_init_82 rfl 1 rfl ?_
  refine z_getR (kd := 55) dX4_init_83 fl_X4_40 k_a0 (fun r47 kr47 => ?_)
  refine z_iload_n dX4_init_86 rfl 0 rfl ?_
  refine z_new dX4_init_87 cl_1 nc_X4_38 (by decide) (by decide) ⟨by omega, by decide, by decide⟩ (fun h48 => ?_)
  have k_a0 := up_ne (v := (2, 0)) hv k_a0 (by decide)
  have kn1 := up_ne (v := (2, 0)) hv kn1 (by decide)
  have kn3 := up_ne (v := (2, 0)) hv kn3 (by decide)
  have kn5 := up_ne (v := (2, 0)) hv kn5 (by decide)
  have kn7 := up_ne (v := (2, 0)) hv kn7 (by decide)
  have kn8 := up_ne (v := (2, 0)) hv kn8 (by decide)
  have kn9 := up_ne (v := (2, 0)) hv kn9 (by decide)
  have kn10 := up_ne (v := (2, 0)) hv kn10 (by decide)
  have kr19 := up_ne (v := (2, 0)) hv kr19 (by decide)
  have kn11 := up_ne (v := (2, 0)) hv kn11 (by decide)
  have kr23 := up_ne (v := (2, 0)) hv kr23 (by decide)
  have kn13 := up_ne (v := (2, 0)) hv kn13 (by decide)
  have kr27 := up_ne (v := (2, 0)) hv kr27 (by decide)
  have kn15 := up_ne (v := (2, 0)) hv kn15 (by decide)
  have kr31 := up_ne (v := (2, 0)) hv kr31 (by decide)
  have kn17 := up_ne (v := (2, 0)) hv kn17 (by decide)
  have kr35 := up_ne (v := (2, 0)) hv kr35 (by decide)
  have kn19 := up_ne (v := (2, 0)) hv kn19 (by decide)
  have kr39 := up_ne (v := (2, 0)) hv kr39 (by decide)
  have kn21 := up_ne (v := (2, 0)) hv kn21 (by decide)
  have kr43 := up_ne (v := (2, 0)) hv kr43 (by decide)
  have kn23 := up_ne (v := (2, 0)) hv kn23 (by decide)
  have kr47 := up_ne (v := (2, 0)) hv kr47 (by decide)
  have kn25 := up_eq (kX4_init_24 κ n) (n + 83) (2, 0)
  have hv := lv_up (v := (2, 0)) hv
  refine z_dup dX4_init_90 rfl ?_
  refine z_aV (as := [.ref (n + 83)]) (rn_I dX4_init_91 mf_X1_init rfl in_X1_init lk_X4_55 ⟨by decide, by decide⟩ rfl (Nat.le_of_ble_eq_true rfl)) (tX1_init _ _ _ _ _ hv (by omega)) rfl ⟨by decide, by decide, rfl⟩ (fun h49 => ?_)
  have k_a0 := kp_X1_init hv k_a0 (by decide)
  have kn1 := kp_X1_init hv kn1 (by decide)
  have kn3 := kp_X1_init hv kn3 (by decide)
  have kn5 := kp_X1_init hv kn5 (by decide)
  have kn7 := kp_X1_init hv kn7 (by decide)
  have kn8 := kp_X1_init hv kn8 (by decide)
  have kn9 := kp_X1_init hv kn9 (by decide)
  have kn10 := kp_X1_init hv kn10 (by decide)
  have kr19 := kp_X1_init hv kr19 (by decide)
  have kn11 := kp_X1_init hv kn11 (by decide)
  have kr23 := kp_X1_init hv kr23 (by decide)
  have kn13 := kp_X1_init hv kn13 (by decide)
  have kr27 := kp_X1_init hv kr27 (by decide)
  have kn15 := kp_X1_init hv kn15 (by decide)
  have kr31 := kp_X1_init hv kr31 (by decide)
  have kn17 := kp_X1_init hv kn17 (by decide)
  have kr35 := kp_X1_init hv kr35 (by decide)
  have kn19 := kp_X1_init hv kn19 (by decide)
  have kr39 := kp_X1_init hv kr39 (by decide)
  have kn21 := kp_X1_init hv kn21 (by decide)
  have kr43 := kp_X1_init hv kr43 (by decide)
  have kn23 := kp_X1_init hv kn23 (by decide)
  have kr47 := kp_X1_init hv kr47 (by decide)
  have kn25 := kp_X1_init hv kn25 (by decide)
  have hv := lvk_X1_init hv
  refine z_aast dX4_init_94 rk_55 cl_1 rfl kr47 kn25 (fun h50 => ?_)
  refine z_iinc (j := 0) (v := (8 : Int32)) (L' := [(1, .int ((8 : Int32))), (0, .ref (a0))]) dX4_init_95 rfl (by decide) (by decide) rfl ?_
  refine z_goto (tgt := 76) dX4_init_98 (by decide) ?_
  refine z_iload_n dX4_init_76 rfl 0 rfl ?_
  refine z_bipush (v := 12) dX4_init_77 (by decide) ?_
  refine z_icmp_geF (tgt := 101) dX4_init_79 (by decide) (by decide) ?_
  refine z_aload_n dX4_init_82 rfl 1 rfl ?_
  refine z_getR (kd := 55) dX4_init_83 fl_X4_40 k_a0 (fun r51 kr51 => ?_)
  refine z_iload_n dX4_init_86 rfl 0 rfl ?_
  refine z_new dX4_init_87 cl_1 nc_X4_38 (by decide) (by decide) ⟨by omega, by decide, by decide⟩ (fun h52 => ?_)
  have k_a0 := up_ne (v := (2, 0)) hv k_a0 (by decide)
  have kn1 := up_ne (v := (2, 0)) hv kn1 (by decide)
  have kn3 := up_ne (v := (2, 0)) hv kn3 (by decide)
  have kn5 := up_ne (v := (2, 0)) hv kn5 (by decide)
  have kn7 := up_ne (v := (2, 0)) hv kn7 (by decide)
  have kn8 := up_ne (v := (2, 0)) hv kn8 (by decide)
  have kn9 := up_ne (v := (2, 0)) hv kn9 (by decide)
  have kn10 := up_ne (v := (2, 0)) hv kn10 (by decide)
  have kr19 := up_ne (v := (2, 0)) hv kr19 (by decide)
  have kn11 := up_ne (v := (2, 0)) hv kn11 (by decide)
  have kr23 := up_ne (v := (2, 0)) hv kr23 (by decide)
  have kn13 := up_ne (v := (2, 0)) hv kn13 (by decide)
  have kr27 := up_ne (v := (2, 0)) hv kr27 (by decide)
  have kn15 := up_ne (v := (2, 0)) hv kn15 (by decide)
  have kr31 := up_ne (v := (2, 0)) hv kr31 (by decide)
  have kn17 := up_ne (v := (2, 0)) hv kn17 (by decide)
  have kr35 := up_ne (v := (2, 0)) hv kr35 (by decide)
  have kn19 := up_ne (v := (2, 0)) hv kn19 (by decide)
  have kr39 := up_ne (v := (2, 0)) hv kr39 (by decide)
  have kn21 := up_ne (v := (2, 0)) hv kn21 (by decide)
  have kr43 := up_ne (v := (2, 0)) hv kr43 (by decide)
  have kn23 := up_ne (v := (2, 0)) hv kn23 (by decide)
  have kr47 := up_ne (v := (2, 0)) hv kr47 (by decide)
  have kn25 := up_ne (v := (2, 0)) hv kn25 (by decide)
  have kr51 := up_ne (v := (2, 0)) hv kr51 (by decide)
  have kn27 := up_eq (kX4_init_26 κ n) (n + 87) (2, 0)
  have hv := lv_up (v := (2, 0)) hv
  refine z_dup dX4_init_90 rfl ?_
  refine z_aV (as := [.ref (n + 87)]) (rn_I dX4_init_91 mf_X1_init rfl in_X1_init lk_X4_55 ⟨by decide, by decide⟩ rfl (Nat.le_of_ble_eq_true rfl)) (tX1_init _ _ _ _ _ hv (by omega)) rfl ⟨by decide, by decide, rfl⟩ (fun h53 => ?_)
  have k_a0 := kp_X1_init hv k_a0 (by decide)
  have kn1 := kp_X1_init hv kn1 (by decide)
  have kn3 := kp_X1_init hv kn3 (by decide)
  have kn5 := kp_X1_init hv kn5 (by decide)
  have kn7 := kp_X1_init hv kn7 (by decide)
  have kn8 := kp_X1_init hv kn8 (by decide)
  have kn9 := kp_X1_init hv kn9 (by decide)
  have kn10 := kp_X1_init hv kn10 (by decide)
  have kr19 := kp_X1_init hv kr19 (by decide)
  have kn11 := kp_X1_init hv kn11 (by decide)
  have kr23 := kp_X1_init hv kr23 (by decide)
  have kn13 := kp_X1_init hv kn13 (by decide)
  have kr27 := kp_X1_init hv kr27 (by decide)
  have kn15 := kp_X1_init hv kn15 (by decide)
  have kr31 := kp_X1_init hv kr31 (by decide)
  have kn17 := kp_X1_init hv kn17 (by decide)
  have kr35 := kp_X1_init hv kr35 (by decide)
  have kn19 := kp_X1_init hv kn19 (by decide)
  have kr39 := kp_X1_init hv kr39 (by decide)
  have kn21 := kp_X1_init hv kn21 (by decide)
  have kr43 := kp_X1_init hv kr43 (by decide)
  have kn23 := kp_X1_init hv kn23 (by decide)
  have kr47 := kp_X1_init hv kr47 (by decide)
  have kn25 := kp_X1_init hv kn25 (by decide)
  have kr51 := kp_X1_init hv kr51 (by decide)
  have kn27 := kp_X1_init hv kn27 (by decide)
  have hv := lvk_X1_init hv
  refine z_aast dX4_init_94 rk_55 cl_1 rfl kr51 kn27 (fun h54 => ?_)
  refine z_iinc (j := 0) (v := (9 : Int32)) (L' := [(1, .int ((9 : Int32))), (0, .ref (a0))]) dX4_init_95 rfl (by decide) (by decide) rfl ?_
  refine z_goto (tgt := 76) dX4_init_98 (by decide) ?_
  refine z_iload_n dX4_init_76 rfl 0 rfl ?_
  refine z_bipush (v := 12) dX4_init_77 (by decide) ?_
  refine z_icmp_geF (tgt := 101) dX4_init_79 (by decide) (by decide) ?_
  refine z_aload_n dX4_init_82 rfl 1 rfl ?_
  refine z_getR (kd := 55) dX4_init_83 fl_X4_40 k_a0 (fun r55 kr55 => ?_)
  refine z_iload_n dX4_init_86 rfl 0 rfl ?_
  refine z_new dX4_init_87 cl_1 nc_X4_38 (by decide) (by decide) ⟨by omega, by decide, by decide⟩ (fun h56 => ?_)
  have k_a0 := up_ne (v := (2, 0)) hv k_a0 (by decide)
  have kn1 := up_ne (v := (2, 0)) hv kn1 (by decide)
  have kn3 := up_ne (v := (2, 0)) hv kn3 (by decide)
  have kn5 := up_ne (v := (2, 0)) hv kn5 (by decide)
  have kn7 := up_ne (v := (2, 0)) hv kn7 (by decide)
  have kn8 := up_ne (v := (2, 0)) hv kn8 (by decide)
  have kn9 := up_ne (v := (2, 0)) hv kn9 (by decide)
  have kn10 := up_ne (v := (2, 0)) hv kn10 (by decide)
  have kr19 := up_ne (v := (2, 0)) hv kr19 (by decide)
  have kn11 := up_ne (v := (2, 0)) hv kn11 (by decide)
  have kr23 := up_ne (v := (2, 0)) hv kr23 (by decide)
  have kn13 := up_ne (v := (2, 0)) hv kn13 (by decide)
  have kr27 := up_ne (v := (2, 0)) hv kr27 (by decide)
  have kn15 := up_ne (v := (2, 0)) hv kn15 (by decide)
  have kr31 := up_ne (v := (2, 0)) hv kr31 (by decide)
  have kn17 := up_ne (v := (2, 0)) hv kn17 (by decide)
  have kr35 := up_ne (v := (2, 0)) hv kr35 (by decide)
  have kn19 := up_ne (v := (2, 0)) hv kn19 (by decide)
  have kr39 := up_ne (v := (2, 0)) hv kr39 (by decide)
  have kn21 := up_ne (v := (2, 0)) hv kn21 (by decide)
  have kr43 := up_ne (v := (2, 0)) hv kr43 (by decide)
  have kn23 := up_ne (v := (2, 0)) hv kn23 (by decide)
  have kr47 := up_ne (v := (2, 0)) hv kr47 (by decide)
  have kn25 := up_ne (v := (2, 0)) hv kn25 (by decide)
  have kr51 := up_ne (v := (2, 0)) hv kr51 (by decide)
  have kn27 := up_ne (v := (2, 0)) hv kn27 (by decide)
  have kr55 := up_ne (v := (2, 0)) hv kr55 (by decide)
  have kn29 := up_eq (kX4_init_28 κ n) (n + 91) (2, 0)
  have hv := lv_up (v := (2, 0)) hv
  refine z_dup dX4_init_90 rfl ?_
  refine z_aV (as := [.ref (n + 91)]) (rn_I dX4_init_91 mf_X1_init rfl in_X1_init lk_X4_55 ⟨by decide, by decide⟩ rfl (Nat.le_of_ble_eq_true rfl)) (tX1_init _ _ _ _ _ hv (by omega)) rfl ⟨by decide, by decide, rfl⟩ (fun h57 => ?_)
  have k_a0 := kp_X1_init hv k_a0 (by decide)
  have kn1 := kp_X1_init hv kn1 (by decide)
  have kn3 := kp_X1_init hv kn3 (by decide)
  have kn5 := kp_X1_init hv kn5 (by decide)
  have kn7 := kp_X1_init hv kn7 (by decide)
  have kn8 := kp_X1_init hv kn8 (by decide)
  have kn9 := kp_X1_init hv kn9 (by decide)
  have kn10 := kp_X1_init hv kn10 (by decide)
  have kr19 := kp_X1_init hv kr19 (by decide)
  have kn11 := kp_X1_init hv kn11 (by decide)
  have kr23 := kp_X1_init hv kr23 (by decide)
  have kn13 := kp_X1_init hv kn13 (by decide)
  have kr27 := kp_X1_init hv kr27 (by decide)
  have kn15 := kp_X1_init hv kn15 (by decide)
  have kr31 := kp_X1_init hv kr31 (by decide)
  have kn17 := kp_X1_init hv kn17 (by decide)
  have kr35 := kp_X1_init hv kr35 (by decide)
  have kn19 := kp_X1_init hv kn19 (by decide)
  have kr39 := kp_X1_init hv kr39 (by decide)
  have kn21 := kp_X1_init hv kn21 (by decide)
  have kr43 := kp_X1_init hv kr43 (by decide)
  have kn23 := kp_X1_init hv kn23 (by decide)
  have kr47 := kp_X1_init hv kr47 (by decide)
  have kn25 := kp_X1_init hv kn25 (by decide)
  have kr51 := kp_X1_init hv kr51 (by decide)
  have kn27 := kp_X1_init hv kn27 (by decide)
  have kr55 := kp_X1_init hv kr55 (by decide)
  have kn29 := kp_X1_init hv kn29 (by decide)
  have hv := lvk_X1_init hv
  refine z_aast dX4_init_94 rk_55 cl_1 rfl kr55 kn29 (fun h58 => ?_)
  refine z_iinc (j := 0) (v := (10 : Int32)) (L' := [(1, .int ((10 : Int32))), (0, .ref (a0))]) dX4_init_95 rfl (by decide) (by decide) rfl ?_
  refine z_goto (tgt := 76) dX4_init_98 (by decide) ?_
  refine z_iload_n dX4_init_76 rfl 0 rfl ?_
  refine z_bipush (v := 12) dX4_init_77 (by decide) ?_
  refine z_icmp_geF (tgt := 101) dX4_init_79 (by decide) (by decide) ?_
  refine z_aload_n dX4_init_82 rfl 1 rfl ?_
  refine z_getR (kd := 55) dX4_init_83 fl_X4_40 k_a0 (fun r59 kr59 => ?_)
  refine z_iload_n dX4_init_86 rfl 0 rfl ?_
  refine z_new dX4_init_87 cl_1 nc_X4_38 (by decide) (by decide) ⟨by omega, by decide, by decide⟩ (fun h60 => ?_)
  have k_a0 := up_ne (v := (2, 0)) hv k_a0 (by decide)
  have kn1 := up_ne (v := (2, 0)) hv kn1 (by decide)
  have kn3 := up_ne (v := (2, 0)) hv kn3 (by decide)
  have kn5 := up_ne (v := (2, 0)) hv kn5 (by decide)
  have kn7 := up_ne (v := (2, 0)) hv kn7 (by decide)
  have kn8 := up_ne (v := (2, 0)) hv kn8 (by decide)
  have kn9 := up_ne (v := (2, 0)) hv kn9 (by decide)
  have kn10 := up_ne (v := (2, 0)) hv kn10 (by decide)
  have kr19 := up_ne (v := (2, 0)) hv kr19 (by decide)
  have kn11 := up_ne (v := (2, 0)) hv kn11 (by decide)
  have kr23 := up_ne (v := (2, 0)) hv kr23 (by decide)
  have kn13 := up_ne (v := (2, 0)) hv kn13 (by decide)
  have kr27 := up_ne (v := (2, 0)) hv kr27 (by decide)
  have kn15 := up_ne (v := (2, 0)) hv kn15 (by decide)
  have kr31 := up_ne (v := (2, 0)) hv kr31 (by decide)
  have kn17 := up_ne (v := (2, 0)) hv kn17 (by decide)
  have kr35 := up_ne (v := (2, 0)) hv kr35 (by decide)
  have kn19 := up_ne (v := (2, 0)) hv kn19 (by decide)
  have kr39 := up_ne (v := (2, 0)) hv kr39 (by decide)
  have kn21 := up_ne (v := (2, 0)) hv kn21 (by decide)
  have kr43 := up_ne (v := (2, 0)) hv kr43 (by decide)
  have kn23 := up_ne (v := (2, 0)) hv kn23 (by decide)
  have kr47 := up_ne (v := (2, 0)) hv kr47 (by decide)
  have kn25 := up_ne (v := (2, 0)) hv kn25 (by decide)
  have kr51 := up_ne (v := (2, 0)) hv kr51 (by decide)
  have kn27 := up_ne (v := (2, 0)) hv kn27 (by decide)
  have kr55 := up_ne (v := (2, 0)) hv kr55 (by decide)
  have kn29 := up_ne (v := (2, 0)) hv kn29 (by decide)
  have kr59 := up_ne (v := (2, 0)) hv kr59 (by decide)
  have kn31 := up_eq (kX4_init_30 κ n) (n + 95) (2, 0)
  have hv := lv_up (v := (2, 0)) hv
  refine z_dup dX4_init_90 rfl ?_
  refine z_aV (as := [.ref (n + 95)]) (rn_I dX4_init_91 mf_X1_init rfl in_X1_init lk_X4_55 ⟨by decide, by decide⟩ rfl (Nat.le_of_ble_eq_true rfl)) (tX1_init _ _ _ _ _ hv (by omega)) rfl ⟨by decide, by decide, rfl⟩ (fun h61 => ?_)
  have k_a0 := kp_X1_init hv k_a0 (by decide)
  have kn1 := kp_X1_init hv kn1 (by decide)
  have kn3 := kp_X1_init hv kn3 (by decide)
  have kn5 := kp_X1_init hv kn5 (by decide)
  have kn7 := kp_X1_init hv kn7 (by decide)
  have kn8 := kp_X1_init hv kn8 (by decide)
  have kn9 := kp_X1_init hv kn9 (by decide)
  have kn10 := kp_X1_init hv kn10 (by decide)
  have kr19 := kp_X1_init hv kr19 (by decide)
  have kn11 := kp_X1_init hv kn11 (by decide)
  have kr23 := kp_X1_init hv kr23 (by decide)
  have kn13 := kp_X1_init hv kn13 (by decide)
  have kr27 := kp_X1_init hv kr27 (by decide)
  have kn15 := kp_X1_init hv kn15 (by decide)
  have kr31 := kp_X1_init hv kr31 (by decide)
  have kn17 := kp_X1_init hv kn17 (by decide)
  have kr35 := kp_X1_init hv kr35 (by decide)
  have kn19 := kp_X1_init hv kn19 (by decide)
  have kr39 := kp_X1_init hv kr39 (by decide)
  have kn21 := kp_X1_init hv kn21 (by decide)
  have kr43 := kp_X1_init hv kr43 (by decide)
  have kn23 := kp_X1_init hv kn23 (by decide)
  have kr47 := kp_X1_init hv kr47 (by decide)
  have kn25 := kp_X1_init hv kn25 (by decide)
  have kr51 := kp_X1_init hv kr51 (by decide)
  have kn27 := kp_X1_init hv kn27 (by decide)
  have kr55 := kp_X1_init hv kr55 (by decide)
  have kn29 := kp_X1_init hv kn29 (by decide)
  have kr59 := kp_X1_init hv kr59 (by decide)
  have kn31 := kp_X1_init hv kn31 (by decide)
  have hv := lvk_X1_init hv
  refine z_aast dX4_init_94 rk_55 cl_1 rfl kr59 kn31 (fun h62 => ?_)
  refine z_iinc (j := 0) (v := (11 : Int32)) (L' := [(1, .int ((11 : Int32))), (0, .ref (a0))]) dX4_init_95 rfl (by decide) (by decide) rfl ?_
  refine z_goto (tgt := 76) dX4_init_98 (by decide) ?_
  refine z_iload_n dX4_init_76 rfl 0 rfl ?_
  refine z_bipush (v := 12) dX4_init_77 (by decide) ?_
  refine z_icmp_geF (tgt := 101) dX4_init_79 (by decide) (by decide) ?_
  refine z_aload_n dX4_init_82 rfl 1 rfl ?_
  refine z_getR (kd := 55) dX4_init_83 fl_X4_40 k_a0 (fun r63 kr63 => ?_)
  refine z_iload_n dX4_init_86 rfl 0 rfl ?_
  refine z_new dX4_init_87 cl_1 nc_X4_38 (by decide) (by decide) ⟨by omega, by decide, by decide⟩ (fun h64 => ?_)
  have k_a0 := up_ne (v := (2, 0)) hv k_a0 (by decide)
  have kn1 := up_ne (v := (2, 0)) hv kn1 (by decide)
  have kn3 := up_ne (v := (2, 0)) hv kn3 (by decide)
  have kn5 := up_ne (v := (2, 0)) hv kn5 (by decide)
  have kn7 := up_ne (v := (2, 0)) hv kn7 (by decide)
  have kn8 := up_ne (v := (2, 0)) hv kn8 (by decide)
  have kn9 := up_ne (v := (2, 0)) hv kn9 (by decide)
  have kn10 := up_ne (v := (2, 0)) hv kn10 (by decide)
  have kr19 := up_ne (v := (2, 0)) hv kr19 (by decide)
  have kn11 := up_ne (v := (2, 0)) hv kn11 (by decide)
  have kr23 := up_ne (v := (2, 0)) hv kr23 (by decide)
  have kn13 := up_ne (v := (2, 0)) hv kn13 (by decide)
  have kr27 := up_ne (v := (2, 0)) hv kr27 (by decide)
  have kn15 := up_ne (v := (2, 0)) hv kn15 (by decide)
  have kr31 := up_ne (v := (2, 0)) hv kr31 (by decide)
  have kn17 := up_ne (v := (2, 0)) hv kn17 (by decide)
  have kr35 := up_ne (v := (2, 0)) hv kr35 (by decide)
  have kn19 := up_ne (v := (2, 0)) hv kn19 (by decide)
  have kr39 := up_ne (v := (2, 0)) hv kr39 (by decide)
  have kn21 := up_ne (v := (2, 0)) hv kn21 (by decide)
  have kr43 := up_ne (v := (2, 0)) hv kr43 (by decide)
  have kn23 := up_ne (v := (2, 0)) hv kn23 (by decide)
  have kr47 := up_ne (v := (2, 0)) hv kr47 (by decide)
  have kn25 := up_ne (v := (2, 0)) hv kn25 (by decide)
  have kr51 := up_ne (v := (2, 0)) hv kr51 (by decide)
  have kn27 := up_ne (v := (2, 0)) hv kn27 (by decide)
  have kr55 := up_ne (v := (2, 0)) hv kr55 (by decide)
  have kn29 := up_ne (v := (2, 0)) hv kn29 (by decide)
  have kr59 := up_ne (v := (2, 0)) hv kr59 (by decide)
  have kn31 := up_ne (v := (2, 0)) hv kn31 (by decide)
  have kr63 := up_ne (v := (2, 0)) hv kr63 (by decide)
  have kn33 := up_eq (kX4_init_32 κ n) (n + 99) (2, 0)
  have hv := lv_up (v := (2, 0)) hv
  refine z_dup dX4_init_90 rfl ?_
  refine z_aV (as := [.ref (n + 99)]) (rn_I dX4_init_91 mf_X1_init rfl in_X1_init lk_X4_55 ⟨by decide, by decide⟩ rfl (Nat.le_of_ble_eq_true rfl)) (tX1_init _ _ _ _ _ hv (by omega)) rfl ⟨by decide, by decide, rfl⟩ (fun h65 => ?_)
  have k_a0 := kp_X1_init hv k_a0 (by decide)
  have kn1 := kp_X1_init hv kn1 (by decide)
  have kn3 := kp_X1_init hv kn3 (by decide)
  have kn5 := kp_X1_init hv kn5 (by decide)
  have kn7 := kp_X1_init hv kn7 (by decide)
  have kn8 := kp_X1_init hv kn8 (by decide)
  have kn9 := kp_X1_init hv kn9 (by decide)
  have kn10 := kp_X1_init hv kn10 (by decide)
  have kr19 := kp_X1_init hv kr19 (by decide)
  have kn11 := kp_X1_init hv kn11 (by decide)
  have kr23 := kp_X1_init hv kr23 (by decide)
  have kn13 := kp_X1_init hv kn13 (by decide)
  have kr27 := kp_X1_init hv kr27 (by decide)
  have kn15 := kp_X1_init hv kn15 (by decide)
  have kr31 := kp_X1_init hv kr31 (by decide)
  have kn17 := kp_X1_init hv kn17 (by decide)
  have kr35 := kp_X1_init hv kr35 (by decide)
  have kn19 := kp_X1_init hv kn19 (by decide)
  have kr39 := kp_X1_init hv kr39 (by decide)
  have kn21 := kp_X1_init hv kn21 (by decide)
  have kr43 := kp_X1_init hv kr43 (by decide)
  have kn23 := kp_X1_init hv kn23 (by decide)
  have kr47 := kp_X1_init hv kr47 (by decide)
  have kn25 := kp_X1_init hv kn25 (by decide)
  have kr51 := kp_X1_init hv kr51 (by decide)
  have kn27 := kp_X1_init hv kn27 (by decide)
  have kr55 := kp_X1_init hv kr55 (by decide)
  have kn29 := kp_X1_init hv kn29 (by decide)
  have kr59 := kp_X1_init hv kr59 (by decide)
  have kn31 := kp_X1_init hv kn31 (by decide)
  have kr63 := kp_X1_init hv kr63 (by decide)
  have kn33 := kp_X1_init hv kn33 (by decide)
  have hv := lvk_X1_init hv
  refine z_aast dX4_init_94 rk_55 cl_1 rfl kr63 kn33 (fun h66 => ?_)
  refine z_iinc (j := 0) (v := (12 : Int32)) (L' := [(1, .int ((12 : Int32))), (0, .ref (a0))]) dX4_init_95 rfl (by decide) (by decide) rfl ?_
  refine z_goto (tgt := 76) dX4_init_98 (by decide) ?_
  refine z_iload_n dX4_init_76 rfl 0 rfl ?_
  refine z_bipush (v := 12) dX4_init_77 (by decide) ?_
  refine z_icmp_geT (tgt := 101) dX4_init_79 (by decide) (by decide) ?_
  exact z_vret dX4_init_101 rfl ⟨Nat.le_of_ble_eq_true rfl, Nat.le_of_ble_eq_true rfl⟩ rfl
