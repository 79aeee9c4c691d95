def fX5_sizeOf (κ : Kd) (a0 : Nat) (l1 : Int32) (h : Hp) : Option (Int32) :=
  if (κ a0).1 = 5 then (
  to_ κ (g_R h a0 0) 50 fun r1 =>
  a_I κ h r1 l1 fun v2 =>
  if v2 = (-1 : Int32) then (
    some ((-1 : Int32))
  ) else (
    to_ κ (g_R h a0 3) 50 fun r3 =>
    to_ κ (g_R h a0 0) 50 fun r4 =>
    a_I κ h r4 l1 fun v5 =>
    a_I κ h r3 v5 fun v6 =>
    some (v6)
  )) else none
set_option maxHeartbeats 4000000 in
set_option maxRecDepth 100000 in
theorem tX5_sizeOf (κ : Kd) (n lim : Nat) (h : Hp) (a0 : Nat) (l1 : Int32) : Ct_ mX5_sizeOf [.ref (a0), .int (l1)] κ n lim h (pI κ n h) (fX5_sizeOf κ a0 l1 h) := by
  refine ct_of (by decide) (Nat.le_of_ble_eq_true rfl) ?_
  unfold fX5_sizeOf
  refine z_sub (L' := [(0, .ref (a0)), (1, .int (l1))]) [0, 1] rfl ?_
  refine z_or (fun k_a0 => ?_)
  refine z_aload_n dX5_sizeOf_0 rfl 0 rfl ?_
  refine z_getR (kd := 50) dX5_sizeOf_1 fl_X5_9 k_a0 (fun r1 kr1 => ?_)
  refine z_iload_n dX5_sizeOf_4 rfl 1 rfl ?_
  refine z_iald dX5_sizeOf_5 kr1 (fun v2 => ?_)
  refine z_iconst (v := -1) dX5_sizeOf_6 (by decide) ?_
  refine z_icmp_ne (tgt := 14) dX5_sizeOf_7 (by first | decide | omega) (fun _ => ?_) (fun _ => ?_)
  · skip
    refine z_aload_n dX5_sizeOf_14 rfl 0 rfl ?_
    refine z_getR (kd := 50) dX5_sizeOf_15 fl_X5_21 k_a0 (fun r3 kr3 => ?_)
    refine z_aload_n dX5_sizeOf_18 rfl 0 rfl ?_
    refine z_getR (kd := 50) dX5_sizeOf_19 fl_X5_9 k_a0 (fun r4 kr4 => ?_)
    refine z_iload_n dX5_sizeOf_22 rfl 1 rfl ?_
    refine z_iald dX5_sizeOf_23 kr4 (fun v5 => ?_)
    refine z_iald dX5_sizeOf_24 kr3 (fun v6 => ?_)
    exact z_iret dX5_sizeOf_25 rfl (en0 _ _ _ _) rfl
  · skip
    refine z_iconst (v := -1) dX5_sizeOf_10 (by decide) ?_
    refine z_goto (tgt := 25) dX5_sizeOf_11 (by decide) ?_
    exact z_iret dX5_sizeOf_25 rfl (en0 _ _ _ _) rfl
def fX5_drop (κ : Kd) (a0 : Nat) (l1 : Int32) (h : Hp) : Option (Int32 × Hp) :=
  if (κ a0).1 = 5 then (
  to_ κ (g_R h a0 0) 50 fun r1 =>
  a_I κ h r1 l1 fun v2 =>
  if v2 = (-1 : Int32) then (
    some ((0 : Int32), h)
  ) else (
    to_ κ (g_R h a0 1) 50 fun r3 =>
    to_ κ (g_R h a0 0) 50 fun r4 =>
    a_I κ h r4 l1 fun v5 =>
    a_I κ h r3 v5 fun v6 =>
    w_I κ h r3 v5 (v6 - (1 : Int32)) fun h7 =>
    to_ κ (g_R h7 a0 0) 50 fun r8 =>
    w_I κ h7 r8 l1 (-1 : Int32) fun h9 =>
    some ((1 : Int32), h9)
  )) else none
set_option maxHeartbeats 4000000 in
set_option maxRecDepth 100000 in
theorem tX5_drop (κ : Kd) (n lim : Nat) (h : Hp) (a0 : Nat) (l1 : Int32) : Ct_ mX5_drop [.ref (a0), .int (l1)] κ n lim h (eI κ n) (fX5_drop κ a0 l1 h) := by
  refine ct_of (by decide) (Nat.le_of_ble_eq_true rfl) ?_
  unfold fX5_drop
  refine z_sub (L' := [(0, .ref (a0)), (1, .int (l1))]) [0, 1] rfl ?_
  refine z_or (fun k_a0 => ?_)
  refine z_aload_n dX5_drop_0 rfl 0 rfl ?_
  refine z_getR (kd := 50) dX5_drop_1 fl_X5_9 k_a0 (fun r1 kr1 => ?_)
  refine z_iload_n dX5_drop_4 rfl 1 rfl ?_
  refine z_iald dX5_drop_5 kr1 (fun v2 => ?_)
  refine z_iconst (v := -1) dX5_drop_6 (by decide) ?_
  refine z_icmp_ne (tgt := 12) dX5_drop_7 (by first | decide | omega) (fun _ => ?_) (fun _ => ?_)
  · skip
    refine z_aload_n dX5_drop_12 rfl 0 rfl ?_
    refine z_getR (kd := 50) dX5_drop_13 fl_X5_15 k_a0 (fun r3 kr3 => ?_)
    refine z_aload_n dX5_drop_16 rfl 0 rfl ?_
    refine z_getR (kd := 50) dX5_drop_17 fl_X5_9 k_a0 (fun r4 kr4 => ?_)
    refine z_iload_n dX5_drop_20 rfl 1 rfl ?_
    refine z_iald dX5_drop_21 kr4 (fun v5 => ?_)
    refine z_dup2 dX5_drop_22 rfl rfl ?_
    refine z_iald dX5_drop_23 kr3 (fun v6 => ?_)
    refine z_iconst (v := 1) dX5_drop_24 (by decide) ?_
    refine z_isub dX5_drop_25 ?_
    refine z_iast dX5_drop_26 kr3 (fun h7 => ?_)
    refine z_aload_n dX5_drop_27 rfl 0 rfl ?_
    refine z_getR (kd := 50) dX5_drop_28 fl_X5_9 k_a0 (fun r8 kr8 => ?_)
    refine z_iload_n dX5_drop_31 rfl 1 rfl ?_
    refine z_iconst (v := -1) dX5_drop_32 (by decide) ?_
    refine z_iast dX5_drop_33 kr8 (fun h9 => ?_)
    refine z_iconst (v := 1) dX5_drop_34 (by decide) ?_
    exact z_zret dX5_drop_35 rfl rfl (en0 _ _ _ _) rfl
  · skip
    refine z_iconst (v := 0) dX5_drop_10 (by decide) ?_
    exact z_zret dX5_drop_11 rfl rfl (en0 _ _ _ _) rfl
def fX5_freeBody_b2 (κ : Kd) (a0 : Nat) : Nat → Int32 → Hp → Option (Int32)
  | 0, _, _ => none
  | N + 1, l1, h =>
    if (11 : Int32) ≤ l1 then (
      some ((11 : Int32))
    ) else (
      to_ κ (g_R h a0 1) 50 fun r1 =>
      a_I κ h r1 l1 fun v2 =>
      if v2 = 0 then (
        some (l1)
      ) else (
        fX5_freeBody_b2 κ a0 N (l1 + 1) h
      )
    )
set_option maxRecDepth 100000 in
theorem zX5_freeBody_b2 (κ : Kd) (n lim : Nat) (a0 : Nat) (k_a0 : (κ a0).1 = 5) : ∀ (N : Nat) (l1 : Int32) (h : Hp), ZQ mX5_freeBody (pI κ n h) (κ, n, 0, lim) 2 [(0, .ref (a0)), (1, .int (l1))] [] h (fX5_freeBody_b2 κ a0 N l1 h) := by
  intro N
  induction N with
  | zero =>
    intro l1 h
    rw [fX5_freeBody_b2]
    exact z_no
  | succ N ih =>
    intro l1 h
    rw [fX5_freeBody_b2]
    refine z_iload_n dX5_freeBody_2 rfl 1 rfl ?_
    refine z_bipush (v := 11) dX5_freeBody_3 (by decide) ?_
    refine z_icmp_ge (tgt := 25) dX5_freeBody_5 (by first | decide | omega) (fun _ => ?_) (fun _ => ?_)
    · skip
      refine z_bipush (v := 11) dX5_freeBody_25 (by decide) ?_
      exact z_iret dX5_freeBody_27 rfl (en0 _ _ _ _) rfl
    · skip
      refine z_aload_n dX5_freeBody_8 rfl 0 rfl ?_
      refine z_getR (kd := 50) dX5_freeBody_9 fl_X5_15 k_a0 (fun r1 kr1 => ?_)
      refine z_iload_n dX5_freeBody_12 rfl 1 rfl ?_
      refine z_iald dX5_freeBody_13 kr1 (fun v2 => ?_)
      refine z_if_ne (tgt := 19) dX5_freeBody_14 (by first | decide | omega) (fun _ => ?_) (fun _ => ?_)
      · skip
        refine z_iinc (j := 1) (v := l1 + 1) (L' := [(1, .int (l1 + 1)), (0, .ref (a0))]) dX5_freeBody_19 rfl rfl (by decide) rfl ?_
        refine z_goto (tgt := 2) dX5_freeBody_22 (by decide) ?_
        refine z_sub [1, 0] rfl ?_
        exact ih ((l1 + 1)) h
      · skip
        refine z_iload_n dX5_freeBody_17 rfl 1 rfl ?_
        exact z_iret dX5_freeBody_18 rfl (en0 _ _ _ _) rfl
def fX5_freeBody (κ : Kd) (a0 : Nat) (h : Hp) : Option (Int32) :=
  if (κ a0).1 = 5 then (
  fX5_freeBody_b2 κ a0 fu_ (0 : Int32) h) else none
set_option maxHeartbeats 4000000 in
set_option maxRecDepth 100000 in
theorem tX5_freeBody (κ : Kd) (n lim : Nat) (h : Hp) (a0 : Nat) : Ct_ mX5_freeBody [.ref (a0)] κ n lim h (pI κ n h) (fX5_freeBody κ a0 h) := by
  refine ct_of (by decide) (Nat.le_of_ble_eq_true rfl) ?_
  unfold fX5_freeBody
  refine z_sub (L' := [(0, .ref (a0))]) [0] rfl ?_
  refine z_or (fun k_a0 => ?_)
  refine z_iconst (v := 0) dX5_freeBody_0 (by decide) ?_
  refine z_istore_n (L' := [(1, .int ((0 : Int32))), (0, .ref (a0))]) dX5_freeBody_1 rfl (by decide) rfl ?_
  refine z_sub [1, 0] rfl ?_
  exact zX5_freeBody_b2 _ _ _ a0 k_a0 fu_ (0 : Int32) h
def fX5_attach (κ : Kd) (a0 : Nat) (l1 : Int32) (l2 : Int32) (h : Hp) : Option (Hp) :=
  if (κ a0).1 = 5 then (
  to_ κ (g_R h a0 0) 50 fun r1 =>
  w_I κ h r1 l1 l2 fun h2 =>
  to_ κ (g_R h2 a0 1) 50 fun r3 =>
  a_I κ h2 r3 l2 fun v4 =>
  w_I κ h2 r3 l2 (v4 + (1 : Int32)) fun h5 =>
  some h5) else none
set_option maxHeartbeats 4000000 in
set_option maxRecDepth 100000 in
theorem tX5_attach (κ : Kd) (n lim : Nat) (h : Hp) (a0 : Nat) (l1 : Int32) (l2 : Int32) : Ct_ mX5_attach [.ref (a0), .int (l1), .int (l2)] κ n lim h (eV κ n) (fX5_attach κ a0 l1 l2 h) := by
  refine ct_of (by decide) (Nat.le_of_ble_eq_true rfl) ?_
  unfold fX5_attach
  refine z_sub (L' := [(0, .ref (a0)), (1, .int (l1)), (2, .int (l2))]) [0, 1, 2] rfl ?_
  refine z_or (fun k_a0 => ?_)
  refine z_aload_n dX5_attach_0 rfl 0 rfl ?_
  refine z_getR (kd := 50) dX5_attach_1 fl_X5_9 k_a0 (fun r1 kr1 => ?_)
  refine z_iload_n dX5_attach_4 rfl 1 rfl ?_
  refine z_iload_n dX5_attach_5 rfl 2 rfl ?_
  refine z_iast dX5_attach_6 kr1 (fun h2 => ?_)
  refine z_aload_n dX5_attach_7 rfl 0 rfl ?_
  refine z_getR (kd := 50) dX5_attach_8 fl_X5_15 k_a0 (fun r3 kr3 => ?_)
  refine z_iload_n dX5_attach_11 rfl 2 rfl ?_
  refine z_dup2 dX5_attach_12 rfl rfl ?_
  refine z_iald dX5_attach_13 kr3 (fun v4 => ?_)
  refine z_iconst (v := 1) dX5_attach_14 (by decide) ?_
  refine z_iadd dX5_attach_15 ?_
  refine z_iast dX5_attach_16 kr3 (fun h5 => ?_)
  exact z_vret dX5_attach_17 rfl (en0 _ _ _ _) rfl
def fX5_renew_b58 (κ : Kd) (a0 : Nat) (l5 : Int32) : Nat → Int32 → Hp → Option (Int32 × Hp)
  | 0, _, _ => none
  | N + 1, l6, h =>
    if (12 : Int32) ≤ l6 then (
      some ((0 : Int32), h)
    ) else (
      to_ κ (g_R h a0 4) 51 fun r9 =>
      w_J κ h r9 ((l5 * (12 : Int32)) + l6) (0 : Int64) fun h10 =>
      fX5_renew_b58 κ a0 l5 N (l6 + 1) h10
    )
set_option maxRecDepth 100000 in
theorem zX5_renew_b58 (κ : Kd) (n lim : Nat) (a0 : Nat) (l5 : Int32) (k_a0 : (κ a0).1 = 5) : ∀ (N : Nat) (l6 : Int32) (h : Hp), ZQ mX5_renew (eI κ n) (κ, n, 0, lim) 58 [(0, .ref (a0)), (5, .int (l5)), (6, .int (l6))] [] h (fX5_renew_b58 κ a0 l5 N l6 h) := by
  intro N
  induction N with
  | zero =>
    intro l6 h
    rw [fX5_renew_b58]
    exact z_no
  | succ N ih =>
    intro l6 h
    rw [fX5_renew_b58]
    refine z_iload dX5_renew_58 2 rfl ?_
    refine z_bipush (v := 12) dX5_renew_60 (by decide) ?_
    refine z_icmp_ge (tgt := 85) dX5_renew_62 (by first | decide | omega) (fun _ => ?_) (fun _ => ?_)
    · skip
      refine z_iconst (v := 0) dX5_renew_85 (by decide) ?_
      exact z_iret dX5_renew_86 rfl (en0 _ _ _ _) rfl
    · skip
      refine z_aload_n dX5_renew_65 rfl 0 rfl ?_
      refine z_getR (kd := 51) dX5_renew_66 fl_X5_24 k_a0 (fun r9 kr9 => ?_)
      refine z_iload dX5_renew_69 1 rfl ?_
      refine z_bipush (v := 12) dX5_renew_71 (by decide) ?_
      refine z_imul dX5_renew_73 ?_
      refine z_iload dX5_renew_74 2 rfl ?_
      refine z_iadd dX5_renew_76 ?_
      refine z_lconst (v := 0) dX5_renew_77 (by decide) ?_
      refine z_last dX5_renew_78 kr9 (fun h10 => ?_)
      refine z_iinc (j := 2) (v := l6 + 1) (L' := [(6, .int (l6 + 1)), (0, .ref (a0)), (5, .int (l5))]) dX5_renew_79 rfl rfl (by decide) rfl ?_
      refine z_goto (tgt := 58) dX5_renew_82 (by decide) ?_
      refine z_sub [1, 2, 0] rfl ?_
      exact ih ((l6 + 1)) h10
def fX5_renew (κ : Kd) (a0 : Nat) (l1 : Int32) (l2 : Int32) (l3 : Int64) (h : Hp) : Option (Int32 × Hp) :=
  if (κ a0).1 = 5 then (
  if (0 : Int64) ≤ l3 then (
    if l3 ≤ (12 : Int64) then (
      b2 (fX5_drop κ a0 l1 h) fun v1 h2 =>
      (fX5_freeBody κ a0 h2).bind fun v3 =>
      (fX5_attach κ a0 l1 v3 h2).bind fun h4 =>
      to_ κ (g_R h4 a0 2) 50 fun r5 =>
      w_I κ h4 r5 v3 l2 fun h6 =>
      to_ κ (g_R h6 a0 3) 50 fun r7 =>
      w_I κ h6 r7 v3 l3.toInt32 fun h8 =>
      fX5_renew_b58 κ a0 v3 fu_ (0 : Int32) h8
    ) else (
      some ((7 : Int32), h)
    )
  ) else (
    some ((5 : Int32), h)
  )) else none
set_option maxHeartbeats 4000000 in
set_option maxRecDepth 100000 in
theorem tX5_renew (κ : Kd) (n lim : Nat) (h : Hp) (a0 : Nat) (l1 : Int32) (l2 : Int32) (l3 : Int64) : Ct_ mX5_renew [.ref (a0), .int (l1), .int (l2), .long (l3)] κ n lim h (eI κ n) (fX5_renew κ a0 l1 l2 l3 h) := by
  refine ct_of (by decide) (Nat.le_of_ble_eq_true rfl) ?_
  unfold fX5_renew
  refine z_sub (L' := [(0, .ref (a0)), (1, .int (l1)), (2, .int (l2)), (3, .long (l3))]) [0, 1, 2, 3] rfl ?_
  refine z_or (fun k_a0 => ?_)
  refine z_lload_n dX5_renew_0 rfl 3 rfl ?_
  refine z_lconst (v := 0) dX5_renew_1 (by decide) ?_
  refine z_lc_ge (tgt := 8) dX5_renew_2 dX5_renew_3 (by first | decide | omega) (fun _ => ?_) (fun _ => ?_)
  · skip
    refine z_lload_n dX5_renew_8 rfl 3 rfl ?_
    refine z_ldc2 dX5_renew_9 co_X5_34 ?_
    refine z_lc_le (tgt := 19) dX5_renew_12 dX5_renew_13 (by first | decide | omega) (fun _ => ?_) (fun _ => ?_)
    · skip
      refine z_aload_n dX5_renew_19 rfl 0 rfl ?_
      refine z_iload_n dX5_renew_20 rfl 1 rfl ?_
      refine z_cI (as := [.ref (a0), .int (l1)]) (rn_V dX5_renew_21 mf_X5_drop in_X5_drop lk_X5_36 ⟨by decide, by decide⟩ cl_4 rfl k_a0 rfl (Nat.le_of_ble_eq_true rfl)) (tX5_drop _ _ _ _ _ _) cz_X5_drop (c00 _) (fun v1 h2 => ?_)
      refine z_pop dX5_renew_24 rfl ?_
      refine z_aload_n dX5_renew_25 rfl 0 rfl ?_
      refine z_pI (as := [.ref (a0)]) (rn_V dX5_renew_26 mf_X5_freeBody in_X5_freeBody lk_X5_40 ⟨by decide, by decide⟩ cl_4 rfl k_a0 rfl (Nat.le_of_ble_eq_true rfl)) (tX5_freeBody _ _ _ _ _) cz_X5_freeBody (c00 _) (fun v3 => ?_)
      refine z_istore (L' := [(5, .int (v3)), (0, .ref (a0)), (1, .int (l1)), (2, .int (l2)), (3, .long (l3))]) dX5_renew_29 (by decide) rfl ?_
      refine z_aload_n dX5_renew_31 rfl 1 rfl ?_
      refine z_iload_n dX5_renew_32 rfl 2 rfl ?_
      refine z_iload dX5_renew_33 0 rfl ?_
      refine z_cV (as := [.ref (a0), .int (l1), .int (v3)]) (rn_V dX5_renew_35 mf_X5_attach in_X5_attach lk_X5_44 ⟨by decide, by decide⟩ cl_4 rfl k_a0 rfl (Nat.le_of_ble_eq_true rfl)) (tX5_attach _ _ _ _ _ _ _) cz_X5_attach (c00 _) (fun h4 => ?_)
      refine z_aload_n dX5_renew_38 rfl 1 rfl ?_
      refine z_getR (kd := 50) dX5_renew_39 fl_X5_18 k_a0 (fun r5 kr5 => ?_)
      refine z_iload dX5_renew_42 0 rfl ?_
      refine z_iload_n dX5_renew_44 rfl 3 rfl ?_
      refine z_iast dX5_renew_45 kr5 (fun h6 => ?_)
      refine z_aload_n dX5_renew_46 rfl 1 rfl ?_
      refine z_getR (kd := 50) dX5_renew_47 fl_X5_21 k_a0 (fun r7 kr7 => ?_)
      refine z_iload dX5_renew_50 0 rfl ?_
      refine z_lload_n dX5_renew_52 rfl 4 rfl ?_
      refine z_l2i dX5_renew_53 ?_
      refine z_iast dX5_renew_54 kr7 (fun h8 => ?_)
      refine z_iconst (v := 0) dX5_renew_55 (by decide) ?_
      refine z_istore (L' := [(6, .int ((0 : Int32))), (5, .int (v3)), (0, .ref (a0)), (1, .int (l1)), (2, .int (l2)), (3, .long (l3))]) dX5_renew_56 (by decide) rfl ?_
      refine z_sub [2, 1, 0] rfl ?_
      exact zX5_renew_b58 _ _ _ a0 v3 k_a0 fu_ (0 : Int32) h8
    · skip
      refine z_bipush (v := 7) dX5_renew_16 (by decide) ?_
      exact z_iret dX5_renew_18 rfl (en0 _ _ _ _) rfl
  · skip
    refine z_iconst (v := 5) dX5_renew_6 (by decide) ?_
    exact z_iret dX5_renew_7 rfl (en0 _ _ _ _) rfl
def fX5_join (κ : Kd) (a0 : Nat) (l1 : Int32) (l2 : Int32) (h : Hp) : Option (Int32 × Hp) :=
  if (κ a0).1 = 5 then (
  to_ κ (g_R h a0 0) 50 fun r1 =>
  a_I κ h r1 l1 fun v2 =>
  to_ κ (g_R h a0 0) 50 fun r3 =>
  a_I κ h r3 l2 fun v4 =>
  if v2 = v4 then (
    some ((0 : Int32), h)
  ) else (
    b2 (fX5_drop κ a0 l1 h) fun v5 h6 =>
    to_ κ (g_R h6 a0 0) 50 fun r7 =>
    a_I κ h6 r7 l2 fun v8 =>
    if v8 = (-1 : Int32) then (
      some ((1 : Int32), h6)
    ) else (
      to_ κ (g_R h6 a0 0) 50 fun r9 =>
      a_I κ h6 r9 l2 fun v10 =>
      (fX5_attach κ a0 l1 v10 h6).bind fun h11 =>
      some ((1 : Int32), h11)
    )
  )) else none
set_option maxHeartbeats 4000000 in
set_option maxRecDepth 100000 in
theorem tX5_join (κ : Kd) (n lim : Nat) (h : Hp) (a0 : Nat) (l1 : Int32) (l2 : Int32) : Ct_ mX5_join [.ref (a0), .int (l1), .int (l2)] κ n lim h (eI κ n) (fX5_join κ a0 l1 l2 h) := by
  refine ct_of (by decide) (Nat.le_of_ble_eq_true rfl) ?_
  unfold fX5_join
  refine z_sub (L' := [(0, .ref (a0)), (1, .int (l1)), (2, .int (l2))]) [0, 1, 2] rfl ?_
  refine z_or (fun k_a0 => ?_)
  refine z_aload_n dX5_join_0 rfl 0 rfl ?_
  refine z_getR (kd := 50) dX5_join_1 fl_X5_9 k_a0 (fun r1 kr1 => ?_)
  refine z_iload_n dX5_join_4 rfl 1 rfl ?_
  refine z_iald dX5_join_5 kr1 (fun v2 => ?_)
  refine z_aload_n dX5_join_6 rfl 0 rfl ?_
  refine z_getR (kd := 50) dX5_join_7 fl_X5_9 k_a0 (fun r3 kr3 => ?_)
  refine z_iload_n dX5_join_10 rfl 2 rfl ?_
  refine z_iald dX5_join_11 kr3 (fun v4 => ?_)
  refine z_icmp_ne (tgt := 17) dX5_join_12 (by first | decide | omega) (fun _ => ?_) (fun _ => ?_)
  · skip
    refine z_aload_n dX5_join_17 rfl 0 rfl ?_
    refine z_iload_n dX5_join_18 rfl 1 rfl ?_
    refine z_cI (as := [.ref (a0), .int (l1)]) (rn_V dX5_join_19 mf_X5_drop in_X5_drop lk_X5_36 ⟨by decide, by decide⟩ cl_4 rfl k_a0 rfl (Nat.le_of_ble_eq_true rfl)) (tX5_drop _ _ _ _ _ _) cz_X5_drop (c00 _) (fun v5 h6 => ?_)
    refine z_pop dX5_join_22 rfl ?_
    refine z_aload_n dX5_join_23 rfl 0 rfl ?_
    refine z_getR (kd := 50) dX5_join_24 fl_X5_9 k_a0 (fun r7 kr7 => ?_)
    refine z_iload_n dX5_join_27 rfl 2 rfl ?_
    refine z_iald dX5_join_28 kr7 (fun v8 => ?_)
    refine z_iconst (v := -1) dX5_join_29 (by decide) ?_
    refine z_icmp_eq (tgt := 44) dX5_join_30 (by first | decide | omega) (fun _ => ?_) (fun _ => ?_)
    · skip
      refine z_iconst (v := 1) dX5_join_44 (by decide) ?_
      exact z_zret dX5_join_45 rfl rfl (en0 _ _ _ _) rfl
    · skip
      refine z_aload_n dX5_join_33 rfl 0 rfl ?_
      refine z_iload_n dX5_join_34 rfl 1 rfl ?_
      refine z_aload_n dX5_join_35 rfl 0 rfl ?_
      refine z_getR (kd := 50) dX5_join_36 fl_X5_9 k_a0 (fun r9 kr9 => ?_)
      refine z_iload_n dX5_join_39 rfl 2 rfl ?_
      refine z_iald dX5_join_40 kr9 (fun v10 => ?_)
      refine z_cV (as := [.ref (a0), .int (l1), .int (v10)]) (rn_V dX5_join_41 mf_X5_attach in_X5_attach lk_X5_44 ⟨by decide, by decide⟩ cl_4 rfl k_a0 rfl (Nat.le_of_ble_eq_true rfl)) (tX5_attach _ _ _ _ _ _ _) cz_X5_attach (c00 _) (fun h11 => ?_)
      refine z_iconst (v := 1) dX5_join_44 (by decide) ?_
      exact z_zret dX5_join_45 rfl rfl (en0 _ _ _ _) rfl
  · skip
    refine z_iconst (v := 0) dX5_join_15 (by decide) ?_
    exact z_zret dX5_join_16 rfl rfl (en0 _ _ _ _) rfl
def fX4_useRow (κ : Kd) (a0 : Nat) (a1 : Nat) (l2 : Int32) (l3 : Int32) (l4 : Int32) (h : Hp) : Option (Int32 × Hp) :=
  if (κ a0).1 = 4 then (
  if (κ a1).1 = 2 then (
  if l2 = (14 : Int32) then (
    to_ κ (g_R h a0 0) 5 fun r1 =>
    (fX5_sizeOf κ r1 l3 h).bind fun v2 =>
    if v2 = (-1 : Int32) then (
      some ((1 : Int32), h)
    ) else (
      to_ κ (g_R h a0 0) 5 fun r3 =>
      (fX5_sizeOf κ r3 l3 h).bind fun v4 =>
      b2 (fX1_lay κ a1 v4.toInt64 h) fun v5 h6 =>
      some (v5, h6)
    )
  ) else
  if l2 = (15 : Int32) then (
    to_ κ (g_R h a0 0) 5 fun r9 =>
    (fX1_taken κ a1 (0 : Int32) h).bind fun v10 =>
    b2 (fX5_renew κ r9 l3 l4 v10 h) fun v11 h12 =>
    some (v11, h12)
  ) else
  if l2 = (16 : Int32) then (
    to_ κ (g_R h a0 0) 5 fun r15 =>
    b2 (fX5_drop κ r15 l3 h) fun v16 h17 =>
    some ((0 : Int32), h17)
  ) else
  (
    to_ κ (g_R h a0 0) 5 fun r20 =>
    b2 (fX5_join κ r20 l3 l4 h) fun v21 h22 =>
    some ((0 : Int32), h22)
  )) else none) else none
set_option maxHeartbeats 4000000 in
set_option maxRecDepth 100000 in
theorem tX4_useRow (κ : Kd) (n lim : Nat) (h : Hp) (a0 : Nat) (a1 : Nat) (l2 : Int32) (l3 : Int32) (l4 : Int32) : Ct_ mX4_useRow [.ref (a0), .ref (a1), .int (l2), .int (l3), .int (l4)] κ n lim h (eI κ n) (fX4_useRow κ a0 a1 l2 l3 l4 h) := by
  refine ct_of (by decide) (Nat.le_of_ble_eq_true rfl) ?_
  unfold fX4_useRow
  refine z_sub (L' := [(0, .ref (a0)), (1, .ref (a1)), (2, .int (l2)), (3, .int (l3)), (4, .int (l4))]) [0, 1, 2, 3, 4] rfl ?_
  refine z_or (fun k_a0 => ?_)
  refine z_or (fun k_a1 => ?_)
  refine z_iload_n dX4_useRow_0 rfl 2 rfl ?_
  refine z_ite (fun c8 => ?_) (fun n7 => ?_)
  · refine z_tin (tgt := 28) dX4_useRow_1 (14) c8 (by decide) (by decide) rfl (by decide) ?_
    refine z_aload_n dX4_useRow_28 rfl 0 rfl ?_
    refine z_getR (kd := 5) dX4_useRow_29 fl_X4_12 k_a0 (fun r1 kr1 => ?_)
    refine z_iload_n dX4_useRow_32 rfl 3 rfl ?_
    refine z_pI (as := [.ref (r1), .int (l3)]) (rn_V dX4_useRow_33 mf_X5_sizeOf in_X5_sizeOf lk_X4_286 ⟨by decide, by decide⟩ cl_4 rfl kr1 rfl (Nat.le_of_ble_eq_true rfl)) (tX5_sizeOf _ _ _ _ _ _) cz_X5_sizeOf (c00 _) (fun v2 => ?_)
    refine z_iconst (v := -1) dX4_useRow_36 (by decide) ?_
    refine z_icmp_ne (tgt := 44) dX4_useRow_37 (by first | decide | omega) (fun _ => ?_) (fun _ => ?_)
    · skip
      refine z_aload_n dX4_useRow_44 rfl 1 rfl ?_
      refine z_aload_n dX4_useRow_45 rfl 0 rfl ?_
      refine z_getR (kd := 5) dX4_useRow_46 fl_X4_12 k_a0 (fun r3 kr3 => ?_)
      refine z_iload_n dX4_useRow_49 rfl 3 rfl ?_
      refine z_pI (as := [.ref (r3), .int (l3)]) (rn_V dX4_useRow_50 mf_X5_sizeOf in_X5_sizeOf lk_X4_286 ⟨by decide, by decide⟩ cl_4 rfl kr3 rfl (Nat.le_of_ble_eq_true rfl)) (tX5_sizeOf _ _ _ _ _ _) cz_X5_sizeOf (c00 _) (fun v4 => ?_)
      refine z_i2l dX4_useRow_53 ?_
      refine z_cI (as := [.ref (a1), .long (v4.toInt64)]) (rn_V dX4_useRow_54 mf_X1_lay in_X1_lay lk_X4_192 ⟨by decide, by decide⟩ cl_1 rfl k_a1 rfl (Nat.le_of_ble_eq_true rfl)) (tX1_lay _ _ _ _ _ _) cz_X1_lay (c00 _) (fun v5 h6 => ?_)
      exact z_iret dX4_useRow_57 rfl (en0 _ _ _ _) rfl
    · skip
      refine z_iconst (v := 1) dX4_useRow_40 (by decide) ?_
      refine z_goto (tgt := 57) dX4_useRow_41 (by decide) ?_
      exact z_iret dX4_useRow_57 rfl (en0 _ _ _ _) rfl
  refine z_ite (fun c14 => ?_) (fun n13 => ?_)
  · refine z_tin (tgt := 58) dX4_useRow_1 (15) c14 (by decide) (by decide) rfl (by decide) ?_
    refine z_aload_n dX4_useRow_58 rfl 0 rfl ?_
    refine z_getR (kd := 5) dX4_useRow_59 fl_X4_12 k_a0 (fun r9 kr9 => ?_)
    refine z_iload_n dX4_useRow_62 rfl 3 rfl ?_
    refine z_iload dX4_useRow_63 4 rfl ?_
    refine z_aload_n dX4_useRow_65 rfl 1 rfl ?_
    refine z_iconst (v := 0) dX4_useRow_66 (by decide) ?_
    refine z_pJ (as := [.ref (a1), .int ((0 : Int32))]) (rn_V dX4_useRow_67 mf_X1_taken in_X1_taken lk_X4_219 ⟨by decide, by decide⟩ cl_1 rfl k_a1 rfl (Nat.le_of_ble_eq_true rfl)) (tX1_taken _ _ _ _ _ _) cz_X1_taken (c00 _) (fun v10 => ?_)
    refine z_cI (as := [.ref (r9), .int (l3), .int (l4), .long (v10)]) (rn_V dX4_useRow_70 mf_X5_renew in_X5_renew lk_X4_290 ⟨by decide, by decide⟩ cl_4 rfl kr9 rfl (Nat.le_of_ble_eq_true rfl)) (tX5_renew _ _ _ _ _ _ _ _) cz_X5_renew (c00 _) (fun v11 h12 => ?_)
    exact z_iret dX4_useRow_73 rfl (en0 _ _ _ _) rfl
  refine z_ite (fun c19 => ?_) (fun n18 => ?_)
  · refine z_tin (tgt := 74) dX4_useRow_1 (16) c19 (by decide) (by decide) rfl (by decide) ?_
    refine z_aload_n dX4_useRow_74 rfl 0 rfl ?_
    refine z_getR (kd := 5) dX4_useRow_75 fl_X4_12 k_a0 (fun r15 kr15 => ?_)
    refine z_iload_n dX4_useRow_78 rfl 3 rfl ?_
    refine z_cI (as := [.ref (r15), .int (l3)]) (rn_V dX4_useRow_79 mf_X5_drop in_X5_drop lk_X4_293 ⟨by decide, by decide⟩ cl_4 rfl kr15 rfl (Nat.le_of_ble_eq_true rfl)) (tX5_drop _ _ _ _ _ _) cz_X5_drop (c00 _) (fun v16 h17 => ?_)
    refine z_pop dX4_useRow_82 rfl ?_
    refine z_iconst (v := 0) dX4_useRow_83 (by decide) ?_
    exact z_iret dX4_useRow_84 rfl (en0 _ _ _ _) rfl
  refine z_tdef (tgt := 85) dX4_useRow_1 [14, 15, 16] (List.forall_mem_cons.mpr ⟨n7, List.forall_mem_cons.mpr ⟨n13, List.forall_mem_cons.mpr ⟨n18, fun _ h => absurd h List.not_mem_nil⟩⟩⟩) (by decide +kernel) (by decide) ?_
  refine z_aload_n dX4_useRow_85 rfl 0 rfl ?_
  refine z_getR (kd := 5) dX4_useRow_86 fl_X4_12 k_a0 (fun r20 kr20 => ?_)
  refine z_iload_n dX4_useRow_89 rfl 3 rfl ?_
  refine z_iload dX4_useRow_90 4 rfl ?_
  refine z_cI (as := [.ref (r20), .int (l3), .int (l4)]) (rn_V dX4_useRow_92 mf_X5_join in_X5_join lk_X4_296 ⟨by decide, by decide⟩ cl_4 rfl kr20 rfl (Nat.le_of_ble_eq_true rfl)) (tX5_join _ _ _ _ _ _ _) cz_X5_join (c00 _) (fun v21 h22 => ?_)
  refine z_pop dX4_useRow_95 rfl ?_
  refine z_iconst (v := 0) dX4_useRow_96 (by decide) ?_
  exact z_iret dX4_useRow_97 rfl (en0 _ _ _ _) rfl
def fX4_callRoutine_b74 (κ : Kd) (a1 : Nat) (l3 : Int32) (a5 : Nat) : Nat → Int32 → Hp → Option (Int32 × Hp)
  | 0, _, _ => none
  | N + 1, l6, h =>
    if l3 ≤ l6 then (
      some ((0 : Int32), h)
    ) else (
      (fX1_taken κ a1 l6 h).bind fun v7 =>
      (fX1_setLocal κ a5 l6 v7 h).bind fun h8 =>
      fX4_callRoutine_b74 κ a1 l3 a5 N (l6 + 1) h8
    )
set_option maxRecDepth 100000 in
theorem zX4_callRoutine_b74 (κ : Kd) (n lim : Nat) (a1 : Nat) (l3 : Int32) (a5 : Nat) (k_a1 : (κ a1).1 = 2) (k_a5 : (κ a5).1 = 2) : ∀ (N : Nat) (l6 : Int32) (h : Hp), ZQ mX4_callRoutine (eI κ n) (κ, n, 0, lim) 74 [(1, .ref (a1)), (3, .int (l3)), (5, .ref (a5)), (6, .int (l6))] [] h (fX4_callRoutine_b74 κ a1 l3 a5 N l6 h) := by
  intro N
  induction N with
  | zero =>
    intro l6 h
    rw [fX4_callRoutine_b74]
    exact z_no
  | succ N ih =>
    intro l6 h
    rw [fX4_callRoutine_b74]
    refine z_iload dX4_callRoutine_74 3 rfl ?_
    refine z_iload_n dX4_callRoutine_76 rfl 1 rfl ?_
    refine z_icmp_ge (tgt := 99) dX4_callRoutine_77 (by first | decide | omega) (fun _ => ?_) (fun _ => ?_)
    · skip
      refine z_iconst (v := 0) dX4_callRoutine_99 (by decide) ?_
      exact z_iret dX4_callRoutine_100 rfl (en0 _ _ _ _) rfl
    · skip
      refine z_aload dX4_callRoutine_80 2 rfl ?_
      refine z_iload dX4_callRoutine_82 3 rfl ?_
      refine z_aload_n dX4_callRoutine_84 rfl 0 rfl ?_
      refine z_iload dX4_callRoutine_85 3 rfl ?_
      refine z_pJ (as := [.ref (a1), .int (l6)]) (rn_V dX4_callRoutine_87 mf_X1_taken in_X1_taken lk_X4_219 ⟨by decide, by decide⟩ cl_1 rfl k_a1 rfl (Nat.le_of_ble_eq_true rfl)) (tX1_taken _ _ _ _ _ _) cz_X1_taken (c00 _) (fun v7 => ?_)
      refine z_cV (as := [.ref (a5), .int (l6), .long (v7)]) (rn_V dX4_callRoutine_90 mf_X1_setLocal in_X1_setLocal lk_X4_71 ⟨by decide, by decide⟩ cl_1 rfl k_a5 rfl (Nat.le_of_ble_eq_true rfl)) (tX1_setLocal _ _ _ _ _ _ _) cz_X1_setLocal (c00 _) (fun h8 => ?_)
      refine z_iinc (j := 3) (v := l6 + 1) (L' := [(6, .int (l6 + 1)), (1, .ref (a1)), (3, .int (l3)), (5, .ref (a5))]) dX4_callRoutine_93 rfl rfl (by decide) rfl ?_
      refine z_goto (tgt := 74) dX4_callRoutine_96 (by decide) ?_
      refine z_sub [1, 2, 3, 0] rfl ?_
      exact ih ((l6 + 1)) h8
def fX4_callRoutine_b16 (κ : Kd) (a0 : Nat) (a1 : Nat) (l2 : Int32) (l3 : Int32)  (h : Hp) : Option (Int32 × Hp) :=
  (fX4_routineAt κ a0 l2 h).bind fun v1 =>
  mt_ v1 (
    some ((1 : Int32), h)
  ) fun a2 => (
    if (κ a2).1 = 6 then (
    if (g_I h a2 8) = 0 then (
      some ((1 : Int32), h)
    ) else (
      if l3 ≤ (g_I h a2 0) then (
        if (g_I h a0 8) < (12 : Int32) then (
          b2 (fX4_openFrame κ a0 l2 a2 h) fun v4 h5 =>
          to_ κ v4 2 fun r6 =>
          fX4_callRoutine_b74 κ a1 l3 r6 fu_ (0 : Int32) h5
        ) else (
          some ((9 : Int32), h)
        )
      ) else (
        some ((7 : Int32), h)
      )
    )
    ) else none)
set_option maxRecDepth 100000 in
theorem zX4_callRoutine_b16 (κ : Kd) (n lim : Nat) (a0 : Nat) (a1 : Nat) (l2 : Int32) (l3 : Int32)  (k_a0 : (κ a0).1 = 4) (k_a1 : (κ a1).1 = 2) (h : Hp) : ZQ mX4_callRoutine (eI κ n) (κ, n, 0, lim) 16 [(0, .ref (a0)), (1, .ref (a1)), (2, .int (l2)), (3, .int (l3))] [] h (fX4_callRoutine_b16 κ a0 a1 l2 l3  h) := by
  unfold fX4_callRoutine_b16
  refine z_aload_n dX4_callRoutine_16 rfl 0 rfl ?_
  refine z_iload_n dX4_callRoutine_17 rfl 2 rfl ?_
  refine z_pQ (as := [.ref (a0), .int (l2)]) (rn_V dX4_callRoutine_18 mf_X4_routineAt in_X4_routineAt lk_X4_300 ⟨by decide, by decide⟩ cl_3 rfl k_a0 rfl (Nat.le_of_ble_eq_true rfl)) (tX4_routineAt _ _ _ _ _ _) cz_X4_routineAt (c00 _) (fun v1 => ?_)
  refine z_astoreQ (L' := [(4, va_rf (v1)), (0, .ref (a0)), (1, .ref (a1)), (2, .int (l2)), (3, .int (l3))]) dX4_callRoutine_21 (by decide) rfl ?_
  refine z_aloadQ dX4_callRoutine_23 0 rfl ?_
  refine z_ifnullM (tgt := 36) dX4_callRoutine_25 (by first | decide | omega) (fun e3 => ?_) (fun a2 e3 => ?_)
  · subst e3
    refine z_iconst (v := 1) dX4_callRoutine_36 (by decide) ?_
    exact z_iret dX4_callRoutine_37 rfl (en0 _ _ _ _) rfl
  · subst e3
    refine z_or (fun ka2 => ?_)
    refine z_aload dX4_callRoutine_28 0 rfl ?_
    refine z_getI dX4_callRoutine_30 fl_X4_304 ka2 ?_
    refine z_if_ne (tgt := 38) dX4_callRoutine_33 (by first | decide | omega) (fun _ => ?_) (fun _ => ?_)
    · skip
      refine z_iload_n dX4_callRoutine_38 rfl 4 rfl ?_
      refine z_aload dX4_callRoutine_39 0 rfl ?_
      refine z_getI dX4_callRoutine_41 fl_X4_307 ka2 ?_
      refine z_icmp_le (tgt := 50) dX4_callRoutine_44 (by first | decide | omega) (fun _ => ?_) (fun _ => ?_)
      · skip
        refine z_aload_n dX4_callRoutine_50 rfl 1 rfl ?_
        refine z_getI dX4_callRoutine_51 fl_X4_78 k_a0 ?_
        refine z_bipush (v := 12) dX4_callRoutine_54 (by decide) ?_
        refine z_icmp_lt (tgt := 62) dX4_callRoutine_56 (by first | decide | omega) (fun _ => ?_) (fun _ => ?_)
        · skip
          refine z_aload_n dX4_callRoutine_62 rfl 1 rfl ?_
          refine z_iload_n dX4_callRoutine_63 rfl 3 rfl ?_
          refine z_aload dX4_callRoutine_64 0 rfl ?_
          refine z_cQ (as := [.ref (a0), .int (l2), .ref (a2)]) (rn_V dX4_callRoutine_66 mf_X4_openFrame in_X4_openFrame lk_X4_67 ⟨by decide, by decide⟩ cl_3 rfl k_a0 rfl (Nat.le_of_ble_eq_true rfl)) (tX4_openFrame _ _ _ _ _ _ _) cz_X4_openFrame (c00 _) (fun v4 h5 => ?_)
          refine z_toC (kd := 2) (fun r6 kr6 => ?_)
          refine z_astore (L' := [(5, .ref (r6)), (4, .ref (a2)), (0, .ref (a0)), (1, .ref (a1)), (2, .int (l2)), (3, .int (l3))]) dX4_callRoutine_69 (by decide) rfl ?_
          refine z_iconst (v := 0) dX4_callRoutine_71 (by decide) ?_
          refine z_istore (L' := [(6, .int ((0 : Int32))), (5, .ref (r6)), (4, .ref (a2)), (0, .ref (a0)), (1, .ref (a1)), (2, .int (l2)), (3, .int (l3))]) dX4_callRoutine_72 (by decide) rfl ?_
          refine z_sub [4, 6, 1, 0] rfl ?_
          exact zX4_callRoutine_b74 _ _ _ a1 l3 r6 k_a1 kr6 fu_ (0 : Int32) h5
        · skip
          refine z_bipush (v := 9) dX4_callRoutine_59 (by decide) ?_
          exact z_iret dX4_callRoutine_61 rfl (en0 _ _ _ _) rfl
      · skip
        refine z_bipush (v := 7) dX4_callRoutine_47 (by decide) ?_
        exact z_iret dX4_callRoutine_49 rfl (en0 _ _ _ _) rfl
    · skip
      refine z_iconst (v := 1) dX4_callRoutine_36 (by decide) ?_
      exact z_iret dX4_callRoutine_37 rfl (en0 _ _ _ _) rfl
def fX4_callRoutine (κ : Kd) (a0 : Nat) (a1 : Nat) (l2 : Int32) (l3 : Int32) (h : Hp) : Option (Int32 × Hp) :=
  if (κ a0).1 = 4 then (
  if (κ a1).1 = 2 then (
  if l3 = 0 then (
    if (g_I h a1 7) < (8 : Int32) then (
      fX4_callRoutine_b16 κ a0 a1 l2 l3  h
    ) else (
      some ((8 : Int32), h)
    )
  ) else (
    fX4_callRoutine_b16 κ a0 a1 l2 l3  h
  )) else none) else none
set_option maxHeartbeats 4000000 in
set_option maxRecDepth 100000 in
theorem tX4_callRoutine (κ : Kd) (n lim : Nat) (h : Hp) (a0 : Nat) (a1 : Nat) (l2 : Int32) (l3 : Int32) : Ct_ mX4_callRoutine [.ref (a0), .ref (a1), .int (l2), .int (l3)] κ n lim h (eI κ n) (fX4_callRoutine κ a0 a1 l2 l3 h) := by
  refine ct_of (by decide) (Nat.le_of_ble_eq_true rfl) ?_
  unfold fX4_callRoutine
  refine z_sub (L' := [(0, .ref (a0)), (1, .ref (a1)), (2, .int (l2)), (3, .int (l3))]) [0, 1, 2, 3] rfl ?_
  refine z_or (fun k_a0 => ?_)
  refine z_or (fun k_a1 => ?_)
  refine z_iload_n dX4_callRoutine_0 rfl 3 rfl ?_
  refine z_if_ne (tgt := 16) dX4_callRoutine_1 (by first | decide | omega) (fun _ => ?_) (fun _ => ?_)
  · skip
    refine z_sub [0, 1, 2, 3] rfl ?_
    exact zX4_callRoutine_b16 _ _ _ a0 a1 l2 l3  k_a0 k_a1 h
  · skip
    refine z_aload_n dX4_callRoutine_4 rfl 1 rfl ?_
    refine z_getI dX4_callRoutine_5 fl_X4_186 k_a1 ?_
    refine z_bipush (v := 8) dX4_callRoutine_8 (by decide) ?_
    refine z_icmp_lt (tgt := 16) dX4_callRoutine_10 (by first | decide | omega) (fun _ => ?_) (fun _ => ?_)
    · skip
      refine z_sub [0, 1, 2, 3] rfl ?_
      exact zX4_callRoutine_b16 _ _ _ a0 a1 l2 l3  k_a0 k_a1 h
    · skip
      refine z_bipush (v := 8) dX4_callRoutine_13 (by decide) ?_
      exact z_iret dX4_callRoutine_15 rfl (en0 _ _ _ _) rfl
def fX4_endWith (κ : Kd) (a0 : Nat) (l1 : Int64) (h : Hp) : Option (Int32 × Hp) :=
  if (κ a0).1 = 4 then (
  lt_ (s_I h a0 8 ((g_I h a0 8) - (1 : Int32))) fun h1 =>
  if (g_I h1 a0 8) ≤ 0 then (
    lt_ (s_J h1 a0 17 l1) fun h2 =>
    lt_ (s_I h2 a0 10 (0 : Int32)) fun h3 =>
    some ((0 : Int32), h3)
  ) else (
    to_ κ (g_R h1 a0 5) 55 fun r4 =>
    a_R κ h1 r4 ((g_I h1 a0 8) - (1 : Int32)) 2 fun r5 =>
    b2 (fX1_lay κ r5 l1 h1) fun v6 h7 =>
    some (v6, h7)
  )) else none
set_option maxHeartbeats 4000000 in
set_option maxRecDepth 100000 in
theorem tX4_endWith (κ : Kd) (n lim : Nat) (h : Hp) (a0 : Nat) (l1 : Int64) : Ct_ mX4_endWith [.ref (a0), .long (l1)] κ n lim h (eI κ n) (fX4_endWith κ a0 l1 h) := by
  refine ct_of (by decide) (Nat.le_of_ble_eq_true rfl) ?_
  unfold fX4_endWith
  refine z_sub (L' := [(0, .ref (a0)), (1, .long (l1))]) [0, 1] rfl ?_
  refine z_or (fun k_a0 => ?_)
  refine z_aload_n dX4_endWith_0 rfl 0 rfl ?_
  refine z_dup dX4_endWith_1 rfl ?_
  refine z_getI dX4_endWith_2 fl_X4_78 k_a0 ?_
  refine z_iconst (v := 1) dX4_endWith_5 (by decide) ?_
  refine z_isub dX4_endWith_6 ?_
  refine z_putI dX4_endWith_7 fl_X4_78 (Or.inl rfl) k_a0 (fun h1 => ?_)
  refine z_aload_n dX4_endWith_10 rfl 0 rfl ?_
  refine z_getI dX4_endWith_11 fl_X4_78 k_a0 ?_
  refine z_if_le (tgt := 33) dX4_endWith_14 (by first | decide | omega) (fun _ => ?_) (fun _ => ?_)
  · skip
    refine z_aload_n dX4_endWith_33 rfl 0 rfl ?_
    refine z_lload_n dX4_endWith_34 rfl 1 rfl ?_
    refine z_putJ dX4_endWith_35 fl_X4_109 (Or.inl rfl) k_a0 (fun h2 => ?_)
    refine z_aload_n dX4_endWith_38 rfl 0 rfl ?_
    refine z_iconst (v := 0) dX4_endWith_39 (by decide) ?_
    refine z_putI dX4_endWith_40 fl_X4_75 (Or.inl rfl) k_a0 (fun h3 => ?_)
    refine z_iconst (v := 0) dX4_endWith_43 (by decide) ?_
    exact z_iret dX4_endWith_44 rfl (en0 _ _ _ _) rfl
  · skip
    refine z_aload_n dX4_endWith_17 rfl 0 rfl ?_
    refine z_getR (kd := 55) dX4_endWith_18 fl_X4_40 k_a0 (fun r4 kr4 => ?_)
    refine z_aload_n dX4_endWith_21 rfl 0 rfl ?_
    refine z_getI dX4_endWith_22 fl_X4_78 k_a0 ?_
    refine z_iconst (v := 1) dX4_endWith_25 (by decide) ?_
    refine z_isub dX4_endWith_26 ?_
    refine z_aald (kd := 2) dX4_endWith_27 rk_55 kr4 (fun r5 kr5 => ?_)
    refine z_lload_n dX4_endWith_28 rfl 1 rfl ?_
    refine z_cI (as := [.ref (r5), .long (l1)]) (rn_V dX4_endWith_29 mf_X1_lay in_X1_lay lk_X4_192 ⟨by decide, by decide⟩ cl_1 rfl kr5 rfl (Nat.le_of_ble_eq_true rfl)) (tX1_lay _ _ _ _ _ _) cz_X1_lay (c00 _) (fun v6 h7 => ?_)
    exact z_iret dX4_endWith_32 rfl (en0 _ _ _ _) rfl
def fX4_giveBack (κ : Kd) (a0 : Nat) (a1 : Nat) (l2 : Int64) (h : Hp) : Option (Int32 × Hp) :=
  if (κ a0).1 = 4 then (
  if (κ a1).1 = 2 then (
  b2 (fX1_beginsLast κ a1 h) fun v1 h2 =>
  if v1 = 0 then (
    b2 (fX4_endWith κ a0 l2 h2) fun v5 h6 =>
    some (v5, h6)
  ) else (
    lt_ (s_I h2 a0 15 ((g_I h2 a0 15) + (1 : Int32))) fun h3 =>
    (fX1_putNumberAside κ a1 l2 h3).bind fun h4 =>
    some ((0 : Int32), h4)
  )) else none) else none
set_option maxHeartbeats 4000000 in
set_option maxRecDepth 100000 in
theorem tX4_giveBack (κ : Kd) (n lim : Nat) (h : Hp) (a0 : Nat) (a1 : Nat) (l2 : Int64) : Ct_ mX4_giveBack [.ref (a0), .ref (a1), .long (l2)] κ n lim h (eI κ n) (fX4_giveBack κ a0 a1 l2 h) := by
  refine ct_of (by decide) (Nat.le_of_ble_eq_true rfl) ?_
  unfold fX4_giveBack
  refine z_sub (L' := [(0, .ref (a0)), (1, .ref (a1)), (2, .long (l2))]) [0, 1, 2] rfl ?_
  refine z_or (fun k_a0 => ?_)
  refine z_or (fun k_a1 => ?_)
  refine z_aload_n dX4_giveBack_0 rfl 1 rfl ?_
  refine z_cI (as := [.ref (a1)]) (rn_V dX4_giveBack_1 mf_X1_beginsLast in_X1_beginsLast lk_X4_178 ⟨by decide, by decide⟩ cl_1 rfl k_a1 rfl (Nat.le_of_ble_eq_true rfl)) (tX1_beginsLast _ _ _ _ _) cz_X1_beginsLast (c00 _) (fun v1 h2 => ?_)
  refine z_if_ne (tgt := 13) dX4_giveBack_4 (by first | decide | omega) (fun _ => ?_) (fun _ => ?_)
  · skip
    refine z_aload_n dX4_giveBack_13 rfl 0 rfl ?_
    refine z_dup dX4_giveBack_14 rfl ?_
    refine z_getI dX4_giveBack_15 fl_X4_103 k_a0 ?_
    refine z_iconst (v := 1) dX4_giveBack_18 (by decide) ?_
    refine z_iadd dX4_giveBack_19 ?_
    refine z_putI dX4_giveBack_20 fl_X4_103 (Or.inl rfl) k_a0 (fun h3 => ?_)
    refine z_aload_n dX4_giveBack_23 rfl 1 rfl ?_
    refine z_lload_n dX4_giveBack_24 rfl 2 rfl ?_
    refine z_cV (as := [.ref (a1), .long (l2)]) (rn_V dX4_giveBack_25 mf_X1_putNumberAside in_X1_putNumberAside lk_X4_313 ⟨by decide, by decide⟩ cl_1 rfl k_a1 rfl (Nat.le_of_ble_eq_true rfl)) (tX1_putNumberAside _ _ _ _ _ _) cz_X1_putNumberAside (c00 _) (fun h4 => ?_)
    refine z_iconst (v := 0) dX4_giveBack_28 (by decide) ?_
    exact z_iret dX4_giveBack_29 rfl (en0 _ _ _ _) rfl
  · skip
    refine z_aload_n dX4_giveBack_7 rfl 0 rfl ?_
    refine z_lload_n dX4_giveBack_8 rfl 2 rfl ?_
    refine z_cI (as := [.ref (a0), .long (l2)]) (rn_V dX4_giveBack_9 mf_X4_endWith in_X4_endWith lk_X4_310 ⟨by decide, by decide⟩ cl_3 rfl k_a0 rfl (Nat.le_of_ble_eq_true rfl)) (tX4_endWith _ _ _ _ _ _) cz_X4_endWith (c00 _) (fun v5 h6 => ?_)
    exact z_iret dX4_giveBack_12 rfl (en0 _ _ _ _) rfl
def fX4_leave (κ : Kd) (a0 : Nat) (a1 : Nat) (h : Hp) : Option (Int32 × Hp) :=
  if (κ a0).1 = 4 then (
  if (κ a1).1 = 2 then (
  if (g_I h a1 8) = 0 then (
    some ((10 : Int32), h)
  ) else (
    if (g_I h a1 9) = 0 then (
      b2 (fX4_endWith κ a0 (g_J h a1 10) h) fun v5 h6 =>
      some (v5, h6)
    ) else (
      to_ κ (g_R h a0 7) 1 fun r1 =>
      to_ κ (g_R h a1 2) 1 fun r2 =>
      (fX0_becomeAs κ r1 r2 h).bind fun h3 =>
      lt_ (s_I h3 a0 8 ((g_I h3 a0 8) - (1 : Int32))) fun h4 =>
      some ((-1 : Int32), h4)
    )
  )) else none) else none
set_option maxHeartbeats 4000000 in
set_option maxRecDepth 100000 in
theorem tX4_leave (κ : Kd) (n lim : Nat) (h : Hp) (a0 : Nat) (a1 : Nat) : Ct_ mX4_leave [.ref (a0), .ref (a1)] κ n lim h (eI κ n) (fX4_leave κ a0 a1 h) := by
  refine ct_of (by decide) (Nat.le_of_ble_eq_true rfl) ?_
  unfold fX4_leave
  refine z_sub (L' := [(0, .ref (a0)), (1, .ref (a1))]) [0, 1] rfl ?_
  refine z_or (fun k_a0 => ?_)
  refine z_or (fun k_a1 => ?_)
  refine z_aload_n dX4_leave_0 rfl 1 rfl ?_
  refine z_getZ dX4_leave_1 fl_X4_317 k_a1 ?_
  refine z_if_ne (tgt := 10) dX4_leave_4 (by first | decide | omega) (fun _ => ?_) (fun _ => ?_)
  · skip
    refine z_aload_n dX4_leave_10 rfl 1 rfl ?_
    refine z_getZ dX4_leave_11 fl_X4_321 k_a1 ?_
    refine z_if_ne (tgt := 26) dX4_leave_14 (by first | decide | omega) (fun _ => ?_) (fun _ => ?_)
    · skip
      refine z_aload_n dX4_leave_26 rfl 0 rfl ?_
      refine z_getR (kd := 1) dX4_leave_27 fl_X4_51 k_a0 (fun r1 kr1 => ?_)
      refine z_aload_n dX4_leave_30 rfl 1 rfl ?_
      refine z_getR (kd := 1) dX4_leave_31 fl_X4_327 k_a1 (fun r2 kr2 => ?_)
      refine z_cV (as := [.ref (r1), .ref (r2)]) (rn_V dX4_leave_34 mf_X0_becomeAs in_X0_becomeAs lk_X4_330 ⟨by decide, by decide⟩ cl_0 rfl kr1 rfl (Nat.le_of_ble_eq_true rfl)) (tX0_becomeAs _ _ _ _ _ _) cz_X0_becomeAs (c00 _) (fun h3 => ?_)
      refine z_aload_n dX4_leave_37 rfl 0 rfl ?_
      refine z_dup dX4_leave_38 rfl ?_
      refine z_getI dX4_leave_39 fl_X4_78 k_a0 ?_
      refine z_iconst (v := 1) dX4_leave_42 (by decide) ?_
      refine z_isub dX4_leave_43 ?_
      refine z_putI dX4_leave_44 fl_X4_78 (Or.inl rfl) k_a0 (fun h4 => ?_)
      refine z_iconst (v := -1) dX4_leave_47 (by decide) ?_
      exact z_iret dX4_leave_48 rfl (en0 _ _ _ _) rfl
    · skip
      refine z_aload_n dX4_leave_17 rfl 0 rfl ?_
      refine z_aload_n dX4_leave_18 rfl 1 rfl ?_
      refine z_getJ dX4_leave_19 fl_X4_324 k_a1 ?_
      refine z_cI (as := [.ref (a0), .long (g_J h a1 10)]) (rn_V dX4_leave_22 mf_X4_endWith in_X4_endWith lk_X4_310 ⟨by decide, by decide⟩ cl_3 rfl k_a0 rfl (Nat.le_of_ble_eq_true rfl)) (tX4_endWith _ _ _ _ _ _) cz_X4_endWith (c00 _) (fun v5 h6 => ?_)
      exact z_iret dX4_leave_25 rfl (en0 _ _ _ _) rfl
  · skip
    refine z_bipush (v := 10) dX4_leave_7 (by decide) ?_
    exact z_iret dX4_leave_9 rfl (en0 _ _ _ _) rfl
def fX8_exists (κ : Kd) (a0 : Nat) (l1 : Int64) (h : Hp) : Option (Int32) :=
  if (κ a0).1 = 7 then (
  if l1 < (0 : Int64) then (
    some ((0 : Int32))
  ) else (
    if ((g_I h a0 5).toInt64) ≤ l1 then (
      some ((0 : Int32))
    ) else (
      some ((1 : Int32))
    )
  )) else none
set_option maxHeartbeats 4000000 in
set_option maxRecDepth 100000 in
theorem tX8_exists (κ : Kd) (n lim : Nat) (h : Hp) (a0 : Nat) (l1 : Int64) : Ct_ mX8_exists [.ref (a0), .long (l1)] κ n lim h (pI κ n h) (fX8_exists κ a0 l1 h) := by
  refine ct_of (by decide) (Nat.le_of_ble_eq_true rfl) ?_
  unfold fX8_exists
  refine z_sub (L' := [(0, .ref (a0)), (1, .long (l1))]) [0, 1] rfl ?_
  refine z_or (fun k_a0 => ?_)
  refine z_lload_n dX8_exists_0 rfl 1 rfl ?_
  refine z_lconst (v := 0) dX8_exists_1 (by decide) ?_
  refine z_lc_lt (tgt := 20) dX8_exists_2 dX8_exists_3 (by first | decide | omega) (fun _ => ?_) (fun _ => ?_)
  · skip
    refine z_iconst (v := 0) dX8_exists_20 (by decide) ?_
    exact z_zret dX8_exists_21 rfl rfl (en0 _ _ _ _) rfl
  · skip
    refine z_lload_n dX8_exists_6 rfl 1 rfl ?_
    refine z_aload_n dX8_exists_7 rfl 0 rfl ?_
    refine z_getI dX8_exists_8 fl_X8_33 k_a0 ?_
    refine z_i2l dX8_exists_11 ?_
    refine z_lc_ge (tgt := 20) dX8_exists_12 dX8_exists_13 (by first | decide | omega) (fun _ => ?_) (fun _ => ?_)
    · skip
      refine z_iconst (v := 0) dX8_exists_20 (by decide) ?_
      exact z_zret dX8_exists_21 rfl rfl (en0 _ _ _ _) rfl
    · skip
      refine z_iconst (v := 1) dX8_exists_16 (by decide) ?_
      refine z_goto (tgt := 21) dX8_exists_17 (by decide) ?_
      exact z_zret dX8_exists_21 rfl rfl (en0 _ _ _ _) rfl
def fX8_isA_b10 (κ : Kd) (l2 : Int32) : Nat → Int32 → Int32 → Hp → Option (Int32)
  | 0, _, _, _ => none
  | N + 1, l3, l4, h =>
    if (6 : Int32) ≤ l4 then (
      some ((0 : Int32))
    ) else (
      if l3 = (-1 : Int32) then (
        some ((0 : Int32))
      ) else (
        if l3 = l2 then (
          some ((1 : Int32))
        ) else (
          s_ld 0 l3 fun v3 =>
          fX8_isA_b10 κ l2 N v3 (l4 + 1) h
        )
      )
    )
set_option maxRecDepth 100000 in
theorem zX8_isA_b10 (κ : Kd) (n lim : Nat) (l2 : Int32)  : ∀ (N : Nat) (l3 : Int32) (l4 : Int32) (h : Hp), ZQ mX8_isA (pI κ n h) (κ, n, 0, lim) 10 [(2, .int (l2)), (3, .int (l3)), (4, .int (l4))] [] h (fX8_isA_b10 κ l2 N l3 l4 h) := by
  intro N
  induction N with
  | zero =>
    intro l3 l4 h
    rw [fX8_isA_b10]
    exact z_no
  | succ N ih =>
    intro l3 l4 h
    rw [fX8_isA_b10]
    refine z_iload dX8_isA_10 2 rfl ?_
    refine z_bipush (v := 6) dX8_isA_12 (by decide) ?_
    refine z_icmp_ge (tgt := 41) dX8_isA_14 (by first | decide | omega) (fun _ => ?_) (fun _ => ?_)
    · skip
      refine z_iconst (v := 0) dX8_isA_41 (by decide) ?_
      exact z_zret dX8_isA_42 rfl rfl (en0 _ _ _ _) rfl
    · skip
      refine z_iload_n dX8_isA_17 rfl 1 rfl ?_
      refine z_iconst (v := -1) dX8_isA_18 (by decide) ?_
      refine z_icmp_eq (tgt := 41) dX8_isA_19 (by first | decide | omega) (fun _ => ?_) (fun _ => ?_)
      · skip
        refine z_iconst (v := 0) dX8_isA_41 (by decide) ?_
        exact z_zret dX8_isA_42 rfl rfl (en0 _ _ _ _) rfl
      · skip
        refine z_iload_n dX8_isA_22 rfl 1 rfl ?_
        refine z_iload_n dX8_isA_23 rfl 0 rfl ?_
        refine z_icmp_ne (tgt := 29) dX8_isA_24 (by first | decide | omega) (fun _ => ?_) (fun _ => ?_)
        · skip
          refine z_gets dX8_isA_29 sl_X8_46 ?_
          refine z_iload_n dX8_isA_32 rfl 1 rfl ?_
          refine z_sld dX8_isA_33 (by decide) (fun v3 => ?_)
          refine z_istore_n (L' := [(3, .int (v3)), (2, .int (l2)), (4, .int (l4))]) dX8_isA_34 rfl (by decide) rfl ?_
          refine z_iinc (j := 2) (v := l4 + 1) (L' := [(4, .int (l4 + 1)), (3, .int (v3)), (2, .int (l2))]) dX8_isA_35 rfl rfl (by decide) rfl ?_
          refine z_goto (tgt := 10) dX8_isA_38 (by decide) ?_
          refine z_sub [2, 1, 0] rfl ?_
          exact ih (v3) ((l4 + 1)) h
        · skip
          refine z_iconst (v := 1) dX8_isA_27 (by decide) ?_
          exact z_zret dX8_isA_28 rfl rfl (en0 _ _ _ _) rfl
def fX8_isA (κ : Kd) (a0 : Nat) (l1 : Int32) (l2 : Int32) (h : Hp) : Option (Int32) :=
  if (κ a0).1 = 7 then (
  to_ κ (g_R h a0 0) 50 fun r1 =>
  a_I κ h r1 l1 fun v2 =>
  fX8_isA_b10 κ l2 fu_ v2 (0 : Int32) h) else none
set_option maxHeartbeats 4000000 in
set_option maxRecDepth 100000 in
theorem tX8_isA (κ : Kd) (n lim : Nat) (h : Hp) (a0 : Nat) (l1 : Int32) (l2 : Int32) : Ct_ mX8_isA [.ref (a0), .int (l1), .int (l2)] κ n lim h (pI κ n h) (fX8_isA κ a0 l1 l2 h) := by
  refine ct_of (by decide) (Nat.le_of_ble_eq_true rfl) ?_
  unfold fX8_isA
  refine z_sub (L' := [(0, .ref (a0)), (1, .int (l1)), (2, .int (l2))]) [0, 1, 2] rfl ?_
  refine z_or (fun k_a0 => ?_)
  refine z_aload_n dX8_isA_0 rfl 0 rfl ?_
  refine z_getR (kd := 50) dX8_isA_1 fl_X8_9 k_a0 (fun r1 kr1 => ?_)
  refine z_iload_n dX8_isA_4 rfl 1 rfl ?_
  refine z_iald dX8_isA_5 kr1 (fun v2 => ?_)
  refine z_istore_n (L' := [(3, .int (v2)), (0, .ref (a0)), (1, .int (l1)), (2, .int (l2))]) dX8_isA_6 rfl (by decide) rfl ?_
  refine z_iconst (v := 0) dX8_isA_7 (by decide) ?_
  refine z_istore (L' := [(4, .int ((0 : Int32))), (3, .int (v2)), (0, .ref (a0)), (1, .int (l1)), (2, .int (l2))]) dX8_isA_8 (by decide) rfl ?_
  refine z_sub [4, 1, 0] rfl ?_
  exact zX8_isA_b10 _ _ _ l2  fu_ v2 (0 : Int32) h
def fX8_weight_b34 (κ : Kd) (a0 : Nat) (l1 : Int32) (l2 : Int32)  (h : Hp) : Option (Int32) :=
  (fX8_isA κ a0 l1 (5 : Int32) h).bind fun v5 =>
  if v5 = 0 then (
    some (l2)
  ) else (
    to_ κ (g_R h a0 3) 50 fun r6 =>
    a_I κ h r6 l1 fun v7 =>
    some (l2 - v7)
  )
set_option maxRecDepth 100000 in
theorem zX8_weight_b34 (κ : Kd) (n lim : Nat) (a0 : Nat) (l1 : Int32) (l2 : Int32)  (k_a0 : (κ a0).1 = 7) (h : Hp) : ZQ mX8_weight (pI κ n h) (κ, n, 0, lim) 34 [(0, .ref (a0)), (1, .int (l1)), (2, .int (l2))] [] h (fX8_weight_b34 κ a0 l1 l2  h) := by
  unfold fX8_weight_b34
  refine z_aload_n dX8_weight_34 rfl 0 rfl ?_
  refine z_iload_n dX8_weight_35 rfl 1 rfl ?_
  refine z_iconst (v := 5) dX8_weight_36 (by decide) ?_
  refine z_pI (as := [.ref (a0), .int (l1), .int ((5 : Int32))]) (rn_V dX8_weight_37 mf_X8_isA in_X8_isA lk_X8_65 ⟨by decide, by decide⟩ cl_6 rfl k_a0 rfl (Nat.le_of_ble_eq_true rfl)) (tX8_isA _ _ _ _ _ _ _) cz_X8_isA (c00 _) (fun v5 => ?_)
  refine z_if_eq (tgt := 54) dX8_weight_40 (by first | decide | omega) (fun _ => ?_) (fun _ => ?_)
  · skip
    refine z_iload_n dX8_weight_54 rfl 2 rfl ?_
    exact z_iret dX8_weight_55 rfl (en0 _ _ _ _) rfl
  · skip
    refine z_iload_n dX8_weight_43 rfl 2 rfl ?_
    refine z_aload_n dX8_weight_44 rfl 0 rfl ?_
    refine z_getR (kd := 50) dX8_weight_45 fl_X8_21 k_a0 (fun r6 kr6 => ?_)
    refine z_iload_n dX8_weight_48 rfl 1 rfl ?_
    refine z_iald dX8_weight_49 kr6 (fun v7 => ?_)
    refine z_isub dX8_weight_50 ?_
    refine z_goto (tgt := 55) dX8_weight_51 (by decide) ?_
    exact z_iret dX8_weight_55 rfl (en0 _ _ _ _) rfl
def fX8_weight_b22 (κ : Kd) (a0 : Nat) (l1 : Int32) (l2 : Int32)  (h : Hp) : Option (Int32) :=
  (fX8_isA κ a0 l1 (3 : Int32) h).bind fun v4 =>
  if v4 = 0 then (
    fX8_weight_b34 κ a0 l1 l2  h
  ) else (
    fX8_weight_b34 κ a0 l1 (l2 + 1)  h
  )
set_option maxRecDepth 100000 in
theorem zX8_weight_b22 (κ : Kd) (n lim : Nat) (a0 : Nat) (l1 : Int32) (l2 : Int32)  (k_a0 : (κ a0).1 = 7) (h : Hp) : ZQ mX8_weight (pI κ n h) (κ, n, 0, lim) 22 [(0, .ref (a0)), (1, .int (l1)), (2, .int (l2))] [] h (fX8_weight_b22 κ a0 l1 l2  h) := by
  unfold fX8_weight_b22
  refine z_aload_n dX8_weight_22 rfl 0 rfl ?_
  refine z_iload_n dX8_weight_23 rfl 1 rfl ?_
  refine z_iconst (v := 3) dX8_weight_24 (by decide) ?_
  refine z_pI (as := [.ref (a0), .int (l1), .int ((3 : Int32))]) (rn_V dX8_weight_25 mf_X8_isA in_X8_isA lk_X8_65 ⟨by decide, by decide⟩ cl_6 rfl k_a0 rfl (Nat.le_of_ble_eq_true rfl)) (tX8_isA _ _ _ _ _ _ _) cz_X8_isA (c00 _) (fun v4 => ?_)
  refine z_if_eq (tgt := 34) dX8_weight_28 (by first | decide | omega) (fun _ => ?_) (fun _ => ?_)
  · skip
    refine z_sub [0, 1, 2] rfl ?_
    exact zX8_weight_b34 _ _ _ a0 l1 l2  k_a0 h
  · skip
    refine z_iinc (j := 2) (v := l2 + 1) (L' := [(2, .int (l2 + 1)), (0, .ref (a0)), (1, .int (l1))]) dX8_weight_31 rfl rfl (by decide) rfl ?_
    refine z_sub [1, 2, 0] rfl ?_
    exact zX8_weight_b34 _ _ _ a0 l1 (l2 + 1)  k_a0 h
def fX8_weight (κ : Kd) (a0 : Nat) (l1 : Int32) (h : Hp) : Option (Int32) :=
  if (κ a0).1 = 7 then (
  to_ κ (g_R h a0 1) 50 fun r1 =>
  a_I κ h r1 l1 fun v2 =>
  (fX8_isA κ a0 l1 (1 : Int32) h).bind fun v3 =>
  if v3 = 0 then (
    fX8_weight_b22 κ a0 l1 ((2 : Int32) + v2)  h
  ) else (
    fX8_weight_b22 κ a0 l1 (((2 : Int32) + v2) * (2 : Int32))  h
  )) else none
set_option maxHeartbeats 4000000 in
set_option maxRecDepth 100000 in
theorem tX8_weight (κ : Kd) (n lim : Nat) (h : Hp) (a0 : Nat) (l1 : Int32) : Ct_ mX8_weight [.ref (a0), .int (l1)] κ n lim h (pI κ n h) (fX8_weight κ a0 l1 h) := by
  refine ct_of (by decide) (Nat.le_of_ble_eq_true rfl) ?_
  unfold fX8_weight
  refine z_sub (L' := [(0, .ref (a0)), (1, .int (l1))]) [0, 1] rfl ?_
  refine z_or (fun k_a0 => ?_)
  refine z_iconst (v := 2) dX8_weight_0 (by decide) ?_
  refine z_aload_n dX8_weight_1 rfl 0 rfl ?_
  refine z_getR (kd := 50) dX8_weight_2 fl_X8_15 k_a0 (fun r1 kr1 => ?_)
  refine z_iload_n dX8_weight_5 rfl 1 rfl ?_
  refine z_iald dX8_weight_6 kr1 (fun v2 => ?_)
  refine z_iadd dX8_weight_7 ?_
  refine z_istore_n (L' := [(2, .int ((2 : Int32) + v2)), (0, .ref (a0)), (1, .int (l1))]) dX8_weight_8 rfl (by decide) rfl ?_
  refine z_aload_n dX8_weight_9 rfl 1 rfl ?_
  refine z_iload_n dX8_weight_10 rfl 2 rfl ?_
  refine z_iconst (v := 1) dX8_weight_11 (by decide) ?_
  refine z_pI (as := [.ref (a0), .int (l1), .int ((1 : Int32))]) (rn_V dX8_weight_12 mf_X8_isA in_X8_isA lk_X8_65 ⟨by decide, by decide⟩ cl_6 rfl k_a0 rfl (Nat.le_of_ble_eq_true rfl)) (tX8_isA _ _ _ _ _ _ _) cz_X8_isA (c00 _) (fun v3 => ?_)
  refine z_if_eq (tgt := 22) dX8_weight_15 (by first | decide | omega) (fun _ => ?_) (fun _ => ?_)
  · skip
    refine z_sub [1, 2, 0] rfl ?_
    exact zX8_weight_b22 _ _ _ a0 l1 ((2 : Int32) + v2)  k_a0 h
  · skip
    refine z_iload_n dX8_weight_18 rfl 0 rfl ?_
    refine z_iconst (v := 2) dX8_weight_19 (by decide) ?_
    refine z_imul dX8_weight_20 ?_
    refine z_istore_n (L' := [(2, .int (((2 : Int32) + v2) * (2 : Int32))), (0, .ref (a0)), (1, .int (l1))]) dX8_weight_21 rfl (by decide) rfl ?_
    refine z_sub [1, 2, 0] rfl ?_
    exact zX8_weight_b22 _ _ _ a0 l1 (((2 : Int32) + v2) * (2 : Int32))  k_a0 h
def fX8_load_b70 (κ : Kd) (a0 : Nat) (l1 : Int32)  (h : Hp) : Option (Int32 × Hp) :=
  (fX8_isA κ a0 l1 (5 : Int32) h).bind fun v7 =>
  if v7 = 0 then (
    to_ κ (g_R h a0 1) 50 fun r8 =>
    a_I κ h r8 l1 fun v9 =>
    lt_ (s_I h a0 6 v9) fun h10 =>
    some ((0 : Int32), h10)
  ) else (
    to_ κ (g_R h a0 2) 50 fun r11 =>
    a_I κ h r11 l1 fun v12 =>
    lt_ (s_I h a0 6 v12) fun h13 =>
    some ((0 : Int32), h13)
  )
set_option maxRecDepth 100000 in
theorem zX8_load_b70 (κ : Kd) (n lim : Nat) (a0 : Nat) (l1 : Int32)  (k_a0 : (κ a0).1 = 7) (h : Hp) : ZQ mX8_load (eI κ n) (κ, n, 0, lim) 70 [(0, .ref (a0)), (1, .int (l1))] [] h (fX8_load_b70 κ a0 l1  h) := by
  unfold fX8_load_b70
  refine z_aload_n dX8_load_70 rfl 0 rfl ?_
  refine z_aload_n dX8_load_71 rfl 0 rfl ?_
  refine z_iload_n dX8_load_72 rfl 1 rfl ?_
  refine z_iconst (v := 5) dX8_load_73 (by decide) ?_
  refine z_pI (as := [.ref (a0), .int (l1), .int ((5 : Int32))]) (rn_V dX8_load_74 mf_X8_isA in_X8_isA lk_X8_65 ⟨by decide, by decide⟩ cl_6 rfl k_a0 rfl (Nat.le_of_ble_eq_true rfl)) (tX8_isA _ _ _ _ _ _ _) cz_X8_isA (c00 _) (fun v7 => ?_)
  refine z_if_eq (tgt := 89) dX8_load_77 (by first | decide | omega) (fun _ => ?_) (fun _ => ?_)
  · skip
    refine z_aload_n dX8_load_89 rfl 0 rfl ?_
    refine z_getR (kd := 50) dX8_load_90 fl_X8_15 k_a0 (fun r8 kr8 => ?_)
    refine z_iload_n dX8_load_93 rfl 1 rfl ?_
    refine z_iald dX8_load_94 kr8 (fun v9 => ?_)
    refine z_putI dX8_load_95 fl_X8_72 (Or.inl rfl) k_a0 (fun h10 => ?_)
    refine z_iconst (v := 0) dX8_load_98 (by decide) ?_
    exact z_iret dX8_load_99 rfl (en0 _ _ _ _) rfl
  · skip
    refine z_aload_n dX8_load_80 rfl 0 rfl ?_
    refine z_getR (kd := 50) dX8_load_81 fl_X8_18 k_a0 (fun r11 kr11 => ?_)
    refine z_iload_n dX8_load_84 rfl 1 rfl ?_
    refine z_iald dX8_load_85 kr11 (fun v12 => ?_)
    refine z_goto (tgt := 95) dX8_load_86 (by decide) ?_
    refine z_putI dX8_load_95 fl_X8_72 (Or.inl rfl) k_a0 (fun h13 => ?_)
    refine z_iconst (v := 0) dX8_load_98 (by decide) ?_
    exact z_iret dX8_load_99 rfl (en0 _ _ _ _) rfl
def fX8_load_b44 (κ : Kd) (a0 : Nat) (l1 : Int32) (l2 : Int32)  (h : Hp) : Option (Int32 × Hp) :=
  to_ κ (g_R h a0 1) 50 fun r3 =>
  a_I κ h r3 l1 fun v4 =>
  w_I κ h r3 l1 (v4 + l2) fun h5 =>
  (fX8_isA κ a0 l1 (4 : Int32) h5).bind fun v6 =>
  if v6 = 0 then (
    fX8_load_b70 κ a0 l1  h5
  ) else (
    to_ κ (g_R h5 a0 2) 50 fun r14 =>
    w_I κ h5 r14 l1 l2 fun h15 =>
    fX8_load_b70 κ a0 l1  h15
  )
set_option maxRecDepth 100000 in
theorem zX8_load_b44 (κ : Kd) (n lim : Nat) (a0 : Nat) (l1 : Int32) (l2 : Int32)  (k_a0 : (κ a0).1 = 7) (h : Hp) : ZQ mX8_load (eI κ n) (κ, n, 0, lim) 44 [(0, .ref (a0)), (1, .int (l1)), (2, .int (l2))] [] h (fX8_load_b44 κ a0 l1 l2  h) := by
  unfold fX8_load_b44
  refine z_aload_n dX8_load_44 rfl 0 rfl ?_
  refine z_getR (kd := 50) dX8_load_45 fl_X8_15 k_a0 (fun r3 kr3 => ?_)
  refine z_iload_n dX8_load_48 rfl 1 rfl ?_
  refine z_dup2 dX8_load_49 rfl rfl ?_
  refine z_iald dX8_load_50 kr3 (fun v4 => ?_)
  refine z_iload_n dX8_load_51 rfl 2 rfl ?_
  refine z_iadd dX8_load_52 ?_
  refine z_iast dX8_load_53 kr3 (fun h5 => ?_)
  refine z_aload_n dX8_load_54 rfl 0 rfl ?_
  refine z_iload_n dX8_load_55 rfl 1 rfl ?_
  refine z_iconst (v := 4) dX8_load_56 (by decide) ?_
  refine z_pI (as := [.ref (a0), .int (l1), .int ((4 : Int32))]) (rn_V dX8_load_57 mf_X8_isA in_X8_isA lk_X8_65 ⟨by decide, by decide⟩ cl_6 rfl k_a0 rfl (Nat.le_of_ble_eq_true rfl)) (tX8_isA _ _ _ _ _ _ _) cz_X8_isA (c00 _) (fun v6 => ?_)
  refine z_if_eq (tgt := 70) dX8_load_60 (by first | decide | omega) (fun _ => ?_) (fun _ => ?_)
  · skip
    refine z_sub [0, 1] rfl ?_
    exact zX8_load_b70 _ _ _ a0 l1  k_a0 h5
  · skip
    refine z_aload_n dX8_load_63 rfl 0 rfl ?_
    refine z_getR (kd := 50) dX8_load_64 fl_X8_18 k_a0 (fun r14 kr14 => ?_)
    refine z_iload_n dX8_load_67 rfl 1 rfl ?_
    refine z_iload_n dX8_load_68 rfl 2 rfl ?_
    refine z_iast dX8_load_69 kr14 (fun h15 => ?_)
    refine z_sub [0, 1] rfl ?_
    exact zX8_load_b70 _ _ _ a0 l1  k_a0 h15
def fX8_load_b19 (κ : Kd) (a0 : Nat) (l1 : Int32) (l2 : Int32)  (h : Hp) : Option (Int32 × Hp) :=
  (fX8_isA κ a0 l1 (1 : Int32) h).bind fun v2 =>
  if v2 = 0 then (
    fX8_load_b44 κ a0 l1 l2  h
  ) else (
    to_ κ (g_R h a0 1) 50 fun r16 =>
    a_I κ h r16 l1 fun v17 =>
    if (v17 + l2) ≤ (9 : Int32) then (
      fX8_load_b44 κ a0 l1 l2  h
    ) else (
      some ((11 : Int32), h)
    )
  )
set_option maxRecDepth 100000 in
theorem zX8_load_b19 (κ : Kd) (n lim : Nat) (a0 : Nat) (l1 : Int32) (l2 : Int32)  (k_a0 : (κ a0).1 = 7) (h : Hp) : ZQ mX8_load (eI κ n) (κ, n, 0, lim) 19 [(0, .ref (a0)), (1, .int (l1)), (2, .int (l2))] [] h (fX8_load_b19 κ a0 l1 l2  h) := by
  unfold fX8_load_b19
  refine z_aload_n dX8_load_19 rfl 0 rfl ?_
  refine z_iload_n dX8_load_20 rfl 1 rfl ?_
  refine z_iconst (v := 1) dX8_load_21 (by decide) ?_
  refine z_pI (as := [.ref (a0), .int (l1), .int ((1 : Int32))]) (rn_V dX8_load_22 mf_X8_isA in_X8_isA lk_X8_65 ⟨by decide, by decide⟩ cl_6 rfl k_a0 rfl (Nat.le_of_ble_eq_true rfl)) (tX8_isA _ _ _ _ _ _ _) cz_X8_isA (c00 _) (fun v2 => ?_)
  refine z_if_eq (tgt := 44) dX8_load_25 (by first | decide | omega) (fun _ => ?_) (fun _ => ?_)
  · skip
    refine z_sub [0, 1, 2] rfl ?_
    exact zX8_load_b44 _ _ _ a0 l1 l2  k_a0 h
  · skip
    refine z_aload_n dX8_load_28 rfl 0 rfl ?_
    refine z_getR (kd := 50) dX8_load_29 fl_X8_15 k_a0 (fun r16 kr16 => ?_)
    refine z_iload_n dX8_load_32 rfl 1 rfl ?_
    refine z_iald dX8_load_33 kr16 (fun v17 => ?_)
    refine z_iload_n dX8_load_34 rfl 2 rfl ?_
    refine z_iadd dX8_load_35 ?_
    refine z_bipush (v := 9) dX8_load_36 (by decide) ?_
    refine z_icmp_le (tgt := 44) dX8_load_38 (by first | decide | omega) (fun _ => ?_) (fun _ => ?_)
    · skip
      refine z_sub [0, 1, 2] rfl ?_
      exact zX8_load_b44 _ _ _ a0 l1 l2  k_a0 h
    · skip
      refine z_bipush (v := 11) dX8_load_41 (by decide) ?_
      exact z_iret dX8_load_43 rfl (en0 _ _ _ _) rfl
def fX8_load (κ : Kd) (a0 : Nat) (l1 : Int32) (l2 : Int32) (h : Hp) : Option (Int32 × Hp) :=
  if (κ a0).1 = 7 then (
  (fX8_isA κ a0 l1 (2 : Int32) h).bind fun v1 =>
  if v1 = 0 then (
    fX8_load_b19 κ a0 l1 l2  h
  ) else (
    to_ κ (g_R h a0 3) 50 fun r18 =>
    a_I κ h r18 l1 fun v19 =>
    w_I κ h r18 l1 (v19 + (1 : Int32)) fun h20 =>
    fX8_load_b19 κ a0 l1 l2  h20
  )) else none
set_option maxHeartbeats 4000000 in
set_option maxRecDepth 100000 in
theorem tX8_load (κ : Kd) (n lim : Nat) (h : Hp) (a0 : Nat) (l1 : Int32) (l2 : Int32) : Ct_ mX8_load [.ref (a0), .int (l1), .int (l2)] κ n lim h (eI κ n) (fX8_load κ a0 l1 l2 h) := by
  refine ct_of (by decide) (Nat.le_of_ble_eq_true rfl) ?_
  unfold fX8_load
  refine z_sub (L' := [(0, .ref (a0)), (1, .int (l1)), (2, .int (l2))]) [0, 1, 2] rfl ?_
  refine z_or (fun k_a0 => ?_)
  refine z_aload_n dX8_load_0 rfl 0 rfl ?_
  refine z_iload_n dX8_load_1 rfl 1 rfl ?_
  refine z_iconst (v := 2) dX8_load_2 (by decide) ?_
  refine z_pI (as := [.ref (a0), .int (l1), .int ((2 : Int32))]) (rn_V dX8_load_3 mf_X8_isA in_X8_isA lk_X8_65 ⟨by decide, by decide⟩ cl_6 rfl k_a0 rfl (Nat.le_of_ble_eq_true rfl)) (tX8_isA _ _ _ _ _ _ _) cz_X8_isA (c00 _) (fun v1 => ?_)
  refine z_if_eq (tgt := 19) dX8_load_6 (by first | decide | omega) (fun _ => ?_) (fun _ => ?_)
  · skip
    refine z_sub [0, 1, 2] rfl ?_
    exact zX8_load_b19 _ _ _ a0 l1 l2  k_a0 h
  · skip
    refine z_aload_n dX8_load_9 rfl 0 rfl ?_
    refine z_getR (kd := 50) dX8_load_10 fl_X8_21 k_a0 (fun r18 kr18 => ?_)
    refine z_iload_n dX8_load_13 rfl 1 rfl ?_
    refine z_dup2 dX8_load_14 rfl rfl ?_
    refine z_iald dX8_load_15 kr18 (fun v19 => ?_)
    refine z_iconst (v := 1) dX8_load_16 (by decide) ?_
    refine z_iadd dX8_load_17 ?_
    refine z_iast dX8_load_18 kr18 (fun h20 => ?_)
    refine z_sub [0, 1, 2] rfl ?_
    exact zX8_load_b19 _ _ _ a0 l1 l2  k_a0 h20
def fX8_glow (κ : Kd) (a0 : Nat) (l1 : Int32) (l2 : Int32) (h : Hp) : Option (Int32 × Hp) :=
  if (κ a0).1 = 7 then (
  (fX8_isA κ a0 l1 (4 : Int32) h).bind fun v1 =>
  if v1 = 0 then (
    some ((3 : Int32), h)
  ) else (
    (fX8_isA κ a0 l1 (5 : Int32) h).bind fun v2 =>
    if v2 = 0 then (
      lt_ (s_I h a0 6 ((5 : Int32) + l2)) fun h3 =>
      some ((0 : Int32), h3)
    ) else (
      to_ κ (g_R h a0 1) 50 fun r4 =>
      a_I κ h r4 l1 fun v5 =>
      lt_ (s_I h a0 6 ((3 : Int32) * v5)) fun h6 =>
      some ((0 : Int32), h6)
    )
  )) else none
set_option maxHeartbeats 4000000 in
set_option maxRecDepth 100000 in
theorem tX8_glow (κ : Kd) (n lim : Nat) (h : Hp) (a0 : Nat) (l1 : Int32) (l2 : Int32) : Ct_ mX8_glow [.ref (a0), .int (l1), .int (l2)] κ n lim h (eI κ n) (fX8_glow κ a0 l1 l2 h) := by
  refine ct_of (by decide) (Nat.le_of_ble_eq_true rfl) ?_
  unfold fX8_glow
  refine z_sub (L' := [(0, .ref (a0)), (1, .int (l1)), (2, .int (l2))]) [0, 1, 2] rfl ?_
  refine z_or (fun k_a0 => ?_)
  refine z_aload_n dX8_glow_0 rfl 0 rfl ?_
  refine z_iload_n dX8_glow_1 rfl 1 rfl ?_
  refine z_iconst (v := 4) dX8_glow_2 (by decide) ?_
  refine z_pI (as := [.ref (a0), .int (l1), .int ((4 : Int32))]) (rn_V dX8_glow_3 mf_X8_isA in_X8_isA lk_X8_65 ⟨by decide, by decide⟩ cl_6 rfl k_a0 rfl (Nat.le_of_ble_eq_true rfl)) (tX8_isA _ _ _ _ _ _ _) cz_X8_isA (c00 _) (fun v1 => ?_)
  refine z_if_ne (tgt := 11) dX8_glow_6 (by first | decide | omega) (fun _ => ?_) (fun _ => ?_)
  · skip
    refine z_aload_n dX8_glow_11 rfl 0 rfl ?_
    refine z_aload_n dX8_glow_12 rfl 0 rfl ?_
    refine z_iload_n dX8_glow_13 rfl 1 rfl ?_
    refine z_iconst (v := 5) dX8_glow_14 (by decide) ?_
    refine z_pI (as := [.ref (a0), .int (l1), .int ((5 : Int32))]) (rn_V dX8_glow_15 mf_X8_isA in_X8_isA lk_X8_65 ⟨by decide, by decide⟩ cl_6 rfl k_a0 rfl (Nat.le_of_ble_eq_true rfl)) (tX8_isA _ _ _ _ _ _ _) cz_X8_isA (c00 _) (fun v2 => ?_)
    refine z_if_eq (tgt := 32) dX8_glow_18 (by first | decide | omega) (fun _ => ?_) (fun _ => ?_)
    · skip
      refine z_iconst (v := 5) dX8_glow_32 (by decide) ?_
      refine z_iload_n dX8_glow_33 rfl 2 rfl ?_
      refine z_iadd dX8_glow_34 ?_
      refine z_putI dX8_glow_35 fl_X8_72 (Or.inl rfl) k_a0 (fun h3 => ?_)
      refine z_iconst (v := 0) dX8_glow_38 (by decide) ?_
      exact z_iret dX8_glow_39 rfl (en0 _ _ _ _) rfl
    · skip
      refine z_iconst (v := 3) dX8_glow_21 (by decide) ?_
      refine z_aload_n dX8_glow_22 rfl 0 rfl ?_
      refine z_getR (kd := 50) dX8_glow_23 fl_X8_15 k_a0 (fun r4 kr4 => ?_)
      refine z_iload_n dX8_glow_26 rfl 1 rfl ?_
      refine z_iald dX8_glow_27 kr4 (fun v5 => ?_)
      refine z_imul dX8_glow_28 ?_
      refine z_goto (tgt := 35) dX8_glow_29 (by decide) ?_
      refine z_putI dX8_glow_35 fl_X8_72 (Or.inl rfl) k_a0 (fun h6 => ?_)
      refine z_iconst (v := 0) dX8_glow_38 (by decide) ?_
      exact z_iret dX8_glow_39 rfl (en0 _ _ _ _) rfl
  · skip
    refine z_iconst (v := 3) dX8_glow_9 (by decide) ?_
    exact z_iret dX8_glow_10 rfl (en0 _ _ _ _) rfl
