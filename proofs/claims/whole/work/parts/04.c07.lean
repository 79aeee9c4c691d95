def fX7_addOp (κ : Kd) (a0 : Nat) (l1 : Int32) (l2 : Int32) (l3 : Int32) (h : Hp) : Option (Int32 × Hp) :=
  if (κ a0).1 = 6 then (
  if (g_I h a0 8) < (30 : Int32) then (
    to_ κ (g_R h a0 1) 50 fun r1 =>
    w_I κ h r1 (g_I h a0 8) l1 fun h2 =>
    to_ κ (g_R h2 a0 2) 50 fun r3 =>
    w_I κ h2 r3 (g_I h2 a0 8) l2 fun h4 =>
    to_ κ (g_R h4 a0 3) 50 fun r5 =>
    w_I κ h4 r5 (g_I h4 a0 8) l3 fun h6 =>
    lt_ (s_I h6 a0 8 ((g_I h6 a0 8) + (1 : Int32))) fun h7 =>
    some ((g_I h7 a0 8) - (1 : Int32), h7)
  ) else (
    some ((-1000001 : Int32), h)
  )) else none
set_option maxHeartbeats 4000000 in
set_option maxRecDepth 100000 in
theorem tX7_addOp (κ : Kd) (n lim : Nat) (h : Hp) (a0 : Nat) (l1 : Int32) (l2 : Int32) (l3 : Int32) : Ct_ mX7_addOp [.ref (a0), .int (l1), .int (l2), .int (l3)] κ n lim h (eI κ n) (fX7_addOp κ a0 l1 l2 l3 h) := by
  refine ct_of (by decide) (Nat.le_of_ble_eq_true rfl) ?_
  unfold fX7_addOp
  refine z_sub (L' := [(0, .ref (a0)), (1, .int (l1)), (2, .int (l2)), (3, .int (l3))]) [0, 1, 2, 3] rfl ?_
  refine z_or (fun k_a0 => ?_)
  refine z_aload_n dX7_addOp_0 rfl 0 rfl ?_
  refine z_getI dX7_addOp_1 fl_X7_52 k_a0 ?_
  refine z_bipush (v := 30) dX7_addOp_4 (by decide) ?_
  refine z_icmp_lt (tgt := 12) dX7_addOp_6 (by first | decide | omega) (fun _ => ?_) (fun _ => ?_)
  · skip
    refine z_aload_n dX7_addOp_12 rfl 0 rfl ?_
    refine z_getR (kd := 50) dX7_addOp_13 fl_X7_9 k_a0 (fun r1 kr1 => ?_)
    refine z_aload_n dX7_addOp_16 rfl 0 rfl ?_
    refine z_getI dX7_addOp_17 fl_X7_52 k_a0 ?_
    refine z_iload_n dX7_addOp_20 rfl 1 rfl ?_
    refine z_iast dX7_addOp_21 kr1 (fun h2 => ?_)
    refine z_aload_n dX7_addOp_22 rfl 0 rfl ?_
    refine z_getR (kd := 50) dX7_addOp_23 fl_X7_15 k_a0 (fun r3 kr3 => ?_)
    refine z_aload_n dX7_addOp_26 rfl 0 rfl ?_
    refine z_getI dX7_addOp_27 fl_X7_52 k_a0 ?_
    refine z_iload_n dX7_addOp_30 rfl 2 rfl ?_
    refine z_iast dX7_addOp_31 kr3 (fun h4 => ?_)
    refine z_aload_n dX7_addOp_32 rfl 0 rfl ?_
    refine z_getR (kd := 50) dX7_addOp_33 fl_X7_18 k_a0 (fun r5 kr5 => ?_)
    refine z_aload_n dX7_addOp_36 rfl 0 rfl ?_
    refine z_getI dX7_addOp_37 fl_X7_52 k_a0 ?_
    refine z_iload_n dX7_addOp_40 rfl 3 rfl ?_
    refine z_iast dX7_addOp_41 kr5 (fun h6 => ?_)
    refine z_aload_n dX7_addOp_42 rfl 0 rfl ?_
    refine z_dup dX7_addOp_43 rfl ?_
    refine z_getI dX7_addOp_44 fl_X7_52 k_a0 ?_
    refine z_iconst (v := 1) dX7_addOp_47 (by decide) ?_
    refine z_iadd dX7_addOp_48 ?_
    refine z_putI dX7_addOp_49 fl_X7_52 (Or.inl rfl) k_a0 (fun h7 => ?_)
    refine z_aload_n dX7_addOp_52 rfl 0 rfl ?_
    refine z_getI dX7_addOp_53 fl_X7_52 k_a0 ?_
    refine z_iconst (v := 1) dX7_addOp_56 (by decide) ?_
    refine z_isub dX7_addOp_57 ?_
    exact z_iret dX7_addOp_58 rfl (en0 _ _ _ _) rfl
  · skip
    refine z_ldc dX7_addOp_9 co_X7_55 ?_
    exact z_iret dX7_addOp_11 rfl (en0 _ _ _ _) rfl
def fX7_addGuard (κ : Kd) (a0 : Nat) (l1 : Int32) (l2 : Int32) (l3 : Int32) (l4 : Int32) (h : Hp) : Option (Int32 × Hp) :=
  if (κ a0).1 = 6 then (
  if (g_I h a0 9) < (4 : Int32) then (
    to_ κ (g_R h a0 4) 50 fun r1 =>
    w_I κ h r1 (g_I h a0 9) l1 fun h2 =>
    to_ κ (g_R h2 a0 5) 50 fun r3 =>
    w_I κ h2 r3 (g_I h2 a0 9) l2 fun h4 =>
    to_ κ (g_R h4 a0 6) 50 fun r5 =>
    w_I κ h4 r5 (g_I h4 a0 9) l3 fun h6 =>
    to_ κ (g_R h6 a0 7) 50 fun r7 =>
    w_I κ h6 r7 (g_I h6 a0 9) l4 fun h8 =>
    lt_ (s_I h8 a0 9 ((g_I h8 a0 9) + (1 : Int32))) fun h9 =>
    some ((g_I h9 a0 9) - (1 : Int32), h9)
  ) else (
    some ((-1000001 : Int32), h)
  )) else none
set_option maxHeartbeats 4000000 in
set_option maxRecDepth 100000 in
theorem tX7_addGuard (κ : Kd) (n lim : Nat) (h : Hp) (a0 : Nat) (l1 : Int32) (l2 : Int32) (l3 : Int32) (l4 : Int32) : Ct_ mX7_addGuard [.ref (a0), .int (l1), .int (l2), .int (l3), .int (l4)] κ n lim h (eI κ n) (fX7_addGuard κ a0 l1 l2 l3 l4 h) := by
  refine ct_of (by decide) (Nat.le_of_ble_eq_true rfl) ?_
  unfold fX7_addGuard
  refine z_sub (L' := [(0, .ref (a0)), (1, .int (l1)), (2, .int (l2)), (3, .int (l3)), (4, .int (l4))]) [0, 1, 2, 3, 4] rfl ?_
  refine z_or (fun k_a0 => ?_)
  refine z_aload_n dX7_addGuard_0 rfl 0 rfl ?_
  refine z_getI dX7_addGuard_1 fl_X7_56 k_a0 ?_
  refine z_iconst (v := 4) dX7_addGuard_4 (by decide) ?_
  refine z_icmp_lt (tgt := 11) dX7_addGuard_5 (by first | decide | omega) (fun _ => ?_) (fun _ => ?_)
  · skip
    refine z_aload_n dX7_addGuard_11 rfl 0 rfl ?_
    refine z_getR (kd := 50) dX7_addGuard_12 fl_X7_21 k_a0 (fun r1 kr1 => ?_)
    refine z_aload_n dX7_addGuard_15 rfl 0 rfl ?_
    refine z_getI dX7_addGuard_16 fl_X7_56 k_a0 ?_
    refine z_iload_n dX7_addGuard_19 rfl 1 rfl ?_
    refine z_iast dX7_addGuard_20 kr1 (fun h2 => ?_)
    refine z_aload_n dX7_addGuard_21 rfl 0 rfl ?_
    refine z_getR (kd := 50) dX7_addGuard_22 fl_X7_24 k_a0 (fun r3 kr3 => ?_)
    refine z_aload_n dX7_addGuard_25 rfl 0 rfl ?_
    refine z_getI dX7_addGuard_26 fl_X7_56 k_a0 ?_
    refine z_iload_n dX7_addGuard_29 rfl 2 rfl ?_
    refine z_iast dX7_addGuard_30 kr3 (fun h4 => ?_)
    refine z_aload_n dX7_addGuard_31 rfl 0 rfl ?_
    refine z_getR (kd := 50) dX7_addGuard_32 fl_X7_27 k_a0 (fun r5 kr5 => ?_)
    refine z_aload_n dX7_addGuard_35 rfl 0 rfl ?_
    refine z_getI dX7_addGuard_36 fl_X7_56 k_a0 ?_
    refine z_iload_n dX7_addGuard_39 rfl 3 rfl ?_
    refine z_iast dX7_addGuard_40 kr5 (fun h6 => ?_)
    refine z_aload_n dX7_addGuard_41 rfl 0 rfl ?_
    refine z_getR (kd := 50) dX7_addGuard_42 fl_X7_30 k_a0 (fun r7 kr7 => ?_)
    refine z_aload_n dX7_addGuard_45 rfl 0 rfl ?_
    refine z_getI dX7_addGuard_46 fl_X7_56 k_a0 ?_
    refine z_iload dX7_addGuard_49 4 rfl ?_
    refine z_iast dX7_addGuard_51 kr7 (fun h8 => ?_)
    refine z_aload_n dX7_addGuard_52 rfl 0 rfl ?_
    refine z_dup dX7_addGuard_53 rfl ?_
    refine z_getI dX7_addGuard_54 fl_X7_56 k_a0 ?_
    refine z_iconst (v := 1) dX7_addGuard_57 (by decide) ?_
    refine z_iadd dX7_addGuard_58 ?_
    refine z_putI dX7_addGuard_59 fl_X7_56 (Or.inl rfl) k_a0 (fun h9 => ?_)
    refine z_aload_n dX7_addGuard_62 rfl 0 rfl ?_
    refine z_getI dX7_addGuard_63 fl_X7_56 k_a0 ?_
    refine z_iconst (v := 1) dX7_addGuard_66 (by decide) ?_
    refine z_isub dX7_addGuard_67 ?_
    exact z_iret dX7_addGuard_68 rfl (en0 _ _ _ _) rfl
  · skip
    refine z_ldc dX7_addGuard_8 co_X7_55 ?_
    exact z_iret dX7_addGuard_10 rfl (en0 _ _ _ _) rfl
def fX8_bring (κ : Kd) (a0 : Nat) (l1 : Int32) (h : Hp) : Option (Int32 × Hp) :=
  if (κ a0).1 = 7 then (
  if (g_I h a0 5) < (12 : Int32) then (
    to_ κ (g_R h a0 0) 50 fun r1 =>
    w_I κ h r1 (g_I h a0 5) l1 fun h2 =>
    lt_ (s_I h2 a0 5 ((g_I h2 a0 5) + (1 : Int32))) fun h3 =>
    some ((g_I h3 a0 5) - (1 : Int32), h3)
  ) else (
    some ((-1000001 : Int32), h)
  )) else none
set_option maxHeartbeats 4000000 in
set_option maxRecDepth 100000 in
theorem tX8_bring (κ : Kd) (n lim : Nat) (h : Hp) (a0 : Nat) (l1 : Int32) : Ct_ mX8_bring [.ref (a0), .int (l1)] κ n lim h (eI κ n) (fX8_bring κ a0 l1 h) := by
  refine ct_of (by decide) (Nat.le_of_ble_eq_true rfl) ?_
  unfold fX8_bring
  refine z_sub (L' := [(0, .ref (a0)), (1, .int (l1))]) [0, 1] rfl ?_
  refine z_or (fun k_a0 => ?_)
  refine z_aload_n dX8_bring_0 rfl 0 rfl ?_
  refine z_getI dX8_bring_1 fl_X8_33 k_a0 ?_
  refine z_bipush (v := 12) dX8_bring_4 (by decide) ?_
  refine z_icmp_lt (tgt := 12) dX8_bring_6 (by first | decide | omega) (fun _ => ?_) (fun _ => ?_)
  · skip
    refine z_aload_n dX8_bring_12 rfl 0 rfl ?_
    refine z_getR (kd := 50) dX8_bring_13 fl_X8_9 k_a0 (fun r1 kr1 => ?_)
    refine z_aload_n dX8_bring_16 rfl 0 rfl ?_
    refine z_getI dX8_bring_17 fl_X8_33 k_a0 ?_
    refine z_iload_n dX8_bring_20 rfl 1 rfl ?_
    refine z_iast dX8_bring_21 kr1 (fun h2 => ?_)
    refine z_aload_n dX8_bring_22 rfl 0 rfl ?_
    refine z_dup dX8_bring_23 rfl ?_
    refine z_getI dX8_bring_24 fl_X8_33 k_a0 ?_
    refine z_iconst (v := 1) dX8_bring_27 (by decide) ?_
    refine z_iadd dX8_bring_28 ?_
    refine z_putI dX8_bring_29 fl_X8_33 (Or.inl rfl) k_a0 (fun h3 => ?_)
    refine z_aload_n dX8_bring_32 rfl 0 rfl ?_
    refine z_getI dX8_bring_33 fl_X8_33 k_a0 ?_
    refine z_iconst (v := 1) dX8_bring_36 (by decide) ?_
    refine z_isub dX8_bring_37 ?_
    exact z_iret dX8_bring_38 rfl (en0 _ _ _ _) rfl
  · skip
    refine z_ldc dX8_bring_9 co_X8_37 ?_
    exact z_iret dX8_bring_11 rfl (en0 _ _ _ _) rfl
def fX8_tell (κ : Kd) (a0 : Nat) (l1 : Int32) (l2 : Int32) (h : Hp) : Option (Int32) :=
  if (κ a0).1 = 7 then (
  if l2 = (0 : Int32) then (
    to_ κ (g_R h a0 0) 50 fun r1 =>
    a_I κ h r1 l1 fun v2 =>
    some (v2)
  ) else
  if l2 = (1 : Int32) then (
    to_ κ (g_R h a0 1) 50 fun r5 =>
    a_I κ h r5 l1 fun v6 =>
    some (v6)
  ) else
  if l2 = (2 : Int32) then (
    to_ κ (g_R h a0 2) 50 fun r9 =>
    a_I κ h r9 l1 fun v10 =>
    some (v10)
  ) else
  if l2 = (3 : Int32) then (
    to_ κ (g_R h a0 3) 50 fun r13 =>
    a_I κ h r13 l1 fun v14 =>
    some (v14)
  ) else
  if l2 = (4 : Int32) then (
    (fX8_placesOf κ a0 l1 h).bind fun v17 =>
    some (v17)
  ) else
  (
    if l2 < (5 : Int32) then (
      some ((0 : Int32))
    ) else (
      (fX8_placesOf κ a0 l1 h).bind fun v20 =>
      if v20 ≤ (l2 - (5 : Int32)) then (
        some ((0 : Int32))
      ) else (
        (fX8_lies κ a0 l1 (l2 - (5 : Int32)) h).bind fun v21 =>
        some (v21)
      )
    )
  )) else none
set_option maxHeartbeats 4000000 in
set_option maxRecDepth 100000 in
theorem tX8_tell (κ : Kd) (n lim : Nat) (h : Hp) (a0 : Nat) (l1 : Int32) (l2 : Int32) : Ct_ mX8_tell [.ref (a0), .int (l1), .int (l2)] κ n lim h (pI κ n h) (fX8_tell κ a0 l1 l2 h) := by
  refine ct_of (by decide) (Nat.le_of_ble_eq_true rfl) ?_
  unfold fX8_tell
  refine z_sub (L' := [(0, .ref (a0)), (1, .int (l1)), (2, .int (l2))]) [0, 1, 2] rfl ?_
  refine z_or (fun k_a0 => ?_)
  refine z_iload_n dX8_tell_0 rfl 2 rfl ?_
  refine z_ite (fun c4 => ?_) (fun n3 => ?_)
  · refine z_tin (tgt := 36) dX8_tell_1 (0) c4 (by decide) (by decide) rfl (by decide) ?_
    refine z_aload_n dX8_tell_36 rfl 0 rfl ?_
    refine z_getR (kd := 50) dX8_tell_37 fl_X8_9 k_a0 (fun r1 kr1 => ?_)
    refine z_iload_n dX8_tell_40 rfl 1 rfl ?_
    refine z_iald dX8_tell_41 kr1 (fun v2 => ?_)
    exact z_iret dX8_tell_42 rfl (en0 _ _ _ _) rfl
  refine z_ite (fun c8 => ?_) (fun n7 => ?_)
  · refine z_tin (tgt := 43) dX8_tell_1 (1) c8 (by decide) (by decide) rfl (by decide) ?_
    refine z_aload_n dX8_tell_43 rfl 0 rfl ?_
    refine z_getR (kd := 50) dX8_tell_44 fl_X8_15 k_a0 (fun r5 kr5 => ?_)
    refine z_iload_n dX8_tell_47 rfl 1 rfl ?_
    refine z_iald dX8_tell_48 kr5 (fun v6 => ?_)
    exact z_iret dX8_tell_49 rfl (en0 _ _ _ _) rfl
  refine z_ite (fun c12 => ?_) (fun n11 => ?_)
  · refine z_tin (tgt := 50) dX8_tell_1 (2) c12 (by decide) (by decide) rfl (by decide) ?_
    refine z_aload_n dX8_tell_50 rfl 0 rfl ?_
    refine z_getR (kd := 50) dX8_tell_51 fl_X8_18 k_a0 (fun r9 kr9 => ?_)
    refine z_iload_n dX8_tell_54 rfl 1 rfl ?_
    refine z_iald dX8_tell_55 kr9 (fun v10 => ?_)
    exact z_iret dX8_tell_56 rfl (en0 _ _ _ _) rfl
  refine z_ite (fun c16 => ?_) (fun n15 => ?_)
  · refine z_tin (tgt := 57) dX8_tell_1 (3) c16 (by decide) (by decide) rfl (by decide) ?_
    refine z_aload_n dX8_tell_57 rfl 0 rfl ?_
    refine z_getR (kd := 50) dX8_tell_58 fl_X8_21 k_a0 (fun r13 kr13 => ?_)
    refine z_iload_n dX8_tell_61 rfl 1 rfl ?_
    refine z_iald dX8_tell_62 kr13 (fun v14 => ?_)
    exact z_iret dX8_tell_63 rfl (en0 _ _ _ _) rfl
  refine z_ite (fun c19 => ?_) (fun n18 => ?_)
  · refine z_tin (tgt := 64) dX8_tell_1 (4) c19 (by decide) (by decide) rfl (by decide) ?_
    refine z_aload_n dX8_tell_64 rfl 0 rfl ?_
    refine z_iload_n dX8_tell_65 rfl 1 rfl ?_
    refine z_pI (as := [.ref (a0), .int (l1)]) (rn_V dX8_tell_66 mf_X8_placesOf in_X8_placesOf lk_X8_38 ⟨by decide, by decide⟩ cl_6 rfl k_a0 rfl (Nat.le_of_ble_eq_true rfl)) (tX8_placesOf _ _ _ _ _ _) cz_X8_placesOf (c00 _) (fun v17 => ?_)
    exact z_iret dX8_tell_69 rfl (en0 _ _ _ _) rfl
  refine z_tdef (tgt := 70) dX8_tell_1 [0, 1, 2, 3, 4] (List.forall_mem_cons.mpr ⟨n3, List.forall_mem_cons.mpr ⟨n7, List.forall_mem_cons.mpr ⟨n11, List.forall_mem_cons.mpr ⟨n15, List.forall_mem_cons.mpr ⟨n18, fun _ h => absurd h List.not_mem_nil⟩⟩⟩⟩⟩) (by decide +kernel) (by decide) ?_
  refine z_iload_n dX8_tell_70 rfl 2 rfl ?_
  refine z_iconst (v := 5) dX8_tell_71 (by decide) ?_
  refine z_icmp_lt (tgt := 97) dX8_tell_72 (by first | decide | omega) (fun _ => ?_) (fun _ => ?_)
  · skip
    refine z_iconst (v := 0) dX8_tell_97 (by decide) ?_
    exact z_iret dX8_tell_98 rfl (en0 _ _ _ _) rfl
  · skip
    refine z_iload_n dX8_tell_75 rfl 2 rfl ?_
    refine z_iconst (v := 5) dX8_tell_76 (by decide) ?_
    refine z_isub dX8_tell_77 ?_
    refine z_aload_n dX8_tell_78 rfl 0 rfl ?_
    refine z_iload_n dX8_tell_79 rfl 1 rfl ?_
    refine z_pI (as := [.ref (a0), .int (l1)]) (rn_V dX8_tell_80 mf_X8_placesOf in_X8_placesOf lk_X8_38 ⟨by decide, by decide⟩ cl_6 rfl k_a0 rfl (Nat.le_of_ble_eq_true rfl)) (tX8_placesOf _ _ _ _ _ _) cz_X8_placesOf (c00 _) (fun v20 => ?_)
    refine z_icmp_ge (tgt := 97) dX8_tell_83 (by first | decide | omega) (fun _ => ?_) (fun _ => ?_)
    · skip
      refine z_iconst (v := 0) dX8_tell_97 (by decide) ?_
      exact z_iret dX8_tell_98 rfl (en0 _ _ _ _) rfl
    · skip
      refine z_aload_n dX8_tell_86 rfl 0 rfl ?_
      refine z_iload_n dX8_tell_87 rfl 1 rfl ?_
      refine z_iload_n dX8_tell_88 rfl 2 rfl ?_
      refine z_iconst (v := 5) dX8_tell_89 (by decide) ?_
      refine z_isub dX8_tell_90 ?_
      refine z_pI (as := [.ref (a0), .int (l1), .int (l2 - (5 : Int32))]) (rn_V dX8_tell_91 mf_X8_lies in_X8_lies lk_X8_42 ⟨by decide, by decide⟩ cl_6 rfl k_a0 rfl (Nat.le_of_ble_eq_true rfl)) (tX8_lies _ _ _ _ _ _ _) cz_X8_lies (c00 _) (fun v21 => ?_)
      refine z_goto (tgt := 98) dX8_tell_94 (by decide) ?_
      exact z_iret dX8_tell_98 rfl (en0 _ _ _ _) rfl
abbrev kX9_init_1 (κ : Kd) (n : Nat) : Kd := up_K κ n (4, 0)
abbrev kX9_init_2 (κ : Kd) (n : Nat) : Kd := kX4_init (kX9_init_1 κ n) (n + 1)
abbrev kX9_init (κ : Kd) (n : Nat) : Kd := kX9_init_2 κ n
theorem lvk_X9_init {κ : Kd} {n : Nat} (hv : Lv_ κ n) : Lv_ (kX9_init κ n) (n + 104) := by
  have hv := lv_up (v := (4, 0)) hv
  have hv := lvk_X4_init hv
  exact hv
theorem kp_X9_init {κ : Kd} {n b x : Nat} (hv : Lv_ κ n) (hb : (κ b).1 = x) (hx : x ≠ 0) : (kX9_init κ n b).1 = x := by
  have hb := up_ne (v := (4, 0)) hv hb hx
  have hv := lv_up (v := (4, 0)) hv
  have hb := kp_X4_init hv hb hx
  have hv := lvk_X4_init hv
  exact hb
def fX9_init (κ : Kd) (n : Nat) (a0 : Nat) (h : Hp) : Option (Hp) :=
  if (κ a0).1 = 8 then (
  lt_ (nw_ h n) fun h1 =>
  (fX4_init (kX9_init_1 κ n) (n + 1) n h1).bind fun h2 =>
  lt_ (s_R h2 a0 0 (some n)) fun h3 =>
  some h3) else none
set_option maxHeartbeats 4000000 in
set_option maxRecDepth 100000 in
theorem tX9_init (κ : Kd) (n lim : Nat) (h : Hp) (a0 : Nat) (hv : Lv_ κ n) (hl : n + 104 ≤ lim) : Ct_ mX9_init [.ref (a0)] κ n lim h (eV (kX9_init κ n) (n + 104)) (fX9_init κ n a0 h) := by
  refine ct_of (by decide) (Nat.le_of_ble_eq_true rfl) ?_
  unfold fX9_init
  refine z_sub (L' := [(0, .ref (a0))]) [0] rfl ?_
  refine z_or (fun k_a0 => ?_)
  refine z_aload_n dX9_init_0 rfl 0 rfl ?_
  refine z_oi dX9_init_1 oi_X9_1 ⟨by decide, Nat.le_of_ble_eq_true rfl⟩ ?_
  refine z_aload_n dX9_init_4 rfl 0 rfl ?_
  refine z_new dX9_init_5 cl_3 nc_X9_7 (by decide) (by decide) ⟨by omega, by decide, by decide⟩ (fun h1 => ?_)
  have k_a0 := up_ne (v := (4, 0)) hv k_a0 (by decide)
  have kn1 := up_eq κ n (4, 0)
  have hv := lv_up (v := (4, 0)) hv
  refine z_dup dX9_init_8 rfl ?_
  refine z_aV (as := [.ref (n)]) (rn_I dX9_init_9 mf_X4_init rfl in_X4_init lk_X9_9 ⟨by decide, by decide⟩ rfl (Nat.le_of_ble_eq_true rfl)) (tX4_init _ _ _ _ _ hv (by omega)) rfl ⟨by decide, by decide, rfl⟩ (fun h2 => ?_)
  have k_a0 := kp_X4_init hv k_a0 (by decide)
  have kn1 := kp_X4_init hv kn1 (by decide)
  have hv := lvk_X4_init hv
  refine z_putR dX9_init_12 fl_X9_10 (Or.inr ⟨rfl, rfl, ff_X9_10⟩) k_a0 (fun h3 => ?_)
  exact z_vret dX9_init_15 rfl ⟨Nat.le_of_ble_eq_true rfl, Nat.le_of_ble_eq_true rfl⟩ rfl
def fX9_row (κ : Kd) (a0 : Nat) (l1 : Int32) (l2 : Int32) (l3 : Int32) (h : Hp) : Option (Int32 × Hp) :=
  if (κ a0).1 = 8 then (
  (fX9_isRow κ l1 h).bind fun v1 =>
  if v1 = 0 then (
    some ((-1000000 : Int32), h)
  ) else (
    (fX9_isLane κ l2 h).bind fun v2 =>
    if v2 = 0 then (
      some ((-1000000 : Int32), h)
    ) else (
      to_ κ (g_R h a0 0) 4 fun r3 =>
      to_ κ (g_R h r3 0) 5 fun r4 =>
      b2 (fX5_renew κ r4 l1 l2 l3.toInt64 h) fun v5 h6 =>
      if v5 = 0 then (
        some (l3, h6)
      ) else (
        some ((-10 : Int32) - v5, h6)
      )
    )
  )) else none
set_option maxHeartbeats 4000000 in
set_option maxRecDepth 100000 in
theorem tX9_row (κ : Kd) (n lim : Nat) (h : Hp) (a0 : Nat) (l1 : Int32) (l2 : Int32) (l3 : Int32) : Ct_ mX9_row [.ref (a0), .int (l1), .int (l2), .int (l3)] κ n lim h (eI κ n) (fX9_row κ a0 l1 l2 l3 h) := by
  refine ct_of (by decide) (Nat.le_of_ble_eq_true rfl) ?_
  unfold fX9_row
  refine z_sub (L' := [(0, .ref (a0)), (1, .int (l1)), (2, .int (l2)), (3, .int (l3))]) [0, 1, 2, 3] rfl ?_
  refine z_or (fun k_a0 => ?_)
  refine z_iload_n dX9_row_0 rfl 1 rfl ?_
  refine z_pI (as := [.int (l1)]) (rn_S dX9_row_1 mf_X9_isRow in_X9_isRow lk_X9_16 ⟨by decide, by decide⟩ rfl (Nat.le_of_ble_eq_true rfl)) (tX9_isRow _ _ _ _ _) cz_X9_isRow (c00 _) (fun v1 => ?_)
  refine z_if_eq (tgt := 14) dX9_row_4 (by first | decide | omega) (fun _ => ?_) (fun _ => ?_)
  · skip
    refine z_ldc dX9_row_14 co_X9_23 ?_
    exact z_iret dX9_row_16 rfl (en0 _ _ _ _) rfl
  · skip
    refine z_iload_n dX9_row_7 rfl 2 rfl ?_
    refine z_pI (as := [.int (l2)]) (rn_S dX9_row_8 mf_X9_isLane in_X9_isLane lk_X9_20 ⟨by decide, by decide⟩ rfl (Nat.le_of_ble_eq_true rfl)) (tX9_isLane _ _ _ _ _) cz_X9_isLane (c00 _) (fun v2 => ?_)
    refine z_if_ne (tgt := 17) dX9_row_11 (by first | decide | omega) (fun _ => ?_) (fun _ => ?_)
    · skip
      refine z_aload_n dX9_row_17 rfl 0 rfl ?_
      refine z_getR (kd := 4) dX9_row_18 fl_X9_10 k_a0 (fun r3 kr3 => ?_)
      refine z_getR (kd := 5) dX9_row_21 fl_X9_24 kr3 (fun r4 kr4 => ?_)
      refine z_iload_n dX9_row_24 rfl 1 rfl ?_
      refine z_iload_n dX9_row_25 rfl 2 rfl ?_
      refine z_iload_n dX9_row_26 rfl 3 rfl ?_
      refine z_i2l dX9_row_27 ?_
      refine z_cI (as := [.ref (r4), .int (l1), .int (l2), .long (l3.toInt64)]) (rn_V dX9_row_28 mf_X5_renew in_X5_renew lk_X9_28 ⟨by decide, by decide⟩ cl_4 rfl kr4 rfl (Nat.le_of_ble_eq_true rfl)) (tX5_renew _ _ _ _ _ _ _ _) cz_X5_renew (c00 _) (fun v5 h6 => ?_)
      refine z_istore (L' := [(4, .int (v5)), (0, .ref (a0)), (1, .int (l1)), (2, .int (l2)), (3, .int (l3))]) dX9_row_31 (by decide) rfl ?_
      refine z_iload dX9_row_33 0 rfl ?_
      refine z_if_ne (tgt := 42) dX9_row_35 (by first | decide | omega) (fun _ => ?_) (fun _ => ?_)
      · skip
        refine z_bipush (v := -10) dX9_row_42 (by decide) ?_
        refine z_iload dX9_row_44 0 rfl ?_
        refine z_isub dX9_row_46 ?_
        exact z_iret dX9_row_47 rfl (en0 _ _ _ _) rfl
      · skip
        refine z_iload_n dX9_row_38 rfl 4 rfl ?_
        refine z_goto (tgt := 47) dX9_row_39 (by decide) ?_
        exact z_iret dX9_row_47 rfl (en0 _ _ _ _) rfl
    · skip
      refine z_ldc dX9_row_14 co_X9_23 ?_
      exact z_iret dX9_row_16 rfl (en0 _ _ _ _) rfl
def fX9_miss (κ : Kd) (a0 : Nat) (l1 : Int32) (h : Hp) : Option (Int32 × Hp) :=
  if (κ a0).1 = 8 then (
  (fX9_isRow κ l1 h).bind fun v1 =>
  if v1 = 0 then (
    some ((-1000000 : Int32), h)
  ) else (
    to_ κ (g_R h a0 0) 4 fun r2 =>
    to_ κ (g_R h r2 0) 5 fun r3 =>
    b2 (fX5_drop κ r3 l1 h) fun v4 h5 =>
    if v4 = 0 then (
      some ((0 : Int32), h5)
    ) else (
      some ((1 : Int32), h5)
    )
  )) else none
set_option maxHeartbeats 4000000 in
set_option maxRecDepth 100000 in
theorem tX9_miss (κ : Kd) (n lim : Nat) (h : Hp) (a0 : Nat) (l1 : Int32) : Ct_ mX9_miss [.ref (a0), .int (l1)] κ n lim h (eI κ n) (fX9_miss κ a0 l1 h) := by
  refine ct_of (by decide) (Nat.le_of_ble_eq_true rfl) ?_
  unfold fX9_miss
  refine z_sub (L' := [(0, .ref (a0)), (1, .int (l1))]) [0, 1] rfl ?_
  refine z_or (fun k_a0 => ?_)
  refine z_iload_n dX9_miss_0 rfl 1 rfl ?_
  refine z_pI (as := [.int (l1)]) (rn_S dX9_miss_1 mf_X9_isRow in_X9_isRow lk_X9_16 ⟨by decide, by decide⟩ rfl (Nat.le_of_ble_eq_true rfl)) (tX9_isRow _ _ _ _ _) cz_X9_isRow (c00 _) (fun v1 => ?_)
  refine z_if_ne (tgt := 10) dX9_miss_4 (by first | decide | omega) (fun _ => ?_) (fun _ => ?_)
  · skip
    refine z_aload_n dX9_miss_10 rfl 0 rfl ?_
    refine z_getR (kd := 4) dX9_miss_11 fl_X9_10 k_a0 (fun r2 kr2 => ?_)
    refine z_getR (kd := 5) dX9_miss_14 fl_X9_24 kr2 (fun r3 kr3 => ?_)
    refine z_iload_n dX9_miss_17 rfl 1 rfl ?_
    refine z_cI (as := [.ref (r3), .int (l1)]) (rn_V dX9_miss_18 mf_X5_drop in_X5_drop lk_X9_34 ⟨by decide, by decide⟩ cl_4 rfl kr3 rfl (Nat.le_of_ble_eq_true rfl)) (tX5_drop _ _ _ _ _ _) cz_X5_drop (c00 _) (fun v4 h5 => ?_)
    refine z_if_eq (tgt := 28) dX9_miss_21 (by first | decide | omega) (fun _ => ?_) (fun _ => ?_)
    · skip
      refine z_iconst (v := 0) dX9_miss_28 (by decide) ?_
      exact z_iret dX9_miss_29 rfl (en0 _ _ _ _) rfl
    · skip
      refine z_iconst (v := 1) dX9_miss_24 (by decide) ?_
      refine z_goto (tgt := 29) dX9_miss_25 (by decide) ?_
      exact z_iret dX9_miss_29 rfl (en0 _ _ _ _) rfl
  · skip
    refine z_ldc dX9_miss_7 co_X9_23 ?_
    exact z_iret dX9_miss_9 rfl (en0 _ _ _ _) rfl
def fX9_share (κ : Kd) (a0 : Nat) (l1 : Int32) (l2 : Int32) (h : Hp) : Option (Int32 × Hp) :=
  if (κ a0).1 = 8 then (
  (fX9_isRow κ l1 h).bind fun v1 =>
  if v1 = 0 then (
    some ((-1000000 : Int32), h)
  ) else (
    (fX9_isRow κ l2 h).bind fun v2 =>
    if v2 = 0 then (
      some ((-1000000 : Int32), h)
    ) else (
      to_ κ (g_R h a0 0) 4 fun r3 =>
      to_ κ (g_R h r3 0) 5 fun r4 =>
      b2 (fX5_join κ r4 l1 l2 h) fun v5 h6 =>
      if v5 = 0 then (
        some ((0 : Int32), h6)
      ) else (
        some ((1 : Int32), h6)
      )
    )
  )) else none
set_option maxHeartbeats 4000000 in
set_option maxRecDepth 100000 in
theorem tX9_share (κ : Kd) (n lim : Nat) (h : Hp) (a0 : Nat) (l1 : Int32) (l2 : Int32) : Ct_ mX9_share [.ref (a0), .int (l1), .int (l2)] κ n lim h (eI κ n) (fX9_share κ a0 l1 l2 h) := by
  refine ct_of (by decide) (Nat.le_of_ble_eq_true rfl) ?_
  unfold fX9_share
  refine z_sub (L' := [(0, .ref (a0)), (1, .int (l1)), (2, .int (l2))]) [0, 1, 2] rfl ?_
  refine z_or (fun k_a0 => ?_)
  refine z_iload_n dX9_share_0 rfl 1 rfl ?_
  refine z_pI (as := [.int (l1)]) (rn_S dX9_share_1 mf_X9_isRow in_X9_isRow lk_X9_16 ⟨by decide, by decide⟩ rfl (Nat.le_of_ble_eq_true rfl)) (tX9_isRow _ _ _ _ _) cz_X9_isRow (c00 _) (fun v1 => ?_)
  refine z_if_eq (tgt := 14) dX9_share_4 (by first | decide | omega) (fun _ => ?_) (fun _ => ?_)
  · skip
    refine z_ldc dX9_share_14 co_X9_23 ?_
    exact z_iret dX9_share_16 rfl (en0 _ _ _ _) rfl
  · skip
    refine z_iload_n dX9_share_7 rfl 2 rfl ?_
    refine z_pI (as := [.int (l2)]) (rn_S dX9_share_8 mf_X9_isRow in_X9_isRow lk_X9_16 ⟨by decide, by decide⟩ rfl (Nat.le_of_ble_eq_true rfl)) (tX9_isRow _ _ _ _ _) cz_X9_isRow (c00 _) (fun v2 => ?_)
    refine z_if_ne (tgt := 17) dX9_share_11 (by first | decide | omega) (fun _ => ?_) (fun _ => ?_)
    · skip
      refine z_aload_n dX9_share_17 rfl 0 rfl ?_
      refine z_getR (kd := 4) dX9_share_18 fl_X9_10 k_a0 (fun r3 kr3 => ?_)
      refine z_getR (kd := 5) dX9_share_21 fl_X9_24 kr3 (fun r4 kr4 => ?_)
      refine z_iload_n dX9_share_24 rfl 1 rfl ?_
      refine z_iload_n dX9_share_25 rfl 2 rfl ?_
      refine z_cI (as := [.ref (r4), .int (l1), .int (l2)]) (rn_V dX9_share_26 mf_X5_join in_X5_join lk_X9_37 ⟨by decide, by decide⟩ cl_4 rfl kr4 rfl (Nat.le_of_ble_eq_true rfl)) (tX5_join _ _ _ _ _ _ _) cz_X5_join (c00 _) (fun v5 h6 => ?_)
      refine z_if_eq (tgt := 36) dX9_share_29 (by first | decide | omega) (fun _ => ?_) (fun _ => ?_)
      · skip
        refine z_iconst (v := 0) dX9_share_36 (by decide) ?_
        exact z_iret dX9_share_37 rfl (en0 _ _ _ _) rfl
      · skip
        refine z_iconst (v := 1) dX9_share_32 (by decide) ?_
        refine z_goto (tgt := 37) dX9_share_33 (by decide) ?_
        exact z_iret dX9_share_37 rfl (en0 _ _ _ _) rfl
    · skip
      refine z_ldc dX9_share_14 co_X9_23 ?_
      exact z_iret dX9_share_16 rfl (en0 _ _ _ _) rfl
def fX9_put (κ : Kd) (a0 : Nat) (l1 : Int32) (l2 : Int32) (l3 : Int64) (h : Hp) : Option (Int32 × Hp) :=
  if (κ a0).1 = 8 then (
  (fX9_isRow κ l1 h).bind fun v1 =>
  if v1 = 0 then (
    some ((-1000000 : Int32), h)
  ) else (
    to_ κ (g_R h a0 0) 4 fun r2 =>
    to_ κ (g_R h r2 0) 5 fun r3 =>
    (fX5_reach κ r3 l1 l2.toInt64 h).bind fun v4 =>
    if v4 = 0 then (
      to_ κ (g_R h a0 0) 4 fun r5 =>
      to_ κ (g_R h r5 0) 5 fun r6 =>
      (fX5_store κ r6 l1 l2.toInt64 l3 h).bind fun h7 =>
      some ((1 : Int32), h7)
    ) else (
      some ((-10 : Int32) - v4, h)
    )
  )) else none
set_option maxHeartbeats 4000000 in
set_option maxRecDepth 100000 in
theorem tX9_put (κ : Kd) (n lim : Nat) (h : Hp) (a0 : Nat) (l1 : Int32) (l2 : Int32) (l3 : Int64) : Ct_ mX9_put [.ref (a0), .int (l1), .int (l2), .long (l3)] κ n lim h (eI κ n) (fX9_put κ a0 l1 l2 l3 h) := by
  refine ct_of (by decide) (Nat.le_of_ble_eq_true rfl) ?_
  unfold fX9_put
  refine z_sub (L' := [(0, .ref (a0)), (1, .int (l1)), (2, .int (l2)), (3, .long (l3))]) [0, 1, 2, 3] rfl ?_
  refine z_or (fun k_a0 => ?_)
  refine z_iload_n dX9_put_0 rfl 1 rfl ?_
  refine z_pI (as := [.int (l1)]) (rn_S dX9_put_1 mf_X9_isRow in_X9_isRow lk_X9_16 ⟨by decide, by decide⟩ rfl (Nat.le_of_ble_eq_true rfl)) (tX9_isRow _ _ _ _ _) cz_X9_isRow (c00 _) (fun v1 => ?_)
  refine z_if_ne (tgt := 10) dX9_put_4 (by first | decide | omega) (fun _ => ?_) (fun _ => ?_)
  · skip
    refine z_aload_n dX9_put_10 rfl 0 rfl ?_
    refine z_getR (kd := 4) dX9_put_11 fl_X9_10 k_a0 (fun r2 kr2 => ?_)
    refine z_getR (kd := 5) dX9_put_14 fl_X9_24 kr2 (fun r3 kr3 => ?_)
    refine z_iload_n dX9_put_17 rfl 1 rfl ?_
    refine z_iload_n dX9_put_18 rfl 2 rfl ?_
    refine z_i2l dX9_put_19 ?_
    refine z_pI (as := [.ref (r3), .int (l1), .long (l2.toInt64)]) (rn_V dX9_put_20 mf_X5_reach in_X5_reach lk_X9_41 ⟨by decide, by decide⟩ cl_4 rfl kr3 rfl (Nat.le_of_ble_eq_true rfl)) (tX5_reach _ _ _ _ _ _ _) cz_X5_reach (c00 _) (fun v4 => ?_)
    refine z_istore (L' := [(5, .int (v4)), (0, .ref (a0)), (1, .int (l1)), (2, .int (l2)), (3, .long (l3))]) dX9_put_23 (by decide) rfl ?_
    refine z_iload dX9_put_25 0 rfl ?_
    refine z_if_eq (tgt := 36) dX9_put_27 (by first | decide | omega) (fun _ => ?_) (fun _ => ?_)
    · skip
      refine z_aload_n dX9_put_36 rfl 1 rfl ?_
      refine z_getR (kd := 4) dX9_put_37 fl_X9_10 k_a0 (fun r5 kr5 => ?_)
      refine z_getR (kd := 5) dX9_put_40 fl_X9_24 kr5 (fun r6 kr6 => ?_)
      refine z_iload_n dX9_put_43 rfl 2 rfl ?_
      refine z_iload_n dX9_put_44 rfl 3 rfl ?_
      refine z_i2l dX9_put_45 ?_
      refine z_lload_n dX9_put_46 rfl 4 rfl ?_
      refine z_cV (as := [.ref (r6), .int (l1), .long (l2.toInt64), .long (l3)]) (rn_V dX9_put_47 mf_X5_store in_X5_store lk_X9_45 ⟨by decide, by decide⟩ cl_4 rfl kr6 rfl (Nat.le_of_ble_eq_true rfl)) (tX5_store _ _ _ _ _ _ _ _) cz_X5_store (c00 _) (fun h7 => ?_)
      refine z_iconst (v := 1) dX9_put_50 (by decide) ?_
      exact z_iret dX9_put_51 rfl (en0 _ _ _ _) rfl
    · skip
      refine z_bipush (v := -10) dX9_put_30 (by decide) ?_
      refine z_iload dX9_put_32 0 rfl ?_
      refine z_isub dX9_put_34 ?_
      exact z_iret dX9_put_35 rfl (en0 _ _ _ _) rfl
  · skip
    refine z_ldc dX9_put_7 co_X9_23 ?_
    exact z_iret dX9_put_9 rfl (en0 _ _ _ _) rfl
def fX9_item (κ : Kd) (a0 : Nat) (l1 : Int32) (l2 : Int32) (h : Hp) : Option (Int64) :=
  if (κ a0).1 = 8 then (
  (fX9_isRow κ l1 h).bind fun v1 =>
  if v1 = 0 then (
    some ((0 : Int64))
  ) else (
    to_ κ (g_R h a0 0) 4 fun r2 =>
    to_ κ (g_R h r2 0) 5 fun r3 =>
    (fX5_reach κ r3 l1 l2.toInt64 h).bind fun v4 =>
    if v4 = 0 then (
      to_ κ (g_R h a0 0) 4 fun r5 =>
      to_ κ (g_R h r5 0) 5 fun r6 =>
      (fX5_valueAt κ r6 l1 l2.toInt64 h).bind fun v7 =>
      some (v7)
    ) else (
      some ((0 : Int64))
    )
  )) else none
set_option maxHeartbeats 4000000 in
set_option maxRecDepth 100000 in
theorem tX9_item (κ : Kd) (n lim : Nat) (h : Hp) (a0 : Nat) (l1 : Int32) (l2 : Int32) : Ct_ mX9_item [.ref (a0), .int (l1), .int (l2)] κ n lim h (pJ κ n h) (fX9_item κ a0 l1 l2 h) := by
  refine ct_of (by decide) (Nat.le_of_ble_eq_true rfl) ?_
  unfold fX9_item
  refine z_sub (L' := [(0, .ref (a0)), (1, .int (l1)), (2, .int (l2))]) [0, 1, 2] rfl ?_
  refine z_or (fun k_a0 => ?_)
  refine z_iload_n dX9_item_0 rfl 1 rfl ?_
  refine z_pI (as := [.int (l1)]) (rn_S dX9_item_1 mf_X9_isRow in_X9_isRow lk_X9_16 ⟨by decide, by decide⟩ rfl (Nat.le_of_ble_eq_true rfl)) (tX9_isRow _ _ _ _ _) cz_X9_isRow (c00 _) (fun v1 => ?_)
  refine z_if_eq (tgt := 23) dX9_item_4 (by first | decide | omega) (fun _ => ?_) (fun _ => ?_)
  · skip
    refine z_lconst (v := 0) dX9_item_23 (by decide) ?_
    exact z_lret dX9_item_24 rfl (en0 _ _ _ _) rfl
  · skip
    refine z_aload_n dX9_item_7 rfl 0 rfl ?_
    refine z_getR (kd := 4) dX9_item_8 fl_X9_10 k_a0 (fun r2 kr2 => ?_)
    refine z_getR (kd := 5) dX9_item_11 fl_X9_24 kr2 (fun r3 kr3 => ?_)
    refine z_iload_n dX9_item_14 rfl 1 rfl ?_
    refine z_iload_n dX9_item_15 rfl 2 rfl ?_
    refine z_i2l dX9_item_16 ?_
    refine z_pI (as := [.ref (r3), .int (l1), .long (l2.toInt64)]) (rn_V dX9_item_17 mf_X5_reach in_X5_reach lk_X9_41 ⟨by decide, by decide⟩ cl_4 rfl kr3 rfl (Nat.le_of_ble_eq_true rfl)) (tX5_reach _ _ _ _ _ _ _) cz_X5_reach (c00 _) (fun v4 => ?_)
    refine z_if_eq (tgt := 25) dX9_item_20 (by first | decide | omega) (fun _ => ?_) (fun _ => ?_)
    · skip
      refine z_aload_n dX9_item_25 rfl 0 rfl ?_
      refine z_getR (kd := 4) dX9_item_26 fl_X9_10 k_a0 (fun r5 kr5 => ?_)
      refine z_getR (kd := 5) dX9_item_29 fl_X9_24 kr5 (fun r6 kr6 => ?_)
      refine z_iload_n dX9_item_32 rfl 1 rfl ?_
      refine z_iload_n dX9_item_33 rfl 2 rfl ?_
      refine z_i2l dX9_item_34 ?_
      refine z_pJ (as := [.ref (r6), .int (l1), .long (l2.toInt64)]) (rn_V dX9_item_35 mf_X5_valueAt in_X5_valueAt lk_X9_49 ⟨by decide, by decide⟩ cl_4 rfl kr6 rfl (Nat.le_of_ble_eq_true rfl)) (tX5_valueAt _ _ _ _ _ _ _) cz_X5_valueAt (c00 _) (fun v7 => ?_)
      exact z_lret dX9_item_38 rfl (en0 _ _ _ _) rfl
    · skip
      refine z_lconst (v := 0) dX9_item_23 (by decide) ?_
      exact z_lret dX9_item_24 rfl (en0 _ _ _ _) rfl
def fX9_about (κ : Kd) (a0 : Nat) (l1 : Int32) (l2 : Int32) (h : Hp) : Option (Int32) :=
  if (κ a0).1 = 8 then (
  (fX9_isRow κ l1 h).bind fun v1 =>
  if v1 = 0 then (
    some ((-1000000 : Int32))
  ) else (
    if l2 = (0 : Int32) then (
      to_ κ (g_R h a0 0) 4 fun r2 =>
      to_ κ (g_R h r2 0) 5 fun r3 =>
      (fX5_sizeOf κ r3 l1 h).bind fun v4 =>
      some (v4)
    ) else
    if l2 = (1 : Int32) then (
      to_ κ (g_R h a0 0) 4 fun r7 =>
      to_ κ (g_R h r7 0) 5 fun r8 =>
      (fX5_laneOf κ r8 l1 h).bind fun v9 =>
      some (v9)
    ) else
    if l2 = (2 : Int32) then (
      to_ κ (g_R h a0 0) 4 fun r12 =>
      to_ κ (g_R h r12 0) 5 fun r13 =>
      (fX5_leastSame κ r13 l1 h).bind fun v14 =>
      some (v14)
    ) else
    (
      some ((-1000000 : Int32))
    )
  )) else none
set_option maxHeartbeats 4000000 in
set_option maxRecDepth 100000 in
theorem tX9_about (κ : Kd) (n lim : Nat) (h : Hp) (a0 : Nat) (l1 : Int32) (l2 : Int32) : Ct_ mX9_about [.ref (a0), .int (l1), .int (l2)] κ n lim h (pI κ n h) (fX9_about κ a0 l1 l2 h) := by
  refine ct_of (by decide) (Nat.le_of_ble_eq_true rfl) ?_
  unfold fX9_about
  refine z_sub (L' := [(0, .ref (a0)), (1, .int (l1)), (2, .int (l2))]) [0, 1, 2] rfl ?_
  refine z_or (fun k_a0 => ?_)
  refine z_iload_n dX9_about_0 rfl 1 rfl ?_
  refine z_pI (as := [.int (l1)]) (rn_S dX9_about_1 mf_X9_isRow in_X9_isRow lk_X9_16 ⟨by decide, by decide⟩ rfl (Nat.le_of_ble_eq_true rfl)) (tX9_isRow _ _ _ _ _) cz_X9_isRow (c00 _) (fun v1 => ?_)
  refine z_if_ne (tgt := 10) dX9_about_4 (by first | decide | omega) (fun _ => ?_) (fun _ => ?_)
  · skip
    refine z_iload_n dX9_about_10 rfl 2 rfl ?_
    refine z_ite (fun c6 => ?_) (fun n5 => ?_)
    · refine z_tin (tgt := 36) dX9_about_11 (0) c6 (by decide) (by decide) rfl (by decide) ?_
      refine z_aload_n dX9_about_36 rfl 0 rfl ?_
      refine z_getR (kd := 4) dX9_about_37 fl_X9_10 k_a0 (fun r2 kr2 => ?_)
      refine z_getR (kd := 5) dX9_about_40 fl_X9_24 kr2 (fun r3 kr3 => ?_)
      refine z_iload_n dX9_about_43 rfl 1 rfl ?_
      refine z_pI (as := [.ref (r3), .int (l1)]) (rn_V dX9_about_44 mf_X5_sizeOf in_X5_sizeOf lk_X9_53 ⟨by decide, by decide⟩ cl_4 rfl kr3 rfl (Nat.le_of_ble_eq_true rfl)) (tX5_sizeOf _ _ _ _ _ _) cz_X5_sizeOf (c00 _) (fun v4 => ?_)
      exact z_iret dX9_about_47 rfl (en0 _ _ _ _) rfl
    refine z_ite (fun c11 => ?_) (fun n10 => ?_)
    · refine z_tin (tgt := 48) dX9_about_11 (1) c11 (by decide) (by decide) rfl (by decide) ?_
      refine z_aload_n dX9_about_48 rfl 0 rfl ?_
      refine z_getR (kd := 4) dX9_about_49 fl_X9_10 k_a0 (fun r7 kr7 => ?_)
      refine z_getR (kd := 5) dX9_about_52 fl_X9_24 kr7 (fun r8 kr8 => ?_)
      refine z_iload_n dX9_about_55 rfl 1 rfl ?_
      refine z_pI (as := [.ref (r8), .int (l1)]) (rn_V dX9_about_56 mf_X5_laneOf in_X5_laneOf lk_X9_57 ⟨by decide, by decide⟩ cl_4 rfl kr8 rfl (Nat.le_of_ble_eq_true rfl)) (tX5_laneOf _ _ _ _ _ _) cz_X5_laneOf (c00 _) (fun v9 => ?_)
      exact z_iret dX9_about_59 rfl (en0 _ _ _ _) rfl
    refine z_ite (fun c16 => ?_) (fun n15 => ?_)
    · refine z_tin (tgt := 60) dX9_about_11 (2) c16 (by decide) (by decide) rfl (by decide) ?_
      refine z_aload_n dX9_about_60 rfl 0 rfl ?_
      refine z_getR (kd := 4) dX9_about_61 fl_X9_10 k_a0 (fun r12 kr12 => ?_)
      refine z_getR (kd := 5) dX9_about_64 fl_X9_24 kr12 (fun r13 kr13 => ?_)
      refine z_iload_n dX9_about_67 rfl 1 rfl ?_
      refine z_pI (as := [.ref (r13), .int (l1)]) (rn_V dX9_about_68 mf_X5_leastSame in_X5_leastSame lk_X9_60 ⟨by decide, by decide⟩ cl_4 rfl kr13 rfl (Nat.le_of_ble_eq_true rfl)) (tX5_leastSame _ _ _ _ _ _) cz_X5_leastSame (c00 _) (fun v14 => ?_)
      exact z_iret dX9_about_71 rfl (en0 _ _ _ _) rfl
    refine z_tdef (tgt := 72) dX9_about_11 [0, 1, 2] (List.forall_mem_cons.mpr ⟨n5, List.forall_mem_cons.mpr ⟨n10, List.forall_mem_cons.mpr ⟨n15, fun _ h => absurd h List.not_mem_nil⟩⟩⟩) (by decide +kernel) (by decide) ?_
    refine z_ldc dX9_about_72 co_X9_23 ?_
    exact z_iret dX9_about_74 rfl (en0 _ _ _ _) rfl
  · skip
    refine z_ldc dX9_about_7 co_X9_23 ?_
    exact z_iret dX9_about_9 rfl (en0 _ _ _ _) rfl
def fX9_thing (κ : Kd) (a0 : Nat) (l1 : Int32) (h : Hp) : Option (Int32 × Hp) :=
  if (κ a0).1 = 8 then (
  if l1 < 0 then (
    some ((-1000000 : Int32), h)
  ) else (
    if l1 < (6 : Int32) then (
      to_ κ (g_R h a0 0) 4 fun r1 =>
      to_ κ (g_R h r1 1) 7 fun r2 =>
      b2 (fX8_bring κ r2 l1 h) fun v3 h4 =>
      some (v3, h4)
    ) else (
      some ((-1000000 : Int32), h)
    )
  )) else none
set_option maxHeartbeats 4000000 in
set_option maxRecDepth 100000 in
theorem tX9_thing (κ : Kd) (n lim : Nat) (h : Hp) (a0 : Nat) (l1 : Int32) : Ct_ mX9_thing [.ref (a0), .int (l1)] κ n lim h (eI κ n) (fX9_thing κ a0 l1 h) := by
  refine ct_of (by decide) (Nat.le_of_ble_eq_true rfl) ?_
  unfold fX9_thing
  refine z_sub (L' := [(0, .ref (a0)), (1, .int (l1))]) [0, 1] rfl ?_
  refine z_or (fun k_a0 => ?_)
  refine z_iload_n dX9_thing_0 rfl 1 rfl ?_
  refine z_if_lt (tgt := 10) dX9_thing_1 (by first | decide | omega) (fun _ => ?_) (fun _ => ?_)
  · skip
    refine z_ldc dX9_thing_10 co_X9_23 ?_
    exact z_iret dX9_thing_12 rfl (en0 _ _ _ _) rfl
  · skip
    refine z_iload_n dX9_thing_4 rfl 1 rfl ?_
    refine z_bipush (v := 6) dX9_thing_5 (by decide) ?_
    refine z_icmp_lt (tgt := 13) dX9_thing_7 (by first | decide | omega) (fun _ => ?_) (fun _ => ?_)
    · skip
      refine z_aload_n dX9_thing_13 rfl 0 rfl ?_
      refine z_getR (kd := 4) dX9_thing_14 fl_X9_10 k_a0 (fun r1 kr1 => ?_)
      refine z_getR (kd := 7) dX9_thing_17 fl_X9_63 kr1 (fun r2 kr2 => ?_)
      refine z_iload_n dX9_thing_20 rfl 1 rfl ?_
      refine z_cI (as := [.ref (r2), .int (l1)]) (rn_V dX9_thing_21 mf_X8_bring in_X8_bring lk_X9_67 ⟨by decide, by decide⟩ cl_6 rfl kr2 rfl (Nat.le_of_ble_eq_true rfl)) (tX8_bring _ _ _ _ _ _) cz_X8_bring (c00 _) (fun v3 h4 => ?_)
      exact z_iret dX9_thing_24 rfl (en0 _ _ _ _) rfl
    · skip
      refine z_ldc dX9_thing_10 co_X9_23 ?_
      exact z_iret dX9_thing_12 rfl (en0 _ _ _ _) rfl
def fX9_of (κ : Kd) (a0 : Nat) (l1 : Int32) (l2 : Int32) (h : Hp) : Option (Int32) :=
  if (κ a0).1 = 8 then (
  to_ κ (g_R h a0 0) 4 fun r1 =>
  to_ κ (g_R h r1 1) 7 fun r2 =>
  (fX8_exists κ r2 l1.toInt64 h).bind fun v3 =>
  if v3 = 0 then (
    some ((0 : Int32))
  ) else (
    to_ κ (g_R h a0 0) 4 fun r4 =>
    to_ κ (g_R h r4 1) 7 fun r5 =>
    (fX8_tell κ r5 l1 l2 h).bind fun v6 =>
    some (v6)
  )) else none
set_option maxHeartbeats 4000000 in
set_option maxRecDepth 100000 in
theorem tX9_of (κ : Kd) (n lim : Nat) (h : Hp) (a0 : Nat) (l1 : Int32) (l2 : Int32) : Ct_ mX9_of [.ref (a0), .int (l1), .int (l2)] κ n lim h (pI κ n h) (fX9_of κ a0 l1 l2 h) := by
  refine ct_of (by decide) (Nat.le_of_ble_eq_true rfl) ?_
  unfold fX9_of
  refine z_sub (L' := [(0, .ref (a0)), (1, .int (l1)), (2, .int (l2))]) [0, 1, 2] rfl ?_
  refine z_or (fun k_a0 => ?_)
  refine z_aload_n dX9_of_0 rfl 0 rfl ?_
  refine z_getR (kd := 4) dX9_of_1 fl_X9_10 k_a0 (fun r1 kr1 => ?_)
  refine z_getR (kd := 7) dX9_of_4 fl_X9_63 kr1 (fun r2 kr2 => ?_)
  refine z_iload_n dX9_of_7 rfl 1 rfl ?_
  refine z_i2l dX9_of_8 ?_
  refine z_pI (as := [.ref (r2), .long (l1.toInt64)]) (rn_V dX9_of_9 mf_X8_exists in_X8_exists lk_X9_72 ⟨by decide, by decide⟩ cl_6 rfl kr2 rfl (Nat.le_of_ble_eq_true rfl)) (tX8_exists _ _ _ _ _ _) cz_X8_exists (c00 _) (fun v3 => ?_)
  refine z_if_eq (tgt := 30) dX9_of_12 (by first | decide | omega) (fun _ => ?_) (fun _ => ?_)
  · skip
    refine z_iconst (v := 0) dX9_of_30 (by decide) ?_
    exact z_iret dX9_of_31 rfl (en0 _ _ _ _) rfl
  · skip
    refine z_aload_n dX9_of_15 rfl 0 rfl ?_
    refine z_getR (kd := 4) dX9_of_16 fl_X9_10 k_a0 (fun r4 kr4 => ?_)
    refine z_getR (kd := 7) dX9_of_19 fl_X9_63 kr4 (fun r5 kr5 => ?_)
    refine z_iload_n dX9_of_22 rfl 1 rfl ?_
    refine z_iload_n dX9_of_23 rfl 2 rfl ?_
    refine z_pI (as := [.ref (r5), .int (l1), .int (l2)]) (rn_V dX9_of_24 mf_X8_tell in_X8_tell lk_X9_76 ⟨by decide, by decide⟩ cl_6 rfl kr5 rfl (Nat.le_of_ble_eq_true rfl)) (tX8_tell _ _ _ _ _ _ _) cz_X8_tell (c00 _) (fun v6 => ?_)
    refine z_goto (tgt := 31) dX9_of_27 (by decide) ?_
    exact z_iret dX9_of_31 rfl (en0 _ _ _ _) rfl
def fX9_routine (κ : Kd) (n : Nat) (a0 : Nat) (l1 : Int32) (h : Hp) : Option (Int32 × Hp × Kd × Nat) :=
  if (κ a0).1 = 8 then (
  if l1 < (1 : Int32) then (
    some ((-1000000 : Int32), h, κ, n)
  ) else (
    if l1 ≤ (6 : Int32) then (
      to_ κ (g_R h a0 0) 4 fun r1 =>
      (fX4_addRoutine κ n r1 l1 h).bind fun q2 =>
      some (q2.1, q2.2.1, q2.2.2.1, q2.2.2.2)
    ) else (
      some ((-1000000 : Int32), h, κ, n)
    )
  )) else none
set_option maxHeartbeats 4000000 in
set_option maxRecDepth 100000 in
theorem tX9_routine (κ : Kd) (n lim : Nat) (h : Hp) (a0 : Nat) (l1 : Int32) (hv : Lv_ κ n) (hl : n + 8 ≤ lim) : Ct_ mX9_routine [.ref (a0), .int (l1)] κ n lim h eA (fX9_routine κ n a0 l1 h) := by
  refine ct_of (by decide) (Nat.le_of_ble_eq_true rfl) ?_
  unfold fX9_routine
  refine z_sub (L' := [(0, .ref (a0)), (1, .int (l1))]) [0, 1] rfl ?_
  refine z_or (fun k_a0 => ?_)
  refine z_iload_n dX9_routine_0 rfl 1 rfl ?_
  refine z_iconst (v := 1) dX9_routine_1 (by decide) ?_
  refine z_icmp_lt (tgt := 11) dX9_routine_2 (by first | decide | omega) (fun _ => ?_) (fun _ => ?_)
  · skip
    refine z_ldc dX9_routine_11 co_X9_23 ?_
    exact z_iret dX9_routine_13 rfl ⟨Nat.le_of_ble_eq_true rfl, Nat.le_of_ble_eq_true rfl⟩ rfl
  · skip
    refine z_iload_n dX9_routine_5 rfl 1 rfl ?_
    refine z_bipush (v := 6) dX9_routine_6 (by decide) ?_
    refine z_icmp_le (tgt := 14) dX9_routine_8 (by first | decide | omega) (fun _ => ?_) (fun _ => ?_)
    · skip
      refine z_aload_n dX9_routine_14 rfl 0 rfl ?_
      refine z_getR (kd := 4) dX9_routine_15 fl_X9_10 k_a0 (fun r1 kr1 => ?_)
      refine z_iload_n dX9_routine_18 rfl 1 rfl ?_
      refine z_aI (as := [.ref (r1), .int (l1)]) (rn_V dX9_routine_19 mf_X4_addRoutine in_X4_addRoutine lk_X9_80 ⟨by decide, by decide⟩ cl_3 rfl kr1 rfl (Nat.le_of_ble_eq_true rfl)) (tX4_addRoutine _ _ _ _ _ _ hv (by omega)) rfl ⟨by decide, by decide, rfl⟩ (fun q2 => ?_)
      exact z_iret dX9_routine_22 rfl ⟨Nat.le_of_ble_eq_true rfl, Nat.le_of_ble_eq_true rfl⟩ rfl
    · skip
      refine z_ldc dX9_routine_11 co_X9_23 ?_
      exact z_iret dX9_routine_13 rfl ⟨Nat.le_of_ble_eq_true rfl, Nat.le_of_ble_eq_true rfl⟩ rfl
def fX9_op (κ : Kd) (a0 : Nat) (l1 : Int32) (l2 : Int32) (l3 : Int32) (l4 : Int32) (h : Hp) : Option (Int32 × Hp) :=
  if (κ a0).1 = 8 then (
  to_ κ (g_R h a0 0) 4 fun r1 =>
  (fX4_routineAt κ r1 l1 h).bind fun v2 =>
  mt_ v2 (
    some ((-1000000 : Int32), h)
  ) fun a3 => (
    if (κ a3).1 = 6 then (
    (fX7_admits κ a3 l2 l3 l4 h).bind fun v5 =>
    if v5 = 0 then (
      some ((-1000000 : Int32), h)
    ) else (
      b2 (fX7_addOp κ a3 l2 l3 l4 h) fun v6 h7 =>
      some (v6, h7)
    )
    ) else none)) else none
set_option maxHeartbeats 4000000 in
set_option maxRecDepth 100000 in
theorem tX9_op (κ : Kd) (n lim : Nat) (h : Hp) (a0 : Nat) (l1 : Int32) (l2 : Int32) (l3 : Int32) (l4 : Int32) : Ct_ mX9_op [.ref (a0), .int (l1), .int (l2), .int (l3), .int (l4)] κ n lim h (eI κ n) (fX9_op κ a0 l1 l2 l3 l4 h) := by
  refine ct_of (by decide) (Nat.le_of_ble_eq_true rfl) ?_
  unfold fX9_op
  refine z_sub (L' := [(0, .ref (a0)), (1, .int (l1)), (2, .int (l2)), (3, .int (l3)), (4, .int (l4))]) [0, 1, 2, 3, 4] rfl ?_
  refine z_or (fun k_a0 => ?_)
  refine z_aload_n dX9_op_0 rfl 0 rfl ?_
  refine z_getR (kd := 4) dX9_op_1 fl_X9_10 k_a0 (fun r1 kr1 => ?_)
  refine z_iload_n dX9_op_4 rfl 1 rfl ?_
  refine z_pQ (as := [.ref (r1), .int (l1)]) (rn_V dX9_op_5 mf_X4_routineAt in_X4_routineAt lk_X9_83 ⟨by decide, by decide⟩ cl_3 rfl kr1 rfl (Nat.le_of_ble_eq_true rfl)) (tX4_routineAt _ _ _ _ _ _) cz_X4_routineAt (c00 _) (fun v2 => ?_)
  refine z_astoreQ (L' := [(5, va_rf (v2)), (0, .ref (a0)), (1, .int (l1)), (2, .int (l2)), (3, .int (l3)), (4, .int (l4))]) dX9_op_8 (by decide) rfl ?_
  refine z_aloadQ dX9_op_10 0 rfl ?_
  refine z_ifnullM (tgt := 27) dX9_op_12 (by first | decide | omega) (fun e4 => ?_) (fun a3 e4 => ?_)
  · subst e4
    refine z_ldc dX9_op_27 co_X9_23 ?_
    exact z_iret dX9_op_29 rfl (en0 _ _ _ _) rfl
  · subst e4
    refine z_or (fun ka3 => ?_)
    refine z_aload dX9_op_15 0 rfl ?_
    refine z_iload_n dX9_op_17 rfl 3 rfl ?_
    refine z_iload_n dX9_op_18 rfl 4 rfl ?_
    refine z_iload dX9_op_19 5 rfl ?_
    refine z_pI (as := [.ref (a3), .int (l2), .int (l3), .int (l4)]) (rn_V dX9_op_21 mf_X7_admits in_X7_admits lk_X9_87 ⟨by decide, by decide⟩ cl_5 rfl ka3 rfl (Nat.le_of_ble_eq_true rfl)) (tX7_admits _ _ _ _ _ _ _ _) cz_X7_admits (c00 _) (fun v5 => ?_)
    refine z_if_ne (tgt := 30) dX9_op_24 (by first | decide | omega) (fun _ => ?_) (fun _ => ?_)
    · skip
      refine z_aload dX9_op_30 0 rfl ?_
      refine z_iload_n dX9_op_32 rfl 3 rfl ?_
      refine z_iload_n dX9_op_33 rfl 4 rfl ?_
      refine z_iload dX9_op_34 5 rfl ?_
      refine z_cI (as := [.ref (a3), .int (l2), .int (l3), .int (l4)]) (rn_V dX9_op_36 mf_X7_addOp in_X7_addOp lk_X9_93 ⟨by decide, by decide⟩ cl_5 rfl ka3 rfl (Nat.le_of_ble_eq_true rfl)) (tX7_addOp _ _ _ _ _ _ _ _) cz_X7_addOp (c00 _) (fun v6 h7 => ?_)
      exact z_iret dX9_op_39 rfl (en0 _ _ _ _) rfl
    · skip
      refine z_ldc dX9_op_27 co_X9_23 ?_
      exact z_iret dX9_op_29 rfl (en0 _ _ _ _) rfl
def fX9_guard_b30 (κ : Kd) (l2 : Int32) (l3 : Int32) (l4 : Int32) (l5 : Int32) (l6 : Option Nat) (s0 : Int32) (h : Hp) : Option (Int32 × Hp) :=
  mt_ l6 (
    some ((-1000000 : Int32), h)
  ) fun a3 => (
    if (κ a3).1 = 6 then (
    if s0 = 0 then (
      some ((-1000000 : Int32), h)
    ) else (
      if l4 < 0 then (
        some ((-1000000 : Int32), h)
      ) else (
        if (12 : Int32) < l4 then (
          some ((-1000000 : Int32), h)
        ) else (
          (fX9_isPlace κ l5 h).bind fun v5 =>
          if v5 = 0 then (
            some ((-1000000 : Int32), h)
          ) else (
            b2 (fX7_addGuard κ a3 l2 l3 l4 l5 h) fun v6 h7 =>
            some (v6, h7)
          )
        )
      )
    )
    ) else none)
set_option maxRecDepth 100000 in
theorem zX9_guard_b30 (κ : Kd) (n lim : Nat) (l2 : Int32) (l3 : Int32) (l4 : Int32) (l5 : Int32) (l6 : Option Nat) (s0 : Int32)  (h : Hp) : ZQ mX9_guard (eI κ n) (κ, n, 0, lim) 30 [(2, .int (l2)), (3, .int (l3)), (4, .int (l4)), (5, .int (l5)), (6, va_rf (l6))] [.int (s0)] h (fX9_guard_b30 κ l2 l3 l4 l5 l6 s0 h) := by
  unfold fX9_guard_b30
  refine z_istore (L' := [(7, .int (s0)), (2, .int (l2)), (3, .int (l3)), (4, .int (l4)), (5, .int (l5)), (6, va_rf (l6))]) dX9_guard_30 (by decide) (by cases l6 <;> rfl) ?_
  refine z_aloadQ dX9_guard_32 5 rfl ?_
  refine z_ifnullM (tgt := 62) dX9_guard_34 (by first | decide | omega) (fun e4 => ?_) (fun a3 e4 => ?_)
  · subst e4
    refine z_ldc dX9_guard_62 co_X9_23 ?_
    exact z_iret dX9_guard_64 rfl (en0 _ _ _ _) rfl
  · subst e4
    refine z_or (fun ka3 => ?_)
    refine z_iload dX9_guard_37 0 rfl ?_
    refine z_if_eq (tgt := 62) dX9_guard_39 (by first | decide | omega) (fun _ => ?_) (fun _ => ?_)
    · skip
      refine z_ldc dX9_guard_62 co_X9_23 ?_
      exact z_iret dX9_guard_64 rfl (en0 _ _ _ _) rfl
    · skip
      refine z_iload dX9_guard_42 3 rfl ?_
      refine z_if_lt (tgt := 62) dX9_guard_44 (by first | decide | omega) (fun _ => ?_) (fun _ => ?_)
      · skip
        refine z_ldc dX9_guard_62 co_X9_23 ?_
        exact z_iret dX9_guard_64 rfl (en0 _ _ _ _) rfl
      · skip
        refine z_iload dX9_guard_47 3 rfl ?_
        refine z_bipush (v := 12) dX9_guard_49 (by decide) ?_
        refine z_icmp_gt (tgt := 62) dX9_guard_51 (by first | decide | omega) (fun _ => ?_) (fun _ => ?_)
        · skip
          refine z_ldc dX9_guard_62 co_X9_23 ?_
          exact z_iret dX9_guard_64 rfl (en0 _ _ _ _) rfl
        · skip
          refine z_iload dX9_guard_54 4 rfl ?_
          refine z_pI (as := [.int (l5)]) (rn_S dX9_guard_56 mf_X9_isPlace in_X9_isPlace lk_X9_97 ⟨by decide, by decide⟩ rfl (Nat.le_of_ble_eq_true rfl)) (tX9_isPlace _ _ _ _ _) cz_X9_isPlace (c00 _) (fun v5 => ?_)
          refine z_if_ne (tgt := 65) dX9_guard_59 (by first | decide | omega) (fun _ => ?_) (fun _ => ?_)
          · skip
            refine z_aload dX9_guard_65 5 rfl ?_
            refine z_iload_n dX9_guard_67 rfl 1 rfl ?_
            refine z_iload_n dX9_guard_68 rfl 2 rfl ?_
            refine z_iload dX9_guard_69 3 rfl ?_
            refine z_iload dX9_guard_71 4 rfl ?_
            refine z_cI (as := [.ref (a3), .int (l2), .int (l3), .int (l4), .int (l5)]) (rn_V dX9_guard_73 mf_X7_addGuard in_X7_addGuard lk_X9_100 ⟨by decide, by decide⟩ cl_5 rfl ka3 rfl (Nat.le_of_ble_eq_true rfl)) (tX7_addGuard _ _ _ _ _ _ _ _ _) cz_X7_addGuard (c00 _) (fun v6 h7 => ?_)
            exact z_iret dX9_guard_76 rfl (en0 _ _ _ _) rfl
          · skip
            refine z_ldc dX9_guard_62 co_X9_23 ?_
            exact z_iret dX9_guard_64 rfl (en0 _ _ _ _) rfl
def fX9_guard_b29 (κ : Kd) (l2 : Int32) (l3 : Int32) (l4 : Int32) (l5 : Int32) (l6 : Option Nat)  (h : Hp) : Option (Int32 × Hp) :=
  fX9_guard_b30 κ l2 l3 l4 l5 l6 (0 : Int32) h
set_option maxRecDepth 100000 in
theorem zX9_guard_b29 (κ : Kd) (n lim : Nat) (l2 : Int32) (l3 : Int32) (l4 : Int32) (l5 : Int32) (l6 : Option Nat)   (h : Hp) : ZQ mX9_guard (eI κ n) (κ, n, 0, lim) 29 [(2, .int (l2)), (3, .int (l3)), (4, .int (l4)), (5, .int (l5)), (6, va_rf (l6))] [] h (fX9_guard_b29 κ l2 l3 l4 l5 l6  h) := by
  unfold fX9_guard_b29
  refine z_iconst (v := 0) dX9_guard_29 (by decide) ?_
  refine z_sub [0, 1, 2, 3, 4] rfl ?_
  exact zX9_guard_b30 _ _ _ l2 l3 l4 l5 l6 (0 : Int32)  h
def fX9_guard (κ : Kd) (a0 : Nat) (l1 : Int32) (l2 : Int32) (l3 : Int32) (l4 : Int32) (l5 : Int32) (h : Hp) : Option (Int32 × Hp) :=
  if (κ a0).1 = 8 then (
  to_ κ (g_R h a0 0) 4 fun r1 =>
  (fX4_routineAt κ r1 l1 h).bind fun v2 =>
  if l2 < 0 then (
    fX9_guard_b29 κ l2 l3 l4 l5 v2  h
  ) else (
    if l3 ≤ l2 then (
      fX9_guard_b29 κ l2 l3 l4 l5 v2  h
    ) else (
      if (30 : Int32) < l3 then (
        fX9_guard_b29 κ l2 l3 l4 l5 v2  h
      ) else (
        fX9_guard_b30 κ l2 l3 l4 l5 v2 (1 : Int32) h
      )
    )
  )) else none
set_option maxHeartbeats 4000000 in
set_option maxRecDepth 100000 in
theorem tX9_guard (κ : Kd) (n lim : Nat) (h : Hp) (a0 : Nat) (l1 : Int32) (l2 : Int32) (l3 : Int32) (l4 : Int32) (l5 : Int32) : Ct_ mX9_guard [.ref (a0), .int (l1), .int (l2), .int (l3), .int (l4), .int (l5)] κ n lim h (eI κ n) (fX9_guard κ a0 l1 l2 l3 l4 l5 h) := by
  refine ct_of (by decide) (Nat.le_of_ble_eq_true rfl) ?_
  unfold fX9_guard
  refine z_sub (L' := [(0, .ref (a0)), (1, .int (l1)), (2, .int (l2)), (3, .int (l3)), (4, .int (l4)), (5, .int (l5))]) [0, 1, 2, 3, 4, 5] rfl ?_
  refine z_or (fun k_a0 => ?_)
  refine z_aload_n dX9_guard_0 rfl 0 rfl ?_
  refine z_getR (kd := 4) dX9_guard_1 fl_X9_10 k_a0 (fun r1 kr1 => ?_)
  refine z_iload_n dX9_guard_4 rfl 1 rfl ?_
  refine z_pQ (as := [.ref (r1), .int (l1)]) (rn_V dX9_guard_5 mf_X4_routineAt in_X4_routineAt lk_X9_83 ⟨by decide, by decide⟩ cl_3 rfl kr1 rfl (Nat.le_of_ble_eq_true rfl)) (tX4_routineAt _ _ _ _ _ _) cz_X4_routineAt (c00 _) (fun v2 => ?_)
  refine z_astoreQ (L' := [(6, va_rf (v2)), (0, .ref (a0)), (1, .int (l1)), (2, .int (l2)), (3, .int (l3)), (4, .int (l4)), (5, .int (l5))]) dX9_guard_8 (by decide) rfl ?_
  refine z_iload_n dX9_guard_10 rfl 3 rfl ?_
  refine z_if_lt (tgt := 29) dX9_guard_11 (by first | decide | omega) (fun _ => ?_) (fun _ => ?_)
  · skip
    refine z_sub [3, 4, 5, 6, 0] rfl ?_
    exact zX9_guard_b29 _ _ _ l2 l3 l4 l5 v2   h
  · skip
    refine z_iload_n dX9_guard_14 rfl 3 rfl ?_
    refine z_iload_n dX9_guard_15 rfl 4 rfl ?_
    refine z_icmp_ge (tgt := 29) dX9_guard_16 (by first | decide | omega) (fun _ => ?_) (fun _ => ?_)
    · skip
      refine z_sub [3, 4, 5, 6, 0] rfl ?_
      exact zX9_guard_b29 _ _ _ l2 l3 l4 l5 v2   h
    · skip
      refine z_iload_n dX9_guard_19 rfl 4 rfl ?_
      refine z_bipush (v := 30) dX9_guard_20 (by decide) ?_
      refine z_icmp_gt (tgt := 29) dX9_guard_22 (by first | decide | omega) (fun _ => ?_) (fun _ => ?_)
      · skip
        refine z_sub [3, 4, 5, 6, 0] rfl ?_
        exact zX9_guard_b29 _ _ _ l2 l3 l4 l5 v2   h
      · skip
        refine z_iconst (v := 1) dX9_guard_25 (by decide) ?_
        refine z_goto (tgt := 30) dX9_guard_26 (by decide) ?_
        refine z_sub [3, 4, 5, 6, 0] rfl ?_
        exact zX9_guard_b30 _ _ _ l2 l3 l4 l5 v2 (1 : Int32)  h
def fX9_last (κ : Kd) (a0 : Nat) (l1 : Int32) (l2 : Int32) (h : Hp) : Option (Int32 × Hp) :=
  if (κ a0).1 = 8 then (
  to_ κ (g_R h a0 0) 4 fun r1 =>
  (fX4_routineAt κ r1 l1 h).bind fun v2 =>
  mt_ v2 (
    some ((-1000000 : Int32), h)
  ) fun a3 => (
    if (κ a3).1 = 6 then (
    if l2 = (-1 : Int32) then (
      lt_ (s_I h a3 10 l2) fun h5 =>
      some (g_I h a3 10, h5)
    ) else (
      (fX9_isPlace κ l2 h).bind fun v6 =>
      if v6 = 0 then (
        some ((-1000000 : Int32), h)
      ) else (
        lt_ (s_I h a3 10 l2) fun h7 =>
        some (g_I h a3 10, h7)
      )
    )
    ) else none)) else none
set_option maxHeartbeats 4000000 in
set_option maxRecDepth 100000 in
theorem tX9_last (κ : Kd) (n lim : Nat) (h : Hp) (a0 : Nat) (l1 : Int32) (l2 : Int32) : Ct_ mX9_last [.ref (a0), .int (l1), .int (l2)] κ n lim h (eI κ n) (fX9_last κ a0 l1 l2 h) := by
  refine ct_of (by decide) (Nat.le_of_ble_eq_true rfl) ?_
  unfold fX9_last
  refine z_sub (L' := [(0, .ref (a0)), (1, .int (l1)), (2, .int (l2))]) [0, 1, 2] rfl ?_
  refine z_or (fun k_a0 => ?_)
  refine z_aload_n dX9_last_0 rfl 0 rfl ?_
  refine z_getR (kd := 4) dX9_last_1 fl_X9_10 k_a0 (fun r1 kr1 => ?_)
  refine z_iload_n dX9_last_4 rfl 1 rfl ?_
  refine z_pQ (as := [.ref (r1), .int (l1)]) (rn_V dX9_last_5 mf_X4_routineAt in_X4_routineAt lk_X9_83 ⟨by decide, by decide⟩ cl_3 rfl kr1 rfl (Nat.le_of_ble_eq_true rfl)) (tX4_routineAt _ _ _ _ _ _) cz_X4_routineAt (c00 _) (fun v2 => ?_)
  refine z_astore_nQ (L' := [(3, va_rf (v2)), (0, .ref (a0)), (1, .int (l1)), (2, .int (l2))]) dX9_last_8 rfl (by decide) rfl ?_
  refine z_aload_nQ dX9_last_9 rfl 0 rfl ?_
  refine z_ifnullM (tgt := 25) dX9_last_10 (by first | decide | omega) (fun e4 => ?_) (fun a3 e4 => ?_)
  · subst e4
    refine z_ldc dX9_last_25 co_X9_23 ?_
    exact z_iret dX9_last_27 rfl (en0 _ _ _ _) rfl
  · subst e4
    refine z_or (fun ka3 => ?_)
    refine z_iload_n dX9_last_13 rfl 3 rfl ?_
    refine z_iconst (v := -1) dX9_last_14 (by decide) ?_
    refine z_icmp_eq (tgt := 28) dX9_last_15 (by first | decide | omega) (fun _ => ?_) (fun _ => ?_)
    · skip
      refine z_aload_n dX9_last_28 rfl 0 rfl ?_
      refine z_getI dX9_last_29 fl_X9_104 ka3 ?_
      refine z_istore (L' := [(4, .int (g_I h a3 10)), (3, .ref (a3)), (0, .ref (a0)), (1, .int (l1)), (2, .int (l2))]) dX9_last_32 (by decide) rfl ?_
      refine z_aload_n dX9_last_34 rfl 1 rfl ?_
      refine z_iload_n dX9_last_35 rfl 4 rfl ?_
      refine z_putI dX9_last_36 fl_X9_104 (Or.inl rfl) ka3 (fun h5 => ?_)
      refine z_iload dX9_last_39 0 rfl ?_
      exact z_iret dX9_last_41 rfl (en0 _ _ _ _) rfl
    · skip
      refine z_iload_n dX9_last_18 rfl 3 rfl ?_
      refine z_pI (as := [.int (l2)]) (rn_S dX9_last_19 mf_X9_isPlace in_X9_isPlace lk_X9_97 ⟨by decide, by decide⟩ rfl (Nat.le_of_ble_eq_true rfl)) (tX9_isPlace _ _ _ _ _) cz_X9_isPlace (c00 _) (fun v6 => ?_)
      refine z_if_ne (tgt := 28) dX9_last_22 (by first | decide | omega) (fun _ => ?_) (fun _ => ?_)
      · skip
        refine z_aload_n dX9_last_28 rfl 0 rfl ?_
        refine z_getI dX9_last_29 fl_X9_104 ka3 ?_
        refine z_istore (L' := [(4, .int (g_I h a3 10)), (3, .ref (a3)), (0, .ref (a0)), (1, .int (l1)), (2, .int (l2))]) dX9_last_32 (by decide) rfl ?_
        refine z_aload_n dX9_last_34 rfl 1 rfl ?_
        refine z_iload_n dX9_last_35 rfl 4 rfl ?_
        refine z_putI dX9_last_36 fl_X9_104 (Or.inl rfl) ka3 (fun h7 => ?_)
        refine z_iload dX9_last_39 0 rfl ?_
        exact z_iret dX9_last_41 rfl (en0 _ _ _ _) rfl
      · skip
        refine z_ldc dX9_last_25 co_X9_23 ?_
        exact z_iret dX9_last_27 rfl (en0 _ _ _ _) rfl
def fX9_run (κ : Kd) (a0 : Nat) (l1 : Int32) (l2 : Int64) (l4 : Int64) (h : Hp) : Option (Int32 × Hp) :=
  if (κ a0).1 = 8 then (
  to_ κ (g_R h a0 0) 4 fun r1 =>
  (fX4_routineAt κ r1 l1 h).bind fun v2 =>
  mt_ v2 (
    some ((-1000000 : Int32), h)
  ) fun a3 => (
    if (κ a3).1 = 6 then (
    if (g_I h a3 8) = 0 then (
      some ((-1000000 : Int32), h)
    ) else (
      to_ κ (g_R h a0 0) 4 fun r5 =>
      b2 (fX4_play κ r5 l1 a3 l2 l4 h) fun v6 h7 =>
      some (v6, h7)
    )
    ) else none)) else none
set_option maxHeartbeats 4000000 in
set_option maxRecDepth 100000 in
theorem tX9_run (κ : Kd) (n lim : Nat) (h : Hp) (a0 : Nat) (l1 : Int32) (l2 : Int64) (l4 : Int64) : Ct_ mX9_run [.ref (a0), .int (l1), .long (l2), .long (l4)] κ n lim h (eI κ n) (fX9_run κ a0 l1 l2 l4 h) := by
  refine ct_of (by decide) (Nat.le_of_ble_eq_true rfl) ?_
  unfold fX9_run
  refine z_sub (L' := [(0, .ref (a0)), (1, .int (l1)), (2, .long (l2)), (4, .long (l4))]) [0, 1, 2, 3] rfl ?_
  refine z_or (fun k_a0 => ?_)
  refine z_aload_n dX9_run_0 rfl 0 rfl ?_
  refine z_getR (kd := 4) dX9_run_1 fl_X9_10 k_a0 (fun r1 kr1 => ?_)
  refine z_iload_n dX9_run_4 rfl 1 rfl ?_
  refine z_pQ (as := [.ref (r1), .int (l1)]) (rn_V dX9_run_5 mf_X4_routineAt in_X4_routineAt lk_X9_83 ⟨by decide, by decide⟩ cl_3 rfl kr1 rfl (Nat.le_of_ble_eq_true rfl)) (tX4_routineAt _ _ _ _ _ _) cz_X4_routineAt (c00 _) (fun v2 => ?_)
  refine z_astoreQ (L' := [(6, va_rf (v2)), (0, .ref (a0)), (1, .int (l1)), (2, .long (l2)), (4, .long (l4))]) dX9_run_8 (by decide) rfl ?_
  refine z_aloadQ dX9_run_10 0 rfl ?_
  refine z_ifnullM (tgt := 23) dX9_run_12 (by first | decide | omega) (fun e4 => ?_) (fun a3 e4 => ?_)
  · subst e4
    refine z_ldc dX9_run_23 co_X9_23 ?_
    exact z_iret dX9_run_25 rfl (en0 _ _ _ _) rfl
  · subst e4
    refine z_or (fun ka3 => ?_)
    refine z_aload dX9_run_15 0 rfl ?_
    refine z_getI dX9_run_17 fl_X9_108 ka3 ?_
    refine z_if_ne (tgt := 26) dX9_run_20 (by first | decide | omega) (fun _ => ?_) (fun _ => ?_)
    · skip
      refine z_aload_n dX9_run_26 rfl 1 rfl ?_
      refine z_getR (kd := 4) dX9_run_27 fl_X9_10 k_a0 (fun r5 kr5 => ?_)
      refine z_iload_n dX9_run_30 rfl 2 rfl ?_
      refine z_aload dX9_run_31 0 rfl ?_
      refine z_lload_n dX9_run_33 rfl 3 rfl ?_
      refine z_lload dX9_run_34 4 rfl ?_
      refine z_cI (as := [.ref (r5), .int (l1), .ref (a3), .long (l2), .long (l4)]) (rn_V dX9_run_36 mf_X4_play in_X4_play lk_X9_111 ⟨by decide, by decide⟩ cl_3 rfl kr5 rfl (Nat.le_of_ble_eq_true rfl)) (tX4_play _ _ _ _ _ _ _ _ _) cz_X4_play (c00 _) (fun v6 h7 => ?_)
      exact z_iret dX9_run_39 rfl (en0 _ _ _ _) rfl
    · skip
      refine z_ldc dX9_run_23 co_X9_23 ?_
      exact z_iret dX9_run_25 rfl (en0 _ _ _ _) rfl
def fX9_result (κ : Kd) (a0 : Nat) (h : Hp) : Option (Int64) :=
  if (κ a0).1 = 8 then (
  to_ κ (g_R h a0 0) 4 fun r1 =>
  some (g_J h r1 17)) else none
set_option maxHeartbeats 4000000 in
set_option maxRecDepth 100000 in
theorem tX9_result (κ : Kd) (n lim : Nat) (h : Hp) (a0 : Nat) : Ct_ mX9_result [.ref (a0)] κ n lim h (pJ κ n h) (fX9_result κ a0 h) := by
  refine ct_of (by decide) (Nat.le_of_ble_eq_true rfl) ?_
  unfold fX9_result
  refine z_sub (L' := [(0, .ref (a0))]) [0] rfl ?_
  refine z_or (fun k_a0 => ?_)
  refine z_aload_n dX9_result_0 rfl 0 rfl ?_
  refine z_getR (kd := 4) dX9_result_1 fl_X9_10 k_a0 (fun r1 kr1 => ?_)
  refine z_getJ dX9_result_4 fl_X9_115 kr1 ?_
  exact z_lret dX9_result_7 rfl (en0 _ _ _ _) rfl
def fX9_told (κ : Kd) (a0 : Nat) (l1 : Int32) (h : Hp) : Option (Int32) :=
  if (κ a0).1 = 8 then (
  if l1 = (0 : Int32) then (
    to_ κ (g_R h a0 0) 4 fun r1 =>
    to_ κ (g_R h r1 7) 1 fun r2 =>
    some (g_I h r2 0)
  ) else
  if l1 = (1 : Int32) then (
    to_ κ (g_R h a0 0) 4 fun r5 =>
    to_ κ (g_R h r5 7) 1 fun r6 =>
    some (g_I h r6 2)
  ) else
  if l1 = (2 : Int32) then (
    to_ κ (g_R h a0 0) 4 fun r9 =>
    to_ κ (g_R h r9 7) 1 fun r10 =>
    some (g_I h r10 3)
  ) else
  if l1 = (3 : Int32) then (
    to_ κ (g_R h a0 0) 4 fun r13 =>
    some (g_I h r13 12)
  ) else
  if l1 = (4 : Int32) then (
    to_ κ (g_R h a0 0) 4 fun r16 =>
    some (g_I h r16 13)
  ) else
  if l1 = (5 : Int32) then (
    to_ κ (g_R h a0 0) 4 fun r19 =>
    some (g_I h r19 14)
  ) else
  if l1 = (6 : Int32) then (
    to_ κ (g_R h a0 0) 4 fun r22 =>
    some (g_I h r22 15)
  ) else
  if l1 = (7 : Int32) then (
    to_ κ (g_R h a0 0) 4 fun r25 =>
    some (g_I h r25 16)
  ) else
  (
    some ((-1000000 : Int32))
  )) else none
set_option maxHeartbeats 4000000 in
set_option maxRecDepth 100000 in
theorem tX9_told (κ : Kd) (n lim : Nat) (h : Hp) (a0 : Nat) (l1 : Int32) : Ct_ mX9_told [.ref (a0), .int (l1)] κ n lim h (pI κ n h) (fX9_told κ a0 l1 h) := by
  refine ct_of (by decide) (Nat.le_of_ble_eq_true rfl) ?_
  unfold fX9_told
  refine z_sub (L' := [(0, .ref (a0)), (1, .int (l1))]) [0, 1] rfl ?_
  refine z_or (fun k_a0 => ?_)
  refine z_iload_n dX9_told_0 rfl 1 rfl ?_
  refine z_ite (fun c4 => ?_) (fun n3 => ?_)
  · refine z_tin (tgt := 48) dX9_told_1 (0) c4 (by decide) (by decide) rfl (by decide) ?_
    refine z_aload_n dX9_told_48 rfl 0 rfl ?_
    refine z_getR (kd := 4) dX9_told_49 fl_X9_10 k_a0 (fun r1 kr1 => ?_)
    refine z_getR (kd := 1) dX9_told_52 fl_X9_119 kr1 (fun r2 kr2 => ?_)
    refine z_getI dX9_told_55 fl_X9_123 kr2 ?_
    exact z_iret dX9_told_58 rfl (en0 _ _ _ _) rfl
  refine z_ite (fun c8 => ?_) (fun n7 => ?_)
  · refine z_tin (tgt := 59) dX9_told_1 (1) c8 (by decide) (by decide) rfl (by decide) ?_
    refine z_aload_n dX9_told_59 rfl 0 rfl ?_
    refine z_getR (kd := 4) dX9_told_60 fl_X9_10 k_a0 (fun r5 kr5 => ?_)
    refine z_getR (kd := 1) dX9_told_63 fl_X9_119 kr5 (fun r6 kr6 => ?_)
    refine z_getI dX9_told_66 fl_X9_128 kr6 ?_
    exact z_iret dX9_told_69 rfl (en0 _ _ _ _) rfl
  refine z_ite (fun c12 => ?_) (fun n11 => ?_)
  · refine z_tin (tgt := 70) dX9_told_1 (2) c12 (by decide) (by decide) rfl (by decide) ?_
    refine z_aload_n dX9_told_70 rfl 0 rfl ?_
    refine z_getR (kd := 4) dX9_told_71 fl_X9_10 k_a0 (fun r9 kr9 => ?_)
    refine z_getR (kd := 1) dX9_told_74 fl_X9_119 kr9 (fun r10 kr10 => ?_)
    refine z_getI dX9_told_77 fl_X9_131 kr10 ?_
    exact z_iret dX9_told_80 rfl (en0 _ _ _ _) rfl
  refine z_ite (fun c15 => ?_) (fun n14 => ?_)
  · refine z_tin (tgt := 81) dX9_told_1 (3) c15 (by decide) (by decide) rfl (by decide) ?_
    refine z_aload_n dX9_told_81 rfl 0 rfl ?_
    refine z_getR (kd := 4) dX9_told_82 fl_X9_10 k_a0 (fun r13 kr13 => ?_)
    refine z_getI dX9_told_85 fl_X9_134 kr13 ?_
    exact z_iret dX9_told_88 rfl (en0 _ _ _ _) rfl
  refine z_ite (fun c18 => ?_) (fun n17 => ?_)
  · refine z_tin (tgt := 89) dX9_told_1 (4) c18 (by decide) (by decide) rfl (by decide) ?_
    refine z_aload_n dX9_told_89 rfl 0 rfl ?_
    refine z_getR (kd := 4) dX9_told_90 fl_X9_10 k_a0 (fun r16 kr16 => ?_)
    refine z_getI dX9_told_93 fl_X9_137 kr16 ?_
    exact z_iret dX9_told_96 rfl (en0 _ _ _ _) rfl
  refine z_ite (fun c21 => ?_) (fun n20 => ?_)
  · refine z_tin (tgt := 97) dX9_told_1 (5) c21 (by decide) (by decide) rfl (by decide) ?_
    refine z_aload_n dX9_told_97 rfl 0 rfl ?_
    refine z_getR (kd := 4) dX9_told_98 fl_X9_10 k_a0 (fun r19 kr19 => ?_)
    refine z_getI dX9_told_101 fl_X9_140 kr19 ?_
    exact z_iret dX9_told_104 rfl (en0 _ _ _ _) rfl
  refine z_ite (fun c24 => ?_) (fun n23 => ?_)
  · refine z_tin (tgt := 105) dX9_told_1 (6) c24 (by decide) (by decide) rfl (by decide) ?_
    refine z_aload_n dX9_told_105 rfl 0 rfl ?_
    refine z_getR (kd := 4) dX9_told_106 fl_X9_10 k_a0 (fun r22 kr22 => ?_)
    refine z_getI dX9_told_109 fl_X9_143 kr22 ?_
    exact z_iret dX9_told_112 rfl (en0 _ _ _ _) rfl
  refine z_ite (fun c27 => ?_) (fun n26 => ?_)
  · refine z_tin (tgt := 113) dX9_told_1 (7) c27 (by decide) (by decide) rfl (by decide) ?_
    refine z_aload_n dX9_told_113 rfl 0 rfl ?_
    refine z_getR (kd := 4) dX9_told_114 fl_X9_10 k_a0 (fun r25 kr25 => ?_)
    refine z_getI dX9_told_117 fl_X9_146 kr25 ?_
    exact z_iret dX9_told_120 rfl (en0 _ _ _ _) rfl
  refine z_tdef (tgt := 121) dX9_told_1 [0, 1, 2, 3, 4, 5, 6, 7] (List.forall_mem_cons.mpr ⟨n3, List.forall_mem_cons.mpr ⟨n7, List.forall_mem_cons.mpr ⟨n11, List.forall_mem_cons.mpr ⟨n14, List.forall_mem_cons.mpr ⟨n17, List.forall_mem_cons.mpr ⟨n20, List.forall_mem_cons.mpr ⟨n23, List.forall_mem_cons.mpr ⟨n26, fun _ h => absurd h List.not_mem_nil⟩⟩⟩⟩⟩⟩⟩⟩) (by decide +kernel) (by decide) ?_
  refine z_ldc dX9_told_121 co_X9_23 ?_
  exact z_iret dX9_told_123 rfl (en0 _ _ _ _) rfl
