def fX10_op (κ : Kd) (a0 : Nat) (l1 : Int32) (l2 : Int32) (l3 : Int32) (l4 : Int32) (h : Hp) : Option (Int32 × Hp) :=
  if (κ a0).1 = 9 then (
  (fX10_isRoutine κ a0 l1 h).bind fun v1 =>
  if v1 = 0 then (
    some ((-1000000 : Int32), h)
  ) else (
    (fX10_isOp κ a0 l1 l2 l3 l4 h).bind fun v2 =>
    if v2 = 0 then (
      some ((-1000000 : Int32), h)
    ) else (
      to_ κ (g_R h a0 16) 50 fun r3 =>
      a_I κ h r3 l1 fun v4 =>
      if v4 = (30 : Int32) then (
        some ((-1000001 : Int32), h)
      ) else (
        to_ κ (g_R h a0 16) 50 fun r5 =>
        a_I κ h r5 l1 fun v6 =>
        to_ κ (g_R h a0 19) 50 fun r7 =>
        w_I κ h r7 (((30 : Int32) * l1) + v6) l2 fun h8 =>
        to_ κ (g_R h8 a0 20) 50 fun r9 =>
        w_I κ h8 r9 (((30 : Int32) * l1) + v6) l3 fun h10 =>
        to_ κ (g_R h10 a0 21) 50 fun r11 =>
        w_I κ h10 r11 (((30 : Int32) * l1) + v6) l4 fun h12 =>
        to_ κ (g_R h12 a0 16) 50 fun r13 =>
        a_I κ h12 r13 l1 fun v14 =>
        w_I κ h12 r13 l1 (v14 + (1 : Int32)) fun h15 =>
        to_ κ (g_R h15 a0 16) 50 fun r16 =>
        a_I κ h15 r16 l1 fun v17 =>
        some (v17 - (1 : Int32), h15)
      )
    )
  )) else none
set_option maxHeartbeats 4000000 in
set_option maxRecDepth 100000 in
theorem tX10_op (κ : Kd) (n lim : Nat) (h : Hp) (a0 : Nat) (l1 : Int32) (l2 : Int32) (l3 : Int32) (l4 : Int32) : Ct_ mX10_op [.ref (a0), .int (l1), .int (l2), .int (l3), .int (l4)] κ n lim h (eI κ n) (fX10_op κ a0 l1 l2 l3 l4 h) := by
  refine ct_of (by decide) (Nat.le_of_ble_eq_true rfl) ?_
  unfold fX10_op
  refine z_sub (L' := [(0, .ref (a0)), (1, .int (l1)), (2, .int (l2)), (3, .int (l3)), (4, .int (l4))]) [0, 1, 2, 3, 4] rfl ?_
  refine z_or (fun k_a0 => ?_)
  refine z_aload_n dX10_op_0 rfl 0 rfl ?_
  refine z_iload_n dX10_op_1 rfl 1 rfl ?_
  refine z_pI (as := [.ref (a0), .int (l1)]) (rn_V dX10_op_2 mf_X10_isRoutine in_X10_isRoutine lk_X10_230 ⟨by decide, by decide⟩ cl_8 rfl k_a0 rfl (Nat.le_of_ble_eq_true rfl)) (tX10_isRoutine _ _ _ _ _ _) cz_X10_isRoutine (c00 _) (fun v1 => ?_)
  refine z_if_eq (tgt := 20) dX10_op_5 (by first | decide | omega) (fun _ => ?_) (fun _ => ?_)
  · skip
    refine z_ldc dX10_op_20 co_X10_163 ?_
    exact z_iret dX10_op_22 rfl (en0 _ _ _ _) rfl
  · skip
    refine z_aload_n dX10_op_8 rfl 0 rfl ?_
    refine z_iload_n dX10_op_9 rfl 1 rfl ?_
    refine z_iload_n dX10_op_10 rfl 2 rfl ?_
    refine z_iload_n dX10_op_11 rfl 3 rfl ?_
    refine z_iload dX10_op_12 4 rfl ?_
    refine z_pI (as := [.ref (a0), .int (l1), .int (l2), .int (l3), .int (l4)]) (rn_V dX10_op_14 mf_X10_isOp in_X10_isOp lk_X10_233 ⟨by decide, by decide⟩ cl_8 rfl k_a0 rfl (Nat.le_of_ble_eq_true rfl)) (tX10_isOp _ _ _ _ _ _ _ _ _) cz_X10_isOp (c00 _) (fun v2 => ?_)
    refine z_if_ne (tgt := 23) dX10_op_17 (by first | decide | omega) (fun _ => ?_) (fun _ => ?_)
    · skip
      refine z_aload_n dX10_op_23 rfl 0 rfl ?_
      refine z_getR (kd := 50) dX10_op_24 fl_X10_45 k_a0 (fun r3 kr3 => ?_)
      refine z_iload_n dX10_op_27 rfl 1 rfl ?_
      refine z_iald dX10_op_28 kr3 (fun v4 => ?_)
      refine z_bipush (v := 30) dX10_op_29 (by decide) ?_
      refine z_icmp_ne (tgt := 37) dX10_op_31 (by first | decide | omega) (fun _ => ?_) (fun _ => ?_)
      · skip
        refine z_bipush (v := 30) dX10_op_37 (by decide) ?_
        refine z_iload_n dX10_op_39 rfl 1 rfl ?_
        refine z_imul dX10_op_40 ?_
        refine z_aload_n dX10_op_41 rfl 0 rfl ?_
        refine z_getR (kd := 50) dX10_op_42 fl_X10_45 k_a0 (fun r5 kr5 => ?_)
        refine z_iload_n dX10_op_45 rfl 1 rfl ?_
        refine z_iald dX10_op_46 kr5 (fun v6 => ?_)
        refine z_iadd dX10_op_47 ?_
        refine z_istore (L' := [(5, .int (((30 : Int32) * l1) + v6)), (0, .ref (a0)), (1, .int (l1)), (2, .int (l2)), (3, .int (l3)), (4, .int (l4))]) dX10_op_48 (by decide) rfl ?_
        refine z_aload_n dX10_op_50 rfl 1 rfl ?_
        refine z_getR (kd := 50) dX10_op_51 fl_X10_54 k_a0 (fun r7 kr7 => ?_)
        refine z_iload dX10_op_54 0 rfl ?_
        refine z_iload_n dX10_op_56 rfl 3 rfl ?_
        refine z_iast dX10_op_57 kr7 (fun h8 => ?_)
        refine z_aload_n dX10_op_58 rfl 1 rfl ?_
        refine z_getR (kd := 50) dX10_op_59 fl_X10_57 k_a0 (fun r9 kr9 => ?_)
        refine z_iload dX10_op_62 0 rfl ?_
        refine z_iload_n dX10_op_64 rfl 4 rfl ?_
        refine z_iast dX10_op_65 kr9 (fun h10 => ?_)
        refine z_aload_n dX10_op_66 rfl 1 rfl ?_
        refine z_getR (kd := 50) dX10_op_67 fl_X10_60 k_a0 (fun r11 kr11 => ?_)
        refine z_iload dX10_op_70 0 rfl ?_
        refine z_iload dX10_op_72 5 rfl ?_
        refine z_iast dX10_op_74 kr11 (fun h12 => ?_)
        refine z_aload_n dX10_op_75 rfl 1 rfl ?_
        refine z_getR (kd := 50) dX10_op_76 fl_X10_45 k_a0 (fun r13 kr13 => ?_)
        refine z_iload_n dX10_op_79 rfl 2 rfl ?_
        refine z_dup2 dX10_op_80 rfl rfl ?_
        refine z_iald dX10_op_81 kr13 (fun v14 => ?_)
        refine z_iconst (v := 1) dX10_op_82 (by decide) ?_
        refine z_iadd dX10_op_83 ?_
        refine z_iast dX10_op_84 kr13 (fun h15 => ?_)
        refine z_aload_n dX10_op_85 rfl 1 rfl ?_
        refine z_getR (kd := 50) dX10_op_86 fl_X10_45 k_a0 (fun r16 kr16 => ?_)
        refine z_iload_n dX10_op_89 rfl 2 rfl ?_
        refine z_iald dX10_op_90 kr16 (fun v17 => ?_)
        refine z_iconst (v := 1) dX10_op_91 (by decide) ?_
        refine z_isub dX10_op_92 ?_
        exact z_iret dX10_op_93 rfl (en0 _ _ _ _) rfl
      · skip
        refine z_ldc dX10_op_34 co_X10_187 ?_
        exact z_iret dX10_op_36 rfl (en0 _ _ _ _) rfl
    · skip
      refine z_ldc dX10_op_20 co_X10_163 ?_
      exact z_iret dX10_op_22 rfl (en0 _ _ _ _) rfl
def fX10_guard (κ : Kd) (a0 : Nat) (l1 : Int32) (l2 : Int32) (l3 : Int32) (l4 : Int32) (l5 : Int32) (h : Hp) : Option (Int32 × Hp) :=
  if (κ a0).1 = 9 then (
  (fX10_isRoutine κ a0 l1 h).bind fun v1 =>
  if v1 = 0 then (
    some ((-1000000 : Int32), h)
  ) else (
    if l2 < 0 then (
      some ((-1000000 : Int32), h)
    ) else (
      if l3 ≤ l2 then (
        some ((-1000000 : Int32), h)
      ) else (
        if (30 : Int32) < l3 then (
          some ((-1000000 : Int32), h)
        ) else (
          (fX10_in κ l4.toInt64 (0 : Int64) (12 : Int64) h).bind fun v2 =>
          if v2 = 0 then (
            some ((-1000000 : Int32), h)
          ) else (
            (fX10_in κ l5.toInt64 (0 : Int64) (29 : Int64) h).bind fun v3 =>
            if v3 = 0 then (
              some ((-1000000 : Int32), h)
            ) else (
              to_ κ (g_R h a0 17) 50 fun r4 =>
              a_I κ h r4 l1 fun v5 =>
              if v5 = (4 : Int32) then (
                some ((-1000001 : Int32), h)
              ) else (
                to_ κ (g_R h a0 17) 50 fun r6 =>
                a_I κ h r6 l1 fun v7 =>
                to_ κ (g_R h a0 22) 50 fun r8 =>
                w_I κ h r8 (((16 : Int32) * l1) + ((4 : Int32) * v7)) l2 fun h9 =>
                to_ κ (g_R h9 a0 22) 50 fun r10 =>
                w_I κ h9 r10 ((((16 : Int32) * l1) + ((4 : Int32) * v7)) + (1 : Int32)) l3 fun h11 =>
                to_ κ (g_R h11 a0 22) 50 fun r12 =>
                w_I κ h11 r12 ((((16 : Int32) * l1) + ((4 : Int32) * v7)) + (2 : Int32)) l4 fun h13 =>
                to_ κ (g_R h13 a0 22) 50 fun r14 =>
                w_I κ h13 r14 ((((16 : Int32) * l1) + ((4 : Int32) * v7)) + (3 : Int32)) l5 fun h15 =>
                to_ κ (g_R h15 a0 17) 50 fun r16 =>
                a_I κ h15 r16 l1 fun v17 =>
                w_I κ h15 r16 l1 (v17 + (1 : Int32)) fun h18 =>
                to_ κ (g_R h18 a0 17) 50 fun r19 =>
                a_I κ h18 r19 l1 fun v20 =>
                some (v20 - (1 : Int32), h18)
              )
            )
          )
        )
      )
    )
  )) else none
set_option maxHeartbeats 4000000 in
set_option maxRecDepth 100000 in
theorem tX10_guard (κ : Kd) (n lim : Nat) (h : Hp) (a0 : Nat) (l1 : Int32) (l2 : Int32) (l3 : Int32) (l4 : Int32) (l5 : Int32) : Ct_ mX10_guard [.ref (a0), .int (l1), .int (l2), .int (l3), .int (l4), .int (l5)] κ n lim h (eI κ n) (fX10_guard κ a0 l1 l2 l3 l4 l5 h) := by
  refine ct_of (by decide) (Nat.le_of_ble_eq_true rfl) ?_
  unfold fX10_guard
  refine z_sub (L' := [(0, .ref (a0)), (1, .int (l1)), (2, .int (l2)), (3, .int (l3)), (4, .int (l4)), (5, .int (l5))]) [0, 1, 2, 3, 4, 5] rfl ?_
  refine z_or (fun k_a0 => ?_)
  refine z_aload_n dX10_guard_0 rfl 0 rfl ?_
  refine z_iload_n dX10_guard_1 rfl 1 rfl ?_
  refine z_pI (as := [.ref (a0), .int (l1)]) (rn_V dX10_guard_2 mf_X10_isRoutine in_X10_isRoutine lk_X10_230 ⟨by decide, by decide⟩ cl_8 rfl k_a0 rfl (Nat.le_of_ble_eq_true rfl)) (tX10_isRoutine _ _ _ _ _ _) cz_X10_isRoutine (c00 _) (fun v1 => ?_)
  refine z_if_eq (tgt := 49) dX10_guard_5 (by first | decide | omega) (fun _ => ?_) (fun _ => ?_)
  · skip
    refine z_ldc dX10_guard_49 co_X10_163 ?_
    exact z_iret dX10_guard_51 rfl (en0 _ _ _ _) rfl
  · skip
    refine z_iload_n dX10_guard_8 rfl 2 rfl ?_
    refine z_if_lt (tgt := 49) dX10_guard_9 (by first | decide | omega) (fun _ => ?_) (fun _ => ?_)
    · skip
      refine z_ldc dX10_guard_49 co_X10_163 ?_
      exact z_iret dX10_guard_51 rfl (en0 _ _ _ _) rfl
    · skip
      refine z_iload_n dX10_guard_12 rfl 2 rfl ?_
      refine z_iload_n dX10_guard_13 rfl 3 rfl ?_
      refine z_icmp_ge (tgt := 49) dX10_guard_14 (by first | decide | omega) (fun _ => ?_) (fun _ => ?_)
      · skip
        refine z_ldc dX10_guard_49 co_X10_163 ?_
        exact z_iret dX10_guard_51 rfl (en0 _ _ _ _) rfl
      · skip
        refine z_iload_n dX10_guard_17 rfl 3 rfl ?_
        refine z_bipush (v := 30) dX10_guard_18 (by decide) ?_
        refine z_icmp_gt (tgt := 49) dX10_guard_20 (by first | decide | omega) (fun _ => ?_) (fun _ => ?_)
        · skip
          refine z_ldc dX10_guard_49 co_X10_163 ?_
          exact z_iret dX10_guard_51 rfl (en0 _ _ _ _) rfl
        · skip
          refine z_iload dX10_guard_23 4 rfl ?_
          refine z_i2l dX10_guard_25 ?_
          refine z_lconst (v := 0) dX10_guard_26 (by decide) ?_
          refine z_ldc2 dX10_guard_27 co_X10_224 ?_
          refine z_pI (as := [.long (l4.toInt64), .long ((0 : Int64)), .long ((12 : Int64))]) (rn_S dX10_guard_30 mf_X10_in in_X10_in lk_X10_139 ⟨by decide, by decide⟩ rfl (Nat.le_of_ble_eq_true rfl)) (tX10_in _ _ _ _ _ _ _) cz_X10_in (c00 _) (fun v2 => ?_)
          refine z_if_eq (tgt := 49) dX10_guard_33 (by first | decide | omega) (fun _ => ?_) (fun _ => ?_)
          · skip
            refine z_ldc dX10_guard_49 co_X10_163 ?_
            exact z_iret dX10_guard_51 rfl (en0 _ _ _ _) rfl
          · skip
            refine z_iload dX10_guard_36 5 rfl ?_
            refine z_i2l dX10_guard_38 ?_
            refine z_lconst (v := 0) dX10_guard_39 (by decide) ?_
            refine z_ldc2 dX10_guard_40 co_X10_222 ?_
            refine z_pI (as := [.long (l5.toInt64), .long ((0 : Int64)), .long ((29 : Int64))]) (rn_S dX10_guard_43 mf_X10_in in_X10_in lk_X10_139 ⟨by decide, by decide⟩ rfl (Nat.le_of_ble_eq_true rfl)) (tX10_in _ _ _ _ _ _ _) cz_X10_in (c00 _) (fun v3 => ?_)
            refine z_if_ne (tgt := 52) dX10_guard_46 (by first | decide | omega) (fun _ => ?_) (fun _ => ?_)
            · skip
              refine z_aload_n dX10_guard_52 rfl 0 rfl ?_
              refine z_getR (kd := 50) dX10_guard_53 fl_X10_48 k_a0 (fun r4 kr4 => ?_)
              refine z_iload_n dX10_guard_56 rfl 1 rfl ?_
              refine z_iald dX10_guard_57 kr4 (fun v5 => ?_)
              refine z_iconst (v := 4) dX10_guard_58 (by decide) ?_
              refine z_icmp_ne (tgt := 65) dX10_guard_59 (by first | decide | omega) (fun _ => ?_) (fun _ => ?_)
              · skip
                refine z_bipush (v := 16) dX10_guard_65 (by decide) ?_
                refine z_iload_n dX10_guard_67 rfl 1 rfl ?_
                refine z_imul dX10_guard_68 ?_
                refine z_iconst (v := 4) dX10_guard_69 (by decide) ?_
                refine z_aload_n dX10_guard_70 rfl 0 rfl ?_
                refine z_getR (kd := 50) dX10_guard_71 fl_X10_48 k_a0 (fun r6 kr6 => ?_)
                refine z_iload_n dX10_guard_74 rfl 1 rfl ?_
                refine z_iald dX10_guard_75 kr6 (fun v7 => ?_)
                refine z_imul dX10_guard_76 ?_
                refine z_iadd dX10_guard_77 ?_
                refine z_istore (L' := [(6, .int (((16 : Int32) * l1) + ((4 : Int32) * v7))), (0, .ref (a0)), (1, .int (l1)), (2, .int (l2)), (3, .int (l3)), (4, .int (l4)), (5, .int (l5))]) dX10_guard_78 (by decide) rfl ?_
                refine z_aload_n dX10_guard_80 rfl 1 rfl ?_
                refine z_getR (kd := 50) dX10_guard_81 fl_X10_63 k_a0 (fun r8 kr8 => ?_)
                refine z_iload dX10_guard_84 0 rfl ?_
                refine z_iload_n dX10_guard_86 rfl 3 rfl ?_
                refine z_iast dX10_guard_87 kr8 (fun h9 => ?_)
                refine z_aload_n dX10_guard_88 rfl 1 rfl ?_
                refine z_getR (kd := 50) dX10_guard_89 fl_X10_63 k_a0 (fun r10 kr10 => ?_)
                refine z_iload dX10_guard_92 0 rfl ?_
                refine z_iconst (v := 1) dX10_guard_94 (by decide) ?_
                refine z_iadd dX10_guard_95 ?_
                refine z_iload_n dX10_guard_96 rfl 4 rfl ?_
                refine z_iast dX10_guard_97 kr10 (fun h11 => ?_)
                refine z_aload_n dX10_guard_98 rfl 1 rfl ?_
                refine z_getR (kd := 50) dX10_guard_99 fl_X10_63 k_a0 (fun r12 kr12 => ?_)
                refine z_iload dX10_guard_102 0 rfl ?_
                refine z_iconst (v := 2) dX10_guard_104 (by decide) ?_
                refine z_iadd dX10_guard_105 ?_
                refine z_iload dX10_guard_106 5 rfl ?_
                refine z_iast dX10_guard_108 kr12 (fun h13 => ?_)
                refine z_aload_n dX10_guard_109 rfl 1 rfl ?_
                refine z_getR (kd := 50) dX10_guard_110 fl_X10_63 k_a0 (fun r14 kr14 => ?_)
                refine z_iload dX10_guard_113 0 rfl ?_
                refine z_iconst (v := 3) dX10_guard_115 (by decide) ?_
                refine z_iadd dX10_guard_116 ?_
                refine z_iload dX10_guard_117 6 rfl ?_
                refine z_iast dX10_guard_119 kr14 (fun h15 => ?_)
                refine z_aload_n dX10_guard_120 rfl 1 rfl ?_
                refine z_getR (kd := 50) dX10_guard_121 fl_X10_48 k_a0 (fun r16 kr16 => ?_)
                refine z_iload_n dX10_guard_124 rfl 2 rfl ?_
                refine z_dup2 dX10_guard_125 rfl rfl ?_
                refine z_iald dX10_guard_126 kr16 (fun v17 => ?_)
                refine z_iconst (v := 1) dX10_guard_127 (by decide) ?_
                refine z_iadd dX10_guard_128 ?_
                refine z_iast dX10_guard_129 kr16 (fun h18 => ?_)
                refine z_aload_n dX10_guard_130 rfl 1 rfl ?_
                refine z_getR (kd := 50) dX10_guard_131 fl_X10_48 k_a0 (fun r19 kr19 => ?_)
                refine z_iload_n dX10_guard_134 rfl 2 rfl ?_
                refine z_iald dX10_guard_135 kr19 (fun v20 => ?_)
                refine z_iconst (v := 1) dX10_guard_136 (by decide) ?_
                refine z_isub dX10_guard_137 ?_
                exact z_iret dX10_guard_138 rfl (en0 _ _ _ _) rfl
              · skip
                refine z_ldc dX10_guard_62 co_X10_187 ?_
                exact z_iret dX10_guard_64 rfl (en0 _ _ _ _) rfl
            · skip
              refine z_ldc dX10_guard_49 co_X10_163 ?_
              exact z_iret dX10_guard_51 rfl (en0 _ _ _ _) rfl
def fX10_last (κ : Kd) (a0 : Nat) (l1 : Int32) (l2 : Int32) (h : Hp) : Option (Int32 × Hp) :=
  if (κ a0).1 = 9 then (
  (fX10_isRoutine κ a0 l1 h).bind fun v1 =>
  if v1 = 0 then (
    some ((-1000000 : Int32), h)
  ) else (
    (fX10_in κ l2.toInt64 (-1 : Int64) (29 : Int64) h).bind fun v2 =>
    if v2 = 0 then (
      some ((-1000000 : Int32), h)
    ) else (
      to_ κ (g_R h a0 18) 50 fun r3 =>
      a_I κ h r3 l1 fun v4 =>
      to_ κ (g_R h a0 18) 50 fun r5 =>
      w_I κ h r5 l1 l2 fun h6 =>
      some (v4, h6)
    )
  )) else none
set_option maxHeartbeats 4000000 in
set_option maxRecDepth 100000 in
theorem tX10_last (κ : Kd) (n lim : Nat) (h : Hp) (a0 : Nat) (l1 : Int32) (l2 : Int32) : Ct_ mX10_last [.ref (a0), .int (l1), .int (l2)] κ n lim h (eI κ n) (fX10_last κ a0 l1 l2 h) := by
  refine ct_of (by decide) (Nat.le_of_ble_eq_true rfl) ?_
  unfold fX10_last
  refine z_sub (L' := [(0, .ref (a0)), (1, .int (l1)), (2, .int (l2))]) [0, 1, 2] rfl ?_
  refine z_or (fun k_a0 => ?_)
  refine z_aload_n dX10_last_0 rfl 0 rfl ?_
  refine z_iload_n dX10_last_1 rfl 1 rfl ?_
  refine z_pI (as := [.ref (a0), .int (l1)]) (rn_V dX10_last_2 mf_X10_isRoutine in_X10_isRoutine lk_X10_230 ⟨by decide, by decide⟩ cl_8 rfl k_a0 rfl (Nat.le_of_ble_eq_true rfl)) (tX10_isRoutine _ _ _ _ _ _) cz_X10_isRoutine (c00 _) (fun v1 => ?_)
  refine z_if_eq (tgt := 22) dX10_last_5 (by first | decide | omega) (fun _ => ?_) (fun _ => ?_)
  · skip
    refine z_ldc dX10_last_22 co_X10_163 ?_
    exact z_iret dX10_last_24 rfl (en0 _ _ _ _) rfl
  · skip
    refine z_iload_n dX10_last_8 rfl 2 rfl ?_
    refine z_i2l dX10_last_9 ?_
    refine z_ldc2 dX10_last_10 co_X10_237 ?_
    refine z_ldc2 dX10_last_13 co_X10_222 ?_
    refine z_pI (as := [.long (l2.toInt64), .long ((-1 : Int64)), .long ((29 : Int64))]) (rn_S dX10_last_16 mf_X10_in in_X10_in lk_X10_139 ⟨by decide, by decide⟩ rfl (Nat.le_of_ble_eq_true rfl)) (tX10_in _ _ _ _ _ _ _) cz_X10_in (c00 _) (fun v2 => ?_)
    refine z_if_ne (tgt := 25) dX10_last_19 (by first | decide | omega) (fun _ => ?_) (fun _ => ?_)
    · skip
      refine z_aload_n dX10_last_25 rfl 0 rfl ?_
      refine z_getR (kd := 50) dX10_last_26 fl_X10_51 k_a0 (fun r3 kr3 => ?_)
      refine z_iload_n dX10_last_29 rfl 1 rfl ?_
      refine z_iald dX10_last_30 kr3 (fun v4 => ?_)
      refine z_istore_n (L' := [(3, .int (v4)), (0, .ref (a0)), (1, .int (l1)), (2, .int (l2))]) dX10_last_31 rfl (by decide) rfl ?_
      refine z_aload_n dX10_last_32 rfl 1 rfl ?_
      refine z_getR (kd := 50) dX10_last_33 fl_X10_51 k_a0 (fun r5 kr5 => ?_)
      refine z_iload_n dX10_last_36 rfl 2 rfl ?_
      refine z_iload_n dX10_last_37 rfl 3 rfl ?_
      refine z_iast dX10_last_38 kr5 (fun h6 => ?_)
      refine z_iload_n dX10_last_39 rfl 0 rfl ?_
      exact z_iret dX10_last_40 rfl (en0 _ _ _ _) rfl
    · skip
      refine z_ldc dX10_last_22 co_X10_163 ?_
      exact z_iret dX10_last_24 rfl (en0 _ _ _ _) rfl
def fX10_enter_b71 (κ : Kd) (a0 : Nat) (l2 : Int32) : Nat → Int32 → Hp → Option (Hp)
  | 0, _, _ => none
  | N + 1, l3, h =>
    if (6 : Int32) ≤ l3 then (
      some h
    ) else (
      to_ κ (g_R h a0 26) 51 fun r11 =>
      w_J κ h r11 (((6 : Int32) * l2) + l3) (0 : Int64) fun h12 =>
      fX10_enter_b71 κ a0 l2 N (l3 + 1) h12
    )
set_option maxRecDepth 100000 in
theorem zX10_enter_b71 (κ : Kd) (n lim : Nat) (a0 : Nat) (l2 : Int32) (k_a0 : (κ a0).1 = 9) : ∀ (N : Nat) (l3 : Int32) (h : Hp), ZQ mX10_enter (eV κ n) (κ, n, 0, lim) 71 [(0, .ref (a0)), (2, .int (l2)), (3, .int (l3))] [] h (fX10_enter_b71 κ a0 l2 N l3 h) := by
  intro N
  induction N with
  | zero =>
    intro l3 h
    rw [fX10_enter_b71]
    exact z_no
  | succ N ih =>
    intro l3 h
    rw [fX10_enter_b71]
    refine z_iload_n dX10_enter_71 rfl 2 rfl ?_
    refine z_bipush (v := 6) dX10_enter_72 (by decide) ?_
    refine z_icmp_ge (tgt := 95) dX10_enter_74 (by first | decide | omega) (fun _ => ?_) (fun _ => ?_)
    · skip
      exact z_vret dX10_enter_95 rfl (en0 _ _ _ _) rfl
    · skip
      refine z_aload_n dX10_enter_77 rfl 0 rfl ?_
      refine z_getR (kd := 51) dX10_enter_78 fl_X10_72 k_a0 (fun r11 kr11 => ?_)
      refine z_bipush (v := 6) dX10_enter_81 (by decide) ?_
      refine z_iload_n dX10_enter_83 rfl 1 rfl ?_
      refine z_imul dX10_enter_84 ?_
      refine z_iload_n dX10_enter_85 rfl 2 rfl ?_
      refine z_iadd dX10_enter_86 ?_
      refine z_lconst (v := 0) dX10_enter_87 (by decide) ?_
      refine z_last dX10_enter_88 kr11 (fun h12 => ?_)
      refine z_iinc (j := 2) (v := l3 + 1) (L' := [(3, .int (l3 + 1)), (0, .ref (a0)), (2, .int (l2))]) dX10_enter_89 rfl rfl (by decide) rfl ?_
      refine z_goto (tgt := 71) dX10_enter_92 (by decide) ?_
      refine z_sub [1, 2, 0] rfl ?_
      exact ih ((l3 + 1)) h12
def fX10_enter_b38 (κ : Kd) (a0 : Nat) (l1 : Int32) (l2 : Int32) (s0 : Int32) (s1 : Nat) (h : Hp) : Option (Hp) :=
  lt_ (s_I h s1 51 s0) fun h2 =>
  to_ κ (g_R h2 a0 24) 50 fun r3 =>
  w_I κ h2 r3 l2 l1 fun h4 =>
  to_ κ (g_R h4 a0 25) 50 fun r5 =>
  w_I κ h4 r5 l2 (0 : Int32) fun h6 =>
  to_ κ (g_R h6 a0 28) 50 fun r7 =>
  w_I κ h6 r7 l2 (0 : Int32) fun h8 =>
  to_ κ (g_R h8 a0 29) 53 fun r9 =>
  w_I κ h8 r9 l2 (0 : Int32) fun h10 =>
  fX10_enter_b71 κ a0 l2 fu_ (0 : Int32) h10
set_option maxRecDepth 100000 in
theorem zX10_enter_b38 (κ : Kd) (n lim : Nat) (a0 : Nat) (l1 : Int32) (l2 : Int32) (s0 : Int32) (s1 : Nat) (k_a0 : (κ a0).1 = 9)(k_s1 : (κ s1).1 = 9) (h : Hp) : ZQ mX10_enter (eV κ n) (κ, n, 0, lim) 38 [(0, .ref (a0)), (1, .int (l1)), (2, .int (l2))] [.int (s0), .ref (s1)] h (fX10_enter_b38 κ a0 l1 l2 s0 s1 h) := by
  unfold fX10_enter_b38
  refine z_putI dX10_enter_38 fl_X10_242 (Or.inl rfl) k_s1 (fun h2 => ?_)
  refine z_aload_n dX10_enter_41 rfl 0 rfl ?_
  refine z_getR (kd := 50) dX10_enter_42 fl_X10_66 k_a0 (fun r3 kr3 => ?_)
  refine z_iload_n dX10_enter_45 rfl 2 rfl ?_
  refine z_iload_n dX10_enter_46 rfl 1 rfl ?_
  refine z_iast dX10_enter_47 kr3 (fun h4 => ?_)
  refine z_aload_n dX10_enter_48 rfl 0 rfl ?_
  refine z_getR (kd := 50) dX10_enter_49 fl_X10_69 k_a0 (fun r5 kr5 => ?_)
  refine z_iload_n dX10_enter_52 rfl 2 rfl ?_
  refine z_iconst (v := 0) dX10_enter_53 (by decide) ?_
  refine z_iast dX10_enter_54 kr5 (fun h6 => ?_)
  refine z_aload_n dX10_enter_55 rfl 0 rfl ?_
  refine z_getR (kd := 50) dX10_enter_56 fl_X10_78 k_a0 (fun r7 kr7 => ?_)
  refine z_iload_n dX10_enter_59 rfl 2 rfl ?_
  refine z_iconst (v := 0) dX10_enter_60 (by decide) ?_
  refine z_iast dX10_enter_61 kr7 (fun h8 => ?_)
  refine z_aload_n dX10_enter_62 rfl 0 rfl ?_
  refine z_getR (kd := 53) dX10_enter_63 fl_X10_81 k_a0 (fun r9 kr9 => ?_)
  refine z_iload_n dX10_enter_66 rfl 2 rfl ?_
  refine z_iconst (v := 0) dX10_enter_67 (by decide) ?_
  refine z_zast dX10_enter_68 rfl kr9 (fun h10 => ?_)
  refine z_iconst (v := 0) dX10_enter_69 (by decide) ?_
  refine z_istore_n (L' := [(3, .int ((0 : Int32))), (0, .ref (a0)), (1, .int (l1)), (2, .int (l2))]) dX10_enter_70 rfl (by decide) rfl ?_
  refine z_sub [1, 3, 0] rfl ?_
  exact zX10_enter_b71 _ _ _ a0 l2 k_a0 fu_ (0 : Int32) h10
def fX10_enter (κ : Kd) (a0 : Nat) (l1 : Int32) (h : Hp) : Option (Hp) :=
  if (κ a0).1 = 9 then (
  lt_ (s_I h a0 23 ((g_I h a0 23) + (1 : Int32))) fun h1 =>
  if (g_I h1 a0 23) ≤ (g_I h1 a0 51) then (
    fX10_enter_b38 κ a0 l1 (g_I h a0 23) (g_I h1 a0 51) a0 h1
  ) else (
    fX10_enter_b38 κ a0 l1 (g_I h a0 23) (g_I h1 a0 23) a0 h1
  )) else none
set_option maxHeartbeats 4000000 in
set_option maxRecDepth 100000 in
theorem tX10_enter (κ : Kd) (n lim : Nat) (h : Hp) (a0 : Nat) (l1 : Int32) : Ct_ mX10_enter [.ref (a0), .int (l1)] κ n lim h (eV κ n) (fX10_enter κ a0 l1 h) := by
  refine ct_of (by decide) (Nat.le_of_ble_eq_true rfl) ?_
  unfold fX10_enter
  refine z_sub (L' := [(0, .ref (a0)), (1, .int (l1))]) [0, 1] rfl ?_
  refine z_or (fun k_a0 => ?_)
  refine z_aload_n dX10_enter_0 rfl 0 rfl ?_
  refine z_getI dX10_enter_1 fl_X10_239 k_a0 ?_
  refine z_istore_n (L' := [(2, .int (g_I h a0 23)), (0, .ref (a0)), (1, .int (l1))]) dX10_enter_4 rfl (by decide) rfl ?_
  refine z_aload_n dX10_enter_5 rfl 1 rfl ?_
  refine z_dup dX10_enter_6 rfl ?_
  refine z_getI dX10_enter_7 fl_X10_239 k_a0 ?_
  refine z_iconst (v := 1) dX10_enter_10 (by decide) ?_
  refine z_iadd dX10_enter_11 ?_
  refine z_putI dX10_enter_12 fl_X10_239 (Or.inl rfl) k_a0 (fun h1 => ?_)
  refine z_aload_n dX10_enter_15 rfl 1 rfl ?_
  refine z_aload_n dX10_enter_16 rfl 1 rfl ?_
  refine z_getI dX10_enter_17 fl_X10_239 k_a0 ?_
  refine z_aload_n dX10_enter_20 rfl 1 rfl ?_
  refine z_getI dX10_enter_21 fl_X10_242 k_a0 ?_
  refine z_icmp_le (tgt := 34) dX10_enter_24 (by first | decide | omega) (fun _ => ?_) (fun _ => ?_)
  · skip
    refine z_aload_n dX10_enter_34 rfl 1 rfl ?_
    refine z_getI dX10_enter_35 fl_X10_242 k_a0 ?_
    refine z_sub [1, 2, 0] rfl ?_
    exact zX10_enter_b38 _ _ _ a0 l1 (g_I h a0 23) (g_I h1 a0 51) a0 k_a0 k_a0 h1
  · skip
    refine z_aload_n dX10_enter_27 rfl 1 rfl ?_
    refine z_getI dX10_enter_28 fl_X10_239 k_a0 ?_
    refine z_goto (tgt := 38) dX10_enter_31 (by decide) ?_
    refine z_sub [1, 2, 0] rfl ?_
    exact zX10_enter_b38 _ _ _ a0 l1 (g_I h a0 23) (g_I h1 a0 23) a0 k_a0 k_a0 h1
def fX10_isPlace (κ : Kd) (a0 : Nat) (l1 : Int32) (l2 : Int32) (h : Hp) : Option (Int32) :=
  if (κ a0).1 = 9 then (
  to_ κ (g_R h a0 16) 50 fun r1 =>
  a_I κ h r1 l1 fun v2 =>
  (fX10_in κ l2.toInt64 (0 : Int64) ((v2 - (1 : Int32)).toInt64) h).bind fun v3 =>
  if v3 = 0 ∨ v3 = 1 then some (v3) else none) else none
set_option maxHeartbeats 4000000 in
set_option maxRecDepth 100000 in
theorem tX10_isPlace (κ : Kd) (n lim : Nat) (h : Hp) (a0 : Nat) (l1 : Int32) (l2 : Int32) : Ct_ mX10_isPlace [.ref (a0), .int (l1), .int (l2)] κ n lim h (pI κ n h) (fX10_isPlace κ a0 l1 l2 h) := by
  refine ct_of (by decide) (Nat.le_of_ble_eq_true rfl) ?_
  unfold fX10_isPlace
  refine z_sub (L' := [(0, .ref (a0)), (1, .int (l1)), (2, .int (l2))]) [0, 1, 2] rfl ?_
  refine z_or (fun k_a0 => ?_)
  refine z_iload_n dX10_isPlace_0 rfl 2 rfl ?_
  refine z_i2l dX10_isPlace_1 ?_
  refine z_lconst (v := 0) dX10_isPlace_2 (by decide) ?_
  refine z_aload_n dX10_isPlace_3 rfl 0 rfl ?_
  refine z_getR (kd := 50) dX10_isPlace_4 fl_X10_45 k_a0 (fun r1 kr1 => ?_)
  refine z_iload_n dX10_isPlace_7 rfl 1 rfl ?_
  refine z_iald dX10_isPlace_8 kr1 (fun v2 => ?_)
  refine z_iconst (v := 1) dX10_isPlace_9 (by decide) ?_
  refine z_isub dX10_isPlace_10 ?_
  refine z_i2l dX10_isPlace_11 ?_
  refine z_pI (as := [.long (l2.toInt64), .long ((0 : Int64)), .long ((v2 - (1 : Int32)).toInt64)]) (rn_S dX10_isPlace_12 mf_X10_in in_X10_in lk_X10_139 ⟨by decide, by decide⟩ rfl (Nat.le_of_ble_eq_true rfl)) (tX10_in _ _ _ _ _ _ _) cz_X10_in (c00 _) (fun v3 => ?_)
  exact z_or (fun hz => z_zret dX10_isPlace_15 rfl (nb_ hz) (en0 _ _ _ _) rfl)
def fX10_mayBeginLast (κ : Kd) (a0 : Nat) (h : Hp) : Option (Int32) :=
  if (κ a0).1 = 9 then (
  to_ κ (g_R h a0 29) 53 fun r1 =>
  a_I κ h r1 ((g_I h a0 23) - (1 : Int32)) fun v2 =>
  if v2 = 0 then (
    to_ κ (g_R h a0 24) 50 fun r3 =>
    a_I κ h r3 ((g_I h a0 23) - (1 : Int32)) fun v4 =>
    to_ κ (g_R h a0 18) 50 fun r5 =>
    to_ κ (g_R h a0 24) 50 fun r6 =>
    a_I κ h r6 ((g_I h a0 23) - (1 : Int32)) fun v7 =>
    a_I κ h r5 v7 fun v8 =>
    (fX10_isPlace κ a0 v4 v8 h).bind fun v9 =>
    if v9 = 0 then (
      some ((0 : Int32))
    ) else (
      some ((1 : Int32))
    )
  ) else (
    some ((0 : Int32))
  )) else none
set_option maxHeartbeats 4000000 in
set_option maxRecDepth 100000 in
theorem tX10_mayBeginLast (κ : Kd) (n lim : Nat) (h : Hp) (a0 : Nat) : Ct_ mX10_mayBeginLast [.ref (a0)] κ n lim h (pI κ n h) (fX10_mayBeginLast κ a0 h) := by
  refine ct_of (by decide) (Nat.le_of_ble_eq_true rfl) ?_
  unfold fX10_mayBeginLast
  refine z_sub (L' := [(0, .ref (a0))]) [0] rfl ?_
  refine z_or (fun k_a0 => ?_)
  refine z_aload_n dX10_mayBeginLast_0 rfl 0 rfl ?_
  refine z_getI dX10_mayBeginLast_1 fl_X10_239 k_a0 ?_
  refine z_iconst (v := 1) dX10_mayBeginLast_4 (by decide) ?_
  refine z_isub dX10_mayBeginLast_5 ?_
  refine z_istore_n (L' := [(1, .int ((g_I h a0 23) - (1 : Int32))), (0, .ref (a0))]) dX10_mayBeginLast_6 rfl (by decide) rfl ?_
  refine z_aload_n dX10_mayBeginLast_7 rfl 1 rfl ?_
  refine z_getR (kd := 53) dX10_mayBeginLast_8 fl_X10_81 k_a0 (fun r1 kr1 => ?_)
  refine z_iload_n dX10_mayBeginLast_11 rfl 0 rfl ?_
  refine z_zald dX10_mayBeginLast_12 kr1 (fun v2 => ?_)
  refine z_if_ne (tgt := 44) dX10_mayBeginLast_13 (by first | decide | omega) (fun _ => ?_) (fun _ => ?_)
  · skip
    refine z_iconst (v := 0) dX10_mayBeginLast_44 (by decide) ?_
    exact z_zret dX10_mayBeginLast_45 rfl rfl (en0 _ _ _ _) rfl
  · skip
    refine z_aload_n dX10_mayBeginLast_16 rfl 1 rfl ?_
    refine z_aload_n dX10_mayBeginLast_17 rfl 1 rfl ?_
    refine z_getR (kd := 50) dX10_mayBeginLast_18 fl_X10_66 k_a0 (fun r3 kr3 => ?_)
    refine z_iload_n dX10_mayBeginLast_21 rfl 0 rfl ?_
    refine z_iald dX10_mayBeginLast_22 kr3 (fun v4 => ?_)
    refine z_aload_n dX10_mayBeginLast_23 rfl 1 rfl ?_
    refine z_getR (kd := 50) dX10_mayBeginLast_24 fl_X10_51 k_a0 (fun r5 kr5 => ?_)
    refine z_aload_n dX10_mayBeginLast_27 rfl 1 rfl ?_
    refine z_getR (kd := 50) dX10_mayBeginLast_28 fl_X10_66 k_a0 (fun r6 kr6 => ?_)
    refine z_iload_n dX10_mayBeginLast_31 rfl 0 rfl ?_
    refine z_iald dX10_mayBeginLast_32 kr6 (fun v7 => ?_)
    refine z_iald dX10_mayBeginLast_33 kr5 (fun v8 => ?_)
    refine z_pI (as := [.ref (a0), .int (v4), .int (v8)]) (rn_V dX10_mayBeginLast_34 mf_X10_isPlace in_X10_isPlace lk_X10_245 ⟨by decide, by decide⟩ cl_8 rfl k_a0 rfl (Nat.le_of_ble_eq_true rfl)) (tX10_isPlace _ _ _ _ _ _ _) cz_X10_isPlace (c00 _) (fun v9 => ?_)
    refine z_if_eq (tgt := 44) dX10_mayBeginLast_37 (by first | decide | omega) (fun _ => ?_) (fun _ => ?_)
    · skip
      refine z_iconst (v := 0) dX10_mayBeginLast_44 (by decide) ?_
      exact z_zret dX10_mayBeginLast_45 rfl rfl (en0 _ _ _ _) rfl
    · skip
      refine z_iconst (v := 1) dX10_mayBeginLast_40 (by decide) ?_
      refine z_goto (tgt := 45) dX10_mayBeginLast_41 (by decide) ?_
      exact z_zret dX10_mayBeginLast_45 rfl rfl (en0 _ _ _ _) rfl
def fX10_beginLast (κ : Kd) (a0 : Nat) (l1 : Int32) (l2 : Int64) (l4 : Int32) (l5 : Int32) (h : Hp) : Option (Hp) :=
  if (κ a0).1 = 9 then (
  lt_ (s_I h a0 50 ((g_I h a0 50) + (1 : Int32))) fun h1 =>
  to_ κ (g_R h1 a0 29) 53 fun r2 =>
  w_I κ h1 r2 ((g_I h a0 23) - (1 : Int32)) (1 : Int32) fun h3 =>
  to_ κ (g_R h3 a0 30) 50 fun r4 =>
  w_I κ h3 r4 ((g_I h a0 23) - (1 : Int32)) l1 fun h5 =>
  to_ κ (g_R h5 a0 31) 51 fun r6 =>
  w_J κ h5 r6 ((g_I h a0 23) - (1 : Int32)) l2 fun h7 =>
  to_ κ (g_R h7 a0 32) 50 fun r8 =>
  w_I κ h7 r8 ((g_I h a0 23) - (1 : Int32)) l4 fun h9 =>
  to_ κ (g_R h9 a0 33) 50 fun r10 =>
  w_I κ h9 r10 ((g_I h a0 23) - (1 : Int32)) l5 fun h11 =>
  to_ κ (g_R h11 a0 28) 50 fun r12 =>
  w_I κ h11 r12 ((g_I h a0 23) - (1 : Int32)) (0 : Int32) fun h13 =>
  to_ κ (g_R h13 a0 25) 50 fun r14 =>
  to_ κ (g_R h13 a0 18) 50 fun r15 =>
  to_ κ (g_R h13 a0 24) 50 fun r16 =>
  a_I κ h13 r16 ((g_I h a0 23) - (1 : Int32)) fun v17 =>
  a_I κ h13 r15 v17 fun v18 =>
  w_I κ h13 r14 ((g_I h a0 23) - (1 : Int32)) v18 fun h19 =>
  some h19) else none
set_option maxHeartbeats 4000000 in
set_option maxRecDepth 100000 in
theorem tX10_beginLast (κ : Kd) (n lim : Nat) (h : Hp) (a0 : Nat) (l1 : Int32) (l2 : Int64) (l4 : Int32) (l5 : Int32) : Ct_ mX10_beginLast [.ref (a0), .int (l1), .long (l2), .int (l4), .int (l5)] κ n lim h (eV κ n) (fX10_beginLast κ a0 l1 l2 l4 l5 h) := by
  refine ct_of (by decide) (Nat.le_of_ble_eq_true rfl) ?_
  unfold fX10_beginLast
  refine z_sub (L' := [(0, .ref (a0)), (1, .int (l1)), (2, .long (l2)), (4, .int (l4)), (5, .int (l5))]) [0, 1, 2, 3, 4] rfl ?_
  refine z_or (fun k_a0 => ?_)
  refine z_aload_n dX10_beginLast_0 rfl 0 rfl ?_
  refine z_getI dX10_beginLast_1 fl_X10_239 k_a0 ?_
  refine z_iconst (v := 1) dX10_beginLast_4 (by decide) ?_
  refine z_isub dX10_beginLast_5 ?_
  refine z_istore (L' := [(6, .int ((g_I h a0 23) - (1 : Int32))), (0, .ref (a0)), (1, .int (l1)), (2, .long (l2)), (4, .int (l4)), (5, .int (l5))]) dX10_beginLast_6 (by decide) rfl ?_
  refine z_aload_n dX10_beginLast_8 rfl 1 rfl ?_
  refine z_dup dX10_beginLast_9 rfl ?_
  refine z_getI dX10_beginLast_10 fl_X10_249 k_a0 ?_
  refine z_iconst (v := 1) dX10_beginLast_13 (by decide) ?_
  refine z_iadd dX10_beginLast_14 ?_
  refine z_putI dX10_beginLast_15 fl_X10_249 (Or.inl rfl) k_a0 (fun h1 => ?_)
  refine z_aload_n dX10_beginLast_18 rfl 1 rfl ?_
  refine z_getR (kd := 53) dX10_beginLast_19 fl_X10_81 k_a0 (fun r2 kr2 => ?_)
  refine z_iload dX10_beginLast_22 0 rfl ?_
  refine z_iconst (v := 1) dX10_beginLast_24 (by decide) ?_
  refine z_zast dX10_beginLast_25 rfl kr2 (fun h3 => ?_)
  refine z_aload_n dX10_beginLast_26 rfl 1 rfl ?_
  refine z_getR (kd := 50) dX10_beginLast_27 fl_X10_85 k_a0 (fun r4 kr4 => ?_)
  refine z_iload dX10_beginLast_30 0 rfl ?_
  refine z_iload_n dX10_beginLast_32 rfl 2 rfl ?_
  refine z_iast dX10_beginLast_33 kr4 (fun h5 => ?_)
  refine z_aload_n dX10_beginLast_34 rfl 1 rfl ?_
  refine z_getR (kd := 51) dX10_beginLast_35 fl_X10_88 k_a0 (fun r6 kr6 => ?_)
  refine z_iload dX10_beginLast_38 0 rfl ?_
  refine z_lload_n dX10_beginLast_40 rfl 3 rfl ?_
  refine z_last dX10_beginLast_41 kr6 (fun h7 => ?_)
  refine z_aload_n dX10_beginLast_42 rfl 1 rfl ?_
  refine z_getR (kd := 50) dX10_beginLast_43 fl_X10_91 k_a0 (fun r8 kr8 => ?_)
  refine z_iload dX10_beginLast_46 0 rfl ?_
  refine z_iload dX10_beginLast_48 4 rfl ?_
  refine z_iast dX10_beginLast_50 kr8 (fun h9 => ?_)
  refine z_aload_n dX10_beginLast_51 rfl 1 rfl ?_
  refine z_getR (kd := 50) dX10_beginLast_52 fl_X10_94 k_a0 (fun r10 kr10 => ?_)
  refine z_iload dX10_beginLast_55 0 rfl ?_
  refine z_iload dX10_beginLast_57 5 rfl ?_
  refine z_iast dX10_beginLast_59 kr10 (fun h11 => ?_)
  refine z_aload_n dX10_beginLast_60 rfl 1 rfl ?_
  refine z_getR (kd := 50) dX10_beginLast_61 fl_X10_78 k_a0 (fun r12 kr12 => ?_)
  refine z_iload dX10_beginLast_64 0 rfl ?_
  refine z_iconst (v := 0) dX10_beginLast_66 (by decide) ?_
  refine z_iast dX10_beginLast_67 kr12 (fun h13 => ?_)
  refine z_aload_n dX10_beginLast_68 rfl 1 rfl ?_
  refine z_getR (kd := 50) dX10_beginLast_69 fl_X10_69 k_a0 (fun r14 kr14 => ?_)
  refine z_iload dX10_beginLast_72 0 rfl ?_
  refine z_aload_n dX10_beginLast_74 rfl 1 rfl ?_
  refine z_getR (kd := 50) dX10_beginLast_75 fl_X10_51 k_a0 (fun r15 kr15 => ?_)
  refine z_aload_n dX10_beginLast_78 rfl 1 rfl ?_
  refine z_getR (kd := 50) dX10_beginLast_79 fl_X10_66 k_a0 (fun r16 kr16 => ?_)
  refine z_iload dX10_beginLast_82 0 rfl ?_
  refine z_iald dX10_beginLast_84 kr16 (fun v17 => ?_)
  refine z_iald dX10_beginLast_85 kr15 (fun v18 => ?_)
  refine z_iast dX10_beginLast_86 kr14 (fun h19 => ?_)
  exact z_vret dX10_beginLast_87 rfl (en0 _ _ _ _) rfl
def fX10_isTaken_b16 (κ : Kd) (a0 : Nat) (l1 : Int32) (l2 : Int32) : Nat → Int32 → Hp → Option (Int32 × Hp)
  | 0, _, _ => none
  | N + 1, l3, h =>
    to_ κ (g_R h a0 17) 50 fun r3 =>
    a_I κ h r3 l2 fun v4 =>
    if v4 ≤ l3 then (
      some ((0 : Int32), h)
    ) else (
      to_ κ (g_R h a0 25) 50 fun r5 =>
      a_I κ h r5 l1 fun v6 =>
      to_ κ (g_R h a0 22) 50 fun r7 =>
      a_I κ h r7 (((16 : Int32) * l2) + ((4 : Int32) * l3)) fun v8 =>
      if v6 < v8 then (
        if (0 : Int32) = 0 then (
          fX10_isTaken_b16 κ a0 l1 l2 N (l3 + 1) h
        ) else (
          to_ κ (g_R h a0 22) 50 fun r9 =>
          a_I κ h r9 ((((16 : Int32) * l2) + ((4 : Int32) * l3)) + (2 : Int32)) fun v10 =>
          if v10 = 0 then (
            to_ κ (g_R h a0 22) 50 fun r11 =>
            a_I κ h r11 ((((16 : Int32) * l2) + ((4 : Int32) * l3)) + (3 : Int32)) fun v12 =>
            (fX10_isPlace κ a0 l2 v12 h).bind fun v13 =>
            if v13 = 0 then (
              fX10_isTaken_b16 κ a0 l1 l2 N (l3 + 1) h
            ) else (
              lt_ (s_I h a0 49 ((g_I h a0 49) + (1 : Int32))) fun h14 =>
              to_ κ (g_R h14 a0 27) 51 fun r15 =>
              w_J κ h14 r15 ((8 : Int32) * l1) (g_J h14 a0 35) fun h16 =>
              to_ κ (g_R h16 a0 27) 51 fun r17 =>
              w_J κ h16 r17 (((8 : Int32) * l1) + (1 : Int32)) ((g_I h16 a0 34).toInt64) fun h18 =>
              to_ κ (g_R h18 a0 28) 50 fun r19 =>
              w_I κ h18 r19 l1 (2 : Int32) fun h20 =>
              to_ κ (g_R h20 a0 25) 50 fun r21 =>
              to_ κ (g_R h20 a0 22) 50 fun r22 =>
              a_I κ h20 r22 ((((16 : Int32) * l2) + ((4 : Int32) * l3)) + (3 : Int32)) fun v23 =>
              w_I κ h20 r21 l1 v23 fun h24 =>
              some ((1 : Int32), h24)
            )
          ) else (
            to_ κ (g_R h a0 22) 50 fun r25 =>
            a_I κ h r25 ((((16 : Int32) * l2) + ((4 : Int32) * l3)) + (2 : Int32)) fun v26 =>
            if v26 = (g_I h a0 34) then (
              to_ κ (g_R h a0 22) 50 fun r27 =>
              a_I κ h r27 ((((16 : Int32) * l2) + ((4 : Int32) * l3)) + (3 : Int32)) fun v28 =>
              (fX10_isPlace κ a0 l2 v28 h).bind fun v29 =>
              if v29 = 0 then (
                fX10_isTaken_b16 κ a0 l1 l2 N (l3 + 1) h
              ) else (
                lt_ (s_I h a0 49 ((g_I h a0 49) + (1 : Int32))) fun h30 =>
                to_ κ (g_R h30 a0 27) 51 fun r31 =>
                w_J κ h30 r31 ((8 : Int32) * l1) (g_J h30 a0 35) fun h32 =>
                to_ κ (g_R h32 a0 27) 51 fun r33 =>
                w_J κ h32 r33 (((8 : Int32) * l1) + (1 : Int32)) ((g_I h32 a0 34).toInt64) fun h34 =>
                to_ κ (g_R h34 a0 28) 50 fun r35 =>
                w_I κ h34 r35 l1 (2 : Int32) fun h36 =>
                to_ κ (g_R h36 a0 25) 50 fun r37 =>
                to_ κ (g_R h36 a0 22) 50 fun r38 =>
                a_I κ h36 r38 ((((16 : Int32) * l2) + ((4 : Int32) * l3)) + (3 : Int32)) fun v39 =>
                w_I κ h36 r37 l1 v39 fun h40 =>
                some ((1 : Int32), h40)
              )
            ) else (
              fX10_isTaken_b16 κ a0 l1 l2 N (l3 + 1) h
            )
          )
        )
      ) else (
        to_ κ (g_R h a0 25) 50 fun r41 =>
        a_I κ h r41 l1 fun v42 =>
        to_ κ (g_R h a0 22) 50 fun r43 =>
        a_I κ h r43 ((((16 : Int32) * l2) + ((4 : Int32) * l3)) + (1 : Int32)) fun v44 =>
        if v44 ≤ v42 then (
          if (0 : Int32) = 0 then (
            fX10_isTaken_b16 κ a0 l1 l2 N (l3 + 1) h
          ) else (
            to_ κ (g_R h a0 22) 50 fun r45 =>
            a_I κ h r45 ((((16 : Int32) * l2) + ((4 : Int32) * l3)) + (2 : Int32)) fun v46 =>
            if v46 = 0 then (
              to_ κ (g_R h a0 22) 50 fun r47 =>
              a_I κ h r47 ((((16 : Int32) * l2) + ((4 : Int32) * l3)) + (3 : Int32)) fun v48 =>
              (fX10_isPlace κ a0 l2 v48 h).bind fun v49 =>
              if v49 = 0 then (
                fX10_isTaken_b16 κ a0 l1 l2 N (l3 + 1) h
              ) else (
                lt_ (s_I h a0 49 ((g_I h a0 49) + (1 : Int32))) fun h50 =>
                to_ κ (g_R h50 a0 27) 51 fun r51 =>
                w_J κ h50 r51 ((8 : Int32) * l1) (g_J h50 a0 35) fun h52 =>
                to_ κ (g_R h52 a0 27) 51 fun r53 =>
                w_J κ h52 r53 (((8 : Int32) * l1) + (1 : Int32)) ((g_I h52 a0 34).toInt64) fun h54 =>
                to_ κ (g_R h54 a0 28) 50 fun r55 =>
                w_I κ h54 r55 l1 (2 : Int32) fun h56 =>
                to_ κ (g_R h56 a0 25) 50 fun r57 =>
                to_ κ (g_R h56 a0 22) 50 fun r58 =>
                a_I κ h56 r58 ((((16 : Int32) * l2) + ((4 : Int32) * l3)) + (3 : Int32)) fun v59 =>
                w_I κ h56 r57 l1 v59 fun h60 =>
                some ((1 : Int32), h60)
              )
            ) else (
              to_ κ (g_R h a0 22) 50 fun r61 =>
              a_I κ h r61 ((((16 : Int32) * l2) + ((4 : Int32) * l3)) + (2 : Int32)) fun v62 =>
              if v62 = (g_I h a0 34) then (
                to_ κ (g_R h a0 22) 50 fun r63 =>
                a_I κ h r63 ((((16 : Int32) * l2) + ((4 : Int32) * l3)) + (3 : Int32)) fun v64 =>
                (fX10_isPlace κ a0 l2 v64 h).bind fun v65 =>
                if v65 = 0 then (
                  fX10_isTaken_b16 κ a0 l1 l2 N (l3 + 1) h
                ) else (
                  lt_ (s_I h a0 49 ((g_I h a0 49) + (1 : Int32))) fun h66 =>
                  to_ κ (g_R h66 a0 27) 51 fun r67 =>
                  w_J κ h66 r67 ((8 : Int32) * l1) (g_J h66 a0 35) fun h68 =>
                  to_ κ (g_R h68 a0 27) 51 fun r69 =>
                  w_J κ h68 r69 (((8 : Int32) * l1) + (1 : Int32)) ((g_I h68 a0 34).toInt64) fun h70 =>
                  to_ κ (g_R h70 a0 28) 50 fun r71 =>
                  w_I κ h70 r71 l1 (2 : Int32) fun h72 =>
                  to_ κ (g_R h72 a0 25) 50 fun r73 =>
                  to_ κ (g_R h72 a0 22) 50 fun r74 =>
                  a_I κ h72 r74 ((((16 : Int32) * l2) + ((4 : Int32) * l3)) + (3 : Int32)) fun v75 =>
                  w_I κ h72 r73 l1 v75 fun h76 =>
                  some ((1 : Int32), h76)
                )
              ) else (
                fX10_isTaken_b16 κ a0 l1 l2 N (l3 + 1) h
              )
            )
          )
        ) else (
          if (1 : Int32) = 0 then (
            fX10_isTaken_b16 κ a0 l1 l2 N (l3 + 1) h
          ) else (
            to_ κ (g_R h a0 22) 50 fun r77 =>
            a_I κ h r77 ((((16 : Int32) * l2) + ((4 : Int32) * l3)) + (2 : Int32)) fun v78 =>
            if v78 = 0 then (
              to_ κ (g_R h a0 22) 50 fun r79 =>
              a_I κ h r79 ((((16 : Int32) * l2) + ((4 : Int32) * l3)) + (3 : Int32)) fun v80 =>
              (fX10_isPlace κ a0 l2 v80 h).bind fun v81 =>
              if v81 = 0 then (
                fX10_isTaken_b16 κ a0 l1 l2 N (l3 + 1) h
              ) else (
                lt_ (s_I h a0 49 ((g_I h a0 49) + (1 : Int32))) fun h82 =>
                to_ κ (g_R h82 a0 27) 51 fun r83 =>
                w_J κ h82 r83 ((8 : Int32) * l1) (g_J h82 a0 35) fun h84 =>
                to_ κ (g_R h84 a0 27) 51 fun r85 =>
                w_J κ h84 r85 (((8 : Int32) * l1) + (1 : Int32)) ((g_I h84 a0 34).toInt64) fun h86 =>
                to_ κ (g_R h86 a0 28) 50 fun r87 =>
                w_I κ h86 r87 l1 (2 : Int32) fun h88 =>
                to_ κ (g_R h88 a0 25) 50 fun r89 =>
                to_ κ (g_R h88 a0 22) 50 fun r90 =>
                a_I κ h88 r90 ((((16 : Int32) * l2) + ((4 : Int32) * l3)) + (3 : Int32)) fun v91 =>
                w_I κ h88 r89 l1 v91 fun h92 =>
                some ((1 : Int32), h92)
              )
            ) else (
              to_ κ (g_R h a0 22) 50 fun r93 =>
              a_I κ h r93 ((((16 : Int32) * l2) + ((4 : Int32) * l3)) + (2 : Int32)) fun v94 =>
              if v94 = (g_I h a0 34) then (
                to_ κ (g_R h a0 22) 50 fun r95 =>
                a_I κ h r95 ((((16 : Int32) * l2) + ((4 : Int32) * l3)) + (3 : Int32)) fun v96 =>
                (fX10_isPlace κ a0 l2 v96 h).bind fun v97 =>
                if v97 = 0 then (
                  fX10_isTaken_b16 κ a0 l1 l2 N (l3 + 1) h
                ) else (
                  lt_ (s_I h a0 49 ((g_I h a0 49) + (1 : Int32))) fun h98 =>
                  to_ κ (g_R h98 a0 27) 51 fun r99 =>
                  w_J κ h98 r99 ((8 : Int32) * l1) (g_J h98 a0 35) fun h100 =>
                  to_ κ (g_R h100 a0 27) 51 fun r101 =>
                  w_J κ h100 r101 (((8 : Int32) * l1) + (1 : Int32)) ((g_I h100 a0 34).toInt64) fun h102 =>
                  to_ κ (g_R h102 a0 28) 50 fun r103 =>
                  w_I κ h102 r103 l1 (2 : Int32) fun h104 =>
                  to_ κ (g_R h104 a0 25) 50 fun r105 =>
                  to_ κ (g_R h104 a0 22) 50 fun r106 =>
                  a_I κ h104 r106 ((((16 : Int32) * l2) + ((4 : Int32) * l3)) + (3 : Int32)) fun v107 =>
                  w_I κ h104 r105 l1 v107 fun h108 =>
                  some ((1 : Int32), h108)
                )
              ) else (
                fX10_isTaken_b16 κ a0 l1 l2 N (l3 + 1) h
              )
            )
          )
        )
      )
    )
set_option maxRecDepth 100000 in
theorem zX10_isTaken_b16 (κ : Kd) (n lim : Nat) (a0 : Nat) (l1 : Int32) (l2 : Int32) (k_a0 : (κ a0).1 = 9) : ∀ (N : Nat) (l3 : Int32) (h : Hp), ZQ mX10_isTaken (eI κ n) (κ, n, 0, lim) 16 [(0, .ref (a0)), (1, .int (l1)), (2, .int (l2)), (3, .int (l3))] [] h (fX10_isTaken_b16 κ a0 l1 l2 N l3 h) := by
  intro N
  induction N with
  | zero =>
    intro l3 h
    rw [fX10_isTaken_b16]
    exact z_no
  | succ N ih =>
    intro l3 h
    rw [fX10_isTaken_b16]
    refine z_iload_n dX10_isTaken_16 rfl 3 rfl ?_
    refine z_aload_n dX10_isTaken_17 rfl 0 rfl ?_
    refine z_getR (kd := 50) dX10_isTaken_18 fl_X10_48 k_a0 (fun r3 kr3 => ?_)
    refine z_iload_n dX10_isTaken_21 rfl 2 rfl ?_
    refine z_iald dX10_isTaken_22 kr3 (fun v4 => ?_)
    refine z_icmp_ge (tgt := 196) dX10_isTaken_23 (by first | decide | omega) (fun _ => ?_) (fun _ => ?_)
    · skip
      refine z_iconst (v := 0) dX10_isTaken_196 (by decide) ?_
      exact z_zret dX10_isTaken_197 rfl rfl (en0 _ _ _ _) rfl
    · skip
      refine z_bipush (v := 16) dX10_isTaken_26 (by decide) ?_
      refine z_iload_n dX10_isTaken_28 rfl 2 rfl ?_
      refine z_imul dX10_isTaken_29 ?_
      refine z_iconst (v := 4) dX10_isTaken_30 (by decide) ?_
      refine z_iload_n dX10_isTaken_31 rfl 3 rfl ?_
      refine z_imul dX10_isTaken_32 ?_
      refine z_iadd dX10_isTaken_33 ?_
      refine z_istore (L' := [(4, .int (((16 : Int32) * l2) + ((4 : Int32) * l3))), (0, .ref (a0)), (1, .int (l1)), (2, .int (l2)), (3, .int (l3))]) dX10_isTaken_34 (by decide) rfl ?_
      refine z_aload_n dX10_isTaken_36 rfl 1 rfl ?_
      refine z_getR (kd := 50) dX10_isTaken_37 fl_X10_69 k_a0 (fun r5 kr5 => ?_)
      refine z_iload_n dX10_isTaken_40 rfl 2 rfl ?_
      refine z_iald dX10_isTaken_41 kr5 (fun v6 => ?_)
      refine z_aload_n dX10_isTaken_42 rfl 1 rfl ?_
      refine z_getR (kd := 50) dX10_isTaken_43 fl_X10_63 k_a0 (fun r7 kr7 => ?_)
      refine z_iload dX10_isTaken_46 0 rfl ?_
      refine z_iald dX10_isTaken_48 kr7 (fun v8 => ?_)
      refine z_icmp_lt (tgt := 74) dX10_isTaken_49 (by first | decide | omega) (fun _ => ?_) (fun _ => ?_)
      · skip
        refine z_iconst (v := 0) dX10_isTaken_74 (by decide) ?_
        refine z_istore (L' := [(5, .int ((0 : Int32))), (4, .int (((16 : Int32) * l2) + ((4 : Int32) * l3))), (0, .ref (a0)), (1, .int (l1)), (2, .int (l2)), (3, .int (l3))]) dX10_isTaken_75 (by decide) rfl ?_
        refine z_iload dX10_isTaken_77 0 rfl ?_
        refine z_if_eq (tgt := 190) dX10_isTaken_79 (by first | decide | omega) (fun _ => ?_) (fun _ => ?_)
        · skip
          refine z_iinc (j := 5) (v := l3 + 1) (L' := [(3, .int (l3 + 1)), (5, .int ((0 : Int32))), (4, .int (((16 : Int32) * l2) + ((4 : Int32) * l3))), (0, .ref (a0)), (1, .int (l1)), (2, .int (l2))]) dX10_isTaken_190 rfl rfl (by decide) rfl ?_
          refine z_goto (tgt := 16) dX10_isTaken_193 (by decide) ?_
          refine z_sub [3, 4, 5, 0] rfl ?_
          exact ih ((l3 + 1)) h
        · skip
          refine z_aload_n dX10_isTaken_82 rfl 2 rfl ?_
          refine z_getR (kd := 50) dX10_isTaken_83 fl_X10_63 k_a0 (fun r9 kr9 => ?_)
          refine z_iload dX10_isTaken_86 1 rfl ?_
          refine z_iconst (v := 2) dX10_isTaken_88 (by decide) ?_
          refine z_iadd dX10_isTaken_89 ?_
          refine z_iald dX10_isTaken_90 kr9 (fun v10 => ?_)
          refine z_if_eq (tgt := 110) dX10_isTaken_91 (by first | decide | omega) (fun _ => ?_) (fun _ => ?_)
          · skip
            refine z_aload_n dX10_isTaken_110 rfl 2 rfl ?_
            refine z_iload_n dX10_isTaken_111 rfl 4 rfl ?_
            refine z_aload_n dX10_isTaken_112 rfl 2 rfl ?_
            refine z_getR (kd := 50) dX10_isTaken_113 fl_X10_63 k_a0 (fun r11 kr11 => ?_)
            refine z_iload dX10_isTaken_116 1 rfl ?_
            refine z_iconst (v := 3) dX10_isTaken_118 (by decide) ?_
            refine z_iadd dX10_isTaken_119 ?_
            refine z_iald dX10_isTaken_120 kr11 (fun v12 => ?_)
            refine z_pI (as := [.ref (a0), .int (l2), .int (v12)]) (rn_V dX10_isTaken_121 mf_X10_isPlace in_X10_isPlace lk_X10_245 ⟨by decide, by decide⟩ cl_8 rfl k_a0 rfl (Nat.le_of_ble_eq_true rfl)) (tX10_isPlace _ _ _ _ _ _ _) cz_X10_isPlace (c00 _) (fun v13 => ?_)
            refine z_if_eq (tgt := 190) dX10_isTaken_124 (by first | decide | omega) (fun _ => ?_) (fun _ => ?_)
            · skip
              refine z_iinc (j := 5) (v := l3 + 1) (L' := [(3, .int (l3 + 1)), (5, .int ((0 : Int32))), (4, .int (((16 : Int32) * l2) + ((4 : Int32) * l3))), (0, .ref (a0)), (1, .int (l1)), (2, .int (l2))]) dX10_isTaken_190 rfl rfl (by decide) rfl ?_
              refine z_goto (tgt := 16) dX10_isTaken_193 (by decide) ?_
              refine z_sub [3, 4, 5, 0] rfl ?_
              exact ih ((l3 + 1)) h
            · skip
              refine z_aload_n dX10_isTaken_127 rfl 2 rfl ?_
              refine z_dup dX10_isTaken_128 rfl ?_
              refine z_getI dX10_isTaken_129 fl_X10_255 k_a0 ?_
              refine z_iconst (v := 1) dX10_isTaken_132 (by decide) ?_
              refine z_iadd dX10_isTaken_133 ?_
              refine z_putI dX10_isTaken_134 fl_X10_255 (Or.inl rfl) k_a0 (fun h14 => ?_)
              refine z_aload_n dX10_isTaken_137 rfl 2 rfl ?_
              refine z_getR (kd := 51) dX10_isTaken_138 fl_X10_75 k_a0 (fun r15 kr15 => ?_)
              refine z_bipush (v := 8) dX10_isTaken_141 (by decide) ?_
              refine z_iload_n dX10_isTaken_143 rfl 3 rfl ?_
              refine z_imul dX10_isTaken_144 ?_
              refine z_aload_n dX10_isTaken_145 rfl 2 rfl ?_
              refine z_getJ dX10_isTaken_146 fl_X10_258 k_a0 ?_
              refine z_last dX10_isTaken_149 kr15 (fun h16 => ?_)
              refine z_aload_n dX10_isTaken_150 rfl 2 rfl ?_
              refine z_getR (kd := 51) dX10_isTaken_151 fl_X10_75 k_a0 (fun r17 kr17 => ?_)
              refine z_bipush (v := 8) dX10_isTaken_154 (by decide) ?_
              refine z_iload_n dX10_isTaken_156 rfl 3 rfl ?_
              refine z_imul dX10_isTaken_157 ?_
              refine z_iconst (v := 1) dX10_isTaken_158 (by decide) ?_
              refine z_iadd dX10_isTaken_159 ?_
              refine z_aload_n dX10_isTaken_160 rfl 2 rfl ?_
              refine z_getI dX10_isTaken_161 fl_X10_252 k_a0 ?_
              refine z_i2l dX10_isTaken_164 ?_
              refine z_last dX10_isTaken_165 kr17 (fun h18 => ?_)
              refine z_aload_n dX10_isTaken_166 rfl 2 rfl ?_
              refine z_getR (kd := 50) dX10_isTaken_167 fl_X10_78 k_a0 (fun r19 kr19 => ?_)
              refine z_iload_n dX10_isTaken_170 rfl 3 rfl ?_
              refine z_iconst (v := 2) dX10_isTaken_171 (by decide) ?_
              refine z_iast dX10_isTaken_172 kr19 (fun h20 => ?_)
              refine z_aload_n dX10_isTaken_173 rfl 2 rfl ?_
              refine z_getR (kd := 50) dX10_isTaken_174 fl_X10_69 k_a0 (fun r21 kr21 => ?_)
              refine z_iload_n dX10_isTaken_177 rfl 3 rfl ?_
              refine z_aload_n dX10_isTaken_178 rfl 2 rfl ?_
              refine z_getR (kd := 50) dX10_isTaken_179 fl_X10_63 k_a0 (fun r22 kr22 => ?_)
              refine z_iload dX10_isTaken_182 1 rfl ?_
              refine z_iconst (v := 3) dX10_isTaken_184 (by decide) ?_
              refine z_iadd dX10_isTaken_185 ?_
              refine z_iald dX10_isTaken_186 kr22 (fun v23 => ?_)
              refine z_iast dX10_isTaken_187 kr21 (fun h24 => ?_)
              refine z_iconst (v := 1) dX10_isTaken_188 (by decide) ?_
              exact z_zret dX10_isTaken_189 rfl rfl (en0 _ _ _ _) rfl
          · skip
            refine z_aload_n dX10_isTaken_94 rfl 2 rfl ?_
            refine z_getR (kd := 50) dX10_isTaken_95 fl_X10_63 k_a0 (fun r25 kr25 => ?_)
            refine z_iload dX10_isTaken_98 1 rfl ?_
            refine z_iconst (v := 2) dX10_isTaken_100 (by decide) ?_
            refine z_iadd dX10_isTaken_101 ?_
            refine z_iald dX10_isTaken_102 kr25 (fun v26 => ?_)
            refine z_aload_n dX10_isTaken_103 rfl 2 rfl ?_
            refine z_getI dX10_isTaken_104 fl_X10_252 k_a0 ?_
            refine z_icmp_ne (tgt := 190) dX10_isTaken_107 (by first | decide | omega) (fun _ => ?_) (fun _ => ?_)
            · skip
              refine z_iinc (j := 5) (v := l3 + 1) (L' := [(3, .int (l3 + 1)), (5, .int ((0 : Int32))), (4, .int (((16 : Int32) * l2) + ((4 : Int32) * l3))), (0, .ref (a0)), (1, .int (l1)), (2, .int (l2))]) dX10_isTaken_190 rfl rfl (by decide) rfl ?_
              refine z_goto (tgt := 16) dX10_isTaken_193 (by decide) ?_
              refine z_sub [3, 4, 5, 0] rfl ?_
              exact ih ((l3 + 1)) h
            · skip
              refine z_aload_n dX10_isTaken_110 rfl 2 rfl ?_
              refine z_iload_n dX10_isTaken_111 rfl 4 rfl ?_
              refine z_aload_n dX10_isTaken_112 rfl 2 rfl ?_
              refine z_getR (kd := 50) dX10_isTaken_113 fl_X10_63 k_a0 (fun r27 kr27 => ?_)
              refine z_iload dX10_isTaken_116 1 rfl ?_
              refine z_iconst (v := 3) dX10_isTaken_118 (by decide) ?_
              refine z_iadd dX10_isTaken_119 ?_
              refine z_iald dX10_isTaken_120 kr27 (fun v28 => ?_)
              refine z_pI (as := [.ref (a0), .int (l2), .int (v28)]) (rn_V dX10_isTaken_121 mf_X10_isPlace in_X10_isPlace lk_X10_245 ⟨by decide, by decide⟩ cl_8 rfl k_a0 rfl (Nat.le_of_ble_eq_true rfl)) (tX10_isPlace _ _ _ _ _ _ _) cz_X10_isPlace (c00 _) (fun v29 => ?_)
              refine z_if_eq (tgt := 190) dX10_isTaken_124 (by first | decide | omega) (fun _ => ?_) (fun _ => ?_)
              · skip
                refine z_iinc (j := 5) (v := l3 + 1) (L' := [(3, .int (l3 + 1)), (5, .int ((0 : Int32))), (4, .int (((16 : Int32) * l2) + ((4 : Int32) * l3))), (0, .ref (a0)), (1, .int (l1)), (2, .int (l2))]) dX10_isTaken_190 rfl rfl (by decide) rfl ?_
                refine z_goto (tgt := 16) dX10_isTaken_193 (by decide) ?_
                refine z_sub [3, 4, 5, 0] rfl ?_
                exact ih ((l3 + 1)) h
              · skip
                refine z_aload_n dX10_isTaken_127 rfl 2 rfl ?_
                refine z_dup dX10_isTaken_128 rfl ?_
                refine z_getI dX10_isTaken_129 fl_X10_255 k_a0 ?_
                refine z_iconst (v := 1) dX10_isTaken_132 (by decide) ?_
                refine z_iadd dX10_isTaken_133 ?_
                refine z_putI dX10_isTaken_134 fl_X10_255 (Or.inl rfl) k_a0 (fun h30 => ?_)
                refine z_aload_n dX10_isTaken_137 rfl 2 rfl ?_
                refine z_getR (kd := 51) dX10_isTaken_138 fl_X10_75 k_a0 (fun r31 kr31 => ?_)
                refine z_bipush (v := 8) dX10_isTaken_141 (by decide) ?_
                refine z_iload_n dX10_isTaken_143 rfl 3 rfl ?_
                refine z_imul dX10_isTaken_144 ?_
                refine z_aload_n dX10_isTaken_145 rfl 2 rfl ?_
                refine z_getJ dX10_isTaken_146 fl_X10_258 k_a0 ?_
                refine z_last dX10_isTaken_149 kr31 (fun h32 => ?_)
                refine z_aload_n dX10_isTaken_150 rfl 2 rfl ?_
                refine z_getR (kd := 51) dX10_isTaken_151 fl_X10_75 k_a0 (fun r33 kr33 => ?_)
                refine z_bipush (v := 8) dX10_isTaken_154 (by decide) ?_
                refine z_iload_n dX10_isTaken_156 rfl 3 rfl ?_
                refine z_imul dX10_isTaken_157 ?_
                refine z_iconst (v := 1) dX10_isTaken_158 (by decide) ?_
                refine z_iadd dX10_isTaken_159 ?_
                refine z_aload_n dX10_isTaken_160 rfl 2 rfl ?_
                refine z_getI dX10_isTaken_161 fl_X10_252 k_a0 ?_
                refine z_i2l dX10_isTaken_164 ?_
                refine z_last dX10_isTaken_165 kr33 (fun h34 => ?_)
                refine z_aload_n dX10_isTaken_166 rfl 2 rfl ?_
                refine z_getR (kd := 50) dX10_isTaken_167 fl_X10_78 k_a0 (fun r35 kr35 => ?_)
                refine z_iload_n dX10_isTaken_170 rfl 3 rfl ?_
                refine z_iconst (v := 2) dX10_isTaken_171 (by decide) ?_
                refine z_iast dX10_isTaken_172 kr35 (fun h36 => ?_)
                refine z_aload_n dX10_isTaken_173 rfl 2 rfl ?_
                refine z_getR (kd := 50) dX10_isTaken_174 fl_X10_69 k_a0 (fun r37 kr37 => ?_)
                refine z_iload_n dX10_isTaken_177 rfl 3 rfl ?_
                refine z_aload_n dX10_isTaken_178 rfl 2 rfl ?_
                refine z_getR (kd := 50) dX10_isTaken_179 fl_X10_63 k_a0 (fun r38 kr38 => ?_)
                refine z_iload dX10_isTaken_182 1 rfl ?_
                refine z_iconst (v := 3) dX10_isTaken_184 (by decide) ?_
                refine z_iadd dX10_isTaken_185 ?_
                refine z_iald dX10_isTaken_186 kr38 (fun v39 => ?_)
                refine z_iast dX10_isTaken_187 kr37 (fun h40 => ?_)
                refine z_iconst (v := 1) dX10_isTaken_188 (by decide) ?_
                exact z_zret dX10_isTaken_189 rfl rfl (en0 _ _ _ _) rfl
      · skip
        refine z_aload_n dX10_isTaken_52 rfl 1 rfl ?_
        refine z_getR (kd := 50) dX10_isTaken_53 fl_X10_69 k_a0 (fun r41 kr41 => ?_)
        refine z_iload_n dX10_isTaken_56 rfl 2 rfl ?_
        refine z_iald dX10_isTaken_57 kr41 (fun v42 => ?_)
        refine z_aload_n dX10_isTaken_58 rfl 1 rfl ?_
        refine z_getR (kd := 50) dX10_isTaken_59 fl_X10_63 k_a0 (fun r43 kr43 => ?_)
        refine z_iload dX10_isTaken_62 0 rfl ?_
        refine z_iconst (v := 1) dX10_isTaken_64 (by decide) ?_
        refine z_iadd dX10_isTaken_65 ?_
        refine z_iald dX10_isTaken_66 kr43 (fun v44 => ?_)
        refine z_icmp_ge (tgt := 74) dX10_isTaken_67 (by first | decide | omega) (fun _ => ?_) (fun _ => ?_)
        · skip
          refine z_iconst (v := 0) dX10_isTaken_74 (by decide) ?_
          refine z_istore (L' := [(5, .int ((0 : Int32))), (4, .int (((16 : Int32) * l2) + ((4 : Int32) * l3))), (0, .ref (a0)), (1, .int (l1)), (2, .int (l2)), (3, .int (l3))]) dX10_isTaken_75 (by decide) rfl ?_
          refine z_iload dX10_isTaken_77 0 rfl ?_
          refine z_if_eq (tgt := 190) dX10_isTaken_79 (by first | decide | omega) (fun _ => ?_) (fun _ => ?_)
          · skip
            refine z_iinc (j := 5) (v := l3 + 1) (L' := [(3, .int (l3 + 1)), (5, .int ((0 : Int32))), (4, .int (((16 : Int32) * l2) + ((4 : Int32) * l3))), (0, .ref (a0)), (1, .int (l1)), (2, .int (l2))]) dX10_isTaken_190 rfl rfl (by decide) rfl ?_
            refine z_goto (tgt := 16) dX10_isTaken_193 (by decide) ?_
            refine z_sub [3, 4, 5, 0] rfl ?_
            exact ih ((l3 + 1)) h
          · skip
            refine z_aload_n dX10_isTaken_82 rfl 2 rfl ?_
            refine z_getR (kd := 50) dX10_isTaken_83 fl_X10_63 k_a0 (fun r45 kr45 => ?_)
            refine z_iload dX10_isTaken_86 1 rfl ?_
            refine z_iconst (v := 2) dX10_isTaken_88 (by decide) ?_
            refine z_iadd dX10_isTaken_89 ?_
            refine z_iald dX10_isTaken_90 kr45 (fun v46 => ?_)
            refine z_if_eq (tgt := 110) dX10_isTaken_91 (by first | decide | omega) (fun _ => ?_) (fun _ => ?_)
            · skip
              refine z_aload_n dX10_isTaken_110 rfl 2 rfl ?_
              refine z_iload_n dX10_isTaken_111 rfl 4 rfl ?_
              refine z_aload_n dX10_isTaken_112 rfl 2 rfl ?_
              refine z_getR (kd := 50) dX10_isTaken_113 fl_X10_63 k_a0 (fun r47 kr47 => ?_)
              refine z_iload dX10_isTaken_116 1 rfl ?_
              refine z_iconst (v := 3) dX10_isTaken_118 (by decide) ?_
              refine z_iadd dX10_isTaken_119 ?_
              refine z_iald dX10_isTaken_120 kr47 (fun v48 => ?_)
              refine z_pI (as := [.ref (a0), .int (l2), .int (v48)]) (rn_V dX10_isTaken_121 mf_X10_isPlace in_X10_isPlace lk_X10_245 ⟨by decide, by decide⟩ cl_8 rfl k_a0 rfl (Nat.le_of_ble_eq_true rfl)) (tX10_isPlace _ _ _ _ _ _ _) cz_X10_isPlace (c00 _) (fun v49 => ?_)
              refine z_if_eq (tgt := 190) dX10_isTaken_124 (by first | decide | omega) (fun _ => ?_) (fun _ => ?_)
              · skip
                refine z_iinc (j := 5) (v := l3 + 1) (L' := [(3, .int (l3 + 1)), (5, .int ((0 : Int32))), (4, .int (((16 : Int32) * l2) + ((4 : Int32) * l3))), (0, .ref (a0)), (1, .int (l1)), (2, .int (l2))]) dX10_isTaken_190 rfl rfl (by decide) rfl ?_
                refine z_goto (tgt := 16) dX10_isTaken_193 (by decide) ?_
                refine z_sub [3, 4, 5, 0] rfl ?_
                exact ih ((l3 + 1)) h
              · skip
                refine z_aload_n dX10_isTaken_127 rfl 2 rfl ?_
                refine z_dup dX10_isTaken_128 rfl ?_
                refine z_getI dX10_isTaken_129 fl_X10_255 k_a0 ?_
                refine z_iconst (v := 1) dX10_isTaken_132 (by decide) ?_
                refine z_iadd dX10_isTaken_133 ?_
                refine z_putI dX10_isTaken_134 fl_X10_255 (Or.inl rfl) k_a0 (fun h50 => ?_)
                refine z_aload_n dX10_isTaken_137 rfl 2 rfl ?_
                refine z_getR (kd := 51) dX10_isTaken_138 fl_X10_75 k_a0 (fun r51 kr51 => ?_)
                refine z_bipush (v := 8) dX10_isTaken_141 (by decide) ?_
                refine z_iload_n dX10_isTaken_143 rfl 3 rfl ?_
                refine z_imul dX10_isTaken_144 ?_
                refine z_aload_n dX10_isTaken_145 rfl 2 rfl ?_
                refine z_getJ dX10_isTaken_146 fl_X10_258 k_a0 ?_
                refine z_last dX10_isTaken_149 kr51 (fun h52 => ?_)
                refine z_aload_n dX10_isTaken_150 rfl 2 rfl ?_
                refine z_getR (kd := 51) dX10_isTaken_151 fl_X10_75 k_a0 (fun r53 kr53 => ?_)
                refine z_bipush (v := 8) dX10_isTaken_154 (by decide) ?_
                refine z_iload_n dX10_isTaken_156 rfl 3 rfl ?_
                refine z_imul dX10_isTaken_157 ?_
                refine z_iconst (v := 1) dX10_isTaken_158 (by decide) ?_
                refine z_iadd dX10_isTaken_159 ?_
                refine z_aload_n dX10_isTaken_160 rfl 2 rfl ?_
                refine z_getI dX10_isTaken_161 fl_X10_252 k_a0 ?_
                refine z_i2l dX10_isTaken_164 ?_
                refine z_last dX10_isTaken_165 kr53 (fun h54 => ?_)
                refine z_aload_n dX10_isTaken_166 rfl 2 rfl ?_
                refine z_getR (kd := 50) dX10_isTaken_167 fl_X10_78 k_a0 (fun r55 kr55 => ?_)
                refine z_iload_n dX10_isTaken_170 rfl 3 rfl ?_
                refine z_iconst (v := 2) dX10_isTaken_171 (by decide) ?_
                refine z_iast dX10_isTaken_172 kr55 (fun h56 => ?_)
                refine z_aload_n dX10_isTaken_173 rfl 2 rfl ?_
                refine z_getR (kd := 50) dX10_isTaken_174 fl_X10_69 k_a0 (fun r57 kr57 => ?_)
                refine z_iload_n dX10_isTaken_177 rfl 3 rfl ?_
                refine z_aload_n dX10_isTaken_178 rfl 2 rfl ?_
                refine z_getR (kd := 50) dX10_isTaken_179 fl_X10_63 k_a0 (fun r58 kr58 => ?_)
                refine z_iload dX10_isTaken_182 1 rfl ?_
                refine z_iconst (v := 3) dX10_isTaken_184 (by decide) ?_
                refine z_iadd dX10_isTaken_185 ?_
                refine z_iald dX10_isTaken_186 kr58 (fun v59 => ?_)
                refine z_iast dX10_isTaken_187 kr57 (fun h60 => ?_)
                refine z_iconst (v := 1) dX10_isTaken_188 (by decide) ?_
                exact z_zret dX10_isTaken_189 rfl rfl (en0 _ _ _ _) rfl
            · skip
              refine z_aload_n dX10_isTaken_94 rfl 2 rfl ?_
              refine z_getR (kd := 50) dX10_isTaken_95 fl_X10_63 k_a0 (fun r61 kr61 => ?_)
              refine z_iload dX10_isTaken_98 1 rfl ?_
              refine z_iconst (v := 2) dX10_isTaken_100 (by decide) ?_
              refine z_iadd dX10_isTaken_101 ?_
              refine z_iald dX10_isTaken_102 kr61 (fun v62 => ?_)
              refine z_aload_n dX10_isTaken_103 rfl 2 rfl ?_
              refine z_getI dX10_isTaken_104 fl_X10_252 k_a0 ?_
              refine z_icmp_ne (tgt := 190) dX10_isTaken_107 (by first | decide | omega) (fun _ => ?_) (fun _ => ?_)
              · skip
                refine z_iinc (j := 5) (v := l3 + 1) (L' := [(3, .int (l3 + 1)), (5, .int ((0 : Int32))), (4, .int (((16 : Int32) * l2) + ((4 : Int32) * l3))), (0, .ref (a0)), (1, .int (l1)), (2, .int (l2))]) dX10_isTaken_190 rfl rfl (by decide) rfl ?_
                refine z_goto (tgt := 16) dX10_isTaken_193 (by decide) ?_
                refine z_sub [3, 4, 5, 0] rfl ?_
                exact ih ((l3 + 1)) h
              · skip
                refine z_aload_n dX10_isTaken_110 rfl 2 rfl ?_
                refine z_iload_n dX10_isTaken_111 rfl 4 rfl ?_
                refine z_aload_n dX10_isTaken_112 rfl 2 rfl ?_
                refine z_getR (kd := 50) dX10_isTaken_113 fl_X10_63 k_a0 (fun r63 kr63 => ?_)
                refine z_iload dX10_isTaken_116 1 rfl ?_
                refine z_iconst (v := 3) dX10_isTaken_118 (by decide) ?_
                refine z_iadd dX10_isTaken_119 ?_
                refine z_iald dX10_isTaken_120 kr63 (fun v64 => ?_)
                refine z_pI (as := [.ref (a0), .int (l2), .int (v64)]) (rn_V dX10_isTaken_121 mf_X10_isPlace in_X10_isPlace lk_X10_245 ⟨by decide, by decide⟩ cl_8 rfl k_a0 rfl (Nat.le_of_ble_eq_true rfl)) (tX10_isPlace _ _ _ _ _ _ _) cz_X10_isPlace (c00 _) (fun v65 => ?_)
                refine z_if_eq (tgt := 190) dX10_isTaken_124 (by first | decide | omega) (fun _ => ?_) (fun _ => ?_)
                · skip
                  refine z_iinc (j := 5) (v := l3 + 1) (L' := [(3, .int (l3 + 1)), (5, .int ((0 : Int32))), (4, .int (((16 : Int32) * l2) + ((4 : Int32) * l3))), (0, .ref (a0)), (1, .int (l1)), (2, .int (l2))]) dX10_isTaken_190 rfl rfl (by decide) rfl ?_
                  refine z_goto (tgt := 16) dX10_isTaken_193 (by decide) ?_
                  refine z_sub [3, 4, 5, 0] rfl ?_
                  exact ih ((l3 + 1)) h
                · skip
                  refine z_aload_n dX10_isTaken_127 rfl 2 rfl ?_
                  refine z_dup dX10_isTaken_128 rfl ?_
                  refine z_getI dX10_isTaken_129 fl_X10_255 k_a0 ?_
                  refine z_iconst (v := 1) dX10_isTaken_132 (by decide) ?_
                  refine z_iadd dX10_isTaken_133 ?_
                  refine z_putI dX10_isTaken_134 fl_X10_255 (Or.inl rfl) k_a0 (fun h66 => ?_)
                  refine z_aload_n dX10_isTaken_137 rfl 2 rfl ?_
                  refine z_getR (kd := 51) dX10_isTaken_138 fl_X10_75 k_a0 (fun r67 kr67 => ?_)
                  refine z_bipush (v := 8) dX10_isTaken_141 (by decide) ?_
                  refine z_iload_n dX10_isTaken_143 rfl 3 rfl ?_
                  refine z_imul dX10_isTaken_144 ?_
                  refine z_aload_n dX10_isTaken_145 rfl 2 rfl ?_
                  refine z_getJ dX10_isTaken_146 fl_X10_258 k_a0 ?_
                  refine z_last dX10_isTaken_149 kr67 (fun h68 => ?_)
                  refine z_aload_n dX10_isTaken_150 rfl 2 rfl ?_
                  refine z_getR (kd := 51) dX10_isTaken_151 fl_X10_75 k_a0 (fun r69 kr69 => ?_)
                  refine z_bipush (v := 8) dX10_isTaken_154 (by decide) ?_
                  refine z_iload_n dX10_isTaken_156 rfl 3 rfl ?_
                  refine z_imul dX10_isTaken_157 ?_
                  refine z_iconst (v := 1) dX10_isTaken_158 (by decide) ?_
                  refine z_iadd dX10_isTaken_159 ?_
                  refine z_aload_n dX10_isTaken_160 rfl 2 rfl ?_
                  refine z_getI dX10_isTaken_161 fl_X10_252 k_a0 ?_
                  refine z_i2l dX10_isTaken_164 ?_
                  refine z_last dX10_isTaken_165 kr69 (fun h70 => ?_)
                  refine z_aload_n dX10_isTaken_166 rfl 2 rfl ?_
                  refine z_getR (kd := 50) dX10_isTaken_167 fl_X10_78 k_a0 (fun r71 kr71 => ?_)
                  refine z_iload_n dX10_isTaken_170 rfl 3 rfl ?_
                  refine z_iconst (v := 2) dX10_isTaken_171 (by decide) ?_
                  refine z_iast dX10_isTaken_172 kr71 (fun h72 => ?_)
                  refine z_aload_n dX10_isTaken_173 rfl 2 rfl ?_
                  refine z_getR (kd := 50) dX10_isTaken_174 fl_X10_69 k_a0 (fun r73 kr73 => ?_)
                  refine z_iload_n dX10_isTaken_177 rfl 3 rfl ?_
                  refine z_aload_n dX10_isTaken_178 rfl 2 rfl ?_
                  refine z_getR (kd := 50) dX10_isTaken_179 fl_X10_63 k_a0 (fun r74 kr74 => ?_)
                  refine z_iload dX10_isTaken_182 1 rfl ?_
                  refine z_iconst (v := 3) dX10_isTaken_184 (by decide) ?_
                  refine z_iadd dX10_isTaken_185 ?_
                  refine z_iald dX10_isTaken_186 kr74 (fun v75 => ?_)
                  refine z_iast dX10_isTaken_187 kr73 (fun h76 => ?_)
                  refine z_iconst (v := 1) dX10_isTaken_188 (by decide) ?_
                  exact z_zret dX10_isTaken_189 rfl rfl (en0 _ _ _ _) rfl
        · skip
          refine z_iconst (v := 1) dX10_isTaken_70 (by decide) ?_
          refine z_goto (tgt := 75) dX10_isTaken_71 (by decide) ?_
          refine z_istore (L' := [(5, .int ((1 : Int32))), (4, .int (((16 : Int32) * l2) + ((4 : Int32) * l3))), (0, .ref (a0)), (1, .int (l1)), (2, .int (l2)), (3, .int (l3))]) dX10_isTaken_75 (by decide) rfl ?_
          refine z_iload dX10_isTaken_77 0 rfl ?_
          refine z_if_eq (tgt := 190) dX10_isTaken_79 (by first | decide | omega) (fun _ => ?_) (fun _ => ?_)
          · skip
            refine z_iinc (j := 5) (v := l3 + 1) (L' := [(3, .int (l3 + 1)), (5, .int ((1 : Int32))), (4, .int (((16 : Int32) * l2) + ((4 : Int32) * l3))), (0, .ref (a0)), (1, .int (l1)), (2, .int (l2))]) dX10_isTaken_190 rfl rfl (by decide) rfl ?_
            refine z_goto (tgt := 16) dX10_isTaken_193 (by decide) ?_
            refine z_sub [3, 4, 5, 0] rfl ?_
            exact ih ((l3 + 1)) h
          · skip
            refine z_aload_n dX10_isTaken_82 rfl 2 rfl ?_
            refine z_getR (kd := 50) dX10_isTaken_83 fl_X10_63 k_a0 (fun r77 kr77 => ?_)
            refine z_iload dX10_isTaken_86 1 rfl ?_
            refine z_iconst (v := 2) dX10_isTaken_88 (by decide) ?_
            refine z_iadd dX10_isTaken_89 ?_
            refine z_iald dX10_isTaken_90 kr77 (fun v78 => ?_)
            refine z_if_eq (tgt := 110) dX10_isTaken_91 (by first | decide | omega) (fun _ => ?_) (fun _ => ?_)
            · skip
              refine z_aload_n dX10_isTaken_110 rfl 2 rfl ?_
              refine z_iload_n dX10_isTaken_111 rfl 4 rfl ?_
              refine z_aload_n dX10_isTaken_112 rfl 2 rfl ?_
              refine z_getR (kd := 50) dX10_isTaken_113 fl_X10_63 k_a0 (fun r79 kr79 => ?_)
              refine z_iload dX10_isTaken_116 1 rfl ?_
              refine z_iconst (v := 3) dX10_isTaken_118 (by decide) ?_
              refine z_iadd dX10_isTaken_119 ?_
              refine z_iald dX10_isTaken_120 kr79 (fun v80 => ?_)
              refine z_pI (as := [.ref (a0), .int (l2), .int (v80)]) (rn_V dX10_isTaken_121 mf_X10_isPlace in_X10_isPlace lk_X10_245 ⟨by decide, by decide⟩ cl_8 rfl k_a0 rfl (Nat.le_of_ble_eq_true rfl)) (tX10_isPlace _ _ _ _ _ _ _) cz_X10_isPlace (c00 _) (fun v81 => ?_)
              refine z_if_eq (tgt := 190) dX10_isTaken_124 (by first | decide | omega) (fun _ => ?_) (fun _ => ?_)
              · skip
                refine z_iinc (j := 5) (v := l3 + 1) (L' := [(3, .int (l3 + 1)), (5, .int ((1 : Int32))), (4, .int (((16 : Int32) * l2) + ((4 : Int32) * l3))), (0, .ref (a0)), (1, .int (l1)), (2, .int (l2))]) dX10_isTaken_190 rfl rfl (by decide) rfl ?_
                refine z_goto (tgt := 16) dX10_isTaken_193 (by decide) ?_
                refine z_sub [3, 4, 5, 0] rfl ?_
                exact ih ((l3 + 1)) h
              · skip
                refine z_aload_n dX10_isTaken_127 rfl 2 rfl ?_
                refine z_dup dX10_isTaken_128 rfl ?_
                refine z_getI dX10_isTaken_129 fl_X10_255 k_a0 ?_
                refine z_iconst (v := 1) dX10_isTaken_132 (by decide) ?_
                refine z_iadd dX10_isTaken_133 ?_
                refine z_putI dX10_isTaken_134 fl_X10_255 (Or.inl rfl) k_a0 (fun h82 => ?_)
                refine z_aload_n dX10_isTaken_137 rfl 2 rfl ?_
                refine z_getR (kd := 51) dX10_isTaken_138 fl_X10_75 k_a0 (fun r83 kr83 => ?_)
                refine z_bipush (v := 8) dX10_isTaken_141 (by decide) ?_
                refine z_iload_n dX10_isTaken_143 rfl 3 rfl ?_
                refine z_imul dX10_isTaken_144 ?_
                refine z_aload_n dX10_isTaken_145 rfl 2 rfl ?_
                refine z_getJ dX10_isTaken_146 fl_X10_258 k_a0 ?_
                refine z_last dX10_isTaken_149 kr83 (fun h84 => ?_)
                refine z_aload_n dX10_isTaken_150 rfl 2 rfl ?_
                refine z_getR (kd := 51) dX10_isTaken_151 fl_X10_75 k_a0 (fun r85 kr85 => ?_)
                refine z_bipush (v := 8) dX10_isTaken_154 (by decide) ?_
                refine z_iload_n dX10_isTaken_156 rfl 3 rfl ?_
                refine z_imul dX10_isTaken_157 ?_
                refine z_iconst (v := 1) dX10_isTaken_158 (by decide) ?_
                refine z_iadd dX10_isTaken_159 ?_
                refine z_aload_n dX10_isTaken_160 rfl 2 rfl ?_
                refine z_getI dX10_isTaken_161 fl_X10_252 k_a0 ?_
                refine z_i2l dX10_isTaken_164 ?_
                refine z_last dX10_isTaken_165 kr85 (fun h86 => ?_)
                refine z_aload_n dX10_isTaken_166 rfl 2 rfl ?_
                refine z_getR (kd := 50) dX10_isTaken_167 fl_X10_78 k_a0 (fun r87 kr87 => ?_)
                refine z_iload_n dX10_isTaken_170 rfl 3 rfl ?_
                refine z_iconst (v := 2) dX10_isTaken_171 (by decide) ?_
                refine z_iast dX10_isTaken_172 kr87 (fun h88 => ?_)
                refine z_aload_n dX10_isTaken_173 rfl 2 rfl ?_
                refine z_getR (kd := 50) dX10_isTaken_174 fl_X10_69 k_a0 (fun r89 kr89 => ?_)
                refine z_iload_n dX10_isTaken_177 rfl 3 rfl ?_
                refine z_aload_n dX10_isTaken_178 rfl 2 rfl ?_
                refine z_getR (kd := 50) dX10_isTaken_179 fl_X10_63 k_a0 (fun r90 kr90 => ?_)
                refine z_iload dX10_isTaken_182 1 rfl ?_
                refine z_iconst (v := 3) dX10_isTaken_184 (by decide) ?_
                refine z_iadd dX10_isTaken_185 ?_
                refine z_iald dX10_isTaken_186 kr90 (fun v91 => ?_)
                refine z_iast dX10_isTaken_187 kr89 (fun h92 => ?_)
                refine z_iconst (v := 1) dX10_isTaken_188 (by decide) ?_
                exact z_zret dX10_isTaken_189 rfl rfl (en0 _ _ _ _) rfl
            · skip
              refine z_aload_n dX10_isTaken_94 rfl 2 rfl ?_
              refine z_getR (kd := 50) dX10_isTaken_95 fl_X10_63 k_a0 (fun r93 kr93 => ?_)
              refine z_iload dX10_isTaken_98 1 rfl ?_
              refine z_iconst (v := 2) dX10_isTaken_100 (by decide) ?_
              refine z_iadd dX10_isTaken_101 ?_
              refine z_iald dX10_isTaken_102 kr93 (fun v94 => ?_)
              refine z_aload_n dX10_isTaken_103 rfl 2 rfl ?_
              refine z_getI dX10_isTaken_104 fl_X10_252 k_a0 ?_
              refine z_icmp_ne (tgt := 190) dX10_isTaken_107 (by first | decide | omega) (fun _ => ?_) (fun _ => ?_)
              · skip
                refine z_iinc (j := 5) (v := l3 + 1) (L' := [(3, .int (l3 + 1)), (5, .int ((1 : Int32))), (4, .int (((16 : Int32) * l2) + ((4 : Int32) * l3))), (0, .ref (a0)), (1, .int (l1)), (2, .int (l2))]) dX10_isTaken_190 rfl rfl (by decide) rfl ?_
                refine z_goto (tgt := 16) dX10_isTaken_193 (by decide) ?_
                refine z_sub [3, 4, 5, 0] rfl ?_
                exact ih ((l3 + 1)) h
              · skip
                refine z_aload_n dX10_isTaken_110 rfl 2 rfl ?_
                refine z_iload_n dX10_isTaken_111 rfl 4 rfl ?_
                refine z_aload_n dX10_isTaken_112 rfl 2 rfl ?_
                refine z_getR (kd := 50) dX10_isTaken_113 fl_X10_63 k_a0 (fun r95 kr95 => ?_)
                refine z_iload dX10_isTaken_116 1 rfl ?_
                refine z_iconst (v := 3) dX10_isTaken_118 (by decide) ?_
                refine z_iadd dX10_isTaken_119 ?_
                refine z_iald dX10_isTaken_120 kr95 (fun v96 => ?_)
                refine z_pI (as := [.ref (a0), .int (l2), .int (v96)]) (rn_V dX10_isTaken_121 mf_X10_isPlace in_X10_isPlace lk_X10_245 ⟨by decide, by decide⟩ cl_8 rfl k_a0 rfl (Nat.le_of_ble_eq_true rfl)) (tX10_isPlace _ _ _ _ _ _ _) cz_X10_isPlace (c00 _) (fun v97 => ?_)
                refine z_if_eq (tgt := 190) dX10_isTaken_124 (by first | decide | omega) (fun _ => ?_) (fun _ => ?_)
                · skip
                  refine z_iinc (j := 5) (v := l3 + 1) (L' := [(3, .int (l3 + 1)), (5, .int ((1 : Int32))), (4, .int (((16 : Int32) * l2) + ((4 : Int32) * l3))), (0, .ref (a0)), (1, .int (l1)), (2, .int (l2))]) dX10_isTaken_190 rfl rfl (by decide) rfl ?_
                  refine z_goto (tgt := 16) dX10_isTaken_193 (by decide) ?_
                  refine z_sub [3, 4, 5, 0] rfl ?_
                  exact ih ((l3 + 1)) h
                · skip
                  refine z_aload_n dX10_isTaken_127 rfl 2 rfl ?_
                  refine z_dup dX10_isTaken_128 rfl ?_
                  refine z_getI dX10_isTaken_129 fl_X10_255 k_a0 ?_
                  refine z_iconst (v := 1) dX10_isTaken_132 (by decide) ?_
                  refine z_iadd dX10_isTaken_133 ?_
                  refine z_putI dX10_isTaken_134 fl_X10_255 (Or.inl rfl) k_a0 (fun h98 => ?_)
                  refine z_aload_n dX10_isTaken_137 rfl 2 rfl ?_
                  refine z_getR (kd := 51) dX10_isTaken_138 fl_X10_75 k_a0 (fun r99 kr99 => ?_)
                  refine z_bipush (v := 8) dX10_isTaken_141 (by decide) ?_
                  refine z_iload_n dX10_isTaken_143 rfl 3 rfl ?_
                  refine z_imul dX10_isTaken_144 ?_
                  refine z_aload_n dX10_isTaken_145 rfl 2 rfl ?_
                  refine z_getJ dX10_isTaken_146 fl_X10_258 k_a0 ?_
                  refine z_last dX10_isTaken_149 kr99 (fun h100 => ?_)
                  refine z_aload_n dX10_isTaken_150 rfl 2 rfl ?_
                  refine z_getR (kd := 51) dX10_isTaken_151 fl_X10_75 k_a0 (fun r101 kr101 => ?_)
                  refine z_bipush (v := 8) dX10_isTaken_154 (by decide) ?_
                  refine z_iload_n dX10_isTaken_156 rfl 3 rfl ?_
                  refine z_imul dX10_isTaken_157 ?_
                  refine z_iconst (v := 1) dX10_isTaken_158 (by decide) ?_
                  refine z_iadd dX10_isTaken_159 ?_
                  refine z_aload_n dX10_isTaken_160 rfl 2 rfl ?_
                  refine z_getI dX10_isTaken_161 fl_X10_252 k_a0 ?_
                  refine z_i2l dX10_isTaken_164 ?_
                  refine z_last dX10_isTaken_165 kr101 (fun h102 => ?_)
                  refine z_aload_n dX10_isTaken_166 rfl 2 rfl ?_
                  refine z_getR (kd := 50) dX10_isTaken_167 fl_X10_78 k_a0 (fun r103 kr103 => ?_)
                  refine z_iload_n dX10_isTaken_170 rfl 3 rfl ?_
                  refine z_iconst (v := 2) dX10_isTaken_171 (by decide) ?_
                  refine z_iast dX10_isTaken_172 kr103 (fun h104 => ?_)
                  refine z_aload_n dX10_isTaken_173 rfl 2 rfl ?_
                  refine z_getR (kd := 50) dX10_isTaken_174 fl_X10_69 k_a0 (fun r105 kr105 => ?_)
                  refine z_iload_n dX10_isTaken_177 rfl 3 rfl ?_
                  refine z_aload_n dX10_isTaken_178 rfl 2 rfl ?_
                  refine z_getR (kd := 50) dX10_isTaken_179 fl_X10_63 k_a0 (fun r106 kr106 => ?_)
                  refine z_iload dX10_isTaken_182 1 rfl ?_
                  refine z_iconst (v := 3) dX10_isTaken_184 (by decide) ?_
                  refine z_iadd dX10_isTaken_185 ?_
                  refine z_iald dX10_isTaken_186 kr106 (fun v107 => ?_)
                  refine z_iast dX10_isTaken_187 kr105 (fun h108 => ?_)
                  refine z_iconst (v := 1) dX10_isTaken_188 (by decide) ?_
                  exact z_zret dX10_isTaken_189 rfl rfl (en0 _ _ _ _) rfl
def fX10_isTaken (κ : Kd) (a0 : Nat) (h : Hp) : Option (Int32 × Hp) :=
  if (κ a0).1 = 9 then (
  to_ κ (g_R h a0 24) 50 fun r1 =>
  a_I κ h r1 ((g_I h a0 23) - (1 : Int32)) fun v2 =>
  fX10_isTaken_b16 κ a0 ((g_I h a0 23) - (1 : Int32)) v2 fu_ (0 : Int32) h) else none
set_option maxHeartbeats 4000000 in
set_option maxRecDepth 100000 in
theorem tX10_isTaken (κ : Kd) (n lim : Nat) (h : Hp) (a0 : Nat) : Ct_ mX10_isTaken [.ref (a0)] κ n lim h (eI κ n) (fX10_isTaken κ a0 h) := by
  refine ct_of (by decide) (Nat.le_of_ble_eq_true rfl) ?_
  unfold fX10_isTaken
  refine z_sub (L' := [(0, .ref (a0))]) [0] rfl ?_
  refine z_or (fun k_a0 => ?_)
  refine z_aload_n dX10_isTaken_0 rfl 0 rfl ?_
  refine z_getI dX10_isTaken_1 fl_X10_239 k_a0 ?_
  refine z_iconst (v := 1) dX10_isTaken_4 (by decide) ?_
  refine z_isub dX10_isTaken_5 ?_
  refine z_istore_n (L' := [(1, .int ((g_I h a0 23) - (1 : Int32))), (0, .ref (a0))]) dX10_isTaken_6 rfl (by decide) rfl ?_
  refine z_aload_n dX10_isTaken_7 rfl 1 rfl ?_
  refine z_getR (kd := 50) dX10_isTaken_8 fl_X10_66 k_a0 (fun r1 kr1 => ?_)
  refine z_iload_n dX10_isTaken_11 rfl 0 rfl ?_
  refine z_iald dX10_isTaken_12 kr1 (fun v2 => ?_)
  refine z_istore_n (L' := [(2, .int (v2)), (1, .int ((g_I h a0 23) - (1 : Int32))), (0, .ref (a0))]) dX10_isTaken_13 rfl (by decide) rfl ?_
  refine z_iconst (v := 0) dX10_isTaken_14 (by decide) ?_
  refine z_istore_n (L' := [(3, .int ((0 : Int32))), (2, .int (v2)), (1, .int ((g_I h a0 23) - (1 : Int32))), (0, .ref (a0))]) dX10_isTaken_15 rfl (by decide) rfl ?_
  refine z_sub [3, 2, 1, 0] rfl ?_
  exact zX10_isTaken_b16 _ _ _ a0 ((g_I h a0 23) - (1 : Int32)) v2 k_a0 fu_ (0 : Int32) h
