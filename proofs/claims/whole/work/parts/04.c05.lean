def fX8_openUp (κ : Kd) (a0 : Nat) (l1 : Int32) (h : Hp) : Option (Int32 × Hp) :=
  if (κ a0).1 = 7 then (
  (fX8_isA κ a0 l1 (1 : Int32) h).bind fun v1 =>
  if v1 = 0 then (
    some ((12 : Int32), h)
  ) else (
    (fX8_isA κ a0 l1 (2 : Int32) h).bind fun v2 =>
    if v2 = 0 then (
      to_ κ (g_R h a0 3) 50 fun r3 =>
      a_I κ h r3 l1 fun v4 =>
      lt_ (s_I h a0 6 v4) fun h5 =>
      some ((0 : Int32), h5)
    ) else (
      to_ κ (g_R h a0 3) 50 fun r6 =>
      a_I κ h r6 l1 fun v7 =>
      lt_ (s_I h a0 6 ((100 : Int32) + v7)) fun h8 =>
      some ((0 : Int32), h8)
    )
  )) else none
set_option maxHeartbeats 4000000 in
set_option maxRecDepth 100000 in
theorem tX8_openUp (κ : Kd) (n lim : Nat) (h : Hp) (a0 : Nat) (l1 : Int32) : Ct_ mX8_openUp [.ref (a0), .int (l1)] κ n lim h (eI κ n) (fX8_openUp κ a0 l1 h) := by
  refine ct_of (by decide) (Nat.le_of_ble_eq_true rfl) ?_
  unfold fX8_openUp
  refine z_sub (L' := [(0, .ref (a0)), (1, .int (l1))]) [0, 1] rfl ?_
  refine z_or (fun k_a0 => ?_)
  refine z_aload_n dX8_openUp_0 rfl 0 rfl ?_
  refine z_iload_n dX8_openUp_1 rfl 1 rfl ?_
  refine z_iconst (v := 1) dX8_openUp_2 (by decide) ?_
  refine z_pI (as := [.ref (a0), .int (l1), .int ((1 : Int32))]) (rn_V dX8_openUp_3 mf_X8_isA in_X8_isA lk_X8_65 ⟨by decide, by decide⟩ cl_6 rfl k_a0 rfl (Nat.le_of_ble_eq_true rfl)) (tX8_isA _ _ _ _ _ _ _) cz_X8_isA (c00 _) (fun v1 => ?_)
  refine z_if_ne (tgt := 12) dX8_openUp_6 (by first | decide | omega) (fun _ => ?_) (fun _ => ?_)
  · skip
    refine z_aload_n dX8_openUp_12 rfl 0 rfl ?_
    refine z_aload_n dX8_openUp_13 rfl 0 rfl ?_
    refine z_iload_n dX8_openUp_14 rfl 1 rfl ?_
    refine z_iconst (v := 2) dX8_openUp_15 (by decide) ?_
    refine z_pI (as := [.ref (a0), .int (l1), .int ((2 : Int32))]) (rn_V dX8_openUp_16 mf_X8_isA in_X8_isA lk_X8_65 ⟨by decide, by decide⟩ cl_6 rfl k_a0 rfl (Nat.le_of_ble_eq_true rfl)) (tX8_isA _ _ _ _ _ _ _) cz_X8_isA (c00 _) (fun v2 => ?_)
    refine z_if_eq (tgt := 34) dX8_openUp_19 (by first | decide | omega) (fun _ => ?_) (fun _ => ?_)
    · skip
      refine z_aload_n dX8_openUp_34 rfl 0 rfl ?_
      refine z_getR (kd := 50) dX8_openUp_35 fl_X8_21 k_a0 (fun r3 kr3 => ?_)
      refine z_iload_n dX8_openUp_38 rfl 1 rfl ?_
      refine z_iald dX8_openUp_39 kr3 (fun v4 => ?_)
      refine z_putI dX8_openUp_40 fl_X8_72 (Or.inl rfl) k_a0 (fun h5 => ?_)
      refine z_iconst (v := 0) dX8_openUp_43 (by decide) ?_
      exact z_iret dX8_openUp_44 rfl (en0 _ _ _ _) rfl
    · skip
      refine z_bipush (v := 100) dX8_openUp_22 (by decide) ?_
      refine z_aload_n dX8_openUp_24 rfl 0 rfl ?_
      refine z_getR (kd := 50) dX8_openUp_25 fl_X8_21 k_a0 (fun r6 kr6 => ?_)
      refine z_iload_n dX8_openUp_28 rfl 1 rfl ?_
      refine z_iald dX8_openUp_29 kr6 (fun v7 => ?_)
      refine z_iadd dX8_openUp_30 ?_
      refine z_goto (tgt := 40) dX8_openUp_31 (by decide) ?_
      refine z_putI dX8_openUp_40 fl_X8_72 (Or.inl rfl) k_a0 (fun h8 => ?_)
      refine z_iconst (v := 0) dX8_openUp_43 (by decide) ?_
      exact z_iret dX8_openUp_44 rfl (en0 _ _ _ _) rfl
  · skip
    refine z_bipush (v := 12) dX8_openUp_9 (by decide) ?_
    exact z_iret dX8_openUp_11 rfl (en0 _ _ _ _) rfl
def fX8_setOwnMark (κ : Kd) (a0 : Nat) (l1 : Int32) (l2 : Int32) (l3 : Int32) (h : Hp) : Option (Int32 × Hp) :=
  if (κ a0).1 = 7 then (
  (fX8_isA κ a0 l1 l2 h).bind fun v1 =>
  if v1 = 0 then (
    some ((3 : Int32), h)
  ) else (
    to_ κ (g_R h a0 3) 50 fun r2 =>
    a_I κ h r2 l1 fun v3 =>
    lt_ (s_I h a0 6 v3) fun h4 =>
    to_ κ (g_R h4 a0 3) 50 fun r5 =>
    w_I κ h4 r5 l1 l3 fun h6 =>
    some ((0 : Int32), h6)
  )) else none
set_option maxHeartbeats 4000000 in
set_option maxRecDepth 100000 in
theorem tX8_setOwnMark (κ : Kd) (n lim : Nat) (h : Hp) (a0 : Nat) (l1 : Int32) (l2 : Int32) (l3 : Int32) : Ct_ mX8_setOwnMark [.ref (a0), .int (l1), .int (l2), .int (l3)] κ n lim h (eI κ n) (fX8_setOwnMark κ a0 l1 l2 l3 h) := by
  refine ct_of (by decide) (Nat.le_of_ble_eq_true rfl) ?_
  unfold fX8_setOwnMark
  refine z_sub (L' := [(0, .ref (a0)), (1, .int (l1)), (2, .int (l2)), (3, .int (l3))]) [0, 1, 2, 3] rfl ?_
  refine z_or (fun k_a0 => ?_)
  refine z_aload_n dX8_setOwnMark_0 rfl 0 rfl ?_
  refine z_iload_n dX8_setOwnMark_1 rfl 1 rfl ?_
  refine z_iload_n dX8_setOwnMark_2 rfl 2 rfl ?_
  refine z_pI (as := [.ref (a0), .int (l1), .int (l2)]) (rn_V dX8_setOwnMark_3 mf_X8_isA in_X8_isA lk_X8_65 ⟨by decide, by decide⟩ cl_6 rfl k_a0 rfl (Nat.le_of_ble_eq_true rfl)) (tX8_isA _ _ _ _ _ _ _) cz_X8_isA (c00 _) (fun v1 => ?_)
  refine z_if_ne (tgt := 11) dX8_setOwnMark_6 (by first | decide | omega) (fun _ => ?_) (fun _ => ?_)
  · skip
    refine z_aload_n dX8_setOwnMark_11 rfl 0 rfl ?_
    refine z_aload_n dX8_setOwnMark_12 rfl 0 rfl ?_
    refine z_getR (kd := 50) dX8_setOwnMark_13 fl_X8_21 k_a0 (fun r2 kr2 => ?_)
    refine z_iload_n dX8_setOwnMark_16 rfl 1 rfl ?_
    refine z_iald dX8_setOwnMark_17 kr2 (fun v3 => ?_)
    refine z_putI dX8_setOwnMark_18 fl_X8_72 (Or.inl rfl) k_a0 (fun h4 => ?_)
    refine z_aload_n dX8_setOwnMark_21 rfl 0 rfl ?_
    refine z_getR (kd := 50) dX8_setOwnMark_22 fl_X8_21 k_a0 (fun r5 kr5 => ?_)
    refine z_iload_n dX8_setOwnMark_25 rfl 1 rfl ?_
    refine z_iload_n dX8_setOwnMark_26 rfl 3 rfl ?_
    refine z_iast dX8_setOwnMark_27 kr5 (fun h6 => ?_)
    refine z_iconst (v := 0) dX8_setOwnMark_28 (by decide) ?_
    exact z_iret dX8_setOwnMark_29 rfl (en0 _ _ _ _) rfl
  · skip
    refine z_iconst (v := 3) dX8_setOwnMark_9 (by decide) ?_
    exact z_iret dX8_setOwnMark_10 rfl (en0 _ _ _ _) rfl
def fX8_send (κ : Kd) (a0 : Nat) (l1 : Int32) (l2 : Int32) (l3 : Int32) (h : Hp) : Option (Int32 × Hp) :=
  if (κ a0).1 = 7 then (
  if l2 = (0 : Int32) then (
    (fX8_weight κ a0 l1 h).bind fun v1 =>
    lt_ (s_I h a0 6 v1) fun h2 =>
    some ((0 : Int32), h2)
  ) else
  if l2 = (1 : Int32) then (
    b2 (fX8_load κ a0 l1 l3 h) fun v5 h6 =>
    some (v5, h6)
  ) else
  if l2 = (2 : Int32) then (
    (fX8_weight κ a0 l1 h).bind fun v9 =>
    b2 (fX8_glow κ a0 l1 v9 h) fun v10 h11 =>
    some (v10, h11)
  ) else
  if l2 = (3 : Int32) then (
    b2 (fX8_openUp κ a0 l1 h) fun v14 h15 =>
    some (v14, h15)
  ) else
  if l2 = (4 : Int32) then (
    to_ κ (g_R h a0 2) 50 fun r18 =>
    a_I κ h r18 l1 fun v19 =>
    lt_ (s_I h a0 6 v19) fun h20 =>
    some ((0 : Int32), h20)
  ) else
  if l2 = (5 : Int32) then (
    to_ κ (g_R h a0 3) 50 fun r23 =>
    a_I κ h r23 l1 fun v24 =>
    lt_ (s_I h a0 6 v24) fun h25 =>
    (fX8_isA κ a0 l1 (1 : Int32) h25).bind fun v26 =>
    if v26 = 0 then (
      some ((3 : Int32), h25)
    ) else (
      some ((0 : Int32), h25)
    )
  ) else
  if l2 = (6 : Int32) then (
    to_ κ (g_R h a0 2) 50 fun r29 =>
    a_I κ h r29 l1 fun v30 =>
    lt_ (s_I h a0 6 v30) fun h31 =>
    to_ κ (g_R h31 a0 2) 50 fun r32 =>
    w_I κ h31 r32 l1 l3 fun h33 =>
    some ((0 : Int32), h33)
  ) else
  if l2 = (7 : Int32) then (
    b2 (fX8_setOwnMark κ a0 l1 (1 : Int32) l3 h) fun v36 h37 =>
    some (v36, h37)
  ) else
  (
    b2 (fX8_setOwnMark κ a0 l1 (5 : Int32) l3 h) fun v40 h41 =>
    some (v40, h41)
  )) else none
set_option maxHeartbeats 4000000 in
set_option maxRecDepth 100000 in
theorem tX8_send (κ : Kd) (n lim : Nat) (h : Hp) (a0 : Nat) (l1 : Int32) (l2 : Int32) (l3 : Int32) : Ct_ mX8_send [.ref (a0), .int (l1), .int (l2), .int (l3)] κ n lim h (eI κ n) (fX8_send κ a0 l1 l2 l3 h) := by
  refine ct_of (by decide) (Nat.le_of_ble_eq_true rfl) ?_
  unfold fX8_send
  refine z_sub (L' := [(0, .ref (a0)), (1, .int (l1)), (2, .int (l2)), (3, .int (l3))]) [0, 1, 2, 3] rfl ?_
  refine z_or (fun k_a0 => ?_)
  refine z_iload_n dX8_send_0 rfl 2 rfl ?_
  refine z_ite (fun c4 => ?_) (fun n3 => ?_)
  · refine z_tin (tgt := 48) dX8_send_1 (0) c4 (by decide) (by decide) rfl (by decide) ?_
    refine z_aload_n dX8_send_48 rfl 0 rfl ?_
    refine z_aload_n dX8_send_49 rfl 0 rfl ?_
    refine z_iload_n dX8_send_50 rfl 1 rfl ?_
    refine z_pI (as := [.ref (a0), .int (l1)]) (rn_V dX8_send_51 mf_X8_weight in_X8_weight lk_X8_69 ⟨by decide, by decide⟩ cl_6 rfl k_a0 rfl (Nat.le_of_ble_eq_true rfl)) (tX8_weight _ _ _ _ _ _) cz_X8_weight (c00 _) (fun v1 => ?_)
    refine z_putI dX8_send_54 fl_X8_72 (Or.inl rfl) k_a0 (fun h2 => ?_)
    refine z_iconst (v := 0) dX8_send_57 (by decide) ?_
    exact z_iret dX8_send_58 rfl (en0 _ _ _ _) rfl
  refine z_ite (fun c8 => ?_) (fun n7 => ?_)
  · refine z_tin (tgt := 59) dX8_send_1 (1) c8 (by decide) (by decide) rfl (by decide) ?_
    refine z_aload_n dX8_send_59 rfl 0 rfl ?_
    refine z_iload_n dX8_send_60 rfl 1 rfl ?_
    refine z_iload_n dX8_send_61 rfl 3 rfl ?_
    refine z_cI (as := [.ref (a0), .int (l1), .int (l3)]) (rn_V dX8_send_62 mf_X8_load in_X8_load lk_X8_75 ⟨by decide, by decide⟩ cl_6 rfl k_a0 rfl (Nat.le_of_ble_eq_true rfl)) (tX8_load _ _ _ _ _ _ _) cz_X8_load (c00 _) (fun v5 h6 => ?_)
    exact z_iret dX8_send_65 rfl (en0 _ _ _ _) rfl
  refine z_ite (fun c13 => ?_) (fun n12 => ?_)
  · refine z_tin (tgt := 66) dX8_send_1 (2) c13 (by decide) (by decide) rfl (by decide) ?_
    refine z_aload_n dX8_send_66 rfl 0 rfl ?_
    refine z_iload_n dX8_send_67 rfl 1 rfl ?_
    refine z_aload_n dX8_send_68 rfl 0 rfl ?_
    refine z_iload_n dX8_send_69 rfl 1 rfl ?_
    refine z_pI (as := [.ref (a0), .int (l1)]) (rn_V dX8_send_70 mf_X8_weight in_X8_weight lk_X8_69 ⟨by decide, by decide⟩ cl_6 rfl k_a0 rfl (Nat.le_of_ble_eq_true rfl)) (tX8_weight _ _ _ _ _ _) cz_X8_weight (c00 _) (fun v9 => ?_)
    refine z_cI (as := [.ref (a0), .int (l1), .int (v9)]) (rn_V dX8_send_73 mf_X8_glow in_X8_glow lk_X8_78 ⟨by decide, by decide⟩ cl_6 rfl k_a0 rfl (Nat.le_of_ble_eq_true rfl)) (tX8_glow _ _ _ _ _ _ _) cz_X8_glow (c00 _) (fun v10 h11 => ?_)
    exact z_iret dX8_send_76 rfl (en0 _ _ _ _) rfl
  refine z_ite (fun c17 => ?_) (fun n16 => ?_)
  · refine z_tin (tgt := 77) dX8_send_1 (3) c17 (by decide) (by decide) rfl (by decide) ?_
    refine z_aload_n dX8_send_77 rfl 0 rfl ?_
    refine z_iload_n dX8_send_78 rfl 1 rfl ?_
    refine z_cI (as := [.ref (a0), .int (l1)]) (rn_V dX8_send_79 mf_X8_openUp in_X8_openUp lk_X8_81 ⟨by decide, by decide⟩ cl_6 rfl k_a0 rfl (Nat.le_of_ble_eq_true rfl)) (tX8_openUp _ _ _ _ _ _) cz_X8_openUp (c00 _) (fun v14 h15 => ?_)
    exact z_iret dX8_send_82 rfl (en0 _ _ _ _) rfl
  refine z_ite (fun c22 => ?_) (fun n21 => ?_)
  · refine z_tin (tgt := 83) dX8_send_1 (4) c22 (by decide) (by decide) rfl (by decide) ?_
    refine z_aload_n dX8_send_83 rfl 0 rfl ?_
    refine z_aload_n dX8_send_84 rfl 0 rfl ?_
    refine z_getR (kd := 50) dX8_send_85 fl_X8_18 k_a0 (fun r18 kr18 => ?_)
    refine z_iload_n dX8_send_88 rfl 1 rfl ?_
    refine z_iald dX8_send_89 kr18 (fun v19 => ?_)
    refine z_putI dX8_send_90 fl_X8_72 (Or.inl rfl) k_a0 (fun h20 => ?_)
    refine z_iconst (v := 0) dX8_send_93 (by decide) ?_
    exact z_iret dX8_send_94 rfl (en0 _ _ _ _) rfl
  refine z_ite (fun c28 => ?_) (fun n27 => ?_)
  · refine z_tin (tgt := 95) dX8_send_1 (5) c28 (by decide) (by decide) rfl (by decide) ?_
    refine z_aload_n dX8_send_95 rfl 0 rfl ?_
    refine z_aload_n dX8_send_96 rfl 0 rfl ?_
    refine z_getR (kd := 50) dX8_send_97 fl_X8_21 k_a0 (fun r23 kr23 => ?_)
    refine z_iload_n dX8_send_100 rfl 1 rfl ?_
    refine z_iald dX8_send_101 kr23 (fun v24 => ?_)
    refine z_putI dX8_send_102 fl_X8_72 (Or.inl rfl) k_a0 (fun h25 => ?_)
    refine z_aload_n dX8_send_105 rfl 0 rfl ?_
    refine z_iload_n dX8_send_106 rfl 1 rfl ?_
    refine z_iconst (v := 1) dX8_send_107 (by decide) ?_
    refine z_pI (as := [.ref (a0), .int (l1), .int ((1 : Int32))]) (rn_V dX8_send_108 mf_X8_isA in_X8_isA lk_X8_65 ⟨by decide, by decide⟩ cl_6 rfl k_a0 rfl (Nat.le_of_ble_eq_true rfl)) (tX8_isA _ _ _ _ _ _ _) cz_X8_isA (c00 _) (fun v26 => ?_)
    refine z_if_eq (tgt := 118) dX8_send_111 (by first | decide | omega) (fun _ => ?_) (fun _ => ?_)
    · skip
      refine z_iconst (v := 3) dX8_send_118 (by decide) ?_
      exact z_iret dX8_send_119 rfl (en0 _ _ _ _) rfl
    · skip
      refine z_iconst (v := 0) dX8_send_114 (by decide) ?_
      refine z_goto (tgt := 119) dX8_send_115 (by decide) ?_
      exact z_iret dX8_send_119 rfl (en0 _ _ _ _) rfl
  refine z_ite (fun c35 => ?_) (fun n34 => ?_)
  · refine z_tin (tgt := 120) dX8_send_1 (6) c35 (by decide) (by decide) rfl (by decide) ?_
    refine z_aload_n dX8_send_120 rfl 0 rfl ?_
    refine z_aload_n dX8_send_121 rfl 0 rfl ?_
    refine z_getR (kd := 50) dX8_send_122 fl_X8_18 k_a0 (fun r29 kr29 => ?_)
    refine z_iload_n dX8_send_125 rfl 1 rfl ?_
    refine z_iald dX8_send_126 kr29 (fun v30 => ?_)
    refine z_putI dX8_send_127 fl_X8_72 (Or.inl rfl) k_a0 (fun h31 => ?_)
    refine z_aload_n dX8_send_130 rfl 0 rfl ?_
    refine z_getR (kd := 50) dX8_send_131 fl_X8_18 k_a0 (fun r32 kr32 => ?_)
    refine z_iload_n dX8_send_134 rfl 1 rfl ?_
    refine z_iload_n dX8_send_135 rfl 3 rfl ?_
    refine z_iast dX8_send_136 kr32 (fun h33 => ?_)
    refine z_iconst (v := 0) dX8_send_137 (by decide) ?_
    exact z_iret dX8_send_138 rfl (en0 _ _ _ _) rfl
  refine z_ite (fun c39 => ?_) (fun n38 => ?_)
  · refine z_tin (tgt := 139) dX8_send_1 (7) c39 (by decide) (by decide) rfl (by decide) ?_
    refine z_aload_n dX8_send_139 rfl 0 rfl ?_
    refine z_iload_n dX8_send_140 rfl 1 rfl ?_
    refine z_iconst (v := 1) dX8_send_141 (by decide) ?_
    refine z_iload_n dX8_send_142 rfl 3 rfl ?_
    refine z_cI (as := [.ref (a0), .int (l1), .int ((1 : Int32)), .int (l3)]) (rn_V dX8_send_143 mf_X8_setOwnMark in_X8_setOwnMark lk_X8_84 ⟨by decide, by decide⟩ cl_6 rfl k_a0 rfl (Nat.le_of_ble_eq_true rfl)) (tX8_setOwnMark _ _ _ _ _ _ _ _) cz_X8_setOwnMark (c00 _) (fun v36 h37 => ?_)
    exact z_iret dX8_send_146 rfl (en0 _ _ _ _) rfl
  refine z_tdef (tgt := 147) dX8_send_1 [0, 1, 2, 3, 4, 5, 6, 7] (List.forall_mem_cons.mpr ⟨n3, List.forall_mem_cons.mpr ⟨n7, List.forall_mem_cons.mpr ⟨n12, List.forall_mem_cons.mpr ⟨n16, List.forall_mem_cons.mpr ⟨n21, List.forall_mem_cons.mpr ⟨n27, List.forall_mem_cons.mpr ⟨n34, List.forall_mem_cons.mpr ⟨n38, fun _ h => absurd h List.not_mem_nil⟩⟩⟩⟩⟩⟩⟩⟩) (by decide +kernel) (by decide) ?_
  refine z_aload_n dX8_send_147 rfl 0 rfl ?_
  refine z_iload_n dX8_send_148 rfl 1 rfl ?_
  refine z_iconst (v := 5) dX8_send_149 (by decide) ?_
  refine z_iload_n dX8_send_150 rfl 3 rfl ?_
  refine z_cI (as := [.ref (a0), .int (l1), .int ((5 : Int32)), .int (l3)]) (rn_V dX8_send_151 mf_X8_setOwnMark in_X8_setOwnMark lk_X8_84 ⟨by decide, by decide⟩ cl_6 rfl k_a0 rfl (Nat.le_of_ble_eq_true rfl)) (tX8_setOwnMark _ _ _ _ _ _ _ _) cz_X8_setOwnMark (c00 _) (fun v40 h41 => ?_)
  exact z_iret dX8_send_154 rfl (en0 _ _ _ _) rfl
def fX4_sendTo (κ : Kd) (a0 : Nat) (a1 : Nat) (l2 : Int64) (l4 : Int32) (h : Hp) : Option (Int32 × Hp) :=
  if (κ a0).1 = 4 then (
  if (κ a1).1 = 2 then (
  to_ κ (g_R h a0 1) 7 fun r1 =>
  (fX8_exists κ r1 l2 h).bind fun v2 =>
  if v2 = 0 then (
    some ((1 : Int32), h)
  ) else (
    to_ κ (g_R h a0 1) 7 fun r3 =>
    (fX1_taken κ a1 (1 : Int32) h).bind fun v4 =>
    b2 (fX8_send κ r3 l2.toInt32 l4 v4.toInt32 h) fun v5 h6 =>
    if v5 = (11 : Int32) then (
      lt_ (s_J h6 a0 18 (50 : Int64)) fun h10 =>
      if v5 = 0 then (
        to_ κ (g_R h10 a0 1) 7 fun r11 =>
        b2 (fX1_lay κ a1 ((g_I h10 r11 6).toInt64) h10) fun v12 h13 =>
        some (v12, h13)
      ) else (
        some (v5, h10)
      )
    ) else (
      if v5 = 0 then (
        to_ κ (g_R h6 a0 1) 7 fun r7 =>
        b2 (fX1_lay κ a1 ((g_I h6 r7 6).toInt64) h6) fun v8 h9 =>
        some (v8, h9)
      ) else (
        some (v5, h6)
      )
    )
  )) else none) else none
set_option maxHeartbeats 4000000 in
set_option maxRecDepth 100000 in
theorem tX4_sendTo (κ : Kd) (n lim : Nat) (h : Hp) (a0 : Nat) (a1 : Nat) (l2 : Int64) (l4 : Int32) : Ct_ mX4_sendTo [.ref (a0), .ref (a1), .long (l2), .int (l4)] κ n lim h (eI κ n) (fX4_sendTo κ a0 a1 l2 l4 h) := by
  refine ct_of (by decide) (Nat.le_of_ble_eq_true rfl) ?_
  unfold fX4_sendTo
  refine z_sub (L' := [(0, .ref (a0)), (1, .ref (a1)), (2, .long (l2)), (4, .int (l4))]) [0, 1, 2, 3] rfl ?_
  refine z_or (fun k_a0 => ?_)
  refine z_or (fun k_a1 => ?_)
  refine z_aload_n dX4_sendTo_0 rfl 0 rfl ?_
  refine z_getR (kd := 7) dX4_sendTo_1 fl_X4_21 k_a0 (fun r1 kr1 => ?_)
  refine z_lload_n dX4_sendTo_4 rfl 2 rfl ?_
  refine z_pI (as := [.ref (r1), .long (l2)]) (rn_V dX4_sendTo_5 mf_X8_exists in_X8_exists lk_X4_333 ⟨by decide, by decide⟩ cl_6 rfl kr1 rfl (Nat.le_of_ble_eq_true rfl)) (tX8_exists _ _ _ _ _ _) cz_X8_exists (c00 _) (fun v2 => ?_)
  refine z_if_ne (tgt := 13) dX4_sendTo_8 (by first | decide | omega) (fun _ => ?_) (fun _ => ?_)
  · skip
    refine z_aload_n dX4_sendTo_13 rfl 0 rfl ?_
    refine z_getR (kd := 7) dX4_sendTo_14 fl_X4_21 k_a0 (fun r3 kr3 => ?_)
    refine z_lload_n dX4_sendTo_17 rfl 2 rfl ?_
    refine z_l2i dX4_sendTo_18 ?_
    refine z_iload dX4_sendTo_19 3 rfl ?_
    refine z_aload_n dX4_sendTo_21 rfl 1 rfl ?_
    refine z_iconst (v := 1) dX4_sendTo_22 (by decide) ?_
    refine z_pJ (as := [.ref (a1), .int ((1 : Int32))]) (rn_V dX4_sendTo_23 mf_X1_taken in_X1_taken lk_X4_219 ⟨by decide, by decide⟩ cl_1 rfl k_a1 rfl (Nat.le_of_ble_eq_true rfl)) (tX1_taken _ _ _ _ _ _) cz_X1_taken (c00 _) (fun v4 => ?_)
    refine z_l2i dX4_sendTo_26 ?_
    refine z_cI (as := [.ref (r3), .int (l2.toInt32), .int (l4), .int (v4.toInt32)]) (rn_V dX4_sendTo_27 mf_X8_send in_X8_send lk_X4_337 ⟨by decide, by decide⟩ cl_6 rfl kr3 rfl (Nat.le_of_ble_eq_true rfl)) (tX8_send _ _ _ _ _ _ _ _) cz_X8_send (c00 _) (fun v5 h6 => ?_)
    refine z_istore (L' := [(5, .int (v5)), (0, .ref (a0)), (1, .ref (a1)), (2, .long (l2)), (4, .int (l4))]) dX4_sendTo_30 (by decide) rfl ?_
    refine z_iload dX4_sendTo_32 0 rfl ?_
    refine z_bipush (v := 11) dX4_sendTo_34 (by decide) ?_
    refine z_icmp_ne (tgt := 46) dX4_sendTo_36 (by first | decide | omega) (fun _ => ?_) (fun _ => ?_)
    · skip
      refine z_iload dX4_sendTo_46 0 rfl ?_
      refine z_if_ne (tgt := 66) dX4_sendTo_48 (by first | decide | omega) (fun _ => ?_) (fun _ => ?_)
      · skip
        refine z_iload dX4_sendTo_66 0 rfl ?_
        exact z_iret dX4_sendTo_68 rfl (en0 _ _ _ _) rfl
      · skip
        refine z_aload_n dX4_sendTo_51 rfl 2 rfl ?_
        refine z_aload_n dX4_sendTo_52 rfl 1 rfl ?_
        refine z_getR (kd := 7) dX4_sendTo_53 fl_X4_21 k_a0 (fun r7 kr7 => ?_)
        refine z_getI dX4_sendTo_56 fl_X4_342 kr7 ?_
        refine z_i2l dX4_sendTo_59 ?_
        refine z_cI (as := [.ref (a1), .long ((g_I h6 r7 6).toInt64)]) (rn_V dX4_sendTo_60 mf_X1_lay in_X1_lay lk_X4_192 ⟨by decide, by decide⟩ cl_1 rfl k_a1 rfl (Nat.le_of_ble_eq_true rfl)) (tX1_lay _ _ _ _ _ _) cz_X1_lay (c00 _) (fun v8 h9 => ?_)
        refine z_goto (tgt := 68) dX4_sendTo_63 (by decide) ?_
        exact z_iret dX4_sendTo_68 rfl (en0 _ _ _ _) rfl
    · skip
      refine z_aload_n dX4_sendTo_39 rfl 1 rfl ?_
      refine z_ldc2 dX4_sendTo_40 co_X4_340 ?_
      refine z_putJ dX4_sendTo_43 fl_X4_158 (Or.inl rfl) k_a0 (fun h10 => ?_)
      refine z_iload dX4_sendTo_46 0 rfl ?_
      refine z_if_ne (tgt := 66) dX4_sendTo_48 (by first | decide | omega) (fun _ => ?_) (fun _ => ?_)
      · skip
        refine z_iload dX4_sendTo_66 0 rfl ?_
        exact z_iret dX4_sendTo_68 rfl (en0 _ _ _ _) rfl
      · skip
        refine z_aload_n dX4_sendTo_51 rfl 2 rfl ?_
        refine z_aload_n dX4_sendTo_52 rfl 1 rfl ?_
        refine z_getR (kd := 7) dX4_sendTo_53 fl_X4_21 k_a0 (fun r11 kr11 => ?_)
        refine z_getI dX4_sendTo_56 fl_X4_342 kr11 ?_
        refine z_i2l dX4_sendTo_59 ?_
        refine z_cI (as := [.ref (a1), .long ((g_I h10 r11 6).toInt64)]) (rn_V dX4_sendTo_60 mf_X1_lay in_X1_lay lk_X4_192 ⟨by decide, by decide⟩ cl_1 rfl k_a1 rfl (Nat.le_of_ble_eq_true rfl)) (tX1_lay _ _ _ _ _ _) cz_X1_lay (c00 _) (fun v12 h13 => ?_)
        refine z_goto (tgt := 68) dX4_sendTo_63 (by decide) ?_
        exact z_iret dX4_sendTo_68 rfl (en0 _ _ _ _) rfl
  · skip
    refine z_iconst (v := 1) dX4_sendTo_11 (by decide) ?_
    exact z_iret dX4_sendTo_12 rfl (en0 _ _ _ _) rfl
def fX8_placesOf (κ : Kd) (a0 : Nat) (l1 : Int32) (h : Hp) : Option (Int32) :=
  if (κ a0).1 = 7 then (
  to_ κ (g_R h a0 0) 50 fun r1 =>
  a_I κ h r1 l1 fun v2 =>
  s_ld 1 v2 fun v3 =>
  some (v3)) else none
set_option maxHeartbeats 4000000 in
set_option maxRecDepth 100000 in
theorem tX8_placesOf (κ : Kd) (n lim : Nat) (h : Hp) (a0 : Nat) (l1 : Int32) : Ct_ mX8_placesOf [.ref (a0), .int (l1)] κ n lim h (pI κ n h) (fX8_placesOf κ a0 l1 h) := by
  refine ct_of (by decide) (Nat.le_of_ble_eq_true rfl) ?_
  unfold fX8_placesOf
  refine z_sub (L' := [(0, .ref (a0)), (1, .int (l1))]) [0, 1] rfl ?_
  refine z_or (fun k_a0 => ?_)
  refine z_gets dX8_placesOf_0 sl_X8_49 ?_
  refine z_aload_n dX8_placesOf_3 rfl 0 rfl ?_
  refine z_getR (kd := 50) dX8_placesOf_4 fl_X8_9 k_a0 (fun r1 kr1 => ?_)
  refine z_iload_n dX8_placesOf_7 rfl 1 rfl ?_
  refine z_iald dX8_placesOf_8 kr1 (fun v2 => ?_)
  refine z_sld dX8_placesOf_9 (by decide) (fun v3 => ?_)
  exact z_iret dX8_placesOf_10 rfl (en0 _ _ _ _) rfl
def fX8_reachShelf (κ : Kd) (a0 : Nat) (l1 : Int64) (l3 : Int64) (h : Hp) : Option (Int32) :=
  if (κ a0).1 = 7 then (
  (fX8_exists κ a0 l1 h).bind fun v1 =>
  if v1 = 0 then (
    some ((1 : Int32))
  ) else (
    if l3 < (0 : Int64) then (
      some ((2 : Int32))
    ) else (
      (fX8_placesOf κ a0 l1.toInt32 h).bind fun v2 =>
      if l3 < v2.toInt64 then (
        some ((0 : Int32))
      ) else (
        some ((2 : Int32))
      )
    )
  )) else none
set_option maxHeartbeats 4000000 in
set_option maxRecDepth 100000 in
theorem tX8_reachShelf (κ : Kd) (n lim : Nat) (h : Hp) (a0 : Nat) (l1 : Int64) (l3 : Int64) : Ct_ mX8_reachShelf [.ref (a0), .long (l1), .long (l3)] κ n lim h (pI κ n h) (fX8_reachShelf κ a0 l1 l3 h) := by
  refine ct_of (by decide) (Nat.le_of_ble_eq_true rfl) ?_
  unfold fX8_reachShelf
  refine z_sub (L' := [(0, .ref (a0)), (1, .long (l1)), (3, .long (l3))]) [0, 1, 2] rfl ?_
  refine z_or (fun k_a0 => ?_)
  refine z_aload_n dX8_reachShelf_0 rfl 0 rfl ?_
  refine z_lload_n dX8_reachShelf_1 rfl 1 rfl ?_
  refine z_pI (as := [.ref (a0), .long (l1)]) (rn_V dX8_reachShelf_2 mf_X8_exists in_X8_exists lk_X8_52 ⟨by decide, by decide⟩ cl_6 rfl k_a0 rfl (Nat.le_of_ble_eq_true rfl)) (tX8_exists _ _ _ _ _ _) cz_X8_exists (c00 _) (fun v1 => ?_)
  refine z_if_ne (tgt := 10) dX8_reachShelf_5 (by first | decide | omega) (fun _ => ?_) (fun _ => ?_)
  · skip
    refine z_lload_n dX8_reachShelf_10 rfl 2 rfl ?_
    refine z_lconst (v := 0) dX8_reachShelf_11 (by decide) ?_
    refine z_lc_lt (tgt := 28) dX8_reachShelf_12 dX8_reachShelf_13 (by first | decide | omega) (fun _ => ?_) (fun _ => ?_)
    · skip
      refine z_iconst (v := 2) dX8_reachShelf_28 (by decide) ?_
      refine z_goto (tgt := 33) dX8_reachShelf_29 (by decide) ?_
      exact z_iret dX8_reachShelf_33 rfl (en0 _ _ _ _) rfl
    · skip
      refine z_lload_n dX8_reachShelf_16 rfl 2 rfl ?_
      refine z_aload_n dX8_reachShelf_17 rfl 0 rfl ?_
      refine z_lload_n dX8_reachShelf_18 rfl 1 rfl ?_
      refine z_l2i dX8_reachShelf_19 ?_
      refine z_pI (as := [.ref (a0), .int (l1.toInt32)]) (rn_V dX8_reachShelf_20 mf_X8_placesOf in_X8_placesOf lk_X8_38 ⟨by decide, by decide⟩ cl_6 rfl k_a0 rfl (Nat.le_of_ble_eq_true rfl)) (tX8_placesOf _ _ _ _ _ _) cz_X8_placesOf (c00 _) (fun v2 => ?_)
      refine z_i2l dX8_reachShelf_23 ?_
      refine z_lc_lt (tgt := 32) dX8_reachShelf_24 dX8_reachShelf_25 (by first | decide | omega) (fun _ => ?_) (fun _ => ?_)
      · skip
        refine z_iconst (v := 0) dX8_reachShelf_32 (by decide) ?_
        exact z_iret dX8_reachShelf_33 rfl (en0 _ _ _ _) rfl
      · skip
        refine z_iconst (v := 2) dX8_reachShelf_28 (by decide) ?_
        refine z_goto (tgt := 33) dX8_reachShelf_29 (by decide) ?_
        exact z_iret dX8_reachShelf_33 rfl (en0 _ _ _ _) rfl
  · skip
    refine z_iconst (v := 1) dX8_reachShelf_8 (by decide) ?_
    exact z_iret dX8_reachShelf_9 rfl (en0 _ _ _ _) rfl
def fX8_layOnShelf_b76 (κ : Kd) (a0 : Nat) (l1 : Int64) (l3 : Int64) (l5 : Int64)  (h : Hp) : Option (Int32 × Hp) :=
  to_ κ (g_R h a0 4) 50 fun r3 =>
  w_I κ h r3 ((l1.toInt32 * (4 : Int32)) + l3.toInt32) l5.toInt32 fun h4 =>
  some ((0 : Int32), h4)
set_option maxRecDepth 100000 in
theorem zX8_layOnShelf_b76 (κ : Kd) (n lim : Nat) (a0 : Nat) (l1 : Int64) (l3 : Int64) (l5 : Int64)  (k_a0 : (κ a0).1 = 7) (h : Hp) : ZQ mX8_layOnShelf (eI κ n) (κ, n, 0, lim) 76 [(0, .ref (a0)), (1, .long (l1)), (3, .long (l3)), (5, .long (l5))] [] h (fX8_layOnShelf_b76 κ a0 l1 l3 l5  h) := by
  unfold fX8_layOnShelf_b76
  refine z_aload_n dX8_layOnShelf_76 rfl 0 rfl ?_
  refine z_getR (kd := 50) dX8_layOnShelf_77 fl_X8_24 k_a0 (fun r3 kr3 => ?_)
  refine z_lload_n dX8_layOnShelf_80 rfl 1 rfl ?_
  refine z_l2i dX8_layOnShelf_81 ?_
  refine z_iconst (v := 4) dX8_layOnShelf_82 (by decide) ?_
  refine z_imul dX8_layOnShelf_83 ?_
  refine z_lload_n dX8_layOnShelf_84 rfl 2 rfl ?_
  refine z_l2i dX8_layOnShelf_85 ?_
  refine z_iadd dX8_layOnShelf_86 ?_
  refine z_lload dX8_layOnShelf_87 3 rfl ?_
  refine z_l2i dX8_layOnShelf_89 ?_
  refine z_iast dX8_layOnShelf_90 kr3 (fun h4 => ?_)
  refine z_iconst (v := 0) dX8_layOnShelf_91 (by decide) ?_
  exact z_iret dX8_layOnShelf_92 rfl (en0 _ _ _ _) rfl
def fX8_layOnShelf_b28 (κ : Kd) (a0 : Nat) (l1 : Int64) (l3 : Int64) (l5 : Int64)  (h : Hp) : Option (Int32 × Hp) :=
  (fX8_reachShelf κ a0 l1 l3 h).bind fun v2 =>
  if v2 = 0 then (
    if l5 = (-1 : Int64) then (
      fX8_layOnShelf_b76 κ a0 l1 l3 l5  h
    ) else (
      to_ κ (g_R h a0 0) 50 fun r5 =>
      a_I κ h r5 l1.toInt32 fun v6 =>
      s_ld 2 v6 fun v7 =>
      (fX8_isA κ a0 l5.toInt32 v7 h).bind fun v8 =>
      if v8 = 0 then (
        some ((4 : Int32), h)
      ) else (
        fX8_layOnShelf_b76 κ a0 l1 l3 l5  h
      )
    )
  ) else (
    some (v2, h)
  )
set_option maxRecDepth 100000 in
theorem zX8_layOnShelf_b28 (κ : Kd) (n lim : Nat) (a0 : Nat) (l1 : Int64) (l3 : Int64) (l5 : Int64)  (k_a0 : (κ a0).1 = 7) (h : Hp) : ZQ mX8_layOnShelf (eI κ n) (κ, n, 0, lim) 28 [(0, .ref (a0)), (1, .long (l1)), (3, .long (l3)), (5, .long (l5))] [] h (fX8_layOnShelf_b28 κ a0 l1 l3 l5  h) := by
  unfold fX8_layOnShelf_b28
  refine z_aload_n dX8_layOnShelf_28 rfl 0 rfl ?_
  refine z_lload_n dX8_layOnShelf_29 rfl 1 rfl ?_
  refine z_lload_n dX8_layOnShelf_30 rfl 2 rfl ?_
  refine z_pI (as := [.ref (a0), .long (l1), .long (l3)]) (rn_V dX8_layOnShelf_31 mf_X8_reachShelf in_X8_reachShelf lk_X8_58 ⟨by decide, by decide⟩ cl_6 rfl k_a0 rfl (Nat.le_of_ble_eq_true rfl)) (tX8_reachShelf _ _ _ _ _ _ _) cz_X8_reachShelf (c00 _) (fun v2 => ?_)
  refine z_istore (L' := [(7, .int (v2)), (0, .ref (a0)), (1, .long (l1)), (3, .long (l3)), (5, .long (l5))]) dX8_layOnShelf_34 (by decide) rfl ?_
  refine z_iload dX8_layOnShelf_36 0 rfl ?_
  refine z_if_eq (tgt := 44) dX8_layOnShelf_38 (by first | decide | omega) (fun _ => ?_) (fun _ => ?_)
  · skip
    refine z_lload dX8_layOnShelf_44 4 rfl ?_
    refine z_ldc2 dX8_layOnShelf_46 co_X8_56 ?_
    refine z_lc_eq (tgt := 76) dX8_layOnShelf_49 dX8_layOnShelf_50 (by first | decide | omega) (fun _ => ?_) (fun _ => ?_)
    · skip
      refine z_sub [1, 2, 3, 4] rfl ?_
      exact zX8_layOnShelf_b76 _ _ _ a0 l1 l3 l5  k_a0 h
    · skip
      refine z_aload_n dX8_layOnShelf_53 rfl 1 rfl ?_
      refine z_lload dX8_layOnShelf_54 4 rfl ?_
      refine z_l2i dX8_layOnShelf_56 ?_
      refine z_gets dX8_layOnShelf_57 sl_X8_62 ?_
      refine z_aload_n dX8_layOnShelf_60 rfl 1 rfl ?_
      refine z_getR (kd := 50) dX8_layOnShelf_61 fl_X8_9 k_a0 (fun r5 kr5 => ?_)
      refine z_lload_n dX8_layOnShelf_64 rfl 2 rfl ?_
      refine z_l2i dX8_layOnShelf_65 ?_
      refine z_iald dX8_layOnShelf_66 kr5 (fun v6 => ?_)
      refine z_sld dX8_layOnShelf_67 (by decide) (fun v7 => ?_)
      refine z_pI (as := [.ref (a0), .int (l5.toInt32), .int (v7)]) (rn_V dX8_layOnShelf_68 mf_X8_isA in_X8_isA lk_X8_65 ⟨by decide, by decide⟩ cl_6 rfl k_a0 rfl (Nat.le_of_ble_eq_true rfl)) (tX8_isA _ _ _ _ _ _ _) cz_X8_isA (c00 _) (fun v8 => ?_)
      refine z_if_ne (tgt := 76) dX8_layOnShelf_71 (by first | decide | omega) (fun _ => ?_) (fun _ => ?_)
      · skip
        refine z_sub [1, 2, 3, 4] rfl ?_
        exact zX8_layOnShelf_b76 _ _ _ a0 l1 l3 l5  k_a0 h
      · skip
        refine z_iconst (v := 4) dX8_layOnShelf_74 (by decide) ?_
        exact z_iret dX8_layOnShelf_75 rfl (en0 _ _ _ _) rfl
  · skip
    refine z_iload dX8_layOnShelf_41 0 rfl ?_
    exact z_iret dX8_layOnShelf_43 rfl (en0 _ _ _ _) rfl
def fX8_layOnShelf (κ : Kd) (a0 : Nat) (l1 : Int64) (l3 : Int64) (l5 : Int64) (h : Hp) : Option (Int32 × Hp) :=
  if (κ a0).1 = 7 then (
  (fX8_exists κ a0 l1 h).bind fun v1 =>
  if v1 = 0 then (
    some ((1 : Int32), h)
  ) else (
    if l5 = (-1 : Int64) then (
      fX8_layOnShelf_b28 κ a0 l1 l3 l5  h
    ) else (
      (fX8_exists κ a0 l5 h).bind fun v9 =>
      if v9 = 0 then (
        some ((1 : Int32), h)
      ) else (
        fX8_layOnShelf_b28 κ a0 l1 l3 l5  h
      )
    )
  )) else none
set_option maxHeartbeats 4000000 in
set_option maxRecDepth 100000 in
theorem tX8_layOnShelf (κ : Kd) (n lim : Nat) (h : Hp) (a0 : Nat) (l1 : Int64) (l3 : Int64) (l5 : Int64) : Ct_ mX8_layOnShelf [.ref (a0), .long (l1), .long (l3), .long (l5)] κ n lim h (eI κ n) (fX8_layOnShelf κ a0 l1 l3 l5 h) := by
  refine ct_of (by decide) (Nat.le_of_ble_eq_true rfl) ?_
  unfold fX8_layOnShelf
  refine z_sub (L' := [(0, .ref (a0)), (1, .long (l1)), (3, .long (l3)), (5, .long (l5))]) [0, 1, 2, 3] rfl ?_
  refine z_or (fun k_a0 => ?_)
  refine z_aload_n dX8_layOnShelf_0 rfl 0 rfl ?_
  refine z_lload_n dX8_layOnShelf_1 rfl 1 rfl ?_
  refine z_pI (as := [.ref (a0), .long (l1)]) (rn_V dX8_layOnShelf_2 mf_X8_exists in_X8_exists lk_X8_52 ⟨by decide, by decide⟩ cl_6 rfl k_a0 rfl (Nat.le_of_ble_eq_true rfl)) (tX8_exists _ _ _ _ _ _) cz_X8_exists (c00 _) (fun v1 => ?_)
  refine z_if_eq (tgt := 26) dX8_layOnShelf_5 (by first | decide | omega) (fun _ => ?_) (fun _ => ?_)
  · skip
    refine z_iconst (v := 1) dX8_layOnShelf_26 (by decide) ?_
    exact z_iret dX8_layOnShelf_27 rfl (en0 _ _ _ _) rfl
  · skip
    refine z_lload dX8_layOnShelf_8 3 rfl ?_
    refine z_ldc2 dX8_layOnShelf_10 co_X8_56 ?_
    refine z_lc_eq (tgt := 28) dX8_layOnShelf_13 dX8_layOnShelf_14 (by first | decide | omega) (fun _ => ?_) (fun _ => ?_)
    · skip
      refine z_sub [0, 1, 2, 3] rfl ?_
      exact zX8_layOnShelf_b28 _ _ _ a0 l1 l3 l5  k_a0 h
    · skip
      refine z_aload_n dX8_layOnShelf_17 rfl 0 rfl ?_
      refine z_lload dX8_layOnShelf_18 3 rfl ?_
      refine z_pI (as := [.ref (a0), .long (l5)]) (rn_V dX8_layOnShelf_20 mf_X8_exists in_X8_exists lk_X8_52 ⟨by decide, by decide⟩ cl_6 rfl k_a0 rfl (Nat.le_of_ble_eq_true rfl)) (tX8_exists _ _ _ _ _ _) cz_X8_exists (c00 _) (fun v9 => ?_)
      refine z_if_ne (tgt := 28) dX8_layOnShelf_23 (by first | decide | omega) (fun _ => ?_) (fun _ => ?_)
      · skip
        refine z_sub [0, 1, 2, 3] rfl ?_
        exact zX8_layOnShelf_b28 _ _ _ a0 l1 l3 l5  k_a0 h
      · skip
        refine z_iconst (v := 1) dX8_layOnShelf_26 (by decide) ?_
        exact z_iret dX8_layOnShelf_27 rfl (en0 _ _ _ _) rfl
def fX8_lies (κ : Kd) (a0 : Nat) (l1 : Int32) (l2 : Int32) (h : Hp) : Option (Int32) :=
  if (κ a0).1 = 7 then (
  to_ κ (g_R h a0 4) 50 fun r1 =>
  a_I κ h r1 ((l1 * (4 : Int32)) + l2) fun v2 =>
  some (v2)) else none
set_option maxHeartbeats 4000000 in
set_option maxRecDepth 100000 in
theorem tX8_lies (κ : Kd) (n lim : Nat) (h : Hp) (a0 : Nat) (l1 : Int32) (l2 : Int32) : Ct_ mX8_lies [.ref (a0), .int (l1), .int (l2)] κ n lim h (pI κ n h) (fX8_lies κ a0 l1 l2 h) := by
  refine ct_of (by decide) (Nat.le_of_ble_eq_true rfl) ?_
  unfold fX8_lies
  refine z_sub (L' := [(0, .ref (a0)), (1, .int (l1)), (2, .int (l2))]) [0, 1, 2] rfl ?_
  refine z_or (fun k_a0 => ?_)
  refine z_aload_n dX8_lies_0 rfl 0 rfl ?_
  refine z_getR (kd := 50) dX8_lies_1 fl_X8_24 k_a0 (fun r1 kr1 => ?_)
  refine z_iload_n dX8_lies_4 rfl 1 rfl ?_
  refine z_iconst (v := 4) dX8_lies_5 (by decide) ?_
  refine z_imul dX8_lies_6 ?_
  refine z_iload_n dX8_lies_7 rfl 2 rfl ?_
  refine z_iadd dX8_lies_8 ?_
  refine z_iald dX8_lies_9 kr1 (fun v2 => ?_)
  exact z_iret dX8_lies_10 rfl (en0 _ _ _ _) rfl
def fX4_lookOnShelf (κ : Kd) (a0 : Nat) (a1 : Nat) (l2 : Int64) (l4 : Int64) (h : Hp) : Option (Int32 × Hp) :=
  if (κ a0).1 = 4 then (
  if (κ a1).1 = 2 then (
  to_ κ (g_R h a0 1) 7 fun r1 =>
  (fX8_reachShelf κ r1 l2 l4 h).bind fun v2 =>
  if v2 = 0 then (
    to_ κ (g_R h a0 1) 7 fun r3 =>
    (fX8_lies κ r3 l2.toInt32 l4.toInt32 h).bind fun v4 =>
    b2 (fX1_lay κ a1 v4.toInt64 h) fun v5 h6 =>
    some (v5, h6)
  ) else (
    some (v2, h)
  )) else none) else none
set_option maxHeartbeats 4000000 in
set_option maxRecDepth 100000 in
theorem tX4_lookOnShelf (κ : Kd) (n lim : Nat) (h : Hp) (a0 : Nat) (a1 : Nat) (l2 : Int64) (l4 : Int64) : Ct_ mX4_lookOnShelf [.ref (a0), .ref (a1), .long (l2), .long (l4)] κ n lim h (eI κ n) (fX4_lookOnShelf κ a0 a1 l2 l4 h) := by
  refine ct_of (by decide) (Nat.le_of_ble_eq_true rfl) ?_
  unfold fX4_lookOnShelf
  refine z_sub (L' := [(0, .ref (a0)), (1, .ref (a1)), (2, .long (l2)), (4, .long (l4))]) [0, 1, 2, 3] rfl ?_
  refine z_or (fun k_a0 => ?_)
  refine z_or (fun k_a1 => ?_)
  refine z_aload_n dX4_lookOnShelf_0 rfl 0 rfl ?_
  refine z_getR (kd := 7) dX4_lookOnShelf_1 fl_X4_21 k_a0 (fun r1 kr1 => ?_)
  refine z_lload_n dX4_lookOnShelf_4 rfl 2 rfl ?_
  refine z_lload dX4_lookOnShelf_5 3 rfl ?_
  refine z_pI (as := [.ref (r1), .long (l2), .long (l4)]) (rn_V dX4_lookOnShelf_7 mf_X8_reachShelf in_X8_reachShelf lk_X4_345 ⟨by decide, by decide⟩ cl_6 rfl kr1 rfl (Nat.le_of_ble_eq_true rfl)) (tX8_reachShelf _ _ _ _ _ _ _) cz_X8_reachShelf (c00 _) (fun v2 => ?_)
  refine z_istore (L' := [(6, .int (v2)), (0, .ref (a0)), (1, .ref (a1)), (2, .long (l2)), (4, .long (l4))]) dX4_lookOnShelf_10 (by decide) rfl ?_
  refine z_iload dX4_lookOnShelf_12 0 rfl ?_
  refine z_if_ne (tgt := 37) dX4_lookOnShelf_14 (by first | decide | omega) (fun _ => ?_) (fun _ => ?_)
  · skip
    refine z_iload dX4_lookOnShelf_37 0 rfl ?_
    exact z_iret dX4_lookOnShelf_39 rfl (en0 _ _ _ _) rfl
  · skip
    refine z_aload_n dX4_lookOnShelf_17 rfl 2 rfl ?_
    refine z_aload_n dX4_lookOnShelf_18 rfl 1 rfl ?_
    refine z_getR (kd := 7) dX4_lookOnShelf_19 fl_X4_21 k_a0 (fun r3 kr3 => ?_)
    refine z_lload_n dX4_lookOnShelf_22 rfl 3 rfl ?_
    refine z_l2i dX4_lookOnShelf_23 ?_
    refine z_lload dX4_lookOnShelf_24 4 rfl ?_
    refine z_l2i dX4_lookOnShelf_26 ?_
    refine z_pI (as := [.ref (r3), .int (l2.toInt32), .int (l4.toInt32)]) (rn_V dX4_lookOnShelf_27 mf_X8_lies in_X8_lies lk_X4_349 ⟨by decide, by decide⟩ cl_6 rfl kr3 rfl (Nat.le_of_ble_eq_true rfl)) (tX8_lies _ _ _ _ _ _ _) cz_X8_lies (c00 _) (fun v4 => ?_)
    refine z_i2l dX4_lookOnShelf_30 ?_
    refine z_cI (as := [.ref (a1), .long (v4.toInt64)]) (rn_V dX4_lookOnShelf_31 mf_X1_lay in_X1_lay lk_X4_192 ⟨by decide, by decide⟩ cl_1 rfl k_a1 rfl (Nat.le_of_ble_eq_true rfl)) (tX1_lay _ _ _ _ _ _) cz_X1_lay (c00 _) (fun v5 h6 => ?_)
    refine z_goto (tgt := 39) dX4_lookOnShelf_34 (by decide) ?_
    exact z_iret dX4_lookOnShelf_39 rfl (en0 _ _ _ _) rfl
def fX4_tellOutside (κ : Kd) (a0 : Nat) (l1 : Int64) (h : Hp) : Option (Int32 × Hp) :=
  if (κ a0).1 = 4 then (
  if (60 : Int32) ≤ (g_I h a0 9) then (
    some ((0 : Int32), h)
  ) else (
    to_ κ (g_R h a0 6) 51 fun r1 =>
    w_J κ h r1 (g_I h a0 9) l1 fun h2 =>
    lt_ (s_I h2 a0 9 ((g_I h2 a0 9) + (1 : Int32))) fun h3 =>
    some ((0 : Int32), h3)
  )) else none
set_option maxHeartbeats 4000000 in
set_option maxRecDepth 100000 in
theorem tX4_tellOutside (κ : Kd) (n lim : Nat) (h : Hp) (a0 : Nat) (l1 : Int64) : Ct_ mX4_tellOutside [.ref (a0), .long (l1)] κ n lim h (eI κ n) (fX4_tellOutside κ a0 l1 h) := by
  refine ct_of (by decide) (Nat.le_of_ble_eq_true rfl) ?_
  unfold fX4_tellOutside
  refine z_sub (L' := [(0, .ref (a0)), (1, .long (l1))]) [0, 1] rfl ?_
  refine z_or (fun k_a0 => ?_)
  refine z_aload_n dX4_tellOutside_0 rfl 0 rfl ?_
  refine z_getI dX4_tellOutside_1 fl_X4_88 k_a0 ?_
  refine z_bipush (v := 60) dX4_tellOutside_4 (by decide) ?_
  refine z_icmp_ge (tgt := 29) dX4_tellOutside_6 (by first | decide | omega) (fun _ => ?_) (fun _ => ?_)
  · skip
    refine z_iconst (v := 0) dX4_tellOutside_29 (by decide) ?_
    exact z_iret dX4_tellOutside_30 rfl (en0 _ _ _ _) rfl
  · skip
    refine z_aload_n dX4_tellOutside_9 rfl 0 rfl ?_
    refine z_getR (kd := 51) dX4_tellOutside_10 fl_X4_44 k_a0 (fun r1 kr1 => ?_)
    refine z_aload_n dX4_tellOutside_13 rfl 0 rfl ?_
    refine z_getI dX4_tellOutside_14 fl_X4_88 k_a0 ?_
    refine z_lload_n dX4_tellOutside_17 rfl 1 rfl ?_
    refine z_last dX4_tellOutside_18 kr1 (fun h2 => ?_)
    refine z_aload_n dX4_tellOutside_19 rfl 0 rfl ?_
    refine z_dup dX4_tellOutside_20 rfl ?_
    refine z_getI dX4_tellOutside_21 fl_X4_88 k_a0 ?_
    refine z_iconst (v := 1) dX4_tellOutside_24 (by decide) ?_
    refine z_iadd dX4_tellOutside_25 ?_
    refine z_putI dX4_tellOutside_26 fl_X4_88 (Or.inl rfl) k_a0 (fun h3 => ?_)
    refine z_iconst (v := 0) dX4_tellOutside_29 (by decide) ?_
    exact z_iret dX4_tellOutside_30 rfl (en0 _ _ _ _) rfl
def fX4_keepAll (κ : Kd) (a0 : Nat) (a1 : Nat) (h : Hp) : Option (Int32 × Hp) :=
  if (κ a0).1 = 4 then (
  if (κ a1).1 = 2 then (
  to_ κ (g_R h a0 2) 3 fun r1 =>
  (fX2_isFull κ r1 h).bind fun v2 =>
  if v2 = 0 then (
    if (g_I h a0 11) < (6 : Int32) then (
      to_ κ (g_R h a0 2) 3 fun r3 =>
      to_ κ (g_R h a0 0) 5 fun r4 =>
      to_ κ (g_R h a0 1) 7 fun r5 =>
      (fX2_keep κ r3 r4 r5 h).bind fun h6 =>
      lt_ (s_I h6 a0 11 ((g_I h6 a0 11) + (1 : Int32))) fun h7 =>
      to_ κ (g_R h7 a0 2) 3 fun r8 =>
      b2 (fX1_lay κ a1 ((g_I h7 r8 2).toInt64) h7) fun v9 h10 =>
      some (v9, h10)
    ) else (
      some ((7 : Int32), h)
    )
  ) else (
    some ((7 : Int32), h)
  )) else none) else none
set_option maxHeartbeats 4000000 in
set_option maxRecDepth 100000 in
theorem tX4_keepAll (κ : Kd) (n lim : Nat) (h : Hp) (a0 : Nat) (a1 : Nat) : Ct_ mX4_keepAll [.ref (a0), .ref (a1)] κ n lim h (eI κ n) (fX4_keepAll κ a0 a1 h) := by
  refine ct_of (by decide) (Nat.le_of_ble_eq_true rfl) ?_
  unfold fX4_keepAll
  refine z_sub (L' := [(0, .ref (a0)), (1, .ref (a1))]) [0, 1] rfl ?_
  refine z_or (fun k_a0 => ?_)
  refine z_or (fun k_a1 => ?_)
  refine z_aload_n dX4_keepAll_0 rfl 0 rfl ?_
  refine z_getR (kd := 3) dX4_keepAll_1 fl_X4_28 k_a0 (fun r1 kr1 => ?_)
  refine z_pI (as := [.ref (r1)]) (rn_V dX4_keepAll_4 mf_X2_isFull in_X2_isFull lk_X4_352 ⟨by decide, by decide⟩ cl_2 rfl kr1 rfl (Nat.le_of_ble_eq_true rfl)) (tX2_isFull _ _ _ _ _) cz_X2_isFull (c00 _) (fun v2 => ?_)
  refine z_if_ne (tgt := 19) dX4_keepAll_7 (by first | decide | omega) (fun _ => ?_) (fun _ => ?_)
  · skip
    refine z_bipush (v := 7) dX4_keepAll_19 (by decide) ?_
    exact z_iret dX4_keepAll_21 rfl (en0 _ _ _ _) rfl
  · skip
    refine z_aload_n dX4_keepAll_10 rfl 0 rfl ?_
    refine z_getI dX4_keepAll_11 fl_X4_91 k_a0 ?_
    refine z_bipush (v := 6) dX4_keepAll_14 (by decide) ?_
    refine z_icmp_lt (tgt := 22) dX4_keepAll_16 (by first | decide | omega) (fun _ => ?_) (fun _ => ?_)
    · skip
      refine z_aload_n dX4_keepAll_22 rfl 0 rfl ?_
      refine z_getR (kd := 3) dX4_keepAll_23 fl_X4_28 k_a0 (fun r3 kr3 => ?_)
      refine z_aload_n dX4_keepAll_26 rfl 0 rfl ?_
      refine z_getR (kd := 5) dX4_keepAll_27 fl_X4_12 k_a0 (fun r4 kr4 => ?_)
      refine z_aload_n dX4_keepAll_30 rfl 0 rfl ?_
      refine z_getR (kd := 7) dX4_keepAll_31 fl_X4_21 k_a0 (fun r5 kr5 => ?_)
      refine z_cV (as := [.ref (r3), .ref (r4), .ref (r5)]) (rn_V dX4_keepAll_34 mf_X2_keep in_X2_keep lk_X4_355 ⟨by decide, by decide⟩ cl_2 rfl kr3 rfl (Nat.le_of_ble_eq_true rfl)) (tX2_keep _ _ _ _ _ _ _) cz_X2_keep (c00 _) (fun h6 => ?_)
      refine z_aload_n dX4_keepAll_37 rfl 0 rfl ?_
      refine z_dup dX4_keepAll_38 rfl ?_
      refine z_getI dX4_keepAll_39 fl_X4_91 k_a0 ?_
      refine z_iconst (v := 1) dX4_keepAll_42 (by decide) ?_
      refine z_iadd dX4_keepAll_43 ?_
      refine z_putI dX4_keepAll_44 fl_X4_91 (Or.inl rfl) k_a0 (fun h7 => ?_)
      refine z_aload_n dX4_keepAll_47 rfl 1 rfl ?_
      refine z_aload_n dX4_keepAll_48 rfl 0 rfl ?_
      refine z_getR (kd := 3) dX4_keepAll_49 fl_X4_28 k_a0 (fun r8 kr8 => ?_)
      refine z_getI dX4_keepAll_52 fl_X4_359 kr8 ?_
      refine z_i2l dX4_keepAll_55 ?_
      refine z_cI (as := [.ref (a1), .long ((g_I h7 r8 2).toInt64)]) (rn_V dX4_keepAll_56 mf_X1_lay in_X1_lay lk_X4_192 ⟨by decide, by decide⟩ cl_1 rfl k_a1 rfl (Nat.le_of_ble_eq_true rfl)) (tX1_lay _ _ _ _ _ _) cz_X1_lay (c00 _) (fun v9 h10 => ?_)
      exact z_iret dX4_keepAll_59 rfl (en0 _ _ _ _) rfl
    · skip
      refine z_bipush (v := 7) dX4_keepAll_19 (by decide) ?_
      exact z_iret dX4_keepAll_21 rfl (en0 _ _ _ _) rfl
def fX4_reckon (κ : Kd) (a0 : Nat) (a1 : Nat) (l2 : Int32) (l3 : Int64) (l5 : Int64) (h : Hp) : Option (Int32 × Hp) :=
  if (κ a0).1 = 4 then (
  if (κ a1).1 = 2 then (
  if l2 = (3 : Int32) then (
    b2 (fX1_lay κ a1 (l3 + l5) h) fun v1 h2 =>
    some (v1, h2)
  ) else
  if l2 = (4 : Int32) then (
    b2 (fX1_lay κ a1 (l3 - l5) h) fun v5 h6 =>
    some (v5, h6)
  ) else
  if l2 = (5 : Int32) then (
    b2 (fX1_lay κ a1 (l3 * l5) h) fun v9 h10 =>
    some (v9, h10)
  ) else
  if l2 = (6 : Int32) then (
    if l5 = (0 : Int64) then (
      some ((6 : Int32), h)
    ) else (
      if l5 = 0 then none else
      b2 (fX1_lay κ a1 (l3 / l5) h) fun v14 h15 =>
      some (v14, h15)
    )
  ) else
  if l2 = (7 : Int32) then (
    if l5 = (0 : Int64) then (
      some ((6 : Int32), h)
    ) else (
      if l5 = 0 then none else
      b2 (fX1_lay κ a1 (l3 - l3 / l5 * l5) h) fun v19 h20 =>
      some (v19, h20)
    )
  ) else
  if l2 = (8 : Int32) then (
    if l5 ≤ l3 then (
      b2 (fX1_lay κ a1 (0 : Int64) h) fun v23 h24 =>
      some (v23, h24)
    ) else (
      b2 (fX1_lay κ a1 (1 : Int64) h) fun v25 h26 =>
      some (v25, h26)
    )
  ) else
  (
    if l3 = l5 then (
      b2 (fX1_lay κ a1 (1 : Int64) h) fun v31 h32 =>
      some (v31, h32)
    ) else (
      b2 (fX1_lay κ a1 (0 : Int64) h) fun v29 h30 =>
      some (v29, h30)
    )
  )) else none) else none
set_option maxHeartbeats 4000000 in
set_option maxRecDepth 100000 in
theorem tX4_reckon (κ : Kd) (n lim : Nat) (h : Hp) (a0 : Nat) (a1 : Nat) (l2 : Int32) (l3 : Int64) (l5 : Int64) : Ct_ mX4_reckon [.ref (a0), .ref (a1), .int (l2), .long (l3), .long (l5)] κ n lim h (eI κ n) (fX4_reckon κ a0 a1 l2 l3 l5 h) := by
  refine ct_of (by decide) (Nat.le_of_ble_eq_true rfl) ?_
  unfold fX4_reckon
  refine z_sub (L' := [(0, .ref (a0)), (1, .ref (a1)), (2, .int (l2)), (3, .long (l3)), (5, .long (l5))]) [0, 1, 2, 3, 4] rfl ?_
  refine z_or (fun k_a0 => ?_)
  refine z_or (fun k_a1 => ?_)
  refine z_iload_n dX4_reckon_0 rfl 2 rfl ?_
  refine z_ite (fun c4 => ?_) (fun n3 => ?_)
  · refine z_tin (tgt := 40) dX4_reckon_1 (3) c4 (by decide) (by decide) rfl (by decide) ?_
    refine z_aload_n dX4_reckon_40 rfl 1 rfl ?_
    refine z_lload_n dX4_reckon_41 rfl 3 rfl ?_
    refine z_lload dX4_reckon_42 4 rfl ?_
    refine z_ladd dX4_reckon_44 ?_
    refine z_cI (as := [.ref (a1), .long (l3 + l5)]) (rn_V dX4_reckon_45 mf_X1_lay in_X1_lay lk_X4_192 ⟨by decide, by decide⟩ cl_1 rfl k_a1 rfl (Nat.le_of_ble_eq_true rfl)) (tX1_lay _ _ _ _ _ _) cz_X1_lay (c00 _) (fun v1 h2 => ?_)
    exact z_iret dX4_reckon_48 rfl (en0 _ _ _ _) rfl
  refine z_ite (fun c8 => ?_) (fun n7 => ?_)
  · refine z_tin (tgt := 49) dX4_reckon_1 (4) c8 (by decide) (by decide) rfl (by decide) ?_
    refine z_aload_n dX4_reckon_49 rfl 1 rfl ?_
    refine z_lload_n dX4_reckon_50 rfl 3 rfl ?_
    refine z_lload dX4_reckon_51 4 rfl ?_
    refine z_lsub dX4_reckon_53 ?_
    refine z_cI (as := [.ref (a1), .long (l3 - l5)]) (rn_V dX4_reckon_54 mf_X1_lay in_X1_lay lk_X4_192 ⟨by decide, by decide⟩ cl_1 rfl k_a1 rfl (Nat.le_of_ble_eq_true rfl)) (tX1_lay _ _ _ _ _ _) cz_X1_lay (c00 _) (fun v5 h6 => ?_)
    exact z_iret dX4_reckon_57 rfl (en0 _ _ _ _) rfl
  refine z_ite (fun c12 => ?_) (fun n11 => ?_)
  · refine z_tin (tgt := 58) dX4_reckon_1 (5) c12 (by decide) (by decide) rfl (by decide) ?_
    refine z_aload_n dX4_reckon_58 rfl 1 rfl ?_
    refine z_lload_n dX4_reckon_59 rfl 3 rfl ?_
    refine z_lload dX4_reckon_60 4 rfl ?_
    refine z_lmul dX4_reckon_62 ?_
    refine z_cI (as := [.ref (a1), .long (l3 * l5)]) (rn_V dX4_reckon_63 mf_X1_lay in_X1_lay lk_X4_192 ⟨by decide, by decide⟩ cl_1 rfl k_a1 rfl (Nat.le_of_ble_eq_true rfl)) (tX1_lay _ _ _ _ _ _) cz_X1_lay (c00 _) (fun v9 h10 => ?_)
    exact z_iret dX4_reckon_66 rfl (en0 _ _ _ _) rfl
  refine z_ite (fun c17 => ?_) (fun n16 => ?_)
  · refine z_tin (tgt := 67) dX4_reckon_1 (6) c17 (by decide) (by decide) rfl (by decide) ?_
    refine z_lload dX4_reckon_67 4 rfl ?_
    refine z_lconst (v := 0) dX4_reckon_69 (by decide) ?_
    refine z_lc_ne (tgt := 79) dX4_reckon_70 dX4_reckon_71 (by first | decide | omega) (fun _ => ?_) (fun _ => ?_)
    · skip
      refine z_aload_n dX4_reckon_79 rfl 1 rfl ?_
      refine z_lload_n dX4_reckon_80 rfl 3 rfl ?_
      refine z_lload dX4_reckon_81 4 rfl ?_
      refine z_ite (fun _ => z_no) (fun hne13 => ?_)
      refine z_ldiv dX4_reckon_83 hne13 ?_
      refine z_cI (as := [.ref (a1), .long (l3 / l5)]) (rn_V dX4_reckon_84 mf_X1_lay in_X1_lay lk_X4_192 ⟨by decide, by decide⟩ cl_1 rfl k_a1 rfl (Nat.le_of_ble_eq_true rfl)) (tX1_lay _ _ _ _ _ _) cz_X1_lay (c00 _) (fun v14 h15 => ?_)
      exact z_iret dX4_reckon_87 rfl (en0 _ _ _ _) rfl
    · skip
      refine z_bipush (v := 6) dX4_reckon_74 (by decide) ?_
      refine z_goto (tgt := 87) dX4_reckon_76 (by decide) ?_
      exact z_iret dX4_reckon_87 rfl (en0 _ _ _ _) rfl
  refine z_ite (fun c22 => ?_) (fun n21 => ?_)
  · refine z_tin (tgt := 88) dX4_reckon_1 (7) c22 (by decide) (by decide) rfl (by decide) ?_
    refine z_lload dX4_reckon_88 4 rfl ?_
    refine z_lconst (v := 0) dX4_reckon_90 (by decide) ?_
    refine z_lc_ne (tgt := 100) dX4_reckon_91 dX4_reckon_92 (by first | decide | omega) (fun _ => ?_) (fun _ => ?_)
    · skip
      refine z_aload_n dX4_reckon_100 rfl 1 rfl ?_
      refine z_lload_n dX4_reckon_101 rfl 3 rfl ?_
      refine z_lload dX4_reckon_102 4 rfl ?_
      refine z_ite (fun _ => z_no) (fun hne18 => ?_)
      refine z_lrem dX4_reckon_104 hne18 ?_
      refine z_cI (as := [.ref (a1), .long (l3 - l3 / l5 * l5)]) (rn_V dX4_reckon_105 mf_X1_lay in_X1_lay lk_X4_192 ⟨by decide, by decide⟩ cl_1 rfl k_a1 rfl (Nat.le_of_ble_eq_true rfl)) (tX1_lay _ _ _ _ _ _) cz_X1_lay (c00 _) (fun v19 h20 => ?_)
      exact z_iret dX4_reckon_108 rfl (en0 _ _ _ _) rfl
    · skip
      refine z_bipush (v := 6) dX4_reckon_95 (by decide) ?_
      refine z_goto (tgt := 108) dX4_reckon_97 (by decide) ?_
      exact z_iret dX4_reckon_108 rfl (en0 _ _ _ _) rfl
  refine z_ite (fun c28 => ?_) (fun n27 => ?_)
  · refine z_tin (tgt := 109) dX4_reckon_1 (8) c28 (by decide) (by decide) rfl (by decide) ?_
    refine z_aload_n dX4_reckon_109 rfl 1 rfl ?_
    refine z_lload_n dX4_reckon_110 rfl 3 rfl ?_
    refine z_lload dX4_reckon_111 4 rfl ?_
    refine z_lc_ge (tgt := 121) dX4_reckon_113 dX4_reckon_114 (by first | decide | omega) (fun _ => ?_) (fun _ => ?_)
    · skip
      refine z_lconst (v := 0) dX4_reckon_121 (by decide) ?_
      refine z_cI (as := [.ref (a1), .long ((0 : Int64))]) (rn_V dX4_reckon_122 mf_X1_lay in_X1_lay lk_X4_192 ⟨by decide, by decide⟩ cl_1 rfl k_a1 rfl (Nat.le_of_ble_eq_true rfl)) (tX1_lay _ _ _ _ _ _) cz_X1_lay (c00 _) (fun v23 h24 => ?_)
      exact z_iret dX4_reckon_125 rfl (en0 _ _ _ _) rfl
    · skip
      refine z_lconst (v := 1) dX4_reckon_117 (by decide) ?_
      refine z_goto (tgt := 122) dX4_reckon_118 (by decide) ?_
      refine z_cI (as := [.ref (a1), .long ((1 : Int64))]) (rn_V dX4_reckon_122 mf_X1_lay in_X1_lay lk_X4_192 ⟨by decide, by decide⟩ cl_1 rfl k_a1 rfl (Nat.le_of_ble_eq_true rfl)) (tX1_lay _ _ _ _ _ _) cz_X1_lay (c00 _) (fun v25 h26 => ?_)
      exact z_iret dX4_reckon_125 rfl (en0 _ _ _ _) rfl
  refine z_tdef (tgt := 126) dX4_reckon_1 [3, 4, 5, 6, 7, 8] (List.forall_mem_cons.mpr ⟨n3, List.forall_mem_cons.mpr ⟨n7, List.forall_mem_cons.mpr ⟨n11, List.forall_mem_cons.mpr ⟨n16, List.forall_mem_cons.mpr ⟨n21, List.forall_mem_cons.mpr ⟨n27, fun _ h => absurd h List.not_mem_nil⟩⟩⟩⟩⟩⟩) (by decide +kernel) (by decide) ?_
  refine z_aload_n dX4_reckon_126 rfl 1 rfl ?_
  refine z_lload_n dX4_reckon_127 rfl 3 rfl ?_
  refine z_lload dX4_reckon_128 4 rfl ?_
  refine z_lc_ne (tgt := 138) dX4_reckon_130 dX4_reckon_131 (by first | decide | omega) (fun _ => ?_) (fun _ => ?_)
  · skip
    refine z_lconst (v := 0) dX4_reckon_138 (by decide) ?_
    refine z_cI (as := [.ref (a1), .long ((0 : Int64))]) (rn_V dX4_reckon_139 mf_X1_lay in_X1_lay lk_X4_192 ⟨by decide, by decide⟩ cl_1 rfl k_a1 rfl (Nat.le_of_ble_eq_true rfl)) (tX1_lay _ _ _ _ _ _) cz_X1_lay (c00 _) (fun v29 h30 => ?_)
    exact z_iret dX4_reckon_142 rfl (en0 _ _ _ _) rfl
  · skip
    refine z_lconst (v := 1) dX4_reckon_134 (by decide) ?_
    refine z_goto (tgt := 139) dX4_reckon_135 (by decide) ?_
    refine z_cI (as := [.ref (a1), .long ((1 : Int64))]) (rn_V dX4_reckon_139 mf_X1_lay in_X1_lay lk_X4_192 ⟨by decide, by decide⟩ cl_1 rfl k_a1 rfl (Nat.le_of_ble_eq_true rfl)) (tX1_lay _ _ _ _ _ _) cz_X1_lay (c00 _) (fun v31 h32 => ?_)
    exact z_iret dX4_reckon_142 rfl (en0 _ _ _ _) rfl
def fX4_act (κ : Kd) (a0 : Nat) (a1 : Nat) (l2 : Int32) (l3 : Int32) (l4 : Int32) (h : Hp) : Option (Int32 × Hp) :=
  if (κ a0).1 = 4 then (
  if (κ a1).1 = 2 then (
  (fX6_takes κ l2 l3 l4 h).bind fun v1 =>
  b2 (fX1_take κ a1 v1 h) fun v2 h3 =>
  if v2 = 0 then (
    some ((8 : Int32), h3)
  ) else (
    if l2 = (0 : Int32) then (
      b2 (fX4_useLocals κ a0 a1 l2 l3 h3) fun v4 h5 =>
      some (v4, h5)
    ) else
    if l2 = (1 : Int32) then (
      b2 (fX4_useLocals κ a0 a1 l2 l3 h3) fun v8 h9 =>
      some (v8, h9)
    ) else
    if l2 = (2 : Int32) then (
      b2 (fX4_useLocals κ a0 a1 l2 l3 h3) fun v12 h13 =>
      some (v12, h13)
    ) else
    if l2 = (10 : Int32) then (
      b2 (fX4_useLocals κ a0 a1 l2 l3 h3) fun v16 h17 =>
      some (v16, h17)
    ) else
    if l2 = (11 : Int32) then (
      b2 (fX4_useLocals κ a0 a1 l2 l3 h3) fun v20 h21 =>
      some (v20, h21)
    ) else
    if l2 = (12 : Int32) then (
      b2 (fX4_useItem κ a0 a1 l2 l3 l4 h3) fun v24 h25 =>
      some (v24, h25)
    ) else
    if l2 = (13 : Int32) then (
      b2 (fX4_useItem κ a0 a1 l2 l3 l4 h3) fun v28 h29 =>
      some (v28, h29)
    ) else
    if l2 = (14 : Int32) then (
      b2 (fX4_useRow κ a0 a1 l2 l3 l4 h3) fun v32 h33 =>
      some (v32, h33)
    ) else
    if l2 = (15 : Int32) then (
      b2 (fX4_useRow κ a0 a1 l2 l3 l4 h3) fun v36 h37 =>
      some (v36, h37)
    ) else
    if l2 = (16 : Int32) then (
      b2 (fX4_useRow κ a0 a1 l2 l3 l4 h3) fun v40 h41 =>
      some (v40, h41)
    ) else
    if l2 = (17 : Int32) then (
      b2 (fX4_useItem κ a0 a1 l2 l3 l4 h3) fun v44 h45 =>
      some (v44, h45)
    ) else
    if l2 = (18 : Int32) then (
      b2 (fX4_useItem κ a0 a1 l2 l3 l4 h3) fun v48 h49 =>
      some (v48, h49)
    ) else
    if l2 = (19 : Int32) then (
      b2 (fX4_callRoutine κ a0 a1 l3 l4 h3) fun v52 h53 =>
      some (v52, h53)
    ) else
    if l2 = (20 : Int32) then (
      (fX1_taken κ a1 (0 : Int32) h3).bind fun v56 =>
      b2 (fX4_giveBack κ a0 a1 v56 h3) fun v57 h58 =>
      some (v57, h58)
    ) else
    if l2 = (21 : Int32) then (
      (fX1_taken κ a1 (0 : Int32) h3).bind fun v61 =>
      lt_ (s_J h3 a0 18 v61) fun h62 =>
      some ((11 : Int32), h62)
    ) else
    if l2 = (22 : Int32) then (
      b2 (fX4_leave κ a0 a1 h3) fun v65 h66 =>
      some (v65, h66)
    ) else
    if l2 = (23 : Int32) then (
      (fX1_taken κ a1 (0 : Int32) h3).bind fun v69 =>
      b2 (fX4_sendTo κ a0 a1 v69 l3 h3) fun v70 h71 =>
      some (v70, h71)
    ) else
    if l2 = (24 : Int32) then (
      to_ κ (g_R h3 a0 1) 7 fun r74 =>
      (fX1_taken κ a1 (0 : Int32) h3).bind fun v75 =>
      (fX1_taken κ a1 (1 : Int32) h3).bind fun v76 =>
      (fX1_taken κ a1 (2 : Int32) h3).bind fun v77 =>
      b2 (fX8_layOnShelf κ r74 v75 v76 v77 h3) fun v78 h79 =>
      some (v78, h79)
    ) else
    if l2 = (25 : Int32) then (
      (fX1_taken κ a1 (0 : Int32) h3).bind fun v82 =>
      (fX1_taken κ a1 (1 : Int32) h3).bind fun v83 =>
      b2 (fX4_lookOnShelf κ a0 a1 v82 v83 h3) fun v84 h85 =>
      some (v84, h85)
    ) else
    if l2 = (26 : Int32) then (
      (fX1_taken κ a1 (0 : Int32) h3).bind fun v88 =>
      b2 (fX4_tellOutside κ a0 v88 h3) fun v89 h90 =>
      some (v89, h90)
    ) else
    if l2 = (27 : Int32) then (
      b2 (fX4_keepAll κ a0 a1 h3) fun v93 h94 =>
      some (v93, h94)
    ) else
    if l2 = (28 : Int32) then (
      to_ κ (g_R h3 a0 2) 3 fun r97 =>
      to_ κ (g_R h3 a0 0) 5 fun r98 =>
      to_ κ (g_R h3 a0 1) 7 fun r99 =>
      b2 (fX2_bringBack κ r97 r98 r99 h3) fun v100 h101 =>
      if v100 = 0 then (
        b2 (fX1_lay κ a1 (0 : Int64) h101) fun v102 h103 =>
        some (v102, h103)
      ) else (
        b2 (fX1_lay κ a1 (1 : Int64) h101) fun v104 h105 =>
        some (v104, h105)
      )
    ) else
    if l2 = (29 : Int32) then (
      b2 (fX4_useRow κ a0 a1 l2 l3 l4 h3) fun v108 h109 =>
      some (v108, h109)
    ) else
    (
      (fX1_taken κ a1 (0 : Int32) h3).bind fun v112 =>
      (fX1_taken κ a1 (1 : Int32) h3).bind fun v113 =>
      b2 (fX4_reckon κ a0 a1 l2 v112 v113 h3) fun v114 h115 =>
      some (v114, h115)
    )
  )) else none) else none
set_option maxHeartbeats 4000000 in
set_option maxRecDepth 100000 in
theorem tX4_act (κ : Kd) (n lim : Nat) (h : Hp) (a0 : Nat) (a1 : Nat) (l2 : Int32) (l3 : Int32) (l4 : Int32) : Ct_ mX4_act [.ref (a0), .ref (a1), .int (l2), .int (l3), .int (l4)] κ n lim h (eI κ n) (fX4_act κ a0 a1 l2 l3 l4 h) := by
  refine ct_of (by decide) (Nat.le_of_ble_eq_true rfl) ?_
  unfold fX4_act
  refine z_sub (L' := [(0, .ref (a0)), (1, .ref (a1)), (2, .int (l2)), (3, .int (l3)), (4, .int (l4))]) [0, 1, 2, 3, 4] rfl ?_
  refine z_or (fun k_a0 => ?_)
  refine z_or (fun k_a1 => ?_)
  refine z_aload_n dX4_act_0 rfl 1 rfl ?_
  refine z_iload_n dX4_act_1 rfl 2 rfl ?_
  refine z_iload_n dX4_act_2 rfl 3 rfl ?_
  refine z_iload dX4_act_3 4 rfl ?_
  refine z_pI (as := [.int (l2), .int (l3), .int (l4)]) (rn_S dX4_act_5 mf_X6_takes in_X6_takes lk_X4_196 ⟨by decide, by decide⟩ rfl (Nat.le_of_ble_eq_true rfl)) (tX6_takes _ _ _ _ _ _ _) cz_X6_takes (c00 _) (fun v1 => ?_)
  refine z_cI (as := [.ref (a1), .int (v1)]) (rn_V dX4_act_8 mf_X1_take in_X1_take lk_X4_202 ⟨by decide, by decide⟩ cl_1 rfl k_a1 rfl (Nat.le_of_ble_eq_true rfl)) (tX1_take _ _ _ _ _ _) cz_X1_take (c00 _) (fun v2 h3 => ?_)
  refine z_if_ne (tgt := 17) dX4_act_11 (by first | decide | omega) (fun _ => ?_) (fun _ => ?_)
  · skip
    refine z_iload_n dX4_act_17 rfl 2 rfl ?_
    refine z_ite (fun c7 => ?_) (fun n6 => ?_)
    · refine z_tin (tgt := 152) dX4_act_18 (0) c7 (by decide) (by decide) rfl (by decide) ?_
      refine z_aload_n dX4_act_152 rfl 0 rfl ?_
      refine z_aload_n dX4_act_153 rfl 1 rfl ?_
      refine z_iload_n dX4_act_154 rfl 2 rfl ?_
      refine z_iload_n dX4_act_155 rfl 3 rfl ?_
      refine z_cI (as := [.ref (a0), .ref (a1), .int (l2), .int (l3)]) (rn_V dX4_act_156 mf_X4_useLocals in_X4_useLocals lk_X4_206 ⟨by decide, by decide⟩ cl_3 rfl k_a0 rfl (Nat.le_of_ble_eq_true rfl)) (tX4_useLocals _ _ _ _ _ _ _ _) cz_X4_useLocals (c00 _) (fun v4 h5 => ?_)
      exact z_iret dX4_act_159 rfl (en0 _ _ _ _) rfl
    refine z_ite (fun c11 => ?_) (fun n10 => ?_)
    · refine z_tin (tgt := 152) dX4_act_18 (1) c11 (by decide) (by decide) rfl (by decide) ?_
      refine z_aload_n dX4_act_152 rfl 0 rfl ?_
      refine z_aload_n dX4_act_153 rfl 1 rfl ?_
      refine z_iload_n dX4_act_154 rfl 2 rfl ?_
      refine z_iload_n dX4_act_155 rfl 3 rfl ?_
      refine z_cI (as := [.ref (a0), .ref (a1), .int (l2), .int (l3)]) (rn_V dX4_act_156 mf_X4_useLocals in_X4_useLocals lk_X4_206 ⟨by decide, by decide⟩ cl_3 rfl k_a0 rfl (Nat.le_of_ble_eq_true rfl)) (tX4_useLocals _ _ _ _ _ _ _ _) cz_X4_useLocals (c00 _) (fun v8 h9 => ?_)
      exact z_iret dX4_act_159 rfl (en0 _ _ _ _) rfl
    refine z_ite (fun c15 => ?_) (fun n14 => ?_)
    · refine z_tin (tgt := 152) dX4_act_18 (2) c15 (by decide) (by decide) rfl (by decide) ?_
      refine z_aload_n dX4_act_152 rfl 0 rfl ?_
      refine z_aload_n dX4_act_153 rfl 1 rfl ?_
      refine z_iload_n dX4_act_154 rfl 2 rfl ?_
      refine z_iload_n dX4_act_155 rfl 3 rfl ?_
      refine z_cI (as := [.ref (a0), .ref (a1), .int (l2), .int (l3)]) (rn_V dX4_act_156 mf_X4_useLocals in_X4_useLocals lk_X4_206 ⟨by decide, by decide⟩ cl_3 rfl k_a0 rfl (Nat.le_of_ble_eq_true rfl)) (tX4_useLocals _ _ _ _ _ _ _ _) cz_X4_useLocals (c00 _) (fun v12 h13 => ?_)
      exact z_iret dX4_act_159 rfl (en0 _ _ _ _) rfl
    refine z_ite (fun c19 => ?_) (fun n18 => ?_)
    · refine z_tin (tgt := 152) dX4_act_18 (10) c19 (by decide) (by decide) rfl (by decide) ?_
      refine z_aload_n dX4_act_152 rfl 0 rfl ?_
      refine z_aload_n dX4_act_153 rfl 1 rfl ?_
      refine z_iload_n dX4_act_154 rfl 2 rfl ?_
      refine z_iload_n dX4_act_155 rfl 3 rfl ?_
      refine z_cI (as := [.ref (a0), .ref (a1), .int (l2), .int (l3)]) (rn_V dX4_act_156 mf_X4_useLocals in_X4_useLocals lk_X4_206 ⟨by decide, by decide⟩ cl_3 rfl k_a0 rfl (Nat.le_of_ble_eq_true rfl)) (tX4_useLocals _ _ _ _ _ _ _ _) cz_X4_useLocals (c00 _) (fun v16 h17 => ?_)
      exact z_iret dX4_act_159 rfl (en0 _ _ _ _) rfl
    refine z_ite (fun c23 => ?_) (fun n22 => ?_)
    · refine z_tin (tgt := 152) dX4_act_18 (11) c23 (by decide) (by decide) rfl (by decide) ?_
      refine z_aload_n dX4_act_152 rfl 0 rfl ?_
      refine z_aload_n dX4_act_153 rfl 1 rfl ?_
      refine z_iload_n dX4_act_154 rfl 2 rfl ?_
      refine z_iload_n dX4_act_155 rfl 3 rfl ?_
      refine z_cI (as := [.ref (a0), .ref (a1), .int (l2), .int (l3)]) (rn_V dX4_act_156 mf_X4_useLocals in_X4_useLocals lk_X4_206 ⟨by decide, by decide⟩ cl_3 rfl k_a0 rfl (Nat.le_of_ble_eq_true rfl)) (tX4_useLocals _ _ _ _ _ _ _ _) cz_X4_useLocals (c00 _) (fun v20 h21 => ?_)
      exact z_iret dX4_act_159 rfl (en0 _ _ _ _) rfl
    refine z_ite (fun c27 => ?_) (fun n26 => ?_)
    · refine z_tin (tgt := 160) dX4_act_18 (12) c27 (by decide) (by decide) rfl (by decide) ?_
      refine z_aload_n dX4_act_160 rfl 0 rfl ?_
      refine z_aload_n dX4_act_161 rfl 1 rfl ?_
      refine z_iload_n dX4_act_162 rfl 2 rfl ?_
      refine z_iload_n dX4_act_163 rfl 3 rfl ?_
      refine z_iload dX4_act_164 4 rfl ?_
      refine z_cI (as := [.ref (a0), .ref (a1), .int (l2), .int (l3), .int (l4)]) (rn_V dX4_act_166 mf_X4_useItem in_X4_useItem lk_X4_210 ⟨by decide, by decide⟩ cl_3 rfl k_a0 rfl (Nat.le_of_ble_eq_true rfl)) (tX4_useItem _ _ _ _ _ _ _ _ _) cz_X4_useItem (c00 _) (fun v24 h25 => ?_)
      exact z_iret dX4_act_169 rfl (en0 _ _ _ _) rfl
    refine z_ite (fun c31 => ?_) (fun n30 => ?_)
    · refine z_tin (tgt := 160) dX4_act_18 (13) c31 (by decide) (by decide) rfl (by decide) ?_
      refine z_aload_n dX4_act_160 rfl 0 rfl ?_
      refine z_aload_n dX4_act_161 rfl 1 rfl ?_
      refine z_iload_n dX4_act_162 rfl 2 rfl ?_
      refine z_iload_n dX4_act_163 rfl 3 rfl ?_
      refine z_iload dX4_act_164 4 rfl ?_
      refine z_cI (as := [.ref (a0), .ref (a1), .int (l2), .int (l3), .int (l4)]) (rn_V dX4_act_166 mf_X4_useItem in_X4_useItem lk_X4_210 ⟨by decide, by decide⟩ cl_3 rfl k_a0 rfl (Nat.le_of_ble_eq_true rfl)) (tX4_useItem _ _ _ _ _ _ _ _ _) cz_X4_useItem (c00 _) (fun v28 h29 => ?_)
      exact z_iret dX4_act_169 rfl (en0 _ _ _ _) rfl
    refine z_ite (fun c35 => ?_) (fun n34 => ?_)
    · refine z_tin (tgt := 170) dX4_act_18 (14) c35 (by decide) (by decide) rfl (by decide) ?_
      refine z_aload_n dX4_act_170 rfl 0 rfl ?_
      refine z_aload_n dX4_act_171 rfl 1 rfl ?_
      refine z_iload_n dX4_act_172 rfl 2 rfl ?_
      refine z_iload_n dX4_act_173 rfl 3 rfl ?_
      refine z_iload dX4_act_174 4 rfl ?_
      refine z_cI (as := [.ref (a0), .ref (a1), .int (l2), .int (l3), .int (l4)]) (rn_V dX4_act_176 mf_X4_useRow in_X4_useRow lk_X4_213 ⟨by decide, by decide⟩ cl_3 rfl k_a0 rfl (Nat.le_of_ble_eq_true rfl)) (tX4_useRow _ _ _ _ _ _ _ _ _) cz_X4_useRow (c00 _) (fun v32 h33 => ?_)
      exact z_iret dX4_act_179 rfl (en0 _ _ _ _) rfl
    refine z_ite (fun c39 => ?_) (fun n38 => ?_)
    · refine z_tin (tgt := 170) dX4_act_18 (15) c39 (by decide) (by decide) rfl (by decide) ?_
      refine z_aload_n dX4_act_170 rfl 0 rfl ?_
      refine z_aload_n dX4_act_171 rfl 1 rfl ?_
      refine z_iload_n dX4_act_172 rfl 2 rfl ?_
      refine z_iload_n dX4_act_173 rfl 3 rfl ?_
      refine z_iload dX4_act_174 4 rfl ?_
      refine z_cI (as := [.ref (a0), .ref (a1), .int (l2), .int (l3), .int (l4)]) (rn_V dX4_act_176 mf_X4_useRow in_X4_useRow lk_X4_213 ⟨by decide, by decide⟩ cl_3 rfl k_a0 rfl (Nat.le_of_ble_eq_true rfl)) (tX4_useRow _ _ _ _ _ _ _ _ _) cz_X4_useRow (c00 _) (fun v36 h37 => ?_)
      exact z_iret dX4_act_179 rfl (en0 _ _ _ _) rfl
    refine z_ite (fun c43 => ?_) (fun n42 => ?_)
    · refine z_tin (tgt := 170) dX4_act_18 (16) c43 (by decide) (by decide) rfl (by decide) ?_
      refine z_aload_n dX4_act_170 rfl 0 rfl ?_
      refine z_aload_n dX4_act_171 rfl 1 rfl ?_
      refine z_iload_n dX4_act_172 rfl 2 rfl ?_
      refine z_iload_n dX4_act_173 rfl 3 rfl ?_
      refine z_iload dX4_act_174 4 rfl ?_
      refine z_cI (as := [.ref (a0), .ref (a1), .int (l2), .int (l3), .int (l4)]) (rn_V dX4_act_176 mf_X4_useRow in_X4_useRow lk_X4_213 ⟨by decide, by decide⟩ cl_3 rfl k_a0 rfl (Nat.le_of_ble_eq_true rfl)) (tX4_useRow _ _ _ _ _ _ _ _ _) cz_X4_useRow (c00 _) (fun v40 h41 => ?_)
      exact z_iret dX4_act_179 rfl (en0 _ _ _ _) rfl
    refine z_ite (fun c47 => ?_) (fun n46 => ?_)
    · refine z_tin (tgt := 160) dX4_act_18 (17) c47 (by decide) (by decide) rfl (by decide) ?_
      refine z_aload_n dX4_act_160 rfl 0 rfl ?_
      refine z_aload_n dX4_act_161 rfl 1 rfl ?_
      refine z_iload_n dX4_act_162 rfl 2 rfl ?_
      refine z_iload_n dX4_act_163 rfl 3 rfl ?_
      refine z_iload dX4_act_164 4 rfl ?_
      refine z_cI (as := [.ref (a0), .ref (a1), .int (l2), .int (l3), .int (l4)]) (rn_V dX4_act_166 mf_X4_useItem in_X4_useItem lk_X4_210 ⟨by decide, by decide⟩ cl_3 rfl k_a0 rfl (Nat.le_of_ble_eq_true rfl)) (tX4_useItem _ _ _ _ _ _ _ _ _) cz_X4_useItem (c00 _) (fun v44 h45 => ?_)
      exact z_iret dX4_act_169 rfl (en0 _ _ _ _) rfl
    refine z_ite (fun c51 => ?_) (fun n50 => ?_)
    · refine z_tin (tgt := 160) dX4_act_18 (18) c51 (by decide) (by decide) rfl (by decide) ?_
      refine z_aload_n dX4_act_160 rfl 0 rfl ?_
      refine z_aload_n dX4_act_161 rfl 1 rfl ?_
      refine z_iload_n dX4_act_162 rfl 2 rfl ?_
      refine z_iload_n dX4_act_163 rfl 3 rfl ?_
      refine z_iload dX4_act_164 4 rfl ?_
      refine z_cI (as := [.ref (a0), .ref (a1), .int (l2), .int (l3), .int (l4)]) (rn_V dX4_act_166 mf_X4_useItem in_X4_useItem lk_X4_210 ⟨by decide, by decide⟩ cl_3 rfl k_a0 rfl (Nat.le_of_ble_eq_true rfl)) (tX4_useItem _ _ _ _ _ _ _ _ _) cz_X4_useItem (c00 _) (fun v48 h49 => ?_)
      exact z_iret dX4_act_169 rfl (en0 _ _ _ _) rfl
    refine z_ite (fun c55 => ?_) (fun n54 => ?_)
    · refine z_tin (tgt := 180) dX4_act_18 (19) c55 (by decide) (by decide) rfl (by decide) ?_
      refine z_aload_n dX4_act_180 rfl 0 rfl ?_
      refine z_aload_n dX4_act_181 rfl 1 rfl ?_
      refine z_iload_n dX4_act_182 rfl 3 rfl ?_
      refine z_iload dX4_act_183 4 rfl ?_
      refine z_cI (as := [.ref (a0), .ref (a1), .int (l3), .int (l4)]) (rn_V dX4_act_185 mf_X4_callRoutine in_X4_callRoutine lk_X4_216 ⟨by decide, by decide⟩ cl_3 rfl k_a0 rfl (Nat.le_of_ble_eq_true rfl)) (tX4_callRoutine _ _ _ _ _ _ _ _) cz_X4_callRoutine (c00 _) (fun v52 h53 => ?_)
      exact z_iret dX4_act_188 rfl (en0 _ _ _ _) rfl
    refine z_ite (fun c60 => ?_) (fun n59 => ?_)
    · refine z_tin (tgt := 189) dX4_act_18 (20) c60 (by decide) (by decide) rfl (by decide) ?_
      refine z_aload_n dX4_act_189 rfl 0 rfl ?_
      refine z_aload_n dX4_act_190 rfl 1 rfl ?_
      refine z_aload_n dX4_act_191 rfl 1 rfl ?_
      refine z_iconst (v := 0) dX4_act_192 (by decide) ?_
      refine z_pJ (as := [.ref (a1), .int ((0 : Int32))]) (rn_V dX4_act_193 mf_X1_taken in_X1_taken lk_X4_219 ⟨by decide, by decide⟩ cl_1 rfl k_a1 rfl (Nat.le_of_ble_eq_true rfl)) (tX1_taken _ _ _ _ _ _) cz_X1_taken (c00 _) (fun v56 => ?_)
      refine z_cI (as := [.ref (a0), .ref (a1), .long (v56)]) (rn_V dX4_act_196 mf_X4_giveBack in_X4_giveBack lk_X4_222 ⟨by decide, by decide⟩ cl_3 rfl k_a0 rfl (Nat.le_of_ble_eq_true rfl)) (tX4_giveBack _ _ _ _ _ _ _) cz_X4_giveBack (c00 _) (fun v57 h58 => ?_)
      exact z_iret dX4_act_199 rfl (en0 _ _ _ _) rfl
    refine z_ite (fun c64 => ?_) (fun n63 => ?_)
    · refine z_tin (tgt := 200) dX4_act_18 (21) c64 (by decide) (by decide) rfl (by decide) ?_
      refine z_aload_n dX4_act_200 rfl 0 rfl ?_
      refine z_aload_n dX4_act_201 rfl 1 rfl ?_
      refine z_iconst (v := 0) dX4_act_202 (by decide) ?_
      refine z_pJ (as := [.ref (a1), .int ((0 : Int32))]) (rn_V dX4_act_203 mf_X1_taken in_X1_taken lk_X4_219 ⟨by decide, by decide⟩ cl_1 rfl k_a1 rfl (Nat.le_of_ble_eq_true rfl)) (tX1_taken _ _ _ _ _ _) cz_X1_taken (c00 _) (fun v61 => ?_)
      refine z_putJ dX4_act_206 fl_X4_158 (Or.inl rfl) k_a0 (fun h62 => ?_)
      refine z_bipush (v := 11) dX4_act_209 (by decide) ?_
      exact z_iret dX4_act_211 rfl (en0 _ _ _ _) rfl
    refine z_ite (fun c68 => ?_) (fun n67 => ?_)
    · refine z_tin (tgt := 212) dX4_act_18 (22) c68 (by decide) (by decide) rfl (by decide) ?_
      refine z_aload_n dX4_act_212 rfl 0 rfl ?_
      refine z_aload_n dX4_act_213 rfl 1 rfl ?_
      refine z_cI (as := [.ref (a0), .ref (a1)]) (rn_V dX4_act_214 mf_X4_leave in_X4_leave lk_X4_226 ⟨by decide, by decide⟩ cl_3 rfl k_a0 rfl (Nat.le_of_ble_eq_true rfl)) (tX4_leave _ _ _ _ _ _) cz_X4_leave (c00 _) (fun v65 h66 => ?_)
      exact z_iret dX4_act_217 rfl (en0 _ _ _ _) rfl
    refine z_ite (fun c73 => ?_) (fun n72 => ?_)
    · refine z_tin (tgt := 218) dX4_act_18 (23) c73 (by decide) (by decide) rfl (by decide) ?_
      refine z_aload_n dX4_act_218 rfl 0 rfl ?_
      refine z_aload_n dX4_act_219 rfl 1 rfl ?_
      refine z_aload_n dX4_act_220 rfl 1 rfl ?_
      refine z_iconst (v := 0) dX4_act_221 (by decide) ?_
      refine z_pJ (as := [.ref (a1), .int ((0 : Int32))]) (rn_V dX4_act_222 mf_X1_taken in_X1_taken lk_X4_219 ⟨by decide, by decide⟩ cl_1 rfl k_a1 rfl (Nat.le_of_ble_eq_true rfl)) (tX1_taken _ _ _ _ _ _) cz_X1_taken (c00 _) (fun v69 => ?_)
      refine z_iload_n dX4_act_225 rfl 3 rfl ?_
      refine z_cI (as := [.ref (a0), .ref (a1), .long (v69), .int (l3)]) (rn_V dX4_act_226 mf_X4_sendTo in_X4_sendTo lk_X4_230 ⟨by decide, by decide⟩ cl_3 rfl k_a0 rfl (Nat.le_of_ble_eq_true rfl)) (tX4_sendTo _ _ _ _ _ _ _ _) cz_X4_sendTo (c00 _) (fun v70 h71 => ?_)
      exact z_iret dX4_act_229 rfl (en0 _ _ _ _) rfl
    refine z_ite (fun c81 => ?_) (fun n80 => ?_)
    · refine z_tin (tgt := 230) dX4_act_18 (24) c81 (by decide) (by decide) rfl (by decide) ?_
      refine z_aload_n dX4_act_230 rfl 0 rfl ?_
      refine z_getR (kd := 7) dX4_act_231 fl_X4_21 k_a0 (fun r74 kr74 => ?_)
      refine z_aload_n dX4_act_234 rfl 1 rfl ?_
      refine z_iconst (v := 0) dX4_act_235 (by decide) ?_
      refine z_pJ (as := [.ref (a1), .int ((0 : Int32))]) (rn_V dX4_act_236 mf_X1_taken in_X1_taken lk_X4_219 ⟨by decide, by decide⟩ cl_1 rfl k_a1 rfl (Nat.le_of_ble_eq_true rfl)) (tX1_taken _ _ _ _ _ _) cz_X1_taken (c00 _) (fun v75 => ?_)
      refine z_aload_n dX4_act_239 rfl 1 rfl ?_
      refine z_iconst (v := 1) dX4_act_240 (by decide) ?_
      refine z_pJ (as := [.ref (a1), .int ((1 : Int32))]) (rn_V dX4_act_241 mf_X1_taken in_X1_taken lk_X4_219 ⟨by decide, by decide⟩ cl_1 rfl k_a1 rfl (Nat.le_of_ble_eq_true rfl)) (tX1_taken _ _ _ _ _ _) cz_X1_taken (c00 _) (fun v76 => ?_)
      refine z_aload_n dX4_act_244 rfl 1 rfl ?_
      refine z_iconst (v := 2) dX4_act_245 (by decide) ?_
      refine z_pJ (as := [.ref (a1), .int ((2 : Int32))]) (rn_V dX4_act_246 mf_X1_taken in_X1_taken lk_X4_219 ⟨by decide, by decide⟩ cl_1 rfl k_a1 rfl (Nat.le_of_ble_eq_true rfl)) (tX1_taken _ _ _ _ _ _) cz_X1_taken (c00 _) (fun v77 => ?_)
      refine z_cI (as := [.ref (r74), .long (v75), .long (v76), .long (v77)]) (rn_V dX4_act_249 mf_X8_layOnShelf in_X8_layOnShelf lk_X4_234 ⟨by decide, by decide⟩ cl_6 rfl kr74 rfl (Nat.le_of_ble_eq_true rfl)) (tX8_layOnShelf _ _ _ _ _ _ _ _) cz_X8_layOnShelf (c00 _) (fun v78 h79 => ?_)
      exact z_iret dX4_act_252 rfl (en0 _ _ _ _) rfl
    refine z_ite (fun c87 => ?_) (fun n86 => ?_)
    · refine z_tin (tgt := 253) dX4_act_18 (25) c87 (by decide) (by decide) rfl (by decide) ?_
      refine z_aload_n dX4_act_253 rfl 0 rfl ?_
      refine z_aload_n dX4_act_254 rfl 1 rfl ?_
      refine z_aload_n dX4_act_255 rfl 1 rfl ?_
      refine z_iconst (v := 0) dX4_act_256 (by decide) ?_
      refine z_pJ (as := [.ref (a1), .int ((0 : Int32))]) (rn_V dX4_act_257 mf_X1_taken in_X1_taken lk_X4_219 ⟨by decide, by decide⟩ cl_1 rfl k_a1 rfl (Nat.le_of_ble_eq_true rfl)) (tX1_taken _ _ _ _ _ _) cz_X1_taken (c00 _) (fun v82 => ?_)
      refine z_aload_n dX4_act_260 rfl 1 rfl ?_
      refine z_iconst (v := 1) dX4_act_261 (by decide) ?_
      refine z_pJ (as := [.ref (a1), .int ((1 : Int32))]) (rn_V dX4_act_262 mf_X1_taken in_X1_taken lk_X4_219 ⟨by decide, by decide⟩ cl_1 rfl k_a1 rfl (Nat.le_of_ble_eq_true rfl)) (tX1_taken _ _ _ _ _ _) cz_X1_taken (c00 _) (fun v83 => ?_)
      refine z_cI (as := [.ref (a0), .ref (a1), .long (v82), .long (v83)]) (rn_V dX4_act_265 mf_X4_lookOnShelf in_X4_lookOnShelf lk_X4_238 ⟨by decide, by decide⟩ cl_3 rfl k_a0 rfl (Nat.le_of_ble_eq_true rfl)) (tX4_lookOnShelf _ _ _ _ _ _ _ _) cz_X4_lookOnShelf (c00 _) (fun v84 h85 => ?_)
      exact z_iret dX4_act_268 rfl (en0 _ _ _ _) rfl
    refine z_ite (fun c92 => ?_) (fun n91 => ?_)
    · refine z_tin (tgt := 269) dX4_act_18 (26) c92 (by decide) (by decide) rfl (by decide) ?_
      refine z_aload_n dX4_act_269 rfl 0 rfl ?_
      refine z_aload_n dX4_act_270 rfl 1 rfl ?_
      refine z_iconst (v := 0) dX4_act_271 (by decide) ?_
      refine z_pJ (as := [.ref (a1), .int ((0 : Int32))]) (rn_V dX4_act_272 mf_X1_taken in_X1_taken lk_X4_219 ⟨by decide, by decide⟩ cl_1 rfl k_a1 rfl (Nat.le_of_ble_eq_true rfl)) (tX1_taken _ _ _ _ _ _) cz_X1_taken (c00 _) (fun v88 => ?_)
      refine z_cI (as := [.ref (a0), .long (v88)]) (rn_V dX4_act_275 mf_X4_tellOutside in_X4_tellOutside lk_X4_242 ⟨by decide, by decide⟩ cl_3 rfl k_a0 rfl (Nat.le_of_ble_eq_true rfl)) (tX4_tellOutside _ _ _ _ _ _) cz_X4_tellOutside (c00 _) (fun v89 h90 => ?_)
      exact z_iret dX4_act_278 rfl (en0 _ _ _ _) rfl
    refine z_ite (fun c96 => ?_) (fun n95 => ?_)
    · refine z_tin (tgt := 279) dX4_act_18 (27) c96 (by decide) (by decide) rfl (by decide) ?_
      refine z_aload_n dX4_act_279 rfl 0 rfl ?_
      refine z_aload_n dX4_act_280 rfl 1 rfl ?_
      refine z_cI (as := [.ref (a0), .ref (a1)]) (rn_V dX4_act_281 mf_X4_keepAll in_X4_keepAll lk_X4_245 ⟨by decide, by decide⟩ cl_3 rfl k_a0 rfl (Nat.le_of_ble_eq_true rfl)) (tX4_keepAll _ _ _ _ _ _) cz_X4_keepAll (c00 _) (fun v93 h94 => ?_)
      exact z_iret dX4_act_284 rfl (en0 _ _ _ _) rfl
    refine z_ite (fun c107 => ?_) (fun n106 => ?_)
    · refine z_tin (tgt := 285) dX4_act_18 (28) c107 (by decide) (by decide) rfl (by decide) ?_
      refine z_aload_n dX4_act_285 rfl 1 rfl ?_
      refine z_aload_n dX4_act_286 rfl 0 rfl ?_
      refine z_getR (kd := 3) dX4_act_287 fl_X4_28 k_a0 (fun r97 kr97 => ?_)
      refine z_aload_n dX4_act_290 rfl 0 rfl ?_
      refine z_getR (kd := 5) dX4_act_291 fl_X4_12 k_a0 (fun r98 kr98 => ?_)
      refine z_aload_n dX4_act_294 rfl 0 rfl ?_
      refine z_getR (kd := 7) dX4_act_295 fl_X4_21 k_a0 (fun r99 kr99 => ?_)
      refine z_cI (as := [.ref (r97), .ref (r98), .ref (r99)]) (rn_V dX4_act_298 mf_X2_bringBack in_X2_bringBack lk_X4_248 ⟨by decide, by decide⟩ cl_2 rfl kr97 rfl (Nat.le_of_ble_eq_true rfl)) (tX2_bringBack _ _ _ _ _ _ _) cz_X2_bringBack (c00 _) (fun v100 h101 => ?_)
      refine z_if_eq (tgt := 308) dX4_act_301 (by first | decide | omega) (fun _ => ?_) (fun _ => ?_)
      · skip
        refine z_lconst (v := 0) dX4_act_308 (by decide) ?_
        refine z_cI (as := [.ref (a1), .long ((0 : Int64))]) (rn_V dX4_act_309 mf_X1_lay in_X1_lay lk_X4_192 ⟨by decide, by decide⟩ cl_1 rfl k_a1 rfl (Nat.le_of_ble_eq_true rfl)) (tX1_lay _ _ _ _ _ _) cz_X1_lay (c00 _) (fun v102 h103 => ?_)
        exact z_iret dX4_act_312 rfl (en0 _ _ _ _) rfl
      · skip
        refine z_lconst (v := 1) dX4_act_304 (by decide) ?_
        refine z_goto (tgt := 309) dX4_act_305 (by decide) ?_
        refine z_cI (as := [.ref (a1), .long ((1 : Int64))]) (rn_V dX4_act_309 mf_X1_lay in_X1_lay lk_X4_192 ⟨by decide, by decide⟩ cl_1 rfl k_a1 rfl (Nat.le_of_ble_eq_true rfl)) (tX1_lay _ _ _ _ _ _) cz_X1_lay (c00 _) (fun v104 h105 => ?_)
        exact z_iret dX4_act_312 rfl (en0 _ _ _ _) rfl
    refine z_ite (fun c111 => ?_) (fun n110 => ?_)
    · refine z_tin (tgt := 170) dX4_act_18 (29) c111 (by decide) (by decide) rfl (by decide) ?_
      refine z_aload_n dX4_act_170 rfl 0 rfl ?_
      refine z_aload_n dX4_act_171 rfl 1 rfl ?_
      refine z_iload_n dX4_act_172 rfl 2 rfl ?_
      refine z_iload_n dX4_act_173 rfl 3 rfl ?_
      refine z_iload dX4_act_174 4 rfl ?_
      refine z_cI (as := [.ref (a0), .ref (a1), .int (l2), .int (l3), .int (l4)]) (rn_V dX4_act_176 mf_X4_useRow in_X4_useRow lk_X4_213 ⟨by decide, by decide⟩ cl_3 rfl k_a0 rfl (Nat.le_of_ble_eq_true rfl)) (tX4_useRow _ _ _ _ _ _ _ _ _) cz_X4_useRow (c00 _) (fun v108 h109 => ?_)
      exact z_iret dX4_act_179 rfl (en0 _ _ _ _) rfl
    refine z_tdef (tgt := 313) dX4_act_18 [0, 1, 2, 10, 11, 12, 13, 14, 15, 16, 17, 18, 19, 20, 21, 22, 23, 24, 25, 26, 27, 28, 29] (List.forall_mem_cons.mpr ⟨n6, List.forall_mem_cons.mpr ⟨n10, List.forall_mem_cons.mpr ⟨n14, List.forall_mem_cons.mpr ⟨n18, List.forall_mem_cons.mpr ⟨n22, List.forall_mem_cons.mpr ⟨n26, List.forall_mem_cons.mpr ⟨n30, List.forall_mem_cons.mpr ⟨n34, List.forall_mem_cons.mpr ⟨n38, List.forall_mem_cons.mpr ⟨n42, List.forall_mem_cons.mpr ⟨n46, List.forall_mem_cons.mpr ⟨n50, List.forall_mem_cons.mpr ⟨n54, List.forall_mem_cons.mpr ⟨n59, List.forall_mem_cons.mpr ⟨n63, List.forall_mem_cons.mpr ⟨n67, List.forall_mem_cons.mpr ⟨n72, List.forall_mem_cons.mpr ⟨n80, List.forall_mem_cons.mpr ⟨n86, List.forall_mem_cons.mpr ⟨n91, List.forall_mem_cons.mpr ⟨n95, List.forall_mem_cons.mpr ⟨n106, List.forall_mem_cons.mpr ⟨n110, fun _ h => absurd h List.not_mem_nil⟩⟩⟩⟩⟩⟩⟩⟩⟩⟩⟩⟩⟩⟩⟩⟩⟩⟩⟩⟩⟩⟩⟩) (by decide +kernel) (by decide) ?_
    refine z_aload_n dX4_act_313 rfl 0 rfl ?_
    refine z_aload_n dX4_act_314 rfl 1 rfl ?_
    refine z_iload_n dX4_act_315 rfl 2 rfl ?_
    refine z_aload_n dX4_act_316 rfl 1 rfl ?_
    refine z_iconst (v := 0) dX4_act_317 (by decide) ?_
    refine z_pJ (as := [.ref (a1), .int ((0 : Int32))]) (rn_V dX4_act_318 mf_X1_taken in_X1_taken lk_X4_219 ⟨by decide, by decide⟩ cl_1 rfl k_a1 rfl (Nat.le_of_ble_eq_true rfl)) (tX1_taken _ _ _ _ _ _) cz_X1_taken (c00 _) (fun v112 => ?_)
    refine z_aload_n dX4_act_321 rfl 1 rfl ?_
    refine z_iconst (v := 1) dX4_act_322 (by decide) ?_
    refine z_pJ (as := [.ref (a1), .int ((1 : Int32))]) (rn_V dX4_act_323 mf_X1_taken in_X1_taken lk_X4_219 ⟨by decide, by decide⟩ cl_1 rfl k_a1 rfl (Nat.le_of_ble_eq_true rfl)) (tX1_taken _ _ _ _ _ _) cz_X1_taken (c00 _) (fun v113 => ?_)
    refine z_cI (as := [.ref (a0), .ref (a1), .int (l2), .long (v112), .long (v113)]) (rn_V dX4_act_326 mf_X4_reckon in_X4_reckon lk_X4_252 ⟨by decide, by decide⟩ cl_3 rfl k_a0 rfl (Nat.le_of_ble_eq_true rfl)) (tX4_reckon _ _ _ _ _ _ _ _ _) cz_X4_reckon (c00 _) (fun v114 h115 => ?_)
    exact z_iret dX4_act_329 rfl (en0 _ _ _ _) rfl
  · skip
    refine z_bipush (v := 8) dX4_act_14 (by decide) ?_
    exact z_iret dX4_act_16 rfl (en0 _ _ _ _) rfl
