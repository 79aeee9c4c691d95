def fX10_placesOf (κ : Kd) (l0 : Int32) (h : Hp) : Option (Int32) :=
  if l0 = 0 then (
    some ((4 : Int32))
  ) else (
    if (4 : Int32) ≤ l0 then (
      some ((2 : Int32))
    ) else (
      some ((3 : Int32))
    )
  )
set_option maxHeartbeats 4000000 in
set_option maxRecDepth 100000 in
theorem tX10_placesOf (κ : Kd) (n lim : Nat) (h : Hp) (l0 : Int32) : Ct_ mX10_placesOf [.int (l0)] κ n lim h (pI κ n h) (fX10_placesOf κ l0 h) := by
  refine ct_of (by decide) (Nat.le_of_ble_eq_true rfl) ?_
  unfold fX10_placesOf
  refine z_sub (L' := [(0, .int (l0))]) [0] rfl ?_
  refine z_iload_n dX10_placesOf_0 rfl 0 rfl ?_
  refine z_if_ne (tgt := 8) dX10_placesOf_1 (by first | decide | omega) (fun _ => ?_) (fun _ => ?_)
  · skip
    refine z_iload_n dX10_placesOf_8 rfl 0 rfl ?_
    refine z_iconst (v := 4) dX10_placesOf_9 (by decide) ?_
    refine z_icmp_ge (tgt := 17) dX10_placesOf_10 (by first | decide | omega) (fun _ => ?_) (fun _ => ?_)
    · skip
      refine z_iconst (v := 2) dX10_placesOf_17 (by decide) ?_
      exact z_iret dX10_placesOf_18 rfl (en0 _ _ _ _) rfl
    · skip
      refine z_iconst (v := 3) dX10_placesOf_13 (by decide) ?_
      refine z_goto (tgt := 18) dX10_placesOf_14 (by decide) ?_
      exact z_iret dX10_placesOf_18 rfl (en0 _ _ _ _) rfl
  · skip
    refine z_iconst (v := 4) dX10_placesOf_4 (by decide) ?_
    refine z_goto (tgt := 18) dX10_placesOf_5 (by decide) ?_
    exact z_iret dX10_placesOf_18 rfl (en0 _ _ _ _) rfl
def fX10_isThing (κ : Kd) (a0 : Nat) (l1 : Int64) (h : Hp) : Option (Int32) :=
  if (κ a0).1 = 9 then (
  (fX10_in κ l1 (0 : Int64) (((g_I h a0 5).toInt64) - (1 : Int64)) h).bind fun v1 =>
  if v1 = 0 ∨ v1 = 1 then some (v1) else none) else none
set_option maxHeartbeats 4000000 in
set_option maxRecDepth 100000 in
theorem tX10_isThing (κ : Kd) (n lim : Nat) (h : Hp) (a0 : Nat) (l1 : Int64) : Ct_ mX10_isThing [.ref (a0), .long (l1)] κ n lim h (pI κ n h) (fX10_isThing κ a0 l1 h) := by
  refine ct_of (by decide) (Nat.le_of_ble_eq_true rfl) ?_
  unfold fX10_isThing
  refine z_sub (L' := [(0, .ref (a0)), (1, .long (l1))]) [0, 1] rfl ?_
  refine z_or (fun k_a0 => ?_)
  refine z_lload_n dX10_isThing_0 rfl 1 rfl ?_
  refine z_lconst (v := 0) dX10_isThing_1 (by decide) ?_
  refine z_aload_n dX10_isThing_2 rfl 0 rfl ?_
  refine z_getI dX10_isThing_3 fl_X10_182 k_a0 ?_
  refine z_i2l dX10_isThing_6 ?_
  refine z_lconst (v := 1) dX10_isThing_7 (by decide) ?_
  refine z_lsub dX10_isThing_8 ?_
  refine z_pI (as := [.long (l1), .long ((0 : Int64)), .long (((g_I h a0 5).toInt64) - (1 : Int64))]) (rn_S dX10_isThing_9 mf_X10_in in_X10_in lk_X10_139 ⟨by decide, by decide⟩ rfl (Nat.le_of_ble_eq_true rfl)) (tX10_in _ _ _ _ _ _ _) cz_X10_in (c00 _) (fun v1 => ?_)
  exact z_or (fun hz => z_zret dX10_isThing_12 rfl (nb_ hz) (en0 _ _ _ _) rfl)
def fX10_thing_b69 (κ : Kd) (a0 : Nat) : Nat → Int32 → Hp → Option (Int32 × Hp)
  | 0, _, _ => none
  | N + 1, l2, h =>
    if (4 : Int32) ≤ l2 then (
      lt_ (s_I h a0 5 ((g_I h a0 5) + (1 : Int32))) fun h10 =>
      some ((g_I h10 a0 5) - (1 : Int32), h10)
    ) else (
      to_ κ (g_R h a0 10) 50 fun r11 =>
      w_I κ h r11 (((4 : Int32) * (g_I h a0 5)) + l2) (-1 : Int32) fun h12 =>
      fX10_thing_b69 κ a0 N (l2 + 1) h12
    )
set_option maxRecDepth 100000 in
theorem zX10_thing_b69 (κ : Kd) (n lim : Nat) (a0 : Nat) (k_a0 : (κ a0).1 = 9) : ∀ (N : Nat) (l2 : Int32) (h : Hp), ZQ mX10_thing (eI κ n) (κ, n, 0, lim) 69 [(0, .ref (a0)), (2, .int (l2))] [] h (fX10_thing_b69 κ a0 N l2 h) := by
  intro N
  induction N with
  | zero =>
    intro l2 h
    rw [fX10_thing_b69]
    exact z_no
  | succ N ih =>
    intro l2 h
    rw [fX10_thing_b69]
    refine z_iload_n dX10_thing_69 rfl 1 rfl ?_
    refine z_iconst (v := 4) dX10_thing_70 (by decide) ?_
    refine z_icmp_ge (tgt := 94) dX10_thing_71 (by first | decide | omega) (fun _ => ?_) (fun _ => ?_)
    · skip
      refine z_aload_n dX10_thing_94 rfl 0 rfl ?_
      refine z_dup dX10_thing_95 rfl ?_
      refine z_getI dX10_thing_96 fl_X10_182 k_a0 ?_
      refine z_iconst (v := 1) dX10_thing_99 (by decide) ?_
      refine z_iadd dX10_thing_100 ?_
      refine z_putI dX10_thing_101 fl_X10_182 (Or.inl rfl) k_a0 (fun h10 => ?_)
      refine z_aload_n dX10_thing_104 rfl 0 rfl ?_
      refine z_getI dX10_thing_105 fl_X10_182 k_a0 ?_
      refine z_iconst (v := 1) dX10_thing_108 (by decide) ?_
      refine z_isub dX10_thing_109 ?_
      exact z_iret dX10_thing_110 rfl (en0 _ _ _ _) rfl
    · skip
      refine z_aload_n dX10_thing_74 rfl 0 rfl ?_
      refine z_getR (kd := 50) dX10_thing_75 fl_X10_39 k_a0 (fun r11 kr11 => ?_)
      refine z_iconst (v := 4) dX10_thing_78 (by decide) ?_
      refine z_aload_n dX10_thing_79 rfl 0 rfl ?_
      refine z_getI dX10_thing_80 fl_X10_182 k_a0 ?_
      refine z_imul dX10_thing_83 ?_
      refine z_iload_n dX10_thing_84 rfl 1 rfl ?_
      refine z_iadd dX10_thing_85 ?_
      refine z_iconst (v := -1) dX10_thing_86 (by decide) ?_
      refine z_iast dX10_thing_87 kr11 (fun h12 => ?_)
      refine z_iinc (j := 1) (v := l2 + 1) (L' := [(2, .int (l2 + 1)), (0, .ref (a0))]) dX10_thing_88 rfl rfl (by decide) rfl ?_
      refine z_goto (tgt := 69) dX10_thing_91 (by decide) ?_
      refine z_sub [1, 0] rfl ?_
      exact ih ((l2 + 1)) h12
def fX10_thing (κ : Kd) (a0 : Nat) (l1 : Int32) (h : Hp) : Option (Int32 × Hp) :=
  if (κ a0).1 = 9 then (
  (fX10_in κ l1.toInt64 (0 : Int64) (5 : Int64) h).bind fun v1 =>
  if v1 = 0 then (
    some ((-1000000 : Int32), h)
  ) else (
    if (g_I h a0 5) = (12 : Int32) then (
      some ((-1000001 : Int32), h)
    ) else (
      to_ κ (g_R h a0 6) 50 fun r2 =>
      w_I κ h r2 (g_I h a0 5) l1 fun h3 =>
      to_ κ (g_R h3 a0 7) 50 fun r4 =>
      w_I κ h3 r4 (g_I h3 a0 5) (0 : Int32) fun h5 =>
      to_ κ (g_R h5 a0 8) 50 fun r6 =>
      w_I κ h5 r6 (g_I h5 a0 5) (0 : Int32) fun h7 =>
      to_ κ (g_R h7 a0 9) 50 fun r8 =>
      w_I κ h7 r8 (g_I h7 a0 5) (0 : Int32) fun h9 =>
      fX10_thing_b69 κ a0 fu_ (0 : Int32) h9
    )
  )) else none
set_option maxHeartbeats 4000000 in
set_option maxRecDepth 100000 in
theorem tX10_thing (κ : Kd) (n lim : Nat) (h : Hp) (a0 : Nat) (l1 : Int32) : Ct_ mX10_thing [.ref (a0), .int (l1)] κ n lim h (eI κ n) (fX10_thing κ a0 l1 h) := by
  refine ct_of (by decide) (Nat.le_of_ble_eq_true rfl) ?_
  unfold fX10_thing
  refine z_sub (L' := [(0, .ref (a0)), (1, .int (l1))]) [0, 1] rfl ?_
  refine z_or (fun k_a0 => ?_)
  refine z_iload_n dX10_thing_0 rfl 1 rfl ?_
  refine z_i2l dX10_thing_1 ?_
  refine z_lconst (v := 0) dX10_thing_2 (by decide) ?_
  refine z_ldc2 dX10_thing_3 co_X10_185 ?_
  refine z_pI (as := [.long (l1.toInt64), .long ((0 : Int64)), .long ((5 : Int64))]) (rn_S dX10_thing_6 mf_X10_in in_X10_in lk_X10_139 ⟨by decide, by decide⟩ rfl (Nat.le_of_ble_eq_true rfl)) (tX10_in _ _ _ _ _ _ _) cz_X10_in (c00 _) (fun v1 => ?_)
  refine z_if_ne (tgt := 15) dX10_thing_9 (by first | decide | omega) (fun _ => ?_) (fun _ => ?_)
  · skip
    refine z_aload_n dX10_thing_15 rfl 0 rfl ?_
    refine z_getI dX10_thing_16 fl_X10_182 k_a0 ?_
    refine z_bipush (v := 12) dX10_thing_19 (by decide) ?_
    refine z_icmp_ne (tgt := 27) dX10_thing_21 (by first | decide | omega) (fun _ => ?_) (fun _ => ?_)
    · skip
      refine z_aload_n dX10_thing_27 rfl 0 rfl ?_
      refine z_getR (kd := 50) dX10_thing_28 fl_X10_27 k_a0 (fun r2 kr2 => ?_)
      refine z_aload_n dX10_thing_31 rfl 0 rfl ?_
      refine z_getI dX10_thing_32 fl_X10_182 k_a0 ?_
      refine z_iload_n dX10_thing_35 rfl 1 rfl ?_
      refine z_iast dX10_thing_36 kr2 (fun h3 => ?_)
      refine z_aload_n dX10_thing_37 rfl 0 rfl ?_
      refine z_getR (kd := 50) dX10_thing_38 fl_X10_30 k_a0 (fun r4 kr4 => ?_)
      refine z_aload_n dX10_thing_41 rfl 0 rfl ?_
      refine z_getI dX10_thing_42 fl_X10_182 k_a0 ?_
      refine z_iconst (v := 0) dX10_thing_45 (by decide) ?_
      refine z_iast dX10_thing_46 kr4 (fun h5 => ?_)
      refine z_aload_n dX10_thing_47 rfl 0 rfl ?_
      refine z_getR (kd := 50) dX10_thing_48 fl_X10_33 k_a0 (fun r6 kr6 => ?_)
      refine z_aload_n dX10_thing_51 rfl 0 rfl ?_
      refine z_getI dX10_thing_52 fl_X10_182 k_a0 ?_
      refine z_iconst (v := 0) dX10_thing_55 (by decide) ?_
      refine z_iast dX10_thing_56 kr6 (fun h7 => ?_)
      refine z_aload_n dX10_thing_57 rfl 0 rfl ?_
      refine z_getR (kd := 50) dX10_thing_58 fl_X10_36 k_a0 (fun r8 kr8 => ?_)
      refine z_aload_n dX10_thing_61 rfl 0 rfl ?_
      refine z_getI dX10_thing_62 fl_X10_182 k_a0 ?_
      refine z_iconst (v := 0) dX10_thing_65 (by decide) ?_
      refine z_iast dX10_thing_66 kr8 (fun h9 => ?_)
      refine z_iconst (v := 0) dX10_thing_67 (by decide) ?_
      refine z_istore_n (L' := [(2, .int ((0 : Int32))), (0, .ref (a0)), (1, .int (l1))]) dX10_thing_68 rfl (by decide) rfl ?_
      refine z_sub [1, 0] rfl ?_
      exact zX10_thing_b69 _ _ _ a0 k_a0 fu_ (0 : Int32) h9
    · skip
      refine z_ldc dX10_thing_24 co_X10_187 ?_
      exact z_iret dX10_thing_26 rfl (en0 _ _ _ _) rfl
  · skip
    refine z_ldc dX10_thing_12 co_X10_163 ?_
    exact z_iret dX10_thing_14 rfl (en0 _ _ _ _) rfl
def fX10_of (κ : Kd) (a0 : Nat) (l1 : Int32) (l2 : Int32) (h : Hp) : Option (Int32) :=
  if (κ a0).1 = 9 then (
  (fX10_isThing κ a0 l1.toInt64 h).bind fun v1 =>
  if v1 = 0 then (
    some ((0 : Int32))
  ) else (
    if l2 < 0 then (
      some ((0 : Int32))
    ) else (
      to_ κ (g_R h a0 6) 50 fun r2 =>
      a_I κ h r2 l1 fun v3 =>
      (fX10_placesOf κ v3 h).bind fun v4 =>
      if l2 ≤ ((4 : Int32) + v4) then (
        if l2 = (0 : Int32) then (
          to_ κ (g_R h a0 6) 50 fun r5 =>
          a_I κ h r5 l1 fun v6 =>
          some (v6)
        ) else
        if l2 = (1 : Int32) then (
          to_ κ (g_R h a0 7) 50 fun r9 =>
          a_I κ h r9 l1 fun v10 =>
          some (v10)
        ) else
        if l2 = (2 : Int32) then (
          to_ κ (g_R h a0 8) 50 fun r13 =>
          a_I κ h r13 l1 fun v14 =>
          some (v14)
        ) else
        if l2 = (3 : Int32) then (
          to_ κ (g_R h a0 9) 50 fun r17 =>
          a_I κ h r17 l1 fun v18 =>
          some (v18)
        ) else
        if l2 = (4 : Int32) then (
          to_ κ (g_R h a0 6) 50 fun r21 =>
          a_I κ h r21 l1 fun v22 =>
          (fX10_placesOf κ v22 h).bind fun v23 =>
          some (v23)
        ) else
        (
          to_ κ (g_R h a0 10) 50 fun r26 =>
          a_I κ h r26 ((((4 : Int32) * l1) + l2) - (5 : Int32)) fun v27 =>
          some (v27)
        )
      ) else (
        some ((0 : Int32))
      )
    )
  )) else none
set_option maxHeartbeats 4000000 in
set_option maxRecDepth 100000 in
theorem tX10_of (κ : Kd) (n lim : Nat) (h : Hp) (a0 : Nat) (l1 : Int32) (l2 : Int32) : Ct_ mX10_of [.ref (a0), .int (l1), .int (l2)] κ n lim h (pI κ n h) (fX10_of κ a0 l1 l2 h) := by
  refine ct_of (by decide) (Nat.le_of_ble_eq_true rfl) ?_
  unfold fX10_of
  refine z_sub (L' := [(0, .ref (a0)), (1, .int (l1)), (2, .int (l2))]) [0, 1, 2] rfl ?_
  refine z_or (fun k_a0 => ?_)
  refine z_aload_n dX10_of_0 rfl 0 rfl ?_
  refine z_iload_n dX10_of_1 rfl 1 rfl ?_
  refine z_i2l dX10_of_2 ?_
  refine z_pI (as := [.ref (a0), .long (l1.toInt64)]) (rn_V dX10_of_3 mf_X10_isThing in_X10_isThing lk_X10_188 ⟨by decide, by decide⟩ cl_8 rfl k_a0 rfl (Nat.le_of_ble_eq_true rfl)) (tX10_isThing _ _ _ _ _ _) cz_X10_isThing (c00 _) (fun v1 => ?_)
  refine z_if_eq (tgt := 28) dX10_of_6 (by first | decide | omega) (fun _ => ?_) (fun _ => ?_)
  · skip
    refine z_iconst (v := 0) dX10_of_28 (by decide) ?_
    exact z_iret dX10_of_29 rfl (en0 _ _ _ _) rfl
  · skip
    refine z_iload_n dX10_of_9 rfl 2 rfl ?_
    refine z_if_lt (tgt := 28) dX10_of_10 (by first | decide | omega) (fun _ => ?_) (fun _ => ?_)
    · skip
      refine z_iconst (v := 0) dX10_of_28 (by decide) ?_
      exact z_iret dX10_of_29 rfl (en0 _ _ _ _) rfl
    · skip
      refine z_iload_n dX10_of_13 rfl 2 rfl ?_
      refine z_iconst (v := 4) dX10_of_14 (by decide) ?_
      refine z_aload_n dX10_of_15 rfl 0 rfl ?_
      refine z_getR (kd := 50) dX10_of_16 fl_X10_27 k_a0 (fun r2 kr2 => ?_)
      refine z_iload_n dX10_of_19 rfl 1 rfl ?_
      refine z_iald dX10_of_20 kr2 (fun v3 => ?_)
      refine z_pI (as := [.int (v3)]) (rn_S dX10_of_21 mf_X10_placesOf in_X10_placesOf lk_X10_192 ⟨by decide, by decide⟩ rfl (Nat.le_of_ble_eq_true rfl)) (tX10_placesOf _ _ _ _ _) cz_X10_placesOf (c00 _) (fun v4 => ?_)
      refine z_iadd dX10_of_24 ?_
      refine z_icmp_le (tgt := 30) dX10_of_25 (by first | decide | omega) (fun _ => ?_) (fun _ => ?_)
      · skip
        refine z_iload_n dX10_of_30 rfl 2 rfl ?_
        refine z_ite (fun c8 => ?_) (fun n7 => ?_)
        · refine z_tin (tgt := 64) dX10_of_31 (0) c8 (by decide) (by decide) rfl (by decide) ?_
          refine z_aload_n dX10_of_64 rfl 0 rfl ?_
          refine z_getR (kd := 50) dX10_of_65 fl_X10_27 k_a0 (fun r5 kr5 => ?_)
          refine z_iload_n dX10_of_68 rfl 1 rfl ?_
          refine z_iald dX10_of_69 kr5 (fun v6 => ?_)
          exact z_iret dX10_of_70 rfl (en0 _ _ _ _) rfl
        refine z_ite (fun c12 => ?_) (fun n11 => ?_)
        · refine z_tin (tgt := 71) dX10_of_31 (1) c12 (by decide) (by decide) rfl (by decide) ?_
          refine z_aload_n dX10_of_71 rfl 0 rfl ?_
          refine z_getR (kd := 50) dX10_of_72 fl_X10_30 k_a0 (fun r9 kr9 => ?_)
          refine z_iload_n dX10_of_75 rfl 1 rfl ?_
          refine z_iald dX10_of_76 kr9 (fun v10 => ?_)
          exact z_iret dX10_of_77 rfl (en0 _ _ _ _) rfl
        refine z_ite (fun c16 => ?_) (fun n15 => ?_)
        · refine z_tin (tgt := 78) dX10_of_31 (2) c16 (by decide) (by decide) rfl (by decide) ?_
          refine z_aload_n dX10_of_78 rfl 0 rfl ?_
          refine z_getR (kd := 50) dX10_of_79 fl_X10_33 k_a0 (fun r13 kr13 => ?_)
          refine z_iload_n dX10_of_82 rfl 1 rfl ?_
          refine z_iald dX10_of_83 kr13 (fun v14 => ?_)
          exact z_iret dX10_of_84 rfl (en0 _ _ _ _) rfl
        refine z_ite (fun c20 => ?_) (fun n19 => ?_)
        · refine z_tin (tgt := 85) dX10_of_31 (3) c20 (by decide) (by decide) rfl (by decide) ?_
          refine z_aload_n dX10_of_85 rfl 0 rfl ?_
          refine z_getR (kd := 50) dX10_of_86 fl_X10_36 k_a0 (fun r17 kr17 => ?_)
          refine z_iload_n dX10_of_89 rfl 1 rfl ?_
          refine z_iald dX10_of_90 kr17 (fun v18 => ?_)
          exact z_iret dX10_of_91 rfl (en0 _ _ _ _) rfl
        refine z_ite (fun c25 => ?_) (fun n24 => ?_)
        · refine z_tin (tgt := 92) dX10_of_31 (4) c25 (by decide) (by decide) rfl (by decide) ?_
          refine z_aload_n dX10_of_92 rfl 0 rfl ?_
          refine z_getR (kd := 50) dX10_of_93 fl_X10_27 k_a0 (fun r21 kr21 => ?_)
          refine z_iload_n dX10_of_96 rfl 1 rfl ?_
          refine z_iald dX10_of_97 kr21 (fun v22 => ?_)
          refine z_pI (as := [.int (v22)]) (rn_S dX10_of_98 mf_X10_placesOf in_X10_placesOf lk_X10_192 ⟨by decide, by decide⟩ rfl (Nat.le_of_ble_eq_true rfl)) (tX10_placesOf _ _ _ _ _) cz_X10_placesOf (c00 _) (fun v23 => ?_)
          exact z_iret dX10_of_101 rfl (en0 _ _ _ _) rfl
        refine z_tdef (tgt := 102) dX10_of_31 [0, 1, 2, 3, 4] (List.forall_mem_cons.mpr ⟨n7, List.forall_mem_cons.mpr ⟨n11, List.forall_mem_cons.mpr ⟨n15, List.forall_mem_cons.mpr ⟨n19, List.forall_mem_cons.mpr ⟨n24, fun _ h => absurd h List.not_mem_nil⟩⟩⟩⟩⟩) (by decide +kernel) (by decide) ?_
        refine z_aload_n dX10_of_102 rfl 0 rfl ?_
        refine z_getR (kd := 50) dX10_of_103 fl_X10_39 k_a0 (fun r26 kr26 => ?_)
        refine z_iconst (v := 4) dX10_of_106 (by decide) ?_
        refine z_iload_n dX10_of_107 rfl 1 rfl ?_
        refine z_imul dX10_of_108 ?_
        refine z_iload_n dX10_of_109 rfl 2 rfl ?_
        refine z_iadd dX10_of_110 ?_
        refine z_iconst (v := 5) dX10_of_111 (by decide) ?_
        refine z_isub dX10_of_112 ?_
        refine z_iald dX10_of_113 kr26 (fun v27 => ?_)
        exact z_iret dX10_of_114 rfl (en0 _ _ _ _) rfl
      · skip
        refine z_iconst (v := 0) dX10_of_28 (by decide) ?_
        exact z_iret dX10_of_29 rfl (en0 _ _ _ _) rfl
def fX10_weigh (κ : Kd) (a0 : Nat) (l1 : Int32) (h : Hp) : Option (Int32) :=
  if (κ a0).1 = 9 then (
  to_ κ (g_R h a0 7) 50 fun r1 =>
  a_I κ h r1 l1 fun v2 =>
  to_ κ (g_R h a0 6) 50 fun r3 =>
  a_I κ h r3 l1 fun v4 =>
  (fX10_isCrate κ v4 h).bind fun v5 =>
  if v5 = 0 then (
    if v4 = (5 : Int32) then (
      to_ κ (g_R h a0 9) 50 fun r6 =>
      a_I κ h r6 l1 fun v7 =>
      some (((2 : Int32) + v2) - v7)
    ) else (
      some ((2 : Int32) + v2)
    )
  ) else (
    if v4 = (3 : Int32) then (
      some (((2 : Int32) * ((2 : Int32) + v2)) + (1 : Int32))
    ) else (
      some ((2 : Int32) * ((2 : Int32) + v2))
    )
  )) else none
set_option maxHeartbeats 4000000 in
set_option maxRecDepth 100000 in
theorem tX10_weigh (κ : Kd) (n lim : Nat) (h : Hp) (a0 : Nat) (l1 : Int32) : Ct_ mX10_weigh [.ref (a0), .int (l1)] κ n lim h (pI κ n h) (fX10_weigh κ a0 l1 h) := by
  refine ct_of (by decide) (Nat.le_of_ble_eq_true rfl) ?_
  unfold fX10_weigh
  refine z_sub (L' := [(0, .ref (a0)), (1, .int (l1))]) [0, 1] rfl ?_
  refine z_or (fun k_a0 => ?_)
  refine z_iconst (v := 2) dX10_weigh_0 (by decide) ?_
  refine z_aload_n dX10_weigh_1 rfl 0 rfl ?_
  refine z_getR (kd := 50) dX10_weigh_2 fl_X10_30 k_a0 (fun r1 kr1 => ?_)
  refine z_iload_n dX10_weigh_5 rfl 1 rfl ?_
  refine z_iald dX10_weigh_6 kr1 (fun v2 => ?_)
  refine z_iadd dX10_weigh_7 ?_
  refine z_istore_n (L' := [(2, .int ((2 : Int32) + v2)), (0, .ref (a0)), (1, .int (l1))]) dX10_weigh_8 rfl (by decide) rfl ?_
  refine z_aload_n dX10_weigh_9 rfl 1 rfl ?_
  refine z_getR (kd := 50) dX10_weigh_10 fl_X10_27 k_a0 (fun r3 kr3 => ?_)
  refine z_iload_n dX10_weigh_13 rfl 2 rfl ?_
  refine z_iald dX10_weigh_14 kr3 (fun v4 => ?_)
  refine z_istore_n (L' := [(3, .int (v4)), (2, .int ((2 : Int32) + v2)), (0, .ref (a0)), (1, .int (l1))]) dX10_weigh_15 rfl (by decide) rfl ?_
  refine z_iload_n dX10_weigh_16 rfl 0 rfl ?_
  refine z_pI (as := [.int (v4)]) (rn_S dX10_weigh_17 mf_X10_isCrate in_X10_isCrate lk_X10_195 ⟨by decide, by decide⟩ rfl (Nat.le_of_ble_eq_true rfl)) (tX10_isCrate _ _ _ _ _) cz_X10_isCrate (c00 _) (fun v5 => ?_)
  refine z_if_eq (tgt := 42) dX10_weigh_20 (by first | decide | omega) (fun _ => ?_) (fun _ => ?_)
  · skip
    refine z_iload_n dX10_weigh_42 rfl 0 rfl ?_
    refine z_iconst (v := 5) dX10_weigh_43 (by decide) ?_
    refine z_icmp_ne (tgt := 58) dX10_weigh_44 (by first | decide | omega) (fun _ => ?_) (fun _ => ?_)
    · skip
      refine z_iload_n dX10_weigh_58 rfl 1 rfl ?_
      exact z_iret dX10_weigh_59 rfl (en0 _ _ _ _) rfl
    · skip
      refine z_iload_n dX10_weigh_47 rfl 1 rfl ?_
      refine z_aload_n dX10_weigh_48 rfl 2 rfl ?_
      refine z_getR (kd := 50) dX10_weigh_49 fl_X10_36 k_a0 (fun r6 kr6 => ?_)
      refine z_iload_n dX10_weigh_52 rfl 3 rfl ?_
      refine z_iald dX10_weigh_53 kr6 (fun v7 => ?_)
      refine z_isub dX10_weigh_54 ?_
      refine z_goto (tgt := 59) dX10_weigh_55 (by decide) ?_
      exact z_iret dX10_weigh_59 rfl (en0 _ _ _ _) rfl
  · skip
    refine z_iload_n dX10_weigh_23 rfl 0 rfl ?_
    refine z_iconst (v := 3) dX10_weigh_24 (by decide) ?_
    refine z_icmp_ne (tgt := 36) dX10_weigh_25 (by first | decide | omega) (fun _ => ?_) (fun _ => ?_)
    · skip
      refine z_iconst (v := 2) dX10_weigh_36 (by decide) ?_
      refine z_iload_n dX10_weigh_37 rfl 1 rfl ?_
      refine z_imul dX10_weigh_38 ?_
      refine z_goto (tgt := 59) dX10_weigh_39 (by decide) ?_
      exact z_iret dX10_weigh_59 rfl (en0 _ _ _ _) rfl
    · skip
      refine z_iconst (v := 2) dX10_weigh_28 (by decide) ?_
      refine z_iload_n dX10_weigh_29 rfl 1 rfl ?_
      refine z_imul dX10_weigh_30 ?_
      refine z_iconst (v := 1) dX10_weigh_31 (by decide) ?_
      refine z_iadd dX10_weigh_32 ?_
      refine z_goto (tgt := 59) dX10_weigh_33 (by decide) ?_
      exact z_iret dX10_weigh_59 rfl (en0 _ _ _ _) rfl
def fX10_take_b83 (κ : Kd) (a0 : Nat) (l1 : Int32) (l3 : Int32)  (h : Hp) : Option (Hp) :=
  if l3 = (5 : Int32) then (
    to_ κ (g_R h a0 8) 50 fun r13 =>
    a_I κ h r13 l1 fun v14 =>
    lt_ (s_I h a0 11 v14) fun h15 =>
    some h15
  ) else (
    to_ κ (g_R h a0 7) 50 fun r10 =>
    a_I κ h r10 l1 fun v11 =>
    lt_ (s_I h a0 11 v11) fun h12 =>
    some h12
  )
set_option maxRecDepth 100000 in
theorem zX10_take_b83 (κ : Kd) (n lim : Nat) (a0 : Nat) (l1 : Int32) (l3 : Int32)  (k_a0 : (κ a0).1 = 9) (h : Hp) : ZQ mX10_take (eV κ n) (κ, n, 0, lim) 83 [(0, .ref (a0)), (1, .int (l1)), (3, .int (l3))] [] h (fX10_take_b83 κ a0 l1 l3  h) := by
  unfold fX10_take_b83
  refine z_aload_n dX10_take_83 rfl 0 rfl ?_
  refine z_iload_n dX10_take_84 rfl 2 rfl ?_
  refine z_iconst (v := 5) dX10_take_85 (by decide) ?_
  refine z_icmp_ne (tgt := 98) dX10_take_86 (by first | decide | omega) (fun _ => ?_) (fun _ => ?_)
  · skip
    refine z_aload_n dX10_take_98 rfl 0 rfl ?_
    refine z_getR (kd := 50) dX10_take_99 fl_X10_30 k_a0 (fun r10 kr10 => ?_)
    refine z_iload_n dX10_take_102 rfl 1 rfl ?_
    refine z_iald dX10_take_103 kr10 (fun v11 => ?_)
    refine z_putI dX10_take_104 fl_X10_207 (Or.inl rfl) k_a0 (fun h12 => ?_)
    exact z_vret dX10_take_107 rfl (en0 _ _ _ _) rfl
  · skip
    refine z_aload_n dX10_take_89 rfl 0 rfl ?_
    refine z_getR (kd := 50) dX10_take_90 fl_X10_33 k_a0 (fun r13 kr13 => ?_)
    refine z_iload_n dX10_take_93 rfl 1 rfl ?_
    refine z_iald dX10_take_94 kr13 (fun v14 => ?_)
    refine z_goto (tgt := 104) dX10_take_95 (by decide) ?_
    refine z_putI dX10_take_104 fl_X10_207 (Or.inl rfl) k_a0 (fun h15 => ?_)
    exact z_vret dX10_take_107 rfl (en0 _ _ _ _) rfl
def fX10_take_b61 (κ : Kd) (a0 : Nat) (l1 : Int32) (l2 : Int32) (l3 : Int32)  (h : Hp) : Option (Hp) :=
  to_ κ (g_R h a0 7) 50 fun r7 =>
  a_I κ h r7 l1 fun v8 =>
  w_I κ h r7 l1 (v8 + l2) fun h9 =>
  if l3 ≤ (3 : Int32) then (
    fX10_take_b83 κ a0 l1 l3  h9
  ) else (
    to_ κ (g_R h9 a0 8) 50 fun r16 =>
    w_I κ h9 r16 l1 l2 fun h17 =>
    fX10_take_b83 κ a0 l1 l3  h17
  )
set_option maxRecDepth 100000 in
theorem zX10_take_b61 (κ : Kd) (n lim : Nat) (a0 : Nat) (l1 : Int32) (l2 : Int32) (l3 : Int32)  (k_a0 : (κ a0).1 = 9) (h : Hp) : ZQ mX10_take (eV κ n) (κ, n, 0, lim) 61 [(0, .ref (a0)), (1, .int (l1)), (2, .int (l2)), (3, .int (l3))] [] h (fX10_take_b61 κ a0 l1 l2 l3  h) := by
  unfold fX10_take_b61
  refine z_aload_n dX10_take_61 rfl 0 rfl ?_
  refine z_getR (kd := 50) dX10_take_62 fl_X10_30 k_a0 (fun r7 kr7 => ?_)
  refine z_iload_n dX10_take_65 rfl 1 rfl ?_
  refine z_dup2 dX10_take_66 rfl rfl ?_
  refine z_iald dX10_take_67 kr7 (fun v8 => ?_)
  refine z_iload_n dX10_take_68 rfl 2 rfl ?_
  refine z_iadd dX10_take_69 ?_
  refine z_iast dX10_take_70 kr7 (fun h9 => ?_)
  refine z_iload_n dX10_take_71 rfl 3 rfl ?_
  refine z_iconst (v := 3) dX10_take_72 (by decide) ?_
  refine z_icmp_le (tgt := 83) dX10_take_73 (by first | decide | omega) (fun _ => ?_) (fun _ => ?_)
  · skip
    refine z_sub [0, 1, 3] rfl ?_
    exact zX10_take_b83 _ _ _ a0 l1 l3  k_a0 h9
  · skip
    refine z_aload_n dX10_take_76 rfl 0 rfl ?_
    refine z_getR (kd := 50) dX10_take_77 fl_X10_33 k_a0 (fun r16 kr16 => ?_)
    refine z_iload_n dX10_take_80 rfl 1 rfl ?_
    refine z_iload_n dX10_take_81 rfl 2 rfl ?_
    refine z_iast dX10_take_82 kr16 (fun h17 => ?_)
    refine z_sub [0, 1, 3] rfl ?_
    exact zX10_take_b83 _ _ _ a0 l1 l3  k_a0 h17
def fX10_take_b27 (κ : Kd) (a0 : Nat) (l1 : Int32) (l2 : Int32) (l3 : Int32)  (h : Hp) : Option (Hp) :=
  (fX10_isCrate κ l3 h).bind fun v6 =>
  if v6 = 0 then (
    fX10_take_b61 κ a0 l1 l2 l3  h
  ) else (
    to_ κ (g_R h a0 7) 50 fun r18 =>
    a_I κ h r18 l1 fun v19 =>
    if (v19 + l2) ≤ (9 : Int32) then (
      fX10_take_b61 κ a0 l1 l2 l3  h
    ) else (
      lt_ (s_I h a0 12 (11 : Int32)) fun h20 =>
      lt_ (s_J h20 a0 13 (50 : Int64)) fun h21 =>
      some h21
    )
  )
set_option maxRecDepth 100000 in
theorem zX10_take_b27 (κ : Kd) (n lim : Nat) (a0 : Nat) (l1 : Int32) (l2 : Int32) (l3 : Int32)  (k_a0 : (κ a0).1 = 9) (h : Hp) : ZQ mX10_take (eV κ n) (κ, n, 0, lim) 27 [(0, .ref (a0)), (1, .int (l1)), (2, .int (l2)), (3, .int (l3))] [] h (fX10_take_b27 κ a0 l1 l2 l3  h) := by
  unfold fX10_take_b27
  refine z_iload_n dX10_take_27 rfl 3 rfl ?_
  refine z_pI (as := [.int (l3)]) (rn_S dX10_take_28 mf_X10_isCrate in_X10_isCrate lk_X10_195 ⟨by decide, by decide⟩ rfl (Nat.le_of_ble_eq_true rfl)) (tX10_isCrate _ _ _ _ _) cz_X10_isCrate (c00 _) (fun v6 => ?_)
  refine z_if_eq (tgt := 61) dX10_take_31 (by first | decide | omega) (fun _ => ?_) (fun _ => ?_)
  · skip
    refine z_sub [0, 1, 2, 3] rfl ?_
    exact zX10_take_b61 _ _ _ a0 l1 l2 l3  k_a0 h
  · skip
    refine z_aload_n dX10_take_34 rfl 0 rfl ?_
    refine z_getR (kd := 50) dX10_take_35 fl_X10_30 k_a0 (fun r18 kr18 => ?_)
    refine z_iload_n dX10_take_38 rfl 1 rfl ?_
    refine z_iald dX10_take_39 kr18 (fun v19 => ?_)
    refine z_iload_n dX10_take_40 rfl 2 rfl ?_
    refine z_iadd dX10_take_41 ?_
    refine z_bipush (v := 9) dX10_take_42 (by decide) ?_
    refine z_icmp_le (tgt := 61) dX10_take_44 (by first | decide | omega) (fun _ => ?_) (fun _ => ?_)
    · skip
      refine z_sub [0, 1, 2, 3] rfl ?_
      exact zX10_take_b61 _ _ _ a0 l1 l2 l3  k_a0 h
    · skip
      refine z_aload_n dX10_take_47 rfl 0 rfl ?_
      refine z_bipush (v := 11) dX10_take_48 (by decide) ?_
      refine z_putI dX10_take_50 fl_X10_198 (Or.inl rfl) k_a0 (fun h20 => ?_)
      refine z_aload_n dX10_take_53 rfl 0 rfl ?_
      refine z_ldc2 dX10_take_54 co_X10_201 ?_
      refine z_putJ dX10_take_57 fl_X10_203 (Or.inl rfl) k_a0 (fun h21 => ?_)
      exact z_vret dX10_take_60 rfl (en0 _ _ _ _) rfl
def fX10_take_b17 (κ : Kd) (a0 : Nat) (l1 : Int32) (l2 : Int32) (l3 : Int32)  (h : Hp) : Option (Hp) :=
  to_ κ (g_R h a0 9) 50 fun r3 =>
  a_I κ h r3 l1 fun v4 =>
  w_I κ h r3 l1 (v4 + (1 : Int32)) fun h5 =>
  fX10_take_b27 κ a0 l1 l2 l3  h5
set_option maxRecDepth 100000 in
theorem zX10_take_b17 (κ : Kd) (n lim : Nat) (a0 : Nat) (l1 : Int32) (l2 : Int32) (l3 : Int32)  (k_a0 : (κ a0).1 = 9) (h : Hp) : ZQ mX10_take (eV κ n) (κ, n, 0, lim) 17 [(0, .ref (a0)), (1, .int (l1)), (2, .int (l2)), (3, .int (l3))] [] h (fX10_take_b17 κ a0 l1 l2 l3  h) := by
  unfold fX10_take_b17
  refine z_aload_n dX10_take_17 rfl 0 rfl ?_
  refine z_getR (kd := 50) dX10_take_18 fl_X10_36 k_a0 (fun r3 kr3 => ?_)
  refine z_iload_n dX10_take_21 rfl 1 rfl ?_
  refine z_dup2 dX10_take_22 rfl rfl ?_
  refine z_iald dX10_take_23 kr3 (fun v4 => ?_)
  refine z_iconst (v := 1) dX10_take_24 (by decide) ?_
  refine z_iadd dX10_take_25 ?_
  refine z_iast dX10_take_26 kr3 (fun h5 => ?_)
  refine z_sub [0, 1, 2, 3] rfl ?_
  exact zX10_take_b27 _ _ _ a0 l1 l2 l3  k_a0 h5
def fX10_take (κ : Kd) (a0 : Nat) (l1 : Int32) (l2 : Int32) (h : Hp) : Option (Hp) :=
  if (κ a0).1 = 9 then (
  to_ κ (g_R h a0 6) 50 fun r1 =>
  a_I κ h r1 l1 fun v2 =>
  if v2 = (2 : Int32) then (
    fX10_take_b17 κ a0 l1 l2 v2  h
  ) else (
    if v2 = (3 : Int32) then (
      fX10_take_b17 κ a0 l1 l2 v2  h
    ) else (
      fX10_take_b27 κ a0 l1 l2 v2  h
    )
  )) else none
set_option maxHeartbeats 4000000 in
set_option maxRecDepth 100000 in
theorem tX10_take (κ : Kd) (n lim : Nat) (h : Hp) (a0 : Nat) (l1 : Int32) (l2 : Int32) : Ct_ mX10_take [.ref (a0), .int (l1), .int (l2)] κ n lim h (eV κ n) (fX10_take κ a0 l1 l2 h) := by
  refine ct_of (by decide) (Nat.le_of_ble_eq_true rfl) ?_
  unfold fX10_take
  refine z_sub (L' := [(0, .ref (a0)), (1, .int (l1)), (2, .int (l2))]) [0, 1, 2] rfl ?_
  refine z_or (fun k_a0 => ?_)
  refine z_aload_n dX10_take_0 rfl 0 rfl ?_
  refine z_getR (kd := 50) dX10_take_1 fl_X10_27 k_a0 (fun r1 kr1 => ?_)
  refine z_iload_n dX10_take_4 rfl 1 rfl ?_
  refine z_iald dX10_take_5 kr1 (fun v2 => ?_)
  refine z_istore_n (L' := [(3, .int (v2)), (0, .ref (a0)), (1, .int (l1)), (2, .int (l2))]) dX10_take_6 rfl (by decide) rfl ?_
  refine z_iload_n dX10_take_7 rfl 0 rfl ?_
  refine z_iconst (v := 2) dX10_take_8 (by decide) ?_
  refine z_icmp_eq (tgt := 17) dX10_take_9 (by first | decide | omega) (fun _ => ?_) (fun _ => ?_)
  · skip
    refine z_sub [1, 2, 3, 0] rfl ?_
    exact zX10_take_b17 _ _ _ a0 l1 l2 v2  k_a0 h
  · skip
    refine z_iload_n dX10_take_12 rfl 0 rfl ?_
    refine z_iconst (v := 3) dX10_take_13 (by decide) ?_
    refine z_icmp_ne (tgt := 27) dX10_take_14 (by first | decide | omega) (fun _ => ?_) (fun _ => ?_)
    · skip
      refine z_sub [1, 2, 3, 0] rfl ?_
      exact zX10_take_b27 _ _ _ a0 l1 l2 v2  k_a0 h
    · skip
      refine z_sub [1, 2, 3, 0] rfl ?_
      exact zX10_take_b17 _ _ _ a0 l1 l2 v2  k_a0 h
def fX10_message_b101 (κ : Kd) (a0 : Nat) (l1 : Int32) (l4 : Int32) (s0 : Int32) (s1 : Nat) (h : Hp) : Option (Hp) :=
  lt_ (s_I h s1 12 s0) fun h13 =>
  if l4 = (4 : Int32) then (
    (fX10_weigh κ a0 l1 h13).bind fun v17 =>
    lt_ (s_I h13 a0 11 ((5 : Int32) + v17)) fun h18 =>
    some h18
  ) else (
    to_ κ (g_R h13 a0 7) 50 fun r14 =>
    a_I κ h13 r14 l1 fun v15 =>
    lt_ (s_I h13 a0 11 ((3 : Int32) * v15)) fun h16 =>
    some h16
  )
set_option maxRecDepth 100000 in
theorem zX10_message_b101 (κ : Kd) (n lim : Nat) (a0 : Nat) (l1 : Int32) (l4 : Int32) (s0 : Int32) (s1 : Nat) (k_a0 : (κ a0).1 = 9)(k_s1 : (κ s1).1 = 9) (h : Hp) : ZQ mX10_message (eV κ n) (κ, n, 0, lim) 101 [(0, .ref (a0)), (1, .int (l1)), (4, .int (l4))] [.int (s0), .ref (s1)] h (fX10_message_b101 κ a0 l1 l4 s0 s1 h) := by
  unfold fX10_message_b101
  refine z_putI dX10_message_101 fl_X10_198 (Or.inl rfl) k_s1 (fun h13 => ?_)
  refine z_aload_n dX10_message_104 rfl 0 rfl ?_
  refine z_iload dX10_message_105 2 rfl ?_
  refine z_iconst (v := 4) dX10_message_107 (by decide) ?_
  refine z_icmp_ne (tgt := 121) dX10_message_108 (by first | decide | omega) (fun _ => ?_) (fun _ => ?_)
  · skip
    refine z_iconst (v := 3) dX10_message_121 (by decide) ?_
    refine z_aload_n dX10_message_122 rfl 0 rfl ?_
    refine z_getR (kd := 50) dX10_message_123 fl_X10_30 k_a0 (fun r14 kr14 => ?_)
    refine z_iload_n dX10_message_126 rfl 1 rfl ?_
    refine z_iald dX10_message_127 kr14 (fun v15 => ?_)
    refine z_imul dX10_message_128 ?_
    refine z_putI dX10_message_129 fl_X10_207 (Or.inl rfl) k_a0 (fun h16 => ?_)
    refine z_goto (tgt := 303) dX10_message_132 (by decide) ?_
    exact z_vret dX10_message_303 rfl (en0 _ _ _ _) rfl
  · skip
    refine z_iconst (v := 5) dX10_message_111 (by decide) ?_
    refine z_aload_n dX10_message_112 rfl 0 rfl ?_
    refine z_iload_n dX10_message_113 rfl 1 rfl ?_
    refine z_pI (as := [.ref (a0), .int (l1)]) (rn_V dX10_message_114 mf_X10_weigh in_X10_weigh lk_X10_210 ⟨by decide, by decide⟩ cl_8 rfl k_a0 rfl (Nat.le_of_ble_eq_true rfl)) (tX10_weigh _ _ _ _ _ _) cz_X10_weigh (c00 _) (fun v17 => ?_)
    refine z_iadd dX10_message_117 ?_
    refine z_goto (tgt := 129) dX10_message_118 (by decide) ?_
    refine z_putI dX10_message_129 fl_X10_207 (Or.inl rfl) k_a0 (fun h18 => ?_)
    refine z_goto (tgt := 303) dX10_message_132 (by decide) ?_
    exact z_vret dX10_message_303 rfl (en0 _ _ _ _) rfl
def fX10_message_b150 (κ : Kd) (a0 : Nat) (l1 : Int32) (l4 : Int32) (s0 : Int32) (s1 : Nat) (h : Hp) : Option (Hp) :=
  lt_ (s_I h s1 12 s0) fun h22 =>
  if l4 = (1 : Int32) then (
    to_ κ (g_R h22 a0 9) 50 fun r26 =>
    a_I κ h22 r26 l1 fun v27 =>
    lt_ (s_I h22 a0 11 v27) fun h28 =>
    some h28
  ) else (
    to_ κ (g_R h22 a0 9) 50 fun r23 =>
    a_I κ h22 r23 l1 fun v24 =>
    lt_ (s_I h22 a0 11 ((100 : Int32) + v24)) fun h25 =>
    some h25
  )
set_option maxRecDepth 100000 in
theorem zX10_message_b150 (κ : Kd) (n lim : Nat) (a0 : Nat) (l1 : Int32) (l4 : Int32) (s0 : Int32) (s1 : Nat) (k_a0 : (κ a0).1 = 9)(k_s1 : (κ s1).1 = 9) (h : Hp) : ZQ mX10_message (eV κ n) (κ, n, 0, lim) 150 [(0, .ref (a0)), (1, .int (l1)), (4, .int (l4))] [.int (s0), .ref (s1)] h (fX10_message_b150 κ a0 l1 l4 s0 s1 h) := by
  unfold fX10_message_b150
  refine z_putI dX10_message_150 fl_X10_198 (Or.inl rfl) k_s1 (fun h22 => ?_)
  refine z_aload_n dX10_message_153 rfl 0 rfl ?_
  refine z_iload dX10_message_154 2 rfl ?_
  refine z_iconst (v := 1) dX10_message_156 (by decide) ?_
  refine z_icmp_ne (tgt := 169) dX10_message_157 (by first | decide | omega) (fun _ => ?_) (fun _ => ?_)
  · skip
    refine z_bipush (v := 100) dX10_message_169 (by decide) ?_
    refine z_aload_n dX10_message_171 rfl 0 rfl ?_
    refine z_getR (kd := 50) dX10_message_172 fl_X10_36 k_a0 (fun r23 kr23 => ?_)
    refine z_iload_n dX10_message_175 rfl 1 rfl ?_
    refine z_iald dX10_message_176 kr23 (fun v24 => ?_)
    refine z_iadd dX10_message_177 ?_
    refine z_putI dX10_message_178 fl_X10_207 (Or.inl rfl) k_a0 (fun h25 => ?_)
    refine z_goto (tgt := 303) dX10_message_181 (by decide) ?_
    exact z_vret dX10_message_303 rfl (en0 _ _ _ _) rfl
  · skip
    refine z_aload_n dX10_message_160 rfl 0 rfl ?_
    refine z_getR (kd := 50) dX10_message_161 fl_X10_36 k_a0 (fun r26 kr26 => ?_)
    refine z_iload_n dX10_message_164 rfl 1 rfl ?_
    refine z_iald dX10_message_165 kr26 (fun v27 => ?_)
    refine z_goto (tgt := 178) dX10_message_166 (by decide) ?_
    refine z_putI dX10_message_178 fl_X10_207 (Or.inl rfl) k_a0 (fun h28 => ?_)
    refine z_goto (tgt := 303) dX10_message_181 (by decide) ?_
    exact z_vret dX10_message_303 rfl (en0 _ _ _ _) rfl
def fX10_message_b276 (κ : Kd) (a0 : Nat) (l1 : Int32) (l3 : Int32) (s0 : Int32) (s1 : Nat) (h : Hp) : Option (Hp) :=
  lt_ (s_I h s1 12 s0) fun h54 =>
  if (g_I h54 a0 12) = 0 then (
    to_ κ (g_R h54 a0 9) 50 fun r55 =>
    a_I κ h54 r55 l1 fun v56 =>
    lt_ (s_I h54 a0 11 v56) fun h57 =>
    to_ κ (g_R h57 a0 9) 50 fun r58 =>
    w_I κ h57 r58 l1 l3 fun h59 =>
    some h59
  ) else (
    some h54
  )
set_option maxRecDepth 100000 in
theorem zX10_message_b276 (κ : Kd) (n lim : Nat) (a0 : Nat) (l1 : Int32) (l3 : Int32) (s0 : Int32) (s1 : Nat) (k_a0 : (κ a0).1 = 9)(k_s1 : (κ s1).1 = 9) (h : Hp) : ZQ mX10_message (eV κ n) (κ, n, 0, lim) 276 [(0, .ref (a0)), (1, .int (l1)), (3, .int (l3))] [.int (s0), .ref (s1)] h (fX10_message_b276 κ a0 l1 l3 s0 s1 h) := by
  unfold fX10_message_b276
  refine z_putI dX10_message_276 fl_X10_198 (Or.inl rfl) k_s1 (fun h54 => ?_)
  refine z_aload_n dX10_message_279 rfl 0 rfl ?_
  refine z_getI dX10_message_280 fl_X10_198 k_a0 ?_
  refine z_if_ne (tgt := 303) dX10_message_283 (by first | decide | omega) (fun _ => ?_) (fun _ => ?_)
  · skip
    exact z_vret dX10_message_303 rfl (en0 _ _ _ _) rfl
  · skip
    refine z_aload_n dX10_message_286 rfl 0 rfl ?_
    refine z_aload_n dX10_message_287 rfl 0 rfl ?_
    refine z_getR (kd := 50) dX10_message_288 fl_X10_36 k_a0 (fun r55 kr55 => ?_)
    refine z_iload_n dX10_message_291 rfl 1 rfl ?_
    refine z_iald dX10_message_292 kr55 (fun v56 => ?_)
    refine z_putI dX10_message_293 fl_X10_207 (Or.inl rfl) k_a0 (fun h57 => ?_)
    refine z_aload_n dX10_message_296 rfl 0 rfl ?_
    refine z_getR (kd := 50) dX10_message_297 fl_X10_36 k_a0 (fun r58 kr58 => ?_)
    refine z_iload_n dX10_message_300 rfl 1 rfl ?_
    refine z_iload_n dX10_message_301 rfl 2 rfl ?_
    refine z_iast dX10_message_302 kr58 (fun h59 => ?_)
    exact z_vret dX10_message_303 rfl (en0 _ _ _ _) rfl
def fX10_message_b275 (κ : Kd) (a0 : Nat) (l1 : Int32) (l3 : Int32) (s0 : Nat) (h : Hp) : Option (Hp) :=
  fX10_message_b276 κ a0 l1 l3 (3 : Int32) s0 h
set_option maxRecDepth 100000 in
theorem zX10_message_b275 (κ : Kd) (n lim : Nat) (a0 : Nat) (l1 : Int32) (l3 : Int32) (s0 : Nat) (k_a0 : (κ a0).1 = 9)(k_s0 : (κ s0).1 = 9) (h : Hp) : ZQ mX10_message (eV κ n) (κ, n, 0, lim) 275 [(0, .ref (a0)), (1, .int (l1)), (3, .int (l3))] [.ref (s0)] h (fX10_message_b275 κ a0 l1 l3 s0 h) := by
  unfold fX10_message_b275
  refine z_iconst (v := 3) dX10_message_275 (by decide) ?_
  refine z_sub [0, 1, 2] rfl ?_
  exact zX10_message_b276 _ _ _ a0 l1 l3 (3 : Int32) s0 k_a0 k_s0 h
def fX10_message_b271 (κ : Kd) (a0 : Nat) (l1 : Int32) (l3 : Int32) (s0 : Nat) (h : Hp) : Option (Hp) :=
  fX10_message_b276 κ a0 l1 l3 (0 : Int32) s0 h
set_option maxRecDepth 100000 in
theorem zX10_message_b271 (κ : Kd) (n lim : Nat) (a0 : Nat) (l1 : Int32) (l3 : Int32) (s0 : Nat) (k_a0 : (κ a0).1 = 9)(k_s0 : (κ s0).1 = 9) (h : Hp) : ZQ mX10_message (eV κ n) (κ, n, 0, lim) 271 [(0, .ref (a0)), (1, .int (l1)), (3, .int (l3))] [.ref (s0)] h (fX10_message_b271 κ a0 l1 l3 s0 h) := by
  unfold fX10_message_b271
  refine z_iconst (v := 0) dX10_message_271 (by decide) ?_
  refine z_goto (tgt := 276) dX10_message_272 (by decide) ?_
  refine z_sub [0, 1, 2] rfl ?_
  exact zX10_message_b276 _ _ _ a0 l1 l3 (0 : Int32) s0 k_a0 k_s0 h
def fX10_message (κ : Kd) (a0 : Nat) (l1 : Int32) (l2 : Int32) (l3 : Int32) (h : Hp) : Option (Hp) :=
  if (κ a0).1 = 9 then (
  to_ κ (g_R h a0 6) 50 fun r1 =>
  a_I κ h r1 l1 fun v2 =>
  lt_ (s_I h a0 12 (0 : Int32)) fun h3 =>
  lt_ (s_J h3 a0 13 (0 : Int64)) fun h4 =>
  lt_ (s_I h4 a0 11 (0 : Int32)) fun h5 =>
  if l2 = (0 : Int32) then (
    (fX10_weigh κ a0 l1 h5).bind fun v6 =>
    lt_ (s_I h5 a0 11 v6) fun h7 =>
    some h7
  ) else
  if l2 = (1 : Int32) then (
    (fX10_take κ a0 l1 l3 h5).bind fun h10 =>
    some h10
  ) else
  if l2 = (2 : Int32) then (
    if (4 : Int32) ≤ v2 then (
      fX10_message_b101 κ a0 l1 v2 (0 : Int32) a0 h5
    ) else (
      fX10_message_b101 κ a0 l1 v2 (3 : Int32) a0 h5
    )
  ) else
  if l2 = (3 : Int32) then (
    (fX10_isCrate κ v2 h5).bind fun v21 =>
    if v21 = 0 then (
      fX10_message_b150 κ a0 l1 v2 (12 : Int32) a0 h5
    ) else (
      fX10_message_b150 κ a0 l1 v2 (0 : Int32) a0 h5
    )
  ) else
  if l2 = (4 : Int32) then (
    to_ κ (g_R h5 a0 8) 50 fun r31 =>
    a_I κ h5 r31 l1 fun v32 =>
    lt_ (s_I h5 a0 11 v32) fun h33 =>
    some h33
  ) else
  if l2 = (5 : Int32) then (
    (fX10_isCrate κ v2 h5).bind fun v36 =>
    if v36 = 0 then (
      lt_ (s_I h5 a0 12 (3 : Int32)) fun h37 =>
      to_ κ (g_R h37 a0 9) 50 fun r38 =>
      a_I κ h37 r38 l1 fun v39 =>
      lt_ (s_I h37 a0 11 v39) fun h40 =>
      some h40
    ) else (
      lt_ (s_I h5 a0 12 (0 : Int32)) fun h41 =>
      to_ κ (g_R h41 a0 9) 50 fun r42 =>
      a_I κ h41 r42 l1 fun v43 =>
      lt_ (s_I h41 a0 11 v43) fun h44 =>
      some h44
    )
  ) else
  if l2 = (6 : Int32) then (
    to_ κ (g_R h5 a0 8) 50 fun r47 =>
    a_I κ h5 r47 l1 fun v48 =>
    lt_ (s_I h5 a0 11 v48) fun h49 =>
    to_ κ (g_R h49 a0 8) 50 fun r50 =>
    w_I κ h49 r50 l1 l3 fun h51 =>
    some h51
  ) else
  (
    if l2 = (7 : Int32) then (
      (fX10_isCrate κ v2 h5).bind fun v60 =>
      if v60 = 0 then (
        fX10_message_b275 κ a0 l1 l3 a0 h5
      ) else (
        fX10_message_b271 κ a0 l1 l3 a0 h5
      )
    ) else (
      if v2 = (5 : Int32) then (
        fX10_message_b271 κ a0 l1 l3 a0 h5
      ) else (
        fX10_message_b275 κ a0 l1 l3 a0 h5
      )
    )
  )) else none
set_option maxHeartbeats 4000000 in
set_option maxRecDepth 100000 in
theorem tX10_message (κ : Kd) (n lim : Nat) (h : Hp) (a0 : Nat) (l1 : Int32) (l2 : Int32) (l3 : Int32) : Ct_ mX10_message [.ref (a0), .int (l1), .int (l2), .int (l3)] κ n lim h (eV κ n) (fX10_message κ a0 l1 l2 l3 h) := by
  refine ct_of (by decide) (Nat.le_of_ble_eq_true rfl) ?_
  unfold fX10_message
  refine z_sub (L' := [(0, .ref (a0)), (1, .int (l1)), (2, .int (l2)), (3, .int (l3))]) [0, 1, 2, 3] rfl ?_
  refine z_or (fun k_a0 => ?_)
  refine z_aload_n dX10_message_0 rfl 0 rfl ?_
  refine z_getR (kd := 50) dX10_message_1 fl_X10_27 k_a0 (fun r1 kr1 => ?_)
  refine z_iload_n dX10_message_4 rfl 1 rfl ?_
  refine z_iald dX10_message_5 kr1 (fun v2 => ?_)
  refine z_istore (L' := [(4, .int (v2)), (0, .ref (a0)), (1, .int (l1)), (2, .int (l2)), (3, .int (l3))]) dX10_message_6 (by decide) rfl ?_
  refine z_aload_n dX10_message_8 rfl 1 rfl ?_
  refine z_iconst (v := 0) dX10_message_9 (by decide) ?_
  refine z_putI dX10_message_10 fl_X10_198 (Or.inl rfl) k_a0 (fun h3 => ?_)
  refine z_aload_n dX10_message_13 rfl 1 rfl ?_
  refine z_lconst (v := 0) dX10_message_14 (by decide) ?_
  refine z_putJ dX10_message_15 fl_X10_203 (Or.inl rfl) k_a0 (fun h4 => ?_)
  refine z_aload_n dX10_message_18 rfl 1 rfl ?_
  refine z_iconst (v := 0) dX10_message_19 (by decide) ?_
  refine z_putI dX10_message_20 fl_X10_207 (Or.inl rfl) k_a0 (fun h5 => ?_)
  refine z_iload_n dX10_message_23 rfl 3 rfl ?_
  refine z_ite (fun c9 => ?_) (fun n8 => ?_)
  · refine z_tin (tgt := 68) dX10_message_24 (0) c9 (by decide) (by decide) rfl (by decide) ?_
    refine z_aload_n dX10_message_68 rfl 1 rfl ?_
    refine z_aload_n dX10_message_69 rfl 1 rfl ?_
    refine z_iload_n dX10_message_70 rfl 2 rfl ?_
    refine z_pI (as := [.ref (a0), .int (l1)]) (rn_V dX10_message_71 mf_X10_weigh in_X10_weigh lk_X10_210 ⟨by decide, by decide⟩ cl_8 rfl k_a0 rfl (Nat.le_of_ble_eq_true rfl)) (tX10_weigh _ _ _ _ _ _) cz_X10_weigh (c00 _) (fun v6 => ?_)
    refine z_putI dX10_message_74 fl_X10_207 (Or.inl rfl) k_a0 (fun h7 => ?_)
    refine z_goto (tgt := 303) dX10_message_77 (by decide) ?_
    exact z_vret dX10_message_303 rfl (en0 _ _ _ _) rfl
  refine z_ite (fun c12 => ?_) (fun n11 => ?_)
  · refine z_tin (tgt := 80) dX10_message_24 (1) c12 (by decide) (by decide) rfl (by decide) ?_
    refine z_aload_n dX10_message_80 rfl 1 rfl ?_
    refine z_iload_n dX10_message_81 rfl 2 rfl ?_
    refine z_iload_n dX10_message_82 rfl 4 rfl ?_
    refine z_cV (as := [.ref (a0), .int (l1), .int (l3)]) (rn_V dX10_message_83 mf_X10_take in_X10_take lk_X10_213 ⟨by decide, by decide⟩ cl_8 rfl k_a0 rfl (Nat.le_of_ble_eq_true rfl)) (tX10_take _ _ _ _ _ _ _) cz_X10_take (c00 _) (fun h10 => ?_)
    refine z_goto (tgt := 303) dX10_message_86 (by decide) ?_
    exact z_vret dX10_message_303 rfl (en0 _ _ _ _) rfl
  refine z_ite (fun c20 => ?_) (fun n19 => ?_)
  · refine z_tin (tgt := 89) dX10_message_24 (2) c20 (by decide) (by decide) rfl (by decide) ?_
    refine z_aload_n dX10_message_89 rfl 1 rfl ?_
    refine z_iload dX10_message_90 0 rfl ?_
    refine z_iconst (v := 4) dX10_message_92 (by decide) ?_
    refine z_icmp_ge (tgt := 100) dX10_message_93 (by first | decide | omega) (fun _ => ?_) (fun _ => ?_)
    · skip
      refine z_iconst (v := 0) dX10_message_100 (by decide) ?_
      refine z_sub [1, 2, 0] rfl ?_
      exact zX10_message_b101 _ _ _ a0 l1 v2 (0 : Int32) a0 k_a0 k_a0 h5
    · skip
      refine z_iconst (v := 3) dX10_message_96 (by decide) ?_
      refine z_goto (tgt := 101) dX10_message_97 (by decide) ?_
      refine z_sub [1, 2, 0] rfl ?_
      exact zX10_message_b101 _ _ _ a0 l1 v2 (3 : Int32) a0 k_a0 k_a0 h5
  refine z_ite (fun c30 => ?_) (fun n29 => ?_)
  · refine z_tin (tgt := 135) dX10_message_24 (3) c30 (by decide) (by decide) rfl (by decide) ?_
    refine z_aload_n dX10_message_135 rfl 1 rfl ?_
    refine z_iload dX10_message_136 0 rfl ?_
    refine z_pI (as := [.int (v2)]) (rn_S dX10_message_138 mf_X10_isCrate in_X10_isCrate lk_X10_195 ⟨by decide, by decide⟩ rfl (Nat.le_of_ble_eq_true rfl)) (tX10_isCrate _ _ _ _ _) cz_X10_isCrate (c00 _) (fun v21 => ?_)
    refine z_if_eq (tgt := 148) dX10_message_141 (by first | decide | omega) (fun _ => ?_) (fun _ => ?_)
    · skip
      refine z_bipush (v := 12) dX10_message_148 (by decide) ?_
      refine z_sub [1, 2, 0] rfl ?_
      exact zX10_message_b150 _ _ _ a0 l1 v2 (12 : Int32) a0 k_a0 k_a0 h5
    · skip
      refine z_iconst (v := 0) dX10_message_144 (by decide) ?_
      refine z_goto (tgt := 150) dX10_message_145 (by decide) ?_
      refine z_sub [1, 2, 0] rfl ?_
      exact zX10_message_b150 _ _ _ a0 l1 v2 (0 : Int32) a0 k_a0 k_a0 h5
  refine z_ite (fun c35 => ?_) (fun n34 => ?_)
  · refine z_tin (tgt := 184) dX10_message_24 (4) c35 (by decide) (by decide) rfl (by decide) ?_
    refine z_aload_n dX10_message_184 rfl 1 rfl ?_
    refine z_aload_n dX10_message_185 rfl 1 rfl ?_
    refine z_getR (kd := 50) dX10_message_186 fl_X10_33 k_a0 (fun r31 kr31 => ?_)
    refine z_iload_n dX10_message_189 rfl 2 rfl ?_
    refine z_iald dX10_message_190 kr31 (fun v32 => ?_)
    refine z_putI dX10_message_191 fl_X10_207 (Or.inl rfl) k_a0 (fun h33 => ?_)
    refine z_goto (tgt := 303) dX10_message_194 (by decide) ?_
    exact z_vret dX10_message_303 rfl (en0 _ _ _ _) rfl
  refine z_ite (fun c46 => ?_) (fun n45 => ?_)
  · refine z_tin (tgt := 197) dX10_message_24 (5) c46 (by decide) (by decide) rfl (by decide) ?_
    refine z_aload_n dX10_message_197 rfl 1 rfl ?_
    refine z_iload dX10_message_198 0 rfl ?_
    refine z_pI (as := [.int (v2)]) (rn_S dX10_message_200 mf_X10_isCrate in_X10_isCrate lk_X10_195 ⟨by decide, by decide⟩ rfl (Nat.le_of_ble_eq_true rfl)) (tX10_isCrate _ _ _ _ _) cz_X10_isCrate (c00 _) (fun v36 => ?_)
    refine z_if_eq (tgt := 210) dX10_message_203 (by first | decide | omega) (fun _ => ?_) (fun _ => ?_)
    · skip
      refine z_iconst (v := 3) dX10_message_210 (by decide) ?_
      refine z_putI dX10_message_211 fl_X10_198 (Or.inl rfl) k_a0 (fun h37 => ?_)
      refine z_aload_n dX10_message_214 rfl 1 rfl ?_
      refine z_aload_n dX10_message_215 rfl 1 rfl ?_
      refine z_getR (kd := 50) dX10_message_216 fl_X10_36 k_a0 (fun r38 kr38 => ?_)
      refine z_iload_n dX10_message_219 rfl 2 rfl ?_
      refine z_iald dX10_message_220 kr38 (fun v39 => ?_)
      refine z_putI dX10_message_221 fl_X10_207 (Or.inl rfl) k_a0 (fun h40 => ?_)
      refine z_goto (tgt := 303) dX10_message_224 (by decide) ?_
      exact z_vret dX10_message_303 rfl (en0 _ _ _ _) rfl
    · skip
      refine z_iconst (v := 0) dX10_message_206 (by decide) ?_
      refine z_goto (tgt := 211) dX10_message_207 (by decide) ?_
      refine z_putI dX10_message_211 fl_X10_198 (Or.inl rfl) k_a0 (fun h41 => ?_)
      refine z_aload_n dX10_message_214 rfl 1 rfl ?_
      refine z_aload_n dX10_message_215 rfl 1 rfl ?_
      refine z_getR (kd := 50) dX10_message_216 fl_X10_36 k_a0 (fun r42 kr42 => ?_)
      refine z_iload_n dX10_message_219 rfl 2 rfl ?_
      refine z_iald dX10_message_220 kr42 (fun v43 => ?_)
      refine z_putI dX10_message_221 fl_X10_207 (Or.inl rfl) k_a0 (fun h44 => ?_)
      refine z_goto (tgt := 303) dX10_message_224 (by decide) ?_
      exact z_vret dX10_message_303 rfl (en0 _ _ _ _) rfl
  refine z_ite (fun c53 => ?_) (fun n52 => ?_)
  · refine z_tin (tgt := 227) dX10_message_24 (6) c53 (by decide) (by decide) rfl (by decide) ?_
    refine z_aload_n dX10_message_227 rfl 1 rfl ?_
    refine z_aload_n dX10_message_228 rfl 1 rfl ?_
    refine z_getR (kd := 50) dX10_message_229 fl_X10_33 k_a0 (fun r47 kr47 => ?_)
    refine z_iload_n dX10_message_232 rfl 2 rfl ?_
    refine z_iald dX10_message_233 kr47 (fun v48 => ?_)
    refine z_putI dX10_message_234 fl_X10_207 (Or.inl rfl) k_a0 (fun h49 => ?_)
    refine z_aload_n dX10_message_237 rfl 1 rfl ?_
    refine z_getR (kd := 50) dX10_message_238 fl_X10_33 k_a0 (fun r50 kr50 => ?_)
    refine z_iload_n dX10_message_241 rfl 2 rfl ?_
    refine z_iload_n dX10_message_242 rfl 4 rfl ?_
    refine z_iast dX10_message_243 kr50 (fun h51 => ?_)
    refine z_goto (tgt := 303) dX10_message_244 (by decide) ?_
    exact z_vret dX10_message_303 rfl (en0 _ _ _ _) rfl
  refine z_tdef (tgt := 247) dX10_message_24 [0, 1, 2, 3, 4, 5, 6] (List.forall_mem_cons.mpr ⟨n8, List.forall_mem_cons.mpr ⟨n11, List.forall_mem_cons.mpr ⟨n19, List.forall_mem_cons.mpr ⟨n29, List.forall_mem_cons.mpr ⟨n34, List.forall_mem_cons.mpr ⟨n45, List.forall_mem_cons.mpr ⟨n52, fun _ h => absurd h List.not_mem_nil⟩⟩⟩⟩⟩⟩⟩) (by decide +kernel) (by decide) ?_
  refine z_aload_n dX10_message_247 rfl 1 rfl ?_
  refine z_iload_n dX10_message_248 rfl 3 rfl ?_
  refine z_bipush (v := 7) dX10_message_249 (by decide) ?_
  refine z_icmp_ne (tgt := 265) dX10_message_251 (by first | decide | omega) (fun _ => ?_) (fun _ => ?_)
  · skip
    refine z_iload dX10_message_265 0 rfl ?_
    refine z_iconst (v := 5) dX10_message_267 (by decide) ?_
    refine z_icmp_ne (tgt := 275) dX10_message_268 (by first | decide | omega) (fun _ => ?_) (fun _ => ?_)
    · skip
      refine z_sub [1, 2, 4] rfl ?_
      exact zX10_message_b275 _ _ _ a0 l1 l3 a0 k_a0 k_a0 h5
    · skip
      refine z_sub [1, 2, 4] rfl ?_
      exact zX10_message_b271 _ _ _ a0 l1 l3 a0 k_a0 k_a0 h5
  · skip
    refine z_iload dX10_message_254 0 rfl ?_
    refine z_pI (as := [.int (v2)]) (rn_S dX10_message_256 mf_X10_isCrate in_X10_isCrate lk_X10_195 ⟨by decide, by decide⟩ rfl (Nat.le_of_ble_eq_true rfl)) (tX10_isCrate _ _ _ _ _) cz_X10_isCrate (c00 _) (fun v60 => ?_)
    refine z_if_eq (tgt := 275) dX10_message_259 (by first | decide | omega) (fun _ => ?_) (fun _ => ?_)
    · skip
      refine z_sub [1, 2, 4] rfl ?_
      exact zX10_message_b275 _ _ _ a0 l1 l3 a0 k_a0 k_a0 h5
    · skip
      refine z_goto (tgt := 271) dX10_message_262 (by decide) ?_
      refine z_sub [1, 2, 4] rfl ?_
      exact zX10_message_b271 _ _ _ a0 l1 l3 a0 k_a0 k_a0 h5
def fX10_isRoutine (κ : Kd) (a0 : Nat) (l1 : Int32) (h : Hp) : Option (Int32) :=
  if (κ a0).1 = 9 then (
  (fX10_in κ l1.toInt64 (0 : Int64) (((g_I h a0 14) - (1 : Int32)).toInt64) h).bind fun v1 =>
  if v1 = 0 ∨ v1 = 1 then some (v1) else none) else none
set_option maxHeartbeats 4000000 in
set_option maxRecDepth 100000 in
theorem tX10_isRoutine (κ : Kd) (n lim : Nat) (h : Hp) (a0 : Nat) (l1 : Int32) : Ct_ mX10_isRoutine [.ref (a0), .int (l1)] κ n lim h (pI κ n h) (fX10_isRoutine κ a0 l1 h) := by
  refine ct_of (by decide) (Nat.le_of_ble_eq_true rfl) ?_
  unfold fX10_isRoutine
  refine z_sub (L' := [(0, .ref (a0)), (1, .int (l1))]) [0, 1] rfl ?_
  refine z_or (fun k_a0 => ?_)
  refine z_iload_n dX10_isRoutine_0 rfl 1 rfl ?_
  refine z_i2l dX10_isRoutine_1 ?_
  refine z_lconst (v := 0) dX10_isRoutine_2 (by decide) ?_
  refine z_aload_n dX10_isRoutine_3 rfl 0 rfl ?_
  refine z_getI dX10_isRoutine_4 fl_X10_217 k_a0 ?_
  refine z_iconst (v := 1) dX10_isRoutine_7 (by decide) ?_
  refine z_isub dX10_isRoutine_8 ?_
  refine z_i2l dX10_isRoutine_9 ?_
  refine z_pI (as := [.long (l1.toInt64), .long ((0 : Int64)), .long (((g_I h a0 14) - (1 : Int32)).toInt64)]) (rn_S dX10_isRoutine_10 mf_X10_in in_X10_in lk_X10_139 ⟨by decide, by decide⟩ rfl (Nat.le_of_ble_eq_true rfl)) (tX10_in _ _ _ _ _ _ _) cz_X10_in (c00 _) (fun v1 => ?_)
  exact z_or (fun hz => z_zret dX10_isRoutine_13 rfl (nb_ hz) (en0 _ _ _ _) rfl)
def fX10_routine (κ : Kd) (a0 : Nat) (l1 : Int32) (h : Hp) : Option (Int32 × Hp) :=
  if (κ a0).1 = 9 then (
  (fX10_in κ l1.toInt64 (1 : Int64) (6 : Int64) h).bind fun v1 =>
  if v1 = 0 then (
    some ((-1000000 : Int32), h)
  ) else (
    if (g_I h a0 14) = (12 : Int32) then (
      some ((-1000001 : Int32), h)
    ) else (
      to_ κ (g_R h a0 15) 50 fun r2 =>
      w_I κ h r2 (g_I h a0 14) l1 fun h3 =>
      to_ κ (g_R h3 a0 16) 50 fun r4 =>
      w_I κ h3 r4 (g_I h3 a0 14) (0 : Int32) fun h5 =>
      to_ κ (g_R h5 a0 17) 50 fun r6 =>
      w_I κ h5 r6 (g_I h5 a0 14) (0 : Int32) fun h7 =>
      to_ κ (g_R h7 a0 18) 50 fun r8 =>
      w_I κ h7 r8 (g_I h7 a0 14) (-1 : Int32) fun h9 =>
      lt_ (s_I h9 a0 14 ((g_I h9 a0 14) + (1 : Int32))) fun h10 =>
      some ((g_I h10 a0 14) - (1 : Int32), h10)
    )
  )) else none
set_option maxHeartbeats 4000000 in
set_option maxRecDepth 100000 in
theorem tX10_routine (κ : Kd) (n lim : Nat) (h : Hp) (a0 : Nat) (l1 : Int32) : Ct_ mX10_routine [.ref (a0), .int (l1)] κ n lim h (eI κ n) (fX10_routine κ a0 l1 h) := by
  refine ct_of (by decide) (Nat.le_of_ble_eq_true rfl) ?_
  unfold fX10_routine
  refine z_sub (L' := [(0, .ref (a0)), (1, .int (l1))]) [0, 1] rfl ?_
  refine z_or (fun k_a0 => ?_)
  refine z_iload_n dX10_routine_0 rfl 1 rfl ?_
  refine z_i2l dX10_routine_1 ?_
  refine z_lconst (v := 1) dX10_routine_2 (by decide) ?_
  refine z_ldc2 dX10_routine_3 co_X10_220 ?_
  refine z_pI (as := [.long (l1.toInt64), .long ((1 : Int64)), .long ((6 : Int64))]) (rn_S dX10_routine_6 mf_X10_in in_X10_in lk_X10_139 ⟨by decide, by decide⟩ rfl (Nat.le_of_ble_eq_true rfl)) (tX10_in _ _ _ _ _ _ _) cz_X10_in (c00 _) (fun v1 => ?_)
  refine z_if_ne (tgt := 15) dX10_routine_9 (by first | decide | omega) (fun _ => ?_) (fun _ => ?_)
  · skip
    refine z_aload_n dX10_routine_15 rfl 0 rfl ?_
    refine z_getI dX10_routine_16 fl_X10_217 k_a0 ?_
    refine z_bipush (v := 12) dX10_routine_19 (by decide) ?_
    refine z_icmp_ne (tgt := 27) dX10_routine_21 (by first | decide | omega) (fun _ => ?_) (fun _ => ?_)
    · skip
      refine z_aload_n dX10_routine_27 rfl 0 rfl ?_
      refine z_getR (kd := 50) dX10_routine_28 fl_X10_42 k_a0 (fun r2 kr2 => ?_)
      refine z_aload_n dX10_routine_31 rfl 0 rfl ?_
      refine z_getI dX10_routine_32 fl_X10_217 k_a0 ?_
      refine z_iload_n dX10_routine_35 rfl 1 rfl ?_
      refine z_iast dX10_routine_36 kr2 (fun h3 => ?_)
      refine z_aload_n dX10_routine_37 rfl 0 rfl ?_
      refine z_getR (kd := 50) dX10_routine_38 fl_X10_45 k_a0 (fun r4 kr4 => ?_)
      refine z_aload_n dX10_routine_41 rfl 0 rfl ?_
      refine z_getI dX10_routine_42 fl_X10_217 k_a0 ?_
      refine z_iconst (v := 0) dX10_routine_45 (by decide) ?_
      refine z_iast dX10_routine_46 kr4 (fun h5 => ?_)
      refine z_aload_n dX10_routine_47 rfl 0 rfl ?_
      refine z_getR (kd := 50) dX10_routine_48 fl_X10_48 k_a0 (fun r6 kr6 => ?_)
      refine z_aload_n dX10_routine_51 rfl 0 rfl ?_
      refine z_getI dX10_routine_52 fl_X10_217 k_a0 ?_
      refine z_iconst (v := 0) dX10_routine_55 (by decide) ?_
      refine z_iast dX10_routine_56 kr6 (fun h7 => ?_)
      refine z_aload_n dX10_routine_57 rfl 0 rfl ?_
      refine z_getR (kd := 50) dX10_routine_58 fl_X10_51 k_a0 (fun r8 kr8 => ?_)
      refine z_aload_n dX10_routine_61 rfl 0 rfl ?_
      refine z_getI dX10_routine_62 fl_X10_217 k_a0 ?_
      refine z_iconst (v := -1) dX10_routine_65 (by decide) ?_
      refine z_iast dX10_routine_66 kr8 (fun h9 => ?_)
      refine z_aload_n dX10_routine_67 rfl 0 rfl ?_
      refine z_dup dX10_routine_68 rfl ?_
      refine z_getI dX10_routine_69 fl_X10_217 k_a0 ?_
      refine z_iconst (v := 1) dX10_routine_72 (by decide) ?_
      refine z_iadd dX10_routine_73 ?_
      refine z_putI dX10_routine_74 fl_X10_217 (Or.inl rfl) k_a0 (fun h10 => ?_)
      refine z_aload_n dX10_routine_77 rfl 0 rfl ?_
      refine z_getI dX10_routine_78 fl_X10_217 k_a0 ?_
      refine z_iconst (v := 1) dX10_routine_81 (by decide) ?_
      refine z_isub dX10_routine_82 ?_
      exact z_iret dX10_routine_83 rfl (en0 _ _ _ _) rfl
    · skip
      refine z_ldc dX10_routine_24 co_X10_187 ?_
      exact z_iret dX10_routine_26 rfl (en0 _ _ _ _) rfl
  · skip
    refine z_ldc dX10_routine_12 co_X10_163 ?_
    exact z_iret dX10_routine_14 rfl (en0 _ _ _ _) rfl
def fX10_isOp_b117 (κ : Kd) (l2 : Int32) (l3 : Int32) (l4 : Int32) (s0 : Int32) (h : Hp) : Option (Int32) :=
  (fX10_isRow κ l3 h).bind fun v7 =>
  if v7 = 0 then (
    some ((0 : Int32))
  ) else (
    if s0 = 0 then (
      if l2 = (29 : Int32) then (
        (fX10_isRow κ l4 h).bind fun v8 =>
        if v8 = 0 then (
          some ((0 : Int32))
        ) else (
          some ((1 : Int32))
        )
      ) else (
        some ((1 : Int32))
      )
    ) else (
      (fX10_isLane κ l4 h).bind fun v9 =>
      if v9 = 0 then (
        some ((0 : Int32))
      ) else (
        if l2 = (29 : Int32) then (
          (fX10_isRow κ l4 h).bind fun v10 =>
          if v10 = 0 then (
            some ((0 : Int32))
          ) else (
            some ((1 : Int32))
          )
        ) else (
          some ((1 : Int32))
        )
      )
    )
  )
set_option maxRecDepth 100000 in
theorem zX10_isOp_b117 (κ : Kd) (n lim : Nat) (l2 : Int32) (l3 : Int32) (l4 : Int32) (s0 : Int32)  (h : Hp) : ZQ mX10_isOp (pI κ n h) (κ, n, 0, lim) 117 [(2, .int (l2)), (3, .int (l3)), (4, .int (l4))] [.int (s0)] h (fX10_isOp_b117 κ l2 l3 l4 s0 h) := by
  unfold fX10_isOp_b117
  refine z_istore (L' := [(5, .int (s0)), (2, .int (l2)), (3, .int (l3)), (4, .int (l4))]) dX10_isOp_117 (by decide) rfl ?_
  refine z_iload_n dX10_isOp_119 rfl 2 rfl ?_
  refine z_pI (as := [.int (l3)]) (rn_S dX10_isOp_120 mf_X10_isRow in_X10_isRow lk_X10_156 ⟨by decide, by decide⟩ rfl (Nat.le_of_ble_eq_true rfl)) (tX10_isRow _ _ _ _ _) cz_X10_isRow (c00 _) (fun v7 => ?_)
  refine z_if_eq (tgt := 157) dX10_isOp_123 (by first | decide | omega) (fun _ => ?_) (fun _ => ?_)
  · skip
    refine z_iconst (v := 0) dX10_isOp_157 (by decide) ?_
    exact z_zret dX10_isOp_158 rfl rfl (en0 _ _ _ _) rfl
  · skip
    refine z_iload dX10_isOp_126 0 rfl ?_
    refine z_if_eq (tgt := 139) dX10_isOp_128 (by first | decide | omega) (fun _ => ?_) (fun _ => ?_)
    · skip
      refine z_iload_n dX10_isOp_139 rfl 1 rfl ?_
      refine z_bipush (v := 29) dX10_isOp_140 (by decide) ?_
      refine z_icmp_ne (tgt := 153) dX10_isOp_142 (by first | decide | omega) (fun _ => ?_) (fun _ => ?_)
      · skip
        refine z_iconst (v := 1) dX10_isOp_153 (by decide) ?_
        refine z_goto (tgt := 158) dX10_isOp_154 (by decide) ?_
        exact z_zret dX10_isOp_158 rfl rfl (en0 _ _ _ _) rfl
      · skip
        refine z_iload dX10_isOp_145 3 rfl ?_
        refine z_pI (as := [.int (l4)]) (rn_S dX10_isOp_147 mf_X10_isRow in_X10_isRow lk_X10_156 ⟨by decide, by decide⟩ rfl (Nat.le_of_ble_eq_true rfl)) (tX10_isRow _ _ _ _ _) cz_X10_isRow (c00 _) (fun v8 => ?_)
        refine z_if_eq (tgt := 157) dX10_isOp_150 (by first | decide | omega) (fun _ => ?_) (fun _ => ?_)
        · skip
          refine z_iconst (v := 0) dX10_isOp_157 (by decide) ?_
          exact z_zret dX10_isOp_158 rfl rfl (en0 _ _ _ _) rfl
        · skip
          refine z_iconst (v := 1) dX10_isOp_153 (by decide) ?_
          refine z_goto (tgt := 158) dX10_isOp_154 (by decide) ?_
          exact z_zret dX10_isOp_158 rfl rfl (en0 _ _ _ _) rfl
    · skip
      refine z_iload dX10_isOp_131 3 rfl ?_
      refine z_pI (as := [.int (l4)]) (rn_S dX10_isOp_133 mf_X10_isLane in_X10_isLane lk_X10_160 ⟨by decide, by decide⟩ rfl (Nat.le_of_ble_eq_true rfl)) (tX10_isLane _ _ _ _ _) cz_X10_isLane (c00 _) (fun v9 => ?_)
      refine z_if_eq (tgt := 157) dX10_isOp_136 (by first | decide | omega) (fun _ => ?_) (fun _ => ?_)
      · skip
        refine z_iconst (v := 0) dX10_isOp_157 (by decide) ?_
        exact z_zret dX10_isOp_158 rfl rfl (en0 _ _ _ _) rfl
      · skip
        refine z_iload_n dX10_isOp_139 rfl 1 rfl ?_
        refine z_bipush (v := 29) dX10_isOp_140 (by decide) ?_
        refine z_icmp_ne (tgt := 153) dX10_isOp_142 (by first | decide | omega) (fun _ => ?_) (fun _ => ?_)
        · skip
          refine z_iconst (v := 1) dX10_isOp_153 (by decide) ?_
          refine z_goto (tgt := 158) dX10_isOp_154 (by decide) ?_
          exact z_zret dX10_isOp_158 rfl rfl (en0 _ _ _ _) rfl
        · skip
          refine z_iload dX10_isOp_145 3 rfl ?_
          refine z_pI (as := [.int (l4)]) (rn_S dX10_isOp_147 mf_X10_isRow in_X10_isRow lk_X10_156 ⟨by decide, by decide⟩ rfl (Nat.le_of_ble_eq_true rfl)) (tX10_isRow _ _ _ _ _) cz_X10_isRow (c00 _) (fun v10 => ?_)
          refine z_if_eq (tgt := 157) dX10_isOp_150 (by first | decide | omega) (fun _ => ?_) (fun _ => ?_)
          · skip
            refine z_iconst (v := 0) dX10_isOp_157 (by decide) ?_
            exact z_zret dX10_isOp_158 rfl rfl (en0 _ _ _ _) rfl
          · skip
            refine z_iconst (v := 1) dX10_isOp_153 (by decide) ?_
            refine z_goto (tgt := 158) dX10_isOp_154 (by decide) ?_
            exact z_zret dX10_isOp_158 rfl rfl (en0 _ _ _ _) rfl
def fX10_isOp_b112 (κ : Kd) (l2 : Int32) (l3 : Int32) (l4 : Int32)  (h : Hp) : Option (Int32) :=
  fX10_isOp_b117 κ l2 l3 l4 (1 : Int32) h
set_option maxRecDepth 100000 in
theorem zX10_isOp_b112 (κ : Kd) (n lim : Nat) (l2 : Int32) (l3 : Int32) (l4 : Int32)   (h : Hp) : ZQ mX10_isOp (pI κ n h) (κ, n, 0, lim) 112 [(2, .int (l2)), (3, .int (l3)), (4, .int (l4))] [] h (fX10_isOp_b112 κ l2 l3 l4  h) := by
  unfold fX10_isOp_b112
  refine z_iconst (v := 1) dX10_isOp_112 (by decide) ?_
  refine z_goto (tgt := 117) dX10_isOp_113 (by decide) ?_
  refine z_sub [0, 1, 2] rfl ?_
  exact zX10_isOp_b117 _ _ _ l2 l3 l4 (1 : Int32)  h
def fX10_isOp_b116 (κ : Kd) (l2 : Int32) (l3 : Int32) (l4 : Int32)  (h : Hp) : Option (Int32) :=
  fX10_isOp_b117 κ l2 l3 l4 (0 : Int32) h
set_option maxRecDepth 100000 in
theorem zX10_isOp_b116 (κ : Kd) (n lim : Nat) (l2 : Int32) (l3 : Int32) (l4 : Int32)   (h : Hp) : ZQ mX10_isOp (pI κ n h) (κ, n, 0, lim) 116 [(2, .int (l2)), (3, .int (l3)), (4, .int (l4))] [] h (fX10_isOp_b116 κ l2 l3 l4  h) := by
  unfold fX10_isOp_b116
  refine z_iconst (v := 0) dX10_isOp_116 (by decide) ?_
  refine z_sub [0, 1, 2] rfl ?_
  exact zX10_isOp_b117 _ _ _ l2 l3 l4 (0 : Int32)  h
def fX10_isOp_b82 (κ : Kd) (l2 : Int32) (l3 : Int32) (l4 : Int32)  (h : Hp) : Option (Int32) :=
  if l2 = (12 : Int32) then (
    fX10_isOp_b112 κ l2 l3 l4  h
  ) else (
    if l2 = (13 : Int32) then (
      fX10_isOp_b112 κ l2 l3 l4  h
    ) else (
      if l2 = (15 : Int32) then (
        fX10_isOp_b112 κ l2 l3 l4  h
      ) else (
        if l2 ≤ (16 : Int32) then (
          fX10_isOp_b116 κ l2 l3 l4  h
        ) else (
          if (19 : Int32) ≤ l2 then (
            fX10_isOp_b116 κ l2 l3 l4  h
          ) else (
            fX10_isOp_b112 κ l2 l3 l4  h
          )
        )
      )
    )
  )
set_option maxRecDepth 100000 in
theorem zX10_isOp_b82 (κ : Kd) (n lim : Nat) (l2 : Int32) (l3 : Int32) (l4 : Int32)   (h : Hp) : ZQ mX10_isOp (pI κ n h) (κ, n, 0, lim) 82 [(2, .int (l2)), (3, .int (l3)), (4, .int (l4))] [] h (fX10_isOp_b82 κ l2 l3 l4  h) := by
  unfold fX10_isOp_b82
  refine z_iload_n dX10_isOp_82 rfl 0 rfl ?_
  refine z_bipush (v := 12) dX10_isOp_83 (by decide) ?_
  refine z_icmp_eq (tgt := 112) dX10_isOp_85 (by first | decide | omega) (fun _ => ?_) (fun _ => ?_)
  · skip
    refine z_sub [0, 1, 2] rfl ?_
    exact zX10_isOp_b112 _ _ _ l2 l3 l4   h
  · skip
    refine z_iload_n dX10_isOp_88 rfl 0 rfl ?_
    refine z_bipush (v := 13) dX10_isOp_89 (by decide) ?_
    refine z_icmp_eq (tgt := 112) dX10_isOp_91 (by first | decide | omega) (fun _ => ?_) (fun _ => ?_)
    · skip
      refine z_sub [0, 1, 2] rfl ?_
      exact zX10_isOp_b112 _ _ _ l2 l3 l4   h
    · skip
      refine z_iload_n dX10_isOp_94 rfl 0 rfl ?_
      refine z_bipush (v := 15) dX10_isOp_95 (by decide) ?_
      refine z_icmp_eq (tgt := 112) dX10_isOp_97 (by first | decide | omega) (fun _ => ?_) (fun _ => ?_)
      · skip
        refine z_sub [0, 1, 2] rfl ?_
        exact zX10_isOp_b112 _ _ _ l2 l3 l4   h
      · skip
        refine z_iload_n dX10_isOp_100 rfl 0 rfl ?_
        refine z_bipush (v := 16) dX10_isOp_101 (by decide) ?_
        refine z_icmp_le (tgt := 116) dX10_isOp_103 (by first | decide | omega) (fun _ => ?_) (fun _ => ?_)
        · skip
          refine z_sub [0, 1, 2] rfl ?_
          exact zX10_isOp_b116 _ _ _ l2 l3 l4   h
        · skip
          refine z_iload_n dX10_isOp_106 rfl 0 rfl ?_
          refine z_bipush (v := 19) dX10_isOp_107 (by decide) ?_
          refine z_icmp_ge (tgt := 116) dX10_isOp_109 (by first | decide | omega) (fun _ => ?_) (fun _ => ?_)
          · skip
            refine z_sub [0, 1, 2] rfl ?_
            exact zX10_isOp_b116 _ _ _ l2 l3 l4   h
          · skip
            refine z_sub [0, 1, 2] rfl ?_
            exact zX10_isOp_b112 _ _ _ l2 l3 l4   h
def fX10_isOp (κ : Kd) (a0 : Nat) (l1 : Int32) (l2 : Int32) (l3 : Int32) (l4 : Int32) (h : Hp) : Option (Int32) :=
  if (κ a0).1 = 9 then (
  (fX10_in κ l2.toInt64 (0 : Int64) (29 : Int64) h).bind fun v1 =>
  if v1 = 0 then (
    some ((0 : Int32))
  ) else (
    if l2 = (1 : Int32) then (
      to_ κ (g_R h a0 15) 50 fun r2 =>
      a_I κ h r2 l1 fun v3 =>
      (fX10_in κ l3.toInt64 (0 : Int64) ((v3 - (1 : Int32)).toInt64) h).bind fun v4 =>
      if v4 = 0 ∨ v4 = 1 then some (v4) else none
    ) else (
      if l2 = (2 : Int32) then (
        to_ κ (g_R h a0 15) 50 fun r15 =>
        a_I κ h r15 l1 fun v16 =>
        (fX10_in κ l3.toInt64 (0 : Int64) ((v16 - (1 : Int32)).toInt64) h).bind fun v17 =>
        if v17 = 0 ∨ v17 = 1 then some (v17) else none
      ) else (
        if l2 = (10 : Int32) then (
          (fX10_in κ l3.toInt64 (0 : Int64) (29 : Int64) h).bind fun v5 =>
          if v5 = 0 ∨ v5 = 1 then some (v5) else none
        ) else (
          if l2 = (11 : Int32) then (
            (fX10_in κ l3.toInt64 (0 : Int64) (29 : Int64) h).bind fun v14 =>
            if v14 = 0 ∨ v14 = 1 then some (v14) else none
          ) else (
            (fX10_in κ l2.toInt64 (12 : Int64) (18 : Int64) h).bind fun v6 =>
            if v6 = 0 then (
              if l2 = (29 : Int32) then (
                fX10_isOp_b82 κ l2 l3 l4  h
              ) else (
                if l2 = (19 : Int32) then (
                  (fX10_in κ l3.toInt64 (0 : Int64) (11 : Int64) h).bind fun v12 =>
                  if v12 = 0 then (
                    some ((0 : Int32))
                  ) else (
                    (fX10_in κ l4.toInt64 (0 : Int64) (6 : Int64) h).bind fun v13 =>
                    if v13 = 0 then (
                      some ((0 : Int32))
                    ) else (
                      some ((1 : Int32))
                    )
                  )
                ) else (
                  if l2 = (23 : Int32) then (
                    (fX10_in κ l3.toInt64 (0 : Int64) (8 : Int64) h).bind fun v11 =>
                    if v11 = 0 then (
                      some ((0 : Int32))
                    ) else (
                      some ((1 : Int32))
                    )
                  ) else (
                    some ((1 : Int32))
                  )
                )
              )
            ) else (
              fX10_isOp_b82 κ l2 l3 l4  h
            )
          )
        )
      )
    )
  )) else none
set_option maxHeartbeats 4000000 in
set_option maxRecDepth 100000 in
theorem tX10_isOp (κ : Kd) (n lim : Nat) (h : Hp) (a0 : Nat) (l1 : Int32) (l2 : Int32) (l3 : Int32) (l4 : Int32) : Ct_ mX10_isOp [.ref (a0), .int (l1), .int (l2), .int (l3), .int (l4)] κ n lim h (pI κ n h) (fX10_isOp κ a0 l1 l2 l3 l4 h) := by
  refine ct_of (by decide) (Nat.le_of_ble_eq_true rfl) ?_
  unfold fX10_isOp
  refine z_sub (L' := [(0, .ref (a0)), (1, .int (l1)), (2, .int (l2)), (3, .int (l3)), (4, .int (l4))]) [0, 1, 2, 3, 4] rfl ?_
  refine z_or (fun k_a0 => ?_)
  refine z_iload_n dX10_isOp_0 rfl 2 rfl ?_
  refine z_i2l dX10_isOp_1 ?_
  refine z_lconst (v := 0) dX10_isOp_2 (by decide) ?_
  refine z_ldc2 dX10_isOp_3 co_X10_222 ?_
  refine z_pI (as := [.long (l2.toInt64), .long ((0 : Int64)), .long ((29 : Int64))]) (rn_S dX10_isOp_6 mf_X10_in in_X10_in lk_X10_139 ⟨by decide, by decide⟩ rfl (Nat.le_of_ble_eq_true rfl)) (tX10_in _ _ _ _ _ _ _) cz_X10_in (c00 _) (fun v1 => ?_)
  refine z_if_ne (tgt := 14) dX10_isOp_9 (by first | decide | omega) (fun _ => ?_) (fun _ => ?_)
  · skip
    refine z_iload_n dX10_isOp_14 rfl 2 rfl ?_
    refine z_iconst (v := 1) dX10_isOp_15 (by decide) ?_
    refine z_icmp_eq (tgt := 24) dX10_isOp_16 (by first | decide | omega) (fun _ => ?_) (fun _ => ?_)
    · skip
      refine z_iload_n dX10_isOp_24 rfl 3 rfl ?_
      refine z_i2l dX10_isOp_25 ?_
      refine z_lconst (v := 0) dX10_isOp_26 (by decide) ?_
      refine z_aload_n dX10_isOp_27 rfl 0 rfl ?_
      refine z_getR (kd := 50) dX10_isOp_28 fl_X10_42 k_a0 (fun r2 kr2 => ?_)
      refine z_iload_n dX10_isOp_31 rfl 1 rfl ?_
      refine z_iald dX10_isOp_32 kr2 (fun v3 => ?_)
      refine z_iconst (v := 1) dX10_isOp_33 (by decide) ?_
      refine z_isub dX10_isOp_34 ?_
      refine z_i2l dX10_isOp_35 ?_
      refine z_pI (as := [.long (l3.toInt64), .long ((0 : Int64)), .long ((v3 - (1 : Int32)).toInt64)]) (rn_S dX10_isOp_36 mf_X10_in in_X10_in lk_X10_139 ⟨by decide, by decide⟩ rfl (Nat.le_of_ble_eq_true rfl)) (tX10_in _ _ _ _ _ _ _) cz_X10_in (c00 _) (fun v4 => ?_)
      exact z_or (fun hz => z_zret dX10_isOp_39 rfl (nb_ hz) (en0 _ _ _ _) rfl)
    · skip
      refine z_iload_n dX10_isOp_19 rfl 2 rfl ?_
      refine z_iconst (v := 2) dX10_isOp_20 (by decide) ?_
      refine z_icmp_ne (tgt := 40) dX10_isOp_21 (by first | decide | omega) (fun _ => ?_) (fun _ => ?_)
      · skip
        refine z_iload_n dX10_isOp_40 rfl 2 rfl ?_
        refine z_bipush (v := 10) dX10_isOp_41 (by decide) ?_
        refine z_icmp_eq (tgt := 52) dX10_isOp_43 (by first | decide | omega) (fun _ => ?_) (fun _ => ?_)
        · skip
          refine z_iload_n dX10_isOp_52 rfl 3 rfl ?_
          refine z_i2l dX10_isOp_53 ?_
          refine z_lconst (v := 0) dX10_isOp_54 (by decide) ?_
          refine z_ldc2 dX10_isOp_55 co_X10_222 ?_
          refine z_pI (as := [.long (l3.toInt64), .long ((0 : Int64)), .long ((29 : Int64))]) (rn_S dX10_isOp_58 mf_X10_in in_X10_in lk_X10_139 ⟨by decide, by decide⟩ rfl (Nat.le_of_ble_eq_true rfl)) (tX10_in _ _ _ _ _ _ _) cz_X10_in (c00 _) (fun v5 => ?_)
          exact z_or (fun hz => z_zret dX10_isOp_61 rfl (nb_ hz) (en0 _ _ _ _) rfl)
        · skip
          refine z_iload_n dX10_isOp_46 rfl 2 rfl ?_
          refine z_bipush (v := 11) dX10_isOp_47 (by decide) ?_
          refine z_icmp_ne (tgt := 62) dX10_isOp_49 (by first | decide | omega) (fun _ => ?_) (fun _ => ?_)
          · skip
            refine z_iload_n dX10_isOp_62 rfl 2 rfl ?_
            refine z_i2l dX10_isOp_63 ?_
            refine z_ldc2 dX10_isOp_64 co_X10_224 ?_
            refine z_ldc2 dX10_isOp_67 co_X10_226 ?_
            refine z_pI (as := [.long (l2.toInt64), .long ((12 : Int64)), .long ((18 : Int64))]) (rn_S dX10_isOp_70 mf_X10_in in_X10_in lk_X10_139 ⟨by decide, by decide⟩ rfl (Nat.le_of_ble_eq_true rfl)) (tX10_in _ _ _ _ _ _ _) cz_X10_in (c00 _) (fun v6 => ?_)
            refine z_if_ne (tgt := 82) dX10_isOp_73 (by first | decide | omega) (fun _ => ?_) (fun _ => ?_)
            · skip
              refine z_sub [2, 3, 4] rfl ?_
              exact zX10_isOp_b82 _ _ _ l2 l3 l4   h
            · skip
              refine z_iload_n dX10_isOp_76 rfl 2 rfl ?_
              refine z_bipush (v := 29) dX10_isOp_77 (by decide) ?_
              refine z_icmp_ne (tgt := 159) dX10_isOp_79 (by first | decide | omega) (fun _ => ?_) (fun _ => ?_)
              · skip
                refine z_iload_n dX10_isOp_159 rfl 2 rfl ?_
                refine z_bipush (v := 19) dX10_isOp_160 (by decide) ?_
                refine z_icmp_ne (tgt := 198) dX10_isOp_162 (by first | decide | omega) (fun _ => ?_) (fun _ => ?_)
                · skip
                  refine z_iload_n dX10_isOp_198 rfl 2 rfl ?_
                  refine z_bipush (v := 23) dX10_isOp_199 (by decide) ?_
                  refine z_icmp_ne (tgt := 216) dX10_isOp_201 (by first | decide | omega) (fun _ => ?_) (fun _ => ?_)
                  · skip
                    refine z_iconst (v := 1) dX10_isOp_216 (by decide) ?_
                    refine z_goto (tgt := 221) dX10_isOp_217 (by decide) ?_
                    exact z_zret dX10_isOp_221 rfl rfl (en0 _ _ _ _) rfl
                  · skip
                    refine z_iload_n dX10_isOp_204 rfl 3 rfl ?_
                    refine z_i2l dX10_isOp_205 ?_
                    refine z_lconst (v := 0) dX10_isOp_206 (by decide) ?_
                    refine z_ldc2 dX10_isOp_207 co_X10_228 ?_
                    refine z_pI (as := [.long (l3.toInt64), .long ((0 : Int64)), .long ((8 : Int64))]) (rn_S dX10_isOp_210 mf_X10_in in_X10_in lk_X10_139 ⟨by decide, by decide⟩ rfl (Nat.le_of_ble_eq_true rfl)) (tX10_in _ _ _ _ _ _ _) cz_X10_in (c00 _) (fun v11 => ?_)
                    refine z_if_eq (tgt := 220) dX10_isOp_213 (by first | decide | omega) (fun _ => ?_) (fun _ => ?_)
                    · skip
                      refine z_iconst (v := 0) dX10_isOp_220 (by decide) ?_
                      exact z_zret dX10_isOp_221 rfl rfl (en0 _ _ _ _) rfl
                    · skip
                      refine z_iconst (v := 1) dX10_isOp_216 (by decide) ?_
                      refine z_goto (tgt := 221) dX10_isOp_217 (by decide) ?_
                      exact z_zret dX10_isOp_221 rfl rfl (en0 _ _ _ _) rfl
                · skip
                  refine z_iload_n dX10_isOp_165 rfl 3 rfl ?_
                  refine z_i2l dX10_isOp_166 ?_
                  refine z_lconst (v := 0) dX10_isOp_167 (by decide) ?_
                  refine z_ldc2 dX10_isOp_168 co_X10_137 ?_
                  refine z_pI (as := [.long (l3.toInt64), .long ((0 : Int64)), .long ((11 : Int64))]) (rn_S dX10_isOp_171 mf_X10_in in_X10_in lk_X10_139 ⟨by decide, by decide⟩ rfl (Nat.le_of_ble_eq_true rfl)) (tX10_in _ _ _ _ _ _ _) cz_X10_in (c00 _) (fun v12 => ?_)
                  refine z_if_eq (tgt := 194) dX10_isOp_174 (by first | decide | omega) (fun _ => ?_) (fun _ => ?_)
                  · skip
                    refine z_iconst (v := 0) dX10_isOp_194 (by decide) ?_
                    refine z_goto (tgt := 221) dX10_isOp_195 (by decide) ?_
                    exact z_zret dX10_isOp_221 rfl rfl (en0 _ _ _ _) rfl
                  · skip
                    refine z_iload dX10_isOp_177 4 rfl ?_
                    refine z_i2l dX10_isOp_179 ?_
                    refine z_lconst (v := 0) dX10_isOp_180 (by decide) ?_
                    refine z_ldc2 dX10_isOp_181 co_X10_220 ?_
                    refine z_pI (as := [.long (l4.toInt64), .long ((0 : Int64)), .long ((6 : Int64))]) (rn_S dX10_isOp_184 mf_X10_in in_X10_in lk_X10_139 ⟨by decide, by decide⟩ rfl (Nat.le_of_ble_eq_true rfl)) (tX10_in _ _ _ _ _ _ _) cz_X10_in (c00 _) (fun v13 => ?_)
                    refine z_if_eq (tgt := 194) dX10_isOp_187 (by first | decide | omega) (fun _ => ?_) (fun _ => ?_)
                    · skip
                      refine z_iconst (v := 0) dX10_isOp_194 (by decide) ?_
                      refine z_goto (tgt := 221) dX10_isOp_195 (by decide) ?_
                      exact z_zret dX10_isOp_221 rfl rfl (en0 _ _ _ _) rfl
                    · skip
                      refine z_iconst (v := 1) dX10_isOp_190 (by decide) ?_
                      refine z_goto (tgt := 221) dX10_isOp_191 (by decide) ?_
                      exact z_zret dX10_isOp_221 rfl rfl (en0 _ _ _ _) rfl
              · skip
                refine z_sub [2, 3, 4] rfl ?_
                exact zX10_isOp_b82 _ _ _ l2 l3 l4   h
          · skip
            refine z_iload_n dX10_isOp_52 rfl 3 rfl ?_
            refine z_i2l dX10_isOp_53 ?_
            refine z_lconst (v := 0) dX10_isOp_54 (by decide) ?_
            refine z_ldc2 dX10_isOp_55 co_X10_222 ?_
            refine z_pI (as := [.long (l3.toInt64), .long ((0 : Int64)), .long ((29 : Int64))]) (rn_S dX10_isOp_58 mf_X10_in in_X10_in lk_X10_139 ⟨by decide, by decide⟩ rfl (Nat.le_of_ble_eq_true rfl)) (tX10_in _ _ _ _ _ _ _) cz_X10_in (c00 _) (fun v14 => ?_)
            exact z_or (fun hz => z_zret dX10_isOp_61 rfl (nb_ hz) (en0 _ _ _ _) rfl)
      · skip
        refine z_iload_n dX10_isOp_24 rfl 3 rfl ?_
        refine z_i2l dX10_isOp_25 ?_
        refine z_lconst (v := 0) dX10_isOp_26 (by decide) ?_
        refine z_aload_n dX10_isOp_27 rfl 0 rfl ?_
        refine z_getR (kd := 50) dX10_isOp_28 fl_X10_42 k_a0 (fun r15 kr15 => ?_)
        refine z_iload_n dX10_isOp_31 rfl 1 rfl ?_
        refine z_iald dX10_isOp_32 kr15 (fun v16 => ?_)
        refine z_iconst (v := 1) dX10_isOp_33 (by decide) ?_
        refine z_isub dX10_isOp_34 ?_
        refine z_i2l dX10_isOp_35 ?_
        refine z_pI (as := [.long (l3.toInt64), .long ((0 : Int64)), .long ((v16 - (1 : Int32)).toInt64)]) (rn_S dX10_isOp_36 mf_X10_in in_X10_in lk_X10_139 ⟨by decide, by decide⟩ rfl (Nat.le_of_ble_eq_true rfl)) (tX10_in _ _ _ _ _ _ _) cz_X10_in (c00 _) (fun v17 => ?_)
        exact z_or (fun hz => z_zret dX10_isOp_39 rfl (nb_ hz) (en0 _ _ _ _) rfl)
  · skip
    refine z_iconst (v := 0) dX10_isOp_12 (by decide) ?_
    exact z_zret dX10_isOp_13 rfl rfl (en0 _ _ _ _) rfl
