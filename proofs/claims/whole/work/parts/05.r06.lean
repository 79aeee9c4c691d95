def fX10_leave (κ : Kd) (a0 : Nat) (h : Hp) : Option (Hp) :=
  if (κ a0).1 = 9 then (
  to_ κ (g_R h a0 29) 53 fun r1 =>
  a_I κ h r1 ((g_I h a0 23) - (1 : Int32)) fun v2 =>
  if v2 = 0 then (
    (fX10_comes κ a0 (10 : Int32) (0 : Int64) h).bind fun h22 =>
    some h22
  ) else (
    to_ κ (g_R h a0 30) 50 fun r3 =>
    a_I κ h r3 ((g_I h a0 23) - (1 : Int32)) fun v4 =>
    if v4 = 0 then (
      to_ κ (g_R h a0 31) 51 fun r19 =>
      a_J κ h r19 ((g_I h a0 23) - (1 : Int32)) fun v20 =>
      (fX10_endsWith κ a0 v20 h).bind fun h21 =>
      some h21
    ) else (
      to_ κ (g_R h a0 30) 50 fun r5 =>
      a_I κ h r5 ((g_I h a0 23) - (1 : Int32)) fun v6 =>
      lt_ (s_I h a0 34 v6) fun h7 =>
      to_ κ (g_R h7 a0 31) 51 fun r8 =>
      a_J κ h7 r8 ((g_I h a0 23) - (1 : Int32)) fun v9 =>
      lt_ (s_J h7 a0 35 v9) fun h10 =>
      to_ κ (g_R h10 a0 32) 50 fun r11 =>
      a_I κ h10 r11 ((g_I h a0 23) - (1 : Int32)) fun v12 =>
      lt_ (s_I h10 a0 36 v12) fun h13 =>
      to_ κ (g_R h13 a0 33) 50 fun r14 =>
      a_I κ h13 r14 ((g_I h a0 23) - (1 : Int32)) fun v15 =>
      lt_ (s_I h13 a0 37 v15) fun h16 =>
      lt_ (s_I h16 a0 23 ((g_I h16 a0 23) - (1 : Int32))) fun h17 =>
      (fX10_goesUp κ a0 h17).bind fun h18 =>
      some h18
    )
  )) else none
set_option maxHeartbeats 4000000 in
set_option maxRecDepth 100000 in
theorem tX10_leave (κ : Kd) (n lim : Nat) (h : Hp) (a0 : Nat) : Ct_ mX10_leave [.ref (a0)] κ n lim h (eV κ n) (fX10_leave κ a0 h) := by
  refine ct_of (by decide) (Nat.le_of_ble_eq_true rfl) ?_
  unfold fX10_leave
  refine z_sub (L' := [(0, .ref (a0))]) [0] rfl ?_
  refine z_or (fun k_a0 => ?_)
  refine z_aload_n dX10_leave_0 rfl 0 rfl ?_
  refine z_getI dX10_leave_1 fl_X10_239 k_a0 ?_
  refine z_iconst (v := 1) dX10_leave_4 (by decide) ?_
  refine z_isub dX10_leave_5 ?_
  refine z_istore_n (L' := [(1, .int ((g_I h a0 23) - (1 : Int32))), (0, .ref (a0))]) dX10_leave_6 rfl (by decide) rfl ?_
  refine z_aload_n dX10_leave_7 rfl 1 rfl ?_
  refine z_getR (kd := 53) dX10_leave_8 fl_X10_81 k_a0 (fun r1 kr1 => ?_)
  refine z_iload_n dX10_leave_11 rfl 0 rfl ?_
  refine z_zald dX10_leave_12 kr1 (fun v2 => ?_)
  refine z_if_ne (tgt := 26) dX10_leave_13 (by first | decide | omega) (fun _ => ?_) (fun _ => ?_)
  · skip
    refine z_aload_n dX10_leave_26 rfl 1 rfl ?_
    refine z_getR (kd := 50) dX10_leave_27 fl_X10_85 k_a0 (fun r3 kr3 => ?_)
    refine z_iload_n dX10_leave_30 rfl 0 rfl ?_
    refine z_iald dX10_leave_31 kr3 (fun v4 => ?_)
    refine z_if_ne (tgt := 48) dX10_leave_32 (by first | decide | omega) (fun _ => ?_) (fun _ => ?_)
    · skip
      refine z_aload_n dX10_leave_48 rfl 1 rfl ?_
      refine z_aload_n dX10_leave_49 rfl 1 rfl ?_
      refine z_getR (kd := 50) dX10_leave_50 fl_X10_85 k_a0 (fun r5 kr5 => ?_)
      refine z_iload_n dX10_leave_53 rfl 0 rfl ?_
      refine z_iald dX10_leave_54 kr5 (fun v6 => ?_)
      refine z_putI dX10_leave_55 fl_X10_252 (Or.inl rfl) k_a0 (fun h7 => ?_)
      refine z_aload_n dX10_leave_58 rfl 1 rfl ?_
      refine z_aload_n dX10_leave_59 rfl 1 rfl ?_
      refine z_getR (kd := 51) dX10_leave_60 fl_X10_88 k_a0 (fun r8 kr8 => ?_)
      refine z_iload_n dX10_leave_63 rfl 0 rfl ?_
      refine z_lald dX10_leave_64 kr8 (fun v9 => ?_)
      refine z_putJ dX10_leave_65 fl_X10_258 (Or.inl rfl) k_a0 (fun h10 => ?_)
      refine z_aload_n dX10_leave_68 rfl 1 rfl ?_
      refine z_aload_n dX10_leave_69 rfl 1 rfl ?_
      refine z_getR (kd := 50) dX10_leave_70 fl_X10_91 k_a0 (fun r11 kr11 => ?_)
      refine z_iload_n dX10_leave_73 rfl 0 rfl ?_
      refine z_iald dX10_leave_74 kr11 (fun v12 => ?_)
      refine z_putI dX10_leave_75 fl_X10_268 (Or.inl rfl) k_a0 (fun h13 => ?_)
      refine z_aload_n dX10_leave_78 rfl 1 rfl ?_
      refine z_aload_n dX10_leave_79 rfl 1 rfl ?_
      refine z_getR (kd := 50) dX10_leave_80 fl_X10_94 k_a0 (fun r14 kr14 => ?_)
      refine z_iload_n dX10_leave_83 rfl 0 rfl ?_
      refine z_iald dX10_leave_84 kr14 (fun v15 => ?_)
      refine z_putI dX10_leave_85 fl_X10_271 (Or.inl rfl) k_a0 (fun h16 => ?_)
      refine z_aload_n dX10_leave_88 rfl 1 rfl ?_
      refine z_dup dX10_leave_89 rfl ?_
      refine z_getI dX10_leave_90 fl_X10_239 k_a0 ?_
      refine z_iconst (v := 1) dX10_leave_93 (by decide) ?_
      refine z_isub dX10_leave_94 ?_
      refine z_putI dX10_leave_95 fl_X10_239 (Or.inl rfl) k_a0 (fun h17 => ?_)
      refine z_aload_n dX10_leave_98 rfl 1 rfl ?_
      refine z_cV (as := [.ref (a0)]) (rn_V dX10_leave_99 mf_X10_goesUp in_X10_goesUp lk_X10_290 ⟨by decide, by decide⟩ cl_8 rfl k_a0 rfl (Nat.le_of_ble_eq_true rfl)) (tX10_goesUp _ _ _ _ _) cz_X10_goesUp (c00 _) (fun h18 => ?_)
      exact z_vret dX10_leave_102 rfl (en0 _ _ _ _) rfl
    · skip
      refine z_aload_n dX10_leave_35 rfl 1 rfl ?_
      refine z_aload_n dX10_leave_36 rfl 1 rfl ?_
      refine z_getR (kd := 51) dX10_leave_37 fl_X10_88 k_a0 (fun r19 kr19 => ?_)
      refine z_iload_n dX10_leave_40 rfl 0 rfl ?_
      refine z_lald dX10_leave_41 kr19 (fun v20 => ?_)
      refine z_cV (as := [.ref (a0), .long (v20)]) (rn_V dX10_leave_42 mf_X10_endsWith in_X10_endsWith lk_X10_344 ⟨by decide, by decide⟩ cl_8 rfl k_a0 rfl (Nat.le_of_ble_eq_true rfl)) (tX10_endsWith _ _ _ _ _ _) cz_X10_endsWith (c00 _) (fun h21 => ?_)
      refine z_goto (tgt := 102) dX10_leave_45 (by decide) ?_
      exact z_vret dX10_leave_102 rfl (en0 _ _ _ _) rfl
  · skip
    refine z_aload_n dX10_leave_16 rfl 1 rfl ?_
    refine z_bipush (v := 10) dX10_leave_17 (by decide) ?_
    refine z_lconst (v := 0) dX10_leave_19 (by decide) ?_
    refine z_cV (as := [.ref (a0), .int ((10 : Int32)), .long ((0 : Int64))]) (rn_V dX10_leave_20 mf_X10_comes in_X10_comes lk_X10_293 ⟨by decide, by decide⟩ cl_8 rfl k_a0 rfl (Nat.le_of_ble_eq_true rfl)) (tX10_comes _ _ _ _ _ _ _) cz_X10_comes (c00 _) (fun h22 => ?_)
    refine z_goto (tgt := 102) dX10_leave_23 (by decide) ?_
    exact z_vret dX10_leave_102 rfl (en0 _ _ _ _) rfl
def fX10_ways_b131 (κ : Kd) (a0 : Nat) (l3 : Int32) (l6 : Int32) : Nat → Int32 → Hp → Option (Hp)
  | 0, _, _ => none
  | N + 1, l8, h =>
    if l3 ≤ l8 then (
      some h
    ) else (
      to_ κ (g_R h a0 26) 51 fun r3 =>
      to_ κ (g_R h a0 27) 51 fun r4 =>
      to_ κ (g_R h a0 28) 50 fun r5 =>
      a_I κ h r5 l6 fun v6 =>
      a_J κ h r4 ((((8 : Int32) * l6) + v6) + l8) fun v7 =>
      w_J κ h r3 ((((6 : Int32) * (g_I h a0 23)) - (6 : Int32)) + l8) v7 fun h8 =>
      fX10_ways_b131 κ a0 l3 l6 N (l8 + 1) h8
    )
set_option maxRecDepth 100000 in
theorem zX10_ways_b131 (κ : Kd) (n lim : Nat) (a0 : Nat) (l3 : Int32) (l6 : Int32) (k_a0 : (κ a0).1 = 9) : ∀ (N : Nat) (l8 : Int32) (h : Hp), ZQ mX10_ways (eV κ n) (κ, n, 0, lim) 131 [(0, .ref (a0)), (3, .int (l3)), (6, .int (l6)), (8, .int (l8))] [] h (fX10_ways_b131 κ a0 l3 l6 N l8 h) := by
  intro N
  induction N with
  | zero =>
    intro l8 h
    rw [fX10_ways_b131]
    exact z_no
  | succ N ih =>
    intro l8 h
    rw [fX10_ways_b131]
    refine z_iload dX10_ways_131 3 rfl ?_
    refine z_iload_n dX10_ways_133 rfl 1 rfl ?_
    refine z_icmp_ge (tgt := 182) dX10_ways_134 (by first | decide | omega) (fun _ => ?_) (fun _ => ?_)
    · skip
      refine z_goto (tgt := 228) dX10_ways_182 (by decide) ?_
      exact z_vret dX10_ways_228 rfl (en0 _ _ _ _) rfl
    · skip
      refine z_aload_n dX10_ways_137 rfl 0 rfl ?_
      refine z_getR (kd := 51) dX10_ways_138 fl_X10_72 k_a0 (fun r3 kr3 => ?_)
      refine z_bipush (v := 6) dX10_ways_141 (by decide) ?_
      refine z_aload_n dX10_ways_143 rfl 0 rfl ?_
      refine z_getI dX10_ways_144 fl_X10_239 k_a0 ?_
      refine z_imul dX10_ways_147 ?_
      refine z_bipush (v := 6) dX10_ways_148 (by decide) ?_
      refine z_isub dX10_ways_150 ?_
      refine z_iload dX10_ways_151 3 rfl ?_
      refine z_iadd dX10_ways_153 ?_
      refine z_aload_n dX10_ways_154 rfl 0 rfl ?_
      refine z_getR (kd := 51) dX10_ways_155 fl_X10_75 k_a0 (fun r4 kr4 => ?_)
      refine z_bipush (v := 8) dX10_ways_158 (by decide) ?_
      refine z_iload dX10_ways_160 2 rfl ?_
      refine z_imul dX10_ways_162 ?_
      refine z_aload_n dX10_ways_163 rfl 0 rfl ?_
      refine z_getR (kd := 50) dX10_ways_164 fl_X10_78 k_a0 (fun r5 kr5 => ?_)
      refine z_iload dX10_ways_167 2 rfl ?_
      refine z_iald dX10_ways_169 kr5 (fun v6 => ?_)
      refine z_iadd dX10_ways_170 ?_
      refine z_iload dX10_ways_171 3 rfl ?_
      refine z_iadd dX10_ways_173 ?_
      refine z_lald dX10_ways_174 kr4 (fun v7 => ?_)
      refine z_last dX10_ways_175 kr3 (fun h8 => ?_)
      refine z_iinc (j := 3) (v := l8 + 1) (L' := [(8, .int (l8 + 1)), (0, .ref (a0)), (3, .int (l3)), (6, .int (l6))]) dX10_ways_176 rfl rfl (by decide) rfl ?_
      refine z_goto (tgt := 131) dX10_ways_179 (by decide) ?_
      refine z_sub [1, 2, 3, 0] rfl ?_
      exact ih ((l8 + 1)) h8
def fX10_ways_b108 (κ : Kd) (a0 : Nat) (l2 : Int32) (l3 : Int32) (l6 : Int32) (s0 : Int32) (h : Hp) : Option (Hp) :=
  if s0 ≤ 0 then (
    (fX10_enter κ a0 l2 h).bind fun h2 =>
    fX10_ways_b131 κ a0 l3 l6 fu_ (0 : Int32) h2
  ) else (
    (fX10_comes κ a0 s0 (0 : Int64) h).bind fun h9 =>
    some h9
  )
set_option maxRecDepth 100000 in
theorem zX10_ways_b108 (κ : Kd) (n lim : Nat) (a0 : Nat) (l2 : Int32) (l3 : Int32) (l6 : Int32) (s0 : Int32) (k_a0 : (κ a0).1 = 9) (h : Hp) : ZQ mX10_ways (eV κ n) (κ, n, 0, lim) 108 [(0, .ref (a0)), (2, .int (l2)), (3, .int (l3)), (6, .int (l6))] [.int (s0)] h (fX10_ways_b108 κ a0 l2 l3 l6 s0 h) := by
  unfold fX10_ways_b108
  refine z_istore (L' := [(7, .int (s0)), (0, .ref (a0)), (2, .int (l2)), (3, .int (l3)), (6, .int (l6))]) dX10_ways_108 (by decide) rfl ?_
  refine z_iload dX10_ways_110 0 rfl ?_
  refine z_if_le (tgt := 123) dX10_ways_112 (by first | decide | omega) (fun _ => ?_) (fun _ => ?_)
  · skip
    refine z_aload_n dX10_ways_123 rfl 1 rfl ?_
    refine z_iload_n dX10_ways_124 rfl 2 rfl ?_
    refine z_cV (as := [.ref (a0), .int (l2)]) (rn_V dX10_ways_125 mf_X10_enter in_X10_enter lk_X10_341 ⟨by decide, by decide⟩ cl_8 rfl k_a0 rfl (Nat.le_of_ble_eq_true rfl)) (tX10_enter _ _ _ _ _ _) cz_X10_enter (c00 _) (fun h2 => ?_)
    refine z_iconst (v := 0) dX10_ways_128 (by decide) ?_
    refine z_istore (L' := [(8, .int ((0 : Int32))), (7, .int (s0)), (0, .ref (a0)), (2, .int (l2)), (3, .int (l3)), (6, .int (l6))]) dX10_ways_129 (by decide) rfl ?_
    refine z_sub [2, 4, 5, 0] rfl ?_
    exact zX10_ways_b131 _ _ _ a0 l3 l6 k_a0 fu_ (0 : Int32) h2
  · skip
    refine z_aload_n dX10_ways_115 rfl 1 rfl ?_
    refine z_iload dX10_ways_116 0 rfl ?_
    refine z_lconst (v := 0) dX10_ways_118 (by decide) ?_
    refine z_cV (as := [.ref (a0), .int (s0), .long ((0 : Int64))]) (rn_V dX10_ways_119 mf_X10_comes in_X10_comes lk_X10_293 ⟨by decide, by decide⟩ cl_8 rfl k_a0 rfl (Nat.le_of_ble_eq_true rfl)) (tX10_comes _ _ _ _ _ _ _) cz_X10_comes (c00 _) (fun h9 => ?_)
    exact z_vret dX10_ways_122 rfl (en0 _ _ _ _) rfl
def fX10_ways_b74 (κ : Kd) (a0 : Nat) (l2 : Int32) (l3 : Int32) (l6 : Int32)  (h : Hp) : Option (Hp) :=
  fX10_ways_b108 κ a0 l2 l3 l6 (1 : Int32) h
set_option maxRecDepth 100000 in
theorem zX10_ways_b74 (κ : Kd) (n lim : Nat) (a0 : Nat) (l2 : Int32) (l3 : Int32) (l6 : Int32)  (k_a0 : (κ a0).1 = 9) (h : Hp) : ZQ mX10_ways (eV κ n) (κ, n, 0, lim) 74 [(0, .ref (a0)), (2, .int (l2)), (3, .int (l3)), (6, .int (l6))] [] h (fX10_ways_b74 κ a0 l2 l3 l6  h) := by
  unfold fX10_ways_b74
  refine z_iconst (v := 1) dX10_ways_74 (by decide) ?_
  refine z_goto (tgt := 108) dX10_ways_75 (by decide) ?_
  refine z_sub [0, 1, 2, 3] rfl ?_
  exact zX10_ways_b108 _ _ _ a0 l2 l3 l6 (1 : Int32) k_a0 h
def fX10_ways_b57 (κ : Kd) (a0 : Nat) (l2 : Int32) (l3 : Int32) (l6 : Int32)  (h : Hp) : Option (Hp) :=
  (fX10_isRoutine κ a0 l2 h).bind fun v1 =>
  if v1 = 0 then (
    fX10_ways_b74 κ a0 l2 l3 l6  h
  ) else (
    to_ κ (g_R h a0 16) 50 fun r10 =>
    a_I κ h r10 l2 fun v11 =>
    if v11 = 0 then (
      fX10_ways_b74 κ a0 l2 l3 l6  h
    ) else (
      to_ κ (g_R h a0 15) 50 fun r12 =>
      a_I κ h r12 l2 fun v13 =>
      if l3 ≤ v13 then (
        if (g_I h a0 23) = (12 : Int32) then (
          fX10_ways_b108 κ a0 l2 l3 l6 (9 : Int32) h
        ) else (
          fX10_ways_b108 κ a0 l2 l3 l6 (0 : Int32) h
        )
      ) else (
        fX10_ways_b108 κ a0 l2 l3 l6 (7 : Int32) h
      )
    )
  )
set_option maxRecDepth 100000 in
theorem zX10_ways_b57 (κ : Kd) (n lim : Nat) (a0 : Nat) (l2 : Int32) (l3 : Int32) (l6 : Int32)  (k_a0 : (κ a0).1 = 9) (h : Hp) : ZQ mX10_ways (eV κ n) (κ, n, 0, lim) 57 [(0, .ref (a0)), (2, .int (l2)), (3, .int (l3)), (6, .int (l6))] [] h (fX10_ways_b57 κ a0 l2 l3 l6  h) := by
  unfold fX10_ways_b57
  refine z_aload_n dX10_ways_57 rfl 0 rfl ?_
  refine z_iload_n dX10_ways_58 rfl 1 rfl ?_
  refine z_pI (as := [.ref (a0), .int (l2)]) (rn_V dX10_ways_59 mf_X10_isRoutine in_X10_isRoutine lk_X10_230 ⟨by decide, by decide⟩ cl_8 rfl k_a0 rfl (Nat.le_of_ble_eq_true rfl)) (tX10_isRoutine _ _ _ _ _ _) cz_X10_isRoutine (c00 _) (fun v1 => ?_)
  refine z_if_eq (tgt := 74) dX10_ways_62 (by first | decide | omega) (fun _ => ?_) (fun _ => ?_)
  · skip
    refine z_sub [0, 1, 2, 3] rfl ?_
    exact zX10_ways_b74 _ _ _ a0 l2 l3 l6  k_a0 h
  · skip
    refine z_aload_n dX10_ways_65 rfl 0 rfl ?_
    refine z_getR (kd := 50) dX10_ways_66 fl_X10_45 k_a0 (fun r10 kr10 => ?_)
    refine z_iload_n dX10_ways_69 rfl 1 rfl ?_
    refine z_iald dX10_ways_70 kr10 (fun v11 => ?_)
    refine z_if_ne (tgt := 78) dX10_ways_71 (by first | decide | omega) (fun _ => ?_) (fun _ => ?_)
    · skip
      refine z_iload_n dX10_ways_78 rfl 2 rfl ?_
      refine z_aload_n dX10_ways_79 rfl 0 rfl ?_
      refine z_getR (kd := 50) dX10_ways_80 fl_X10_42 k_a0 (fun r12 kr12 => ?_)
      refine z_iload_n dX10_ways_83 rfl 1 rfl ?_
      refine z_iald dX10_ways_84 kr12 (fun v13 => ?_)
      refine z_icmp_le (tgt := 93) dX10_ways_85 (by first | decide | omega) (fun _ => ?_) (fun _ => ?_)
      · skip
        refine z_aload_n dX10_ways_93 rfl 0 rfl ?_
        refine z_getI dX10_ways_94 fl_X10_239 k_a0 ?_
        refine z_bipush (v := 12) dX10_ways_97 (by decide) ?_
        refine z_icmp_ne (tgt := 107) dX10_ways_99 (by first | decide | omega) (fun _ => ?_) (fun _ => ?_)
        · skip
          refine z_iconst (v := 0) dX10_ways_107 (by decide) ?_
          refine z_sub [0, 1, 2, 3] rfl ?_
          exact zX10_ways_b108 _ _ _ a0 l2 l3 l6 (0 : Int32) k_a0 h
        · skip
          refine z_bipush (v := 9) dX10_ways_102 (by decide) ?_
          refine z_goto (tgt := 108) dX10_ways_104 (by decide) ?_
          refine z_sub [0, 1, 2, 3] rfl ?_
          exact zX10_ways_b108 _ _ _ a0 l2 l3 l6 (9 : Int32) k_a0 h
      · skip
        refine z_bipush (v := 7) dX10_ways_88 (by decide) ?_
        refine z_goto (tgt := 108) dX10_ways_90 (by decide) ?_
        refine z_sub [0, 1, 2, 3] rfl ?_
        exact zX10_ways_b108 _ _ _ a0 l2 l3 l6 (7 : Int32) k_a0 h
    · skip
      refine z_sub [0, 1, 2, 3] rfl ?_
      exact zX10_ways_b74 _ _ _ a0 l2 l3 l6  k_a0 h
def fX10_ways (κ : Kd) (a0 : Nat) (l1 : Int32) (l2 : Int32) (l3 : Int32) (l4 : Int64) (h : Hp) : Option (Hp) :=
  if (κ a0).1 = 9 then (
  if l1 = (19 : Int32) then (
    if l3 = 0 then (
      to_ κ (g_R h a0 28) 50 fun r14 =>
      a_I κ h r14 ((g_I h a0 23) - (1 : Int32)) fun v15 =>
      if v15 = (8 : Int32) then (
        fX10_ways_b108 κ a0 l2 l3 ((g_I h a0 23) - (1 : Int32)) (8 : Int32) h
      ) else (
        fX10_ways_b57 κ a0 l2 l3 ((g_I h a0 23) - (1 : Int32))  h
      )
    ) else (
      fX10_ways_b57 κ a0 l2 l3 ((g_I h a0 23) - (1 : Int32))  h
    )
  ) else
  if l1 = (20 : Int32) then (
    (fX10_mayBeginLast κ a0 h).bind fun v18 =>
    if v18 = 0 then (
      (fX10_endsWith κ a0 l4 h).bind fun h19 =>
      some h19
    ) else (
      (fX10_beginLast κ a0 (0 : Int32) l4 (-1 : Int32) (-1 : Int32) h).bind fun h20 =>
      some h20
    )
  ) else
  if l1 = (21 : Int32) then (
    (fX10_comes κ a0 (11 : Int32) l4 h).bind fun h23 =>
    some h23
  ) else
  (
    (fX10_leave κ a0 h).bind fun h26 =>
    some h26
  )) else none
set_option maxHeartbeats 4000000 in
set_option maxRecDepth 100000 in
theorem tX10_ways (κ : Kd) (n lim : Nat) (h : Hp) (a0 : Nat) (l1 : Int32) (l2 : Int32) (l3 : Int32) (l4 : Int64) : Ct_ mX10_ways [.ref (a0), .int (l1), .int (l2), .int (l3), .long (l4)] κ n lim h (eV κ n) (fX10_ways κ a0 l1 l2 l3 l4 h) := by
  refine ct_of (by decide) (Nat.le_of_ble_eq_true rfl) ?_
  unfold fX10_ways
  refine z_sub (L' := [(0, .ref (a0)), (1, .int (l1)), (2, .int (l2)), (3, .int (l3)), (4, .long (l4))]) [0, 1, 2, 3, 4] rfl ?_
  refine z_or (fun k_a0 => ?_)
  refine z_aload_n dX10_ways_0 rfl 0 rfl ?_
  refine z_getI dX10_ways_1 fl_X10_239 k_a0 ?_
  refine z_iconst (v := 1) dX10_ways_4 (by decide) ?_
  refine z_isub dX10_ways_5 ?_
  refine z_istore (L' := [(6, .int ((g_I h a0 23) - (1 : Int32))), (0, .ref (a0)), (1, .int (l1)), (2, .int (l2)), (3, .int (l3)), (4, .long (l4))]) dX10_ways_6 (by decide) rfl ?_
  refine z_iload_n dX10_ways_8 rfl 2 rfl ?_
  refine z_ite (fun c17 => ?_) (fun n16 => ?_)
  · refine z_tin (tgt := 36) dX10_ways_9 (19) c17 (by decide) (by decide) rfl (by decide) ?_
    refine z_iload_n dX10_ways_36 rfl 4 rfl ?_
    refine z_if_ne (tgt := 57) dX10_ways_37 (by first | decide | omega) (fun _ => ?_) (fun _ => ?_)
    · skip
      refine z_sub [1, 3, 4, 0] rfl ?_
      exact zX10_ways_b57 _ _ _ a0 l2 l3 ((g_I h a0 23) - (1 : Int32))  k_a0 h
    · skip
      refine z_aload_n dX10_ways_40 rfl 1 rfl ?_
      refine z_getR (kd := 50) dX10_ways_41 fl_X10_78 k_a0 (fun r14 kr14 => ?_)
      refine z_iload dX10_ways_44 0 rfl ?_
      refine z_iald dX10_ways_46 kr14 (fun v15 => ?_)
      refine z_bipush (v := 8) dX10_ways_47 (by decide) ?_
      refine z_icmp_ne (tgt := 57) dX10_ways_49 (by first | decide | omega) (fun _ => ?_) (fun _ => ?_)
      · skip
        refine z_sub [1, 3, 4, 0] rfl ?_
        exact zX10_ways_b57 _ _ _ a0 l2 l3 ((g_I h a0 23) - (1 : Int32))  k_a0 h
      · skip
        refine z_bipush (v := 8) dX10_ways_52 (by decide) ?_
        refine z_goto (tgt := 108) dX10_ways_54 (by decide) ?_
        refine z_sub [1, 3, 4, 0] rfl ?_
        exact zX10_ways_b108 _ _ _ a0 l2 l3 ((g_I h a0 23) - (1 : Int32)) (8 : Int32) k_a0 h
  refine z_ite (fun c22 => ?_) (fun n21 => ?_)
  · refine z_tin (tgt := 185) dX10_ways_9 (20) c22 (by decide) (by decide) rfl (by decide) ?_
    refine z_aload_n dX10_ways_185 rfl 1 rfl ?_
    refine z_pI (as := [.ref (a0)]) (rn_V dX10_ways_186 mf_X10_mayBeginLast in_X10_mayBeginLast lk_X10_265 ⟨by decide, by decide⟩ cl_8 rfl k_a0 rfl (Nat.le_of_ble_eq_true rfl)) (tX10_mayBeginLast _ _ _ _ _) cz_X10_mayBeginLast (c00 _) (fun v18 => ?_)
    refine z_if_eq (tgt := 204) dX10_ways_189 (by first | decide | omega) (fun _ => ?_) (fun _ => ?_)
    · skip
      refine z_aload_n dX10_ways_204 rfl 1 rfl ?_
      refine z_lload dX10_ways_205 5 rfl ?_
      refine z_cV (as := [.ref (a0), .long (l4)]) (rn_V dX10_ways_207 mf_X10_endsWith in_X10_endsWith lk_X10_344 ⟨by decide, by decide⟩ cl_8 rfl k_a0 rfl (Nat.le_of_ble_eq_true rfl)) (tX10_endsWith _ _ _ _ _ _) cz_X10_endsWith (c00 _) (fun h19 => ?_)
      refine z_goto (tgt := 228) dX10_ways_210 (by decide) ?_
      exact z_vret dX10_ways_228 rfl (en0 _ _ _ _) rfl
    · skip
      refine z_aload_n dX10_ways_192 rfl 1 rfl ?_
      refine z_iconst (v := 0) dX10_ways_193 (by decide) ?_
      refine z_lload dX10_ways_194 5 rfl ?_
      refine z_iconst (v := -1) dX10_ways_196 (by decide) ?_
      refine z_iconst (v := -1) dX10_ways_197 (by decide) ?_
      refine z_cV (as := [.ref (a0), .int ((0 : Int32)), .long (l4), .int ((-1 : Int32)), .int ((-1 : Int32))]) (rn_V dX10_ways_198 mf_X10_beginLast in_X10_beginLast lk_X10_274 ⟨by decide, by decide⟩ cl_8 rfl k_a0 rfl (Nat.le_of_ble_eq_true rfl)) (tX10_beginLast _ _ _ _ _ _ _ _ _) cz_X10_beginLast (c00 _) (fun h20 => ?_)
      refine z_goto (tgt := 228) dX10_ways_201 (by decide) ?_
      exact z_vret dX10_ways_228 rfl (en0 _ _ _ _) rfl
  refine z_ite (fun c25 => ?_) (fun n24 => ?_)
  · refine z_tin (tgt := 213) dX10_ways_9 (21) c25 (by decide) (by decide) rfl (by decide) ?_
    refine z_aload_n dX10_ways_213 rfl 1 rfl ?_
    refine z_bipush (v := 11) dX10_ways_214 (by decide) ?_
    refine z_lload dX10_ways_216 5 rfl ?_
    refine z_cV (as := [.ref (a0), .int ((11 : Int32)), .long (l4)]) (rn_V dX10_ways_218 mf_X10_comes in_X10_comes lk_X10_293 ⟨by decide, by decide⟩ cl_8 rfl k_a0 rfl (Nat.le_of_ble_eq_true rfl)) (tX10_comes _ _ _ _ _ _ _) cz_X10_comes (c00 _) (fun h23 => ?_)
    refine z_goto (tgt := 228) dX10_ways_221 (by decide) ?_
    exact z_vret dX10_ways_228 rfl (en0 _ _ _ _) rfl
  refine z_tdef (tgt := 224) dX10_ways_9 [19, 20, 21] (List.forall_mem_cons.mpr ⟨n16, List.forall_mem_cons.mpr ⟨n21, List.forall_mem_cons.mpr ⟨n24, fun _ h => absurd h List.not_mem_nil⟩⟩⟩) (by decide +kernel) (by decide) ?_
  refine z_aload_n dX10_ways_224 rfl 1 rfl ?_
  refine z_cV (as := [.ref (a0)]) (rn_V dX10_ways_225 mf_X10_leave in_X10_leave lk_X10_347 ⟨by decide, by decide⟩ cl_8 rfl k_a0 rfl (Nat.le_of_ble_eq_true rfl)) (tX10_leave _ _ _ _ _) cz_X10_leave (c00 _) (fun h26 => ?_)
  exact z_vret dX10_ways_228 rfl (en0 _ _ _ _) rfl
def fX10_stand_b136 (κ : Kd) (a0 : Nat) (l1 : Int64) (l3 : Int64) (l5 : Int64) (l7 : Int32)  (h : Hp) : Option (Hp) :=
  if l7 ≤ 0 then (
    to_ κ (g_R h a0 10) 50 fun r2 =>
    w_I κ h r2 (((4 : Int32) * l1.toInt32) + l3.toInt32) l5.toInt32 fun h3 =>
    (fX10_goesOn κ a0 h3).bind fun h4 =>
    some h4
  ) else (
    (fX10_comes κ a0 l7 (0 : Int64) h).bind fun h5 =>
    some h5
  )
set_option maxRecDepth 100000 in
theorem zX10_stand_b136 (κ : Kd) (n lim : Nat) (a0 : Nat) (l1 : Int64) (l3 : Int64) (l5 : Int64) (l7 : Int32)  (k_a0 : (κ a0).1 = 9) (h : Hp) : ZQ mX10_stand (eV κ n) (κ, n, 0, lim) 136 [(0, .ref (a0)), (1, .long (l1)), (3, .long (l3)), (5, .long (l5)), (7, .int (l7))] [] h (fX10_stand_b136 κ a0 l1 l3 l5 l7  h) := by
  unfold fX10_stand_b136
  refine z_iload dX10_stand_136 4 rfl ?_
  refine z_if_le (tgt := 149) dX10_stand_138 (by first | decide | omega) (fun _ => ?_) (fun _ => ?_)
  · skip
    refine z_aload_n dX10_stand_149 rfl 0 rfl ?_
    refine z_getR (kd := 50) dX10_stand_150 fl_X10_39 k_a0 (fun r2 kr2 => ?_)
    refine z_iconst (v := 4) dX10_stand_153 (by decide) ?_
    refine z_lload_n dX10_stand_154 rfl 1 rfl ?_
    refine z_l2i dX10_stand_155 ?_
    refine z_imul dX10_stand_156 ?_
    refine z_lload_n dX10_stand_157 rfl 2 rfl ?_
    refine z_l2i dX10_stand_158 ?_
    refine z_iadd dX10_stand_159 ?_
    refine z_lload dX10_stand_160 3 rfl ?_
    refine z_l2i dX10_stand_162 ?_
    refine z_iast dX10_stand_163 kr2 (fun h3 => ?_)
    refine z_aload_n dX10_stand_164 rfl 0 rfl ?_
    refine z_cV (as := [.ref (a0)]) (rn_V dX10_stand_165 mf_X10_goesOn in_X10_goesOn lk_X10_328 ⟨by decide, by decide⟩ cl_8 rfl k_a0 rfl (Nat.le_of_ble_eq_true rfl)) (tX10_goesOn _ _ _ _ _) cz_X10_goesOn (c00 _) (fun h4 => ?_)
    exact z_vret dX10_stand_168 rfl (en0 _ _ _ _) rfl
  · skip
    refine z_aload_n dX10_stand_141 rfl 0 rfl ?_
    refine z_iload dX10_stand_142 4 rfl ?_
    refine z_lconst (v := 0) dX10_stand_144 (by decide) ?_
    refine z_cV (as := [.ref (a0), .int (l7), .long ((0 : Int64))]) (rn_V dX10_stand_145 mf_X10_comes in_X10_comes lk_X10_293 ⟨by decide, by decide⟩ cl_8 rfl k_a0 rfl (Nat.le_of_ble_eq_true rfl)) (tX10_comes _ _ _ _ _ _ _) cz_X10_comes (c00 _) (fun h5 => ?_)
    exact z_vret dX10_stand_148 rfl (en0 _ _ _ _) rfl
def fX10_stand_b134 (κ : Kd) (a0 : Nat) (l1 : Int64) (l3 : Int64) (l5 : Int64) (s0 : Int32) (h : Hp) : Option (Hp) :=
  fX10_stand_b136 κ a0 l1 l3 l5 s0  h
set_option maxRecDepth 100000 in
theorem zX10_stand_b134 (κ : Kd) (n lim : Nat) (a0 : Nat) (l1 : Int64) (l3 : Int64) (l5 : Int64) (s0 : Int32) (k_a0 : (κ a0).1 = 9) (h : Hp) : ZQ mX10_stand (eV κ n) (κ, n, 0, lim) 134 [(0, .ref (a0)), (1, .long (l1)), (3, .long (l3)), (5, .long (l5))] [.int (s0)] h (fX10_stand_b134 κ a0 l1 l3 l5 s0 h) := by
  unfold fX10_stand_b134
  refine z_istore (L' := [(7, .int (s0)), (0, .ref (a0)), (1, .long (l1)), (3, .long (l3)), (5, .long (l5))]) dX10_stand_134 (by decide) rfl ?_
  refine z_sub [1, 2, 3, 4, 0] rfl ?_
  exact zX10_stand_b136 _ _ _ a0 l1 l3 l5 s0  k_a0 h
def fX10_stand_b122 (κ : Kd) (a0 : Nat) (l1 : Int64) (l3 : Int64) (l5 : Int64) (s0 : Int32) (h : Hp) : Option (Hp) :=
  if s0 = 0 then (
    fX10_stand_b134 κ a0 l1 l3 l5 (4 : Int32) h
  ) else (
    fX10_stand_b134 κ a0 l1 l3 l5 (0 : Int32) h
  )
set_option maxRecDepth 100000 in
theorem zX10_stand_b122 (κ : Kd) (n lim : Nat) (a0 : Nat) (l1 : Int64) (l3 : Int64) (l5 : Int64) (s0 : Int32) (k_a0 : (κ a0).1 = 9) (h : Hp) : ZQ mX10_stand (eV κ n) (κ, n, 0, lim) 122 [(0, .ref (a0)), (1, .long (l1)), (3, .long (l3)), (5, .long (l5))] [.int (s0)] h (fX10_stand_b122 κ a0 l1 l3 l5 s0 h) := by
  unfold fX10_stand_b122
  refine z_istore (L' := [(10, .int (s0)), (0, .ref (a0)), (1, .long (l1)), (3, .long (l3)), (5, .long (l5))]) dX10_stand_122 (by decide) rfl ?_
  refine z_iload dX10_stand_124 0 rfl ?_
  refine z_if_eq (tgt := 133) dX10_stand_126 (by first | decide | omega) (fun _ => ?_) (fun _ => ?_)
  · skip
    refine z_iconst (v := 4) dX10_stand_133 (by decide) ?_
    refine z_sub [1, 2, 3, 4] rfl ?_
    exact zX10_stand_b134 _ _ _ a0 l1 l3 l5 (4 : Int32) k_a0 h
  · skip
    refine z_iconst (v := 0) dX10_stand_129 (by decide) ?_
    refine z_goto (tgt := 134) dX10_stand_130 (by decide) ?_
    refine z_sub [1, 2, 3, 4] rfl ?_
    exact zX10_stand_b134 _ _ _ a0 l1 l3 l5 (0 : Int32) k_a0 h
def fX10_stand_b117 (κ : Kd) (a0 : Nat) (l1 : Int64) (l3 : Int64) (l5 : Int64)  (h : Hp) : Option (Hp) :=
  fX10_stand_b122 κ a0 l1 l3 l5 (1 : Int32) h
set_option maxRecDepth 100000 in
theorem zX10_stand_b117 (κ : Kd) (n lim : Nat) (a0 : Nat) (l1 : Int64) (l3 : Int64) (l5 : Int64)  (k_a0 : (κ a0).1 = 9) (h : Hp) : ZQ mX10_stand (eV κ n) (κ, n, 0, lim) 117 [(0, .ref (a0)), (1, .long (l1)), (3, .long (l3)), (5, .long (l5))] [] h (fX10_stand_b117 κ a0 l1 l3 l5  h) := by
  unfold fX10_stand_b117
  refine z_iconst (v := 1) dX10_stand_117 (by decide) ?_
  refine z_goto (tgt := 122) dX10_stand_118 (by decide) ?_
  refine z_sub [0, 1, 2, 3] rfl ?_
  exact zX10_stand_b122 _ _ _ a0 l1 l3 l5 (1 : Int32) k_a0 h
def fX10_stand_b121 (κ : Kd) (a0 : Nat) (l1 : Int64) (l3 : Int64) (l5 : Int64)  (h : Hp) : Option (Hp) :=
  fX10_stand_b122 κ a0 l1 l3 l5 (0 : Int32) h
set_option maxRecDepth 100000 in
theorem zX10_stand_b121 (κ : Kd) (n lim : Nat) (a0 : Nat) (l1 : Int64) (l3 : Int64) (l5 : Int64)  (k_a0 : (κ a0).1 = 9) (h : Hp) : ZQ mX10_stand (eV κ n) (κ, n, 0, lim) 121 [(0, .ref (a0)), (1, .long (l1)), (3, .long (l3)), (5, .long (l5))] [] h (fX10_stand_b121 κ a0 l1 l3 l5  h) := by
  unfold fX10_stand_b121
  refine z_iconst (v := 0) dX10_stand_121 (by decide) ?_
  refine z_sub [0, 1, 2, 3] rfl ?_
  exact zX10_stand_b122 _ _ _ a0 l1 l3 l5 (0 : Int32) k_a0 h
def fX10_stand_b56 (κ : Kd) (a0 : Nat) (l1 : Int64) (l3 : Int64) (l5 : Int64) (s0 : Int32) (h : Hp) : Option (Hp) :=
  if s0 = 0 then (
    if l5 < (0 : Int64) then (
      fX10_stand_b136 κ a0 l1 l3 l5 s0  h
    ) else (
      to_ κ (g_R h a0 6) 50 fun r6 =>
      a_I κ h r6 l1.toInt32 fun v7 =>
      to_ κ (g_R h a0 6) 50 fun r8 =>
      a_I κ h r8 l5.toInt32 fun v9 =>
      if v7 = 0 then (
        fX10_stand_b117 κ a0 l1 l3 l5  h
      ) else (
        if (4 : Int32) ≤ v7 then (
          if v9 ≤ (3 : Int32) then (
            fX10_stand_b121 κ a0 l1 l3 l5  h
          ) else (
            fX10_stand_b117 κ a0 l1 l3 l5  h
          )
        ) else (
          (fX10_isCrate κ v9 h).bind fun v10 =>
          if v10 = 0 then (
            fX10_stand_b121 κ a0 l1 l3 l5  h
          ) else (
            fX10_stand_b117 κ a0 l1 l3 l5  h
          )
        )
      )
    )
  ) else (
    fX10_stand_b136 κ a0 l1 l3 l5 s0  h
  )
set_option maxRecDepth 100000 in
theorem zX10_stand_b56 (κ : Kd) (n lim : Nat) (a0 : Nat) (l1 : Int64) (l3 : Int64) (l5 : Int64) (s0 : Int32) (k_a0 : (κ a0).1 = 9) (h : Hp) : ZQ mX10_stand (eV κ n) (κ, n, 0, lim) 56 [(0, .ref (a0)), (1, .long (l1)), (3, .long (l3)), (5, .long (l5))] [.int (s0)] h (fX10_stand_b56 κ a0 l1 l3 l5 s0 h) := by
  unfold fX10_stand_b56
  refine z_istore (L' := [(7, .int (s0)), (0, .ref (a0)), (1, .long (l1)), (3, .long (l3)), (5, .long (l5))]) dX10_stand_56 (by decide) rfl ?_
  refine z_iload dX10_stand_58 0 rfl ?_
  refine z_if_ne (tgt := 136) dX10_stand_60 (by first | decide | omega) (fun _ => ?_) (fun _ => ?_)
  · skip
    refine z_sub [1, 2, 3, 4, 0] rfl ?_
    exact zX10_stand_b136 _ _ _ a0 l1 l3 l5 s0  k_a0 h
  · skip
    refine z_lload dX10_stand_63 4 rfl ?_
    refine z_lconst (v := 0) dX10_stand_65 (by decide) ?_
    refine z_lc_lt (tgt := 136) dX10_stand_66 dX10_stand_67 (by first | decide | omega) (fun _ => ?_) (fun _ => ?_)
    · skip
      refine z_sub [1, 2, 3, 4, 0] rfl ?_
      exact zX10_stand_b136 _ _ _ a0 l1 l3 l5 s0  k_a0 h
    · skip
      refine z_aload_n dX10_stand_70 rfl 1 rfl ?_
      refine z_getR (kd := 50) dX10_stand_71 fl_X10_27 k_a0 (fun r6 kr6 => ?_)
      refine z_lload_n dX10_stand_74 rfl 2 rfl ?_
      refine z_l2i dX10_stand_75 ?_
      refine z_iald dX10_stand_76 kr6 (fun v7 => ?_)
      refine z_istore (L' := [(8, .int (v7)), (7, .int (s0)), (0, .ref (a0)), (1, .long (l1)), (3, .long (l3)), (5, .long (l5))]) dX10_stand_77 (by decide) rfl ?_
      refine z_aload_n dX10_stand_79 rfl 2 rfl ?_
      refine z_getR (kd := 50) dX10_stand_80 fl_X10_27 k_a0 (fun r8 kr8 => ?_)
      refine z_lload dX10_stand_83 5 rfl ?_
      refine z_l2i dX10_stand_85 ?_
      refine z_iald dX10_stand_86 kr8 (fun v9 => ?_)
      refine z_istore (L' := [(9, .int (v9)), (8, .int (v7)), (7, .int (s0)), (0, .ref (a0)), (1, .long (l1)), (3, .long (l3)), (5, .long (l5))]) dX10_stand_87 (by decide) rfl ?_
      refine z_iload dX10_stand_89 1 rfl ?_
      refine z_if_eq (tgt := 117) dX10_stand_91 (by first | decide | omega) (fun _ => ?_) (fun _ => ?_)
      · skip
        refine z_sub [3, 4, 5, 6] rfl ?_
        exact zX10_stand_b117 _ _ _ a0 l1 l3 l5  k_a0 h
      · skip
        refine z_iload dX10_stand_94 1 rfl ?_
        refine z_iconst (v := 4) dX10_stand_96 (by decide) ?_
        refine z_icmp_ge (tgt := 111) dX10_stand_97 (by first | decide | omega) (fun _ => ?_) (fun _ => ?_)
        · skip
          refine z_iload dX10_stand_111 0 rfl ?_
          refine z_iconst (v := 3) dX10_stand_113 (by decide) ?_
          refine z_icmp_le (tgt := 121) dX10_stand_114 (by first | decide | omega) (fun _ => ?_) (fun _ => ?_)
          · skip
            refine z_sub [3, 4, 5, 6] rfl ?_
            exact zX10_stand_b121 _ _ _ a0 l1 l3 l5  k_a0 h
          · skip
            refine z_sub [3, 4, 5, 6] rfl ?_
            exact zX10_stand_b117 _ _ _ a0 l1 l3 l5  k_a0 h
        · skip
          refine z_iload dX10_stand_100 0 rfl ?_
          refine z_pI (as := [.int (v9)]) (rn_S dX10_stand_102 mf_X10_isCrate in_X10_isCrate lk_X10_195 ⟨by decide, by decide⟩ rfl (Nat.le_of_ble_eq_true rfl)) (tX10_isCrate _ _ _ _ _) cz_X10_isCrate (c00 _) (fun v10 => ?_)
          refine z_if_eq (tgt := 121) dX10_stand_105 (by first | decide | omega) (fun _ => ?_) (fun _ => ?_)
          · skip
            refine z_sub [3, 4, 5, 6] rfl ?_
            exact zX10_stand_b121 _ _ _ a0 l1 l3 l5  k_a0 h
          · skip
            refine z_goto (tgt := 117) dX10_stand_108 (by decide) ?_
            refine z_sub [3, 4, 5, 6] rfl ?_
            exact zX10_stand_b117 _ _ _ a0 l1 l3 l5  k_a0 h
def fX10_stand_b26 (κ : Kd) (a0 : Nat) (l1 : Int64) (l3 : Int64) (l5 : Int64)  (h : Hp) : Option (Hp) :=
  fX10_stand_b56 κ a0 l1 l3 l5 (1 : Int32) h
set_option maxRecDepth 100000 in
theorem zX10_stand_b26 (κ : Kd) (n lim : Nat) (a0 : Nat) (l1 : Int64) (l3 : Int64) (l5 : Int64)  (k_a0 : (κ a0).1 = 9) (h : Hp) : ZQ mX10_stand (eV κ n) (κ, n, 0, lim) 26 [(0, .ref (a0)), (1, .long (l1)), (3, .long (l3)), (5, .long (l5))] [] h (fX10_stand_b26 κ a0 l1 l3 l5  h) := by
  unfold fX10_stand_b26
  refine z_iconst (v := 1) dX10_stand_26 (by decide) ?_
  refine z_goto (tgt := 56) dX10_stand_27 (by decide) ?_
  refine z_sub [0, 1, 2, 3] rfl ?_
  exact zX10_stand_b56 _ _ _ a0 l1 l3 l5 (1 : Int32) k_a0 h
def fX10_stand_b30 (κ : Kd) (a0 : Nat) (l1 : Int64) (l3 : Int64) (l5 : Int64)  (h : Hp) : Option (Hp) :=
  to_ κ (g_R h a0 6) 50 fun r11 =>
  a_I κ h r11 l1.toInt32 fun v12 =>
  (fX10_placesOf κ v12 h).bind fun v13 =>
  (fX10_in κ l3 (0 : Int64) (v13.toInt64 - (1 : Int64)) h).bind fun v14 =>
  if v14 = 0 then (
    fX10_stand_b56 κ a0 l1 l3 l5 (2 : Int32) h
  ) else (
    fX10_stand_b56 κ a0 l1 l3 l5 (0 : Int32) h
  )
set_option maxRecDepth 100000 in
theorem zX10_stand_b30 (κ : Kd) (n lim : Nat) (a0 : Nat) (l1 : Int64) (l3 : Int64) (l5 : Int64)  (k_a0 : (κ a0).1 = 9) (h : Hp) : ZQ mX10_stand (eV κ n) (κ, n, 0, lim) 30 [(0, .ref (a0)), (1, .long (l1)), (3, .long (l3)), (5, .long (l5))] [] h (fX10_stand_b30 κ a0 l1 l3 l5  h) := by
  unfold fX10_stand_b30
  refine z_lload_n dX10_stand_30 rfl 2 rfl ?_
  refine z_lconst (v := 0) dX10_stand_31 (by decide) ?_
  refine z_aload_n dX10_stand_32 rfl 0 rfl ?_
  refine z_getR (kd := 50) dX10_stand_33 fl_X10_27 k_a0 (fun r11 kr11 => ?_)
  refine z_lload_n dX10_stand_36 rfl 1 rfl ?_
  refine z_l2i dX10_stand_37 ?_
  refine z_iald dX10_stand_38 kr11 (fun v12 => ?_)
  refine z_pI (as := [.int (v12)]) (rn_S dX10_stand_39 mf_X10_placesOf in_X10_placesOf lk_X10_192 ⟨by decide, by decide⟩ rfl (Nat.le_of_ble_eq_true rfl)) (tX10_placesOf _ _ _ _ _) cz_X10_placesOf (c00 _) (fun v13 => ?_)
  refine z_i2l dX10_stand_42 ?_
  refine z_lconst (v := 1) dX10_stand_43 (by decide) ?_
  refine z_lsub dX10_stand_44 ?_
  refine z_pI (as := [.long (l3), .long ((0 : Int64)), .long (v13.toInt64 - (1 : Int64))]) (rn_S dX10_stand_45 mf_X10_in in_X10_in lk_X10_139 ⟨by decide, by decide⟩ rfl (Nat.le_of_ble_eq_true rfl)) (tX10_in _ _ _ _ _ _ _) cz_X10_in (c00 _) (fun v14 => ?_)
  refine z_if_ne (tgt := 55) dX10_stand_48 (by first | decide | omega) (fun _ => ?_) (fun _ => ?_)
  · skip
    refine z_iconst (v := 0) dX10_stand_55 (by decide) ?_
    refine z_sub [0, 1, 2, 3] rfl ?_
    exact zX10_stand_b56 _ _ _ a0 l1 l3 l5 (0 : Int32) k_a0 h
  · skip
    refine z_iconst (v := 2) dX10_stand_51 (by decide) ?_
    refine z_goto (tgt := 56) dX10_stand_52 (by decide) ?_
    refine z_sub [0, 1, 2, 3] rfl ?_
    exact zX10_stand_b56 _ _ _ a0 l1 l3 l5 (2 : Int32) k_a0 h
def fX10_stand (κ : Kd) (a0 : Nat) (l1 : Int64) (l3 : Int64) (l5 : Int64) (h : Hp) : Option (Hp) :=
  if (κ a0).1 = 9 then (
  (fX10_isThing κ a0 l1 h).bind fun v1 =>
  if v1 = 0 then (
    fX10_stand_b26 κ a0 l1 l3 l5  h
  ) else (
    if l5 = (-1 : Int64) then (
      fX10_stand_b30 κ a0 l1 l3 l5  h
    ) else (
      (fX10_isThing κ a0 l5 h).bind fun v15 =>
      if v15 = 0 then (
        fX10_stand_b26 κ a0 l1 l3 l5  h
      ) else (
        fX10_stand_b30 κ a0 l1 l3 l5  h
      )
    )
  )) else none
set_option maxHeartbeats 4000000 in
set_option maxRecDepth 100000 in
theorem tX10_stand (κ : Kd) (n lim : Nat) (h : Hp) (a0 : Nat) (l1 : Int64) (l3 : Int64) (l5 : Int64) : Ct_ mX10_stand [.ref (a0), .long (l1), .long (l3), .long (l5)] κ n lim h (eV κ n) (fX10_stand κ a0 l1 l3 l5 h) := by
  refine ct_of (by decide) (Nat.le_of_ble_eq_true rfl) ?_
  unfold fX10_stand
  refine z_sub (L' := [(0, .ref (a0)), (1, .long (l1)), (3, .long (l3)), (5, .long (l5))]) [0, 1, 2, 3] rfl ?_
  refine z_or (fun k_a0 => ?_)
  refine z_aload_n dX10_stand_0 rfl 0 rfl ?_
  refine z_lload_n dX10_stand_1 rfl 1 rfl ?_
  refine z_pI (as := [.ref (a0), .long (l1)]) (rn_V dX10_stand_2 mf_X10_isThing in_X10_isThing lk_X10_188 ⟨by decide, by decide⟩ cl_8 rfl k_a0 rfl (Nat.le_of_ble_eq_true rfl)) (tX10_isThing _ _ _ _ _ _) cz_X10_isThing (c00 _) (fun v1 => ?_)
  refine z_if_eq (tgt := 26) dX10_stand_5 (by first | decide | omega) (fun _ => ?_) (fun _ => ?_)
  · skip
    refine z_sub [0, 1, 2, 3] rfl ?_
    exact zX10_stand_b26 _ _ _ a0 l1 l3 l5  k_a0 h
  · skip
    refine z_lload dX10_stand_8 3 rfl ?_
    refine z_ldc2 dX10_stand_10 co_X10_237 ?_
    refine z_lc_eq (tgt := 30) dX10_stand_13 dX10_stand_14 (by first | decide | omega) (fun _ => ?_) (fun _ => ?_)
    · skip
      refine z_sub [0, 1, 2, 3] rfl ?_
      exact zX10_stand_b30 _ _ _ a0 l1 l3 l5  k_a0 h
    · skip
      refine z_aload_n dX10_stand_17 rfl 0 rfl ?_
      refine z_lload dX10_stand_18 3 rfl ?_
      refine z_pI (as := [.ref (a0), .long (l5)]) (rn_V dX10_stand_20 mf_X10_isThing in_X10_isThing lk_X10_188 ⟨by decide, by decide⟩ cl_8 rfl k_a0 rfl (Nat.le_of_ble_eq_true rfl)) (tX10_isThing _ _ _ _ _ _) cz_X10_isThing (c00 _) (fun v15 => ?_)
      refine z_if_ne (tgt := 30) dX10_stand_23 (by first | decide | omega) (fun _ => ?_) (fun _ => ?_)
      · skip
        refine z_sub [0, 1, 2, 3] rfl ?_
        exact zX10_stand_b30 _ _ _ a0 l1 l3 l5  k_a0 h
      · skip
        refine z_sub [0, 1, 2, 3] rfl ?_
        exact zX10_stand_b26 _ _ _ a0 l1 l3 l5  k_a0 h
def fX10_keep_b56 (κ : Kd) (a0 : Nat) (l1 : Int32) (l2 : Int32) (K : Hp → Option (Hp)) : Nat → Int32 → Hp → Option (Hp)
  | 0, _, _ => none
  | N + 1, l3, h =>
    if (12 : Int32) ≤ l3 then (
      K h
    ) else (
      to_ κ (g_R h a0 56) 51 fun r16 =>
      to_ κ (g_R h a0 3) 51 fun r17 =>
      a_J κ h r17 (((12 : Int32) * l1) + l3) fun v18 =>
      w_J κ h r16 (((12 : Int32) * l2) + l3) v18 fun h19 =>
      to_ κ (g_R h19 a0 57) 52 fun r20 =>
      to_ κ (g_R h19 a0 4) 52 fun r21 =>
      a_D κ h19 r21 (((12 : Int32) * l1) + l3) fun v22 =>
      w_D κ h19 r20 (((12 : Int32) * l2) + l3) v22 fun h23 =>
      fX10_keep_b56 κ a0 l1 l2 K N (l3 + 1) h23
    )
set_option maxRecDepth 100000 in
theorem zX10_keep_b56 (κ : Kd) (n lim : Nat) (a0 : Nat) (l1 : Int32) (l2 : Int32) (k_a0 : (κ a0).1 = 9) (K : Hp → Option (Hp)) (kx : ∀ (h : Hp), ZQ mX10_keep (eV κ n) (κ, n, 0, lim) 112 [(0, .ref (a0)), (1, .int (l1)), (2, .int (l2))] [] h (K  h)) : ∀ (N : Nat) (l3 : Int32) (h : Hp), ZQ mX10_keep (eV κ n) (κ, n, 0, lim) 56 [(0, .ref (a0)), (1, .int (l1)), (2, .int (l2)), (3, .int (l3))] [] h (fX10_keep_b56 κ a0 l1 l2 K N l3 h) := by
  intro N
  induction N with
  | zero =>
    intro l3 h
    rw [fX10_keep_b56]
    exact z_no
  | succ N ih =>
    intro l3 h
    rw [fX10_keep_b56]
    refine z_iload_n dX10_keep_56 rfl 3 rfl ?_
    refine z_bipush (v := 12) dX10_keep_57 (by decide) ?_
    refine z_icmp_ge (tgt := 112) dX10_keep_59 (by first | decide | omega) (fun _ => ?_) (fun _ => ?_)
    · skip
      refine z_sub [0, 1, 2] rfl ?_
      exact kx h
    · skip
      refine z_aload_n dX10_keep_62 rfl 0 rfl ?_
      refine z_getR (kd := 51) dX10_keep_63 fl_X10_116 k_a0 (fun r16 kr16 => ?_)
      refine z_bipush (v := 12) dX10_keep_66 (by decide) ?_
      refine z_iload_n dX10_keep_68 rfl 2 rfl ?_
      refine z_imul dX10_keep_69 ?_
      refine z_iload_n dX10_keep_70 rfl 3 rfl ?_
      refine z_iadd dX10_keep_71 ?_
      refine z_aload_n dX10_keep_72 rfl 0 rfl ?_
      refine z_getR (kd := 51) dX10_keep_73 fl_X10_19 k_a0 (fun r17 kr17 => ?_)
      refine z_bipush (v := 12) dX10_keep_76 (by decide) ?_
      refine z_iload_n dX10_keep_78 rfl 1 rfl ?_
      refine z_imul dX10_keep_79 ?_
      refine z_iload_n dX10_keep_80 rfl 3 rfl ?_
      refine z_iadd dX10_keep_81 ?_
      refine z_lald dX10_keep_82 kr17 (fun v18 => ?_)
      refine z_last dX10_keep_83 kr16 (fun h19 => ?_)
      refine z_aload_n dX10_keep_84 rfl 0 rfl ?_
      refine z_getR (kd := 52) dX10_keep_85 fl_X10_119 k_a0 (fun r20 kr20 => ?_)
      refine z_bipush (v := 12) dX10_keep_88 (by decide) ?_
      refine z_iload_n dX10_keep_90 rfl 2 rfl ?_
      refine z_imul dX10_keep_91 ?_
      refine z_iload_n dX10_keep_92 rfl 3 rfl ?_
      refine z_iadd dX10_keep_93 ?_
      refine z_aload_n dX10_keep_94 rfl 0 rfl ?_
      refine z_getR (kd := 52) dX10_keep_95 fl_X10_23 k_a0 (fun r21 kr21 => ?_)
      refine z_bipush (v := 12) dX10_keep_98 (by decide) ?_
      refine z_iload_n dX10_keep_100 rfl 1 rfl ?_
      refine z_imul dX10_keep_101 ?_
      refine z_iload_n dX10_keep_102 rfl 3 rfl ?_
      refine z_iadd dX10_keep_103 ?_
      refine z_dald dX10_keep_104 kr21 (fun v22 => ?_)
      refine z_dast dX10_keep_105 kr20 (fun h23 => ?_)
      refine z_iinc (j := 3) (v := l3 + 1) (L' := [(3, .int (l3 + 1)), (0, .ref (a0)), (1, .int (l1)), (2, .int (l2))]) dX10_keep_106 rfl rfl (by decide) rfl ?_
      refine z_goto (tgt := 56) dX10_keep_109 (by decide) ?_
      refine z_sub [1, 2, 3, 0] rfl ?_
      exact ih ((l3 + 1)) h23
def fX10_keep_b150 (κ : Kd) (a0 : Nat) (l1 : Int32) (l2 : Int32) (K : Hp → Option (Hp)) : Nat → Int32 → Hp → Option (Hp)
  | 0, _, _ => none
  | N + 1, l3, h =>
    if (4 : Int32) ≤ l3 then (
      K h
    ) else (
      to_ κ (g_R h a0 62) 50 fun r37 =>
      to_ κ (g_R h a0 10) 50 fun r38 =>
      a_I κ h r38 (((4 : Int32) * l1) + l3) fun v39 =>
      w_I κ h r37 (((4 : Int32) * l2) + l3) v39 fun h40 =>
      fX10_keep_b150 κ a0 l1 l2 K N (l3 + 1) h40
    )
set_option maxRecDepth 100000 in
theorem zX10_keep_b150 (κ : Kd) (n lim : Nat) (a0 : Nat) (l1 : Int32) (l2 : Int32) (k_a0 : (κ a0).1 = 9) (K : Hp → Option (Hp)) (kx : ∀ (h : Hp), ZQ mX10_keep (eV κ n) (κ, n, 0, lim) 181 [(0, .ref (a0)), (1, .int (l1))] [] h (K  h)) : ∀ (N : Nat) (l3 : Int32) (h : Hp), ZQ mX10_keep (eV κ n) (κ, n, 0, lim) 150 [(0, .ref (a0)), (1, .int (l1)), (2, .int (l2)), (3, .int (l3))] [] h (fX10_keep_b150 κ a0 l1 l2 K N l3 h) := by
  intro N
  induction N with
  | zero =>
    intro l3 h
    rw [fX10_keep_b150]
    exact z_no
  | succ N ih =>
    intro l3 h
    rw [fX10_keep_b150]
    refine z_iload_n dX10_keep_150 rfl 3 rfl ?_
    refine z_iconst (v := 4) dX10_keep_151 (by decide) ?_
    refine z_icmp_ge (tgt := 181) dX10_keep_152 (by first | decide | omega) (fun _ => ?_) (fun _ => ?_)
    · skip
      refine z_sub [0, 1] rfl ?_
      exact kx h
    · skip
      refine z_aload_n dX10_keep_155 rfl 0 rfl ?_
      refine z_getR (kd := 50) dX10_keep_156 fl_X10_134 k_a0 (fun r37 kr37 => ?_)
      refine z_iconst (v := 4) dX10_keep_159 (by decide) ?_
      refine z_iload_n dX10_keep_160 rfl 2 rfl ?_
      refine z_imul dX10_keep_161 ?_
      refine z_iload_n dX10_keep_162 rfl 3 rfl ?_
      refine z_iadd dX10_keep_163 ?_
      refine z_aload_n dX10_keep_164 rfl 0 rfl ?_
      refine z_getR (kd := 50) dX10_keep_165 fl_X10_39 k_a0 (fun r38 kr38 => ?_)
      refine z_iconst (v := 4) dX10_keep_168 (by decide) ?_
      refine z_iload_n dX10_keep_169 rfl 1 rfl ?_
      refine z_imul dX10_keep_170 ?_
      refine z_iload_n dX10_keep_171 rfl 3 rfl ?_
      refine z_iadd dX10_keep_172 ?_
      refine z_iald dX10_keep_173 kr38 (fun v39 => ?_)
      refine z_iast dX10_keep_174 kr37 (fun h40 => ?_)
      refine z_iinc (j := 3) (v := l3 + 1) (L' := [(3, .int (l3 + 1)), (0, .ref (a0)), (1, .int (l1)), (2, .int (l2))]) dX10_keep_175 rfl rfl (by decide) rfl ?_
      refine z_goto (tgt := 150) dX10_keep_178 (by decide) ?_
      refine z_sub [1, 2, 3, 0] rfl ?_
      exact ih ((l3 + 1)) h40
def fX10_keep_b2 (κ : Kd) (a0 : Nat) : Nat → Int32 → Hp → Option (Hp)
  | 0, _, _ => none
  | N + 1, l1, h =>
    if (12 : Int32) ≤ l1 then (
      to_ κ (g_R h a0 58) 50 fun r1 =>
      w_I κ h r1 (g_I h a0 52) (g_I h a0 5) fun h2 =>
      lt_ (s_I h2 a0 52 ((g_I h2 a0 52) + (1 : Int32))) fun h3 =>
      some h3
    ) else (
      to_ κ (g_R h a0 53) 50 fun r4 =>
      to_ κ (g_R h a0 0) 50 fun r5 =>
      a_I κ h r5 l1 fun v6 =>
      w_I κ h r4 (((12 : Int32) * (g_I h a0 52)) + l1) v6 fun h7 =>
      to_ κ (g_R h7 a0 54) 50 fun r8 =>
      to_ κ (g_R h7 a0 1) 50 fun r9 =>
      a_I κ h7 r9 l1 fun v10 =>
      w_I κ h7 r8 (((12 : Int32) * (g_I h a0 52)) + l1) v10 fun h11 =>
      to_ κ (g_R h11 a0 55) 50 fun r12 =>
      to_ κ (g_R h11 a0 2) 50 fun r13 =>
      a_I κ h11 r13 l1 fun v14 =>
      w_I κ h11 r12 (((12 : Int32) * (g_I h a0 52)) + l1) v14 fun h15 =>
      fX10_keep_b56 κ a0 l1 (((12 : Int32) * (g_I h a0 52)) + l1) (fun h24 =>
        to_ κ (g_R h24 a0 59) 50 fun r25 =>
        to_ κ (g_R h24 a0 7) 50 fun r26 =>
        a_I κ h24 r26 l1 fun v27 =>
        w_I κ h24 r25 (((12 : Int32) * (g_I h a0 52)) + l1) v27 fun h28 =>
        to_ κ (g_R h28 a0 60) 50 fun r29 =>
        to_ κ (g_R h28 a0 8) 50 fun r30 =>
        a_I κ h28 r30 l1 fun v31 =>
        w_I κ h28 r29 (((12 : Int32) * (g_I h a0 52)) + l1) v31 fun h32 =>
        to_ κ (g_R h32 a0 61) 50 fun r33 =>
        to_ κ (g_R h32 a0 9) 50 fun r34 =>
        a_I κ h32 r34 l1 fun v35 =>
        w_I κ h32 r33 (((12 : Int32) * (g_I h a0 52)) + l1) v35 fun h36 =>
        fX10_keep_b150 κ a0 l1 (((12 : Int32) * (g_I h a0 52)) + l1) (fun h41 =>
          fX10_keep_b2 κ a0 N (l1 + 1) h41
        ) fu_ (0 : Int32) h36
      ) fu_ (0 : Int32) h15
    )
set_option maxRecDepth 100000 in
theorem zX10_keep_b2 (κ : Kd) (n lim : Nat) (a0 : Nat) (k_a0 : (κ a0).1 = 9) : ∀ (N : Nat) (l1 : Int32) (h : Hp), ZQ mX10_keep (eV κ n) (κ, n, 0, lim) 2 [(0, .ref (a0)), (1, .int (l1))] [] h (fX10_keep_b2 κ a0 N l1 h) := by
  intro N
  induction N with
  | zero =>
    intro l1 h
    rw [fX10_keep_b2]
    exact z_no
  | succ N ih =>
    intro l1 h
    rw [fX10_keep_b2]
    refine z_iload_n dX10_keep_2 rfl 1 rfl ?_
    refine z_bipush (v := 12) dX10_keep_3 (by decide) ?_
    refine z_icmp_ge (tgt := 187) dX10_keep_5 (by first | decide | omega) (fun _ => ?_) (fun _ => ?_)
    · skip
      refine z_aload_n dX10_keep_187 rfl 0 rfl ?_
      refine z_getR (kd := 50) dX10_keep_188 fl_X10_122 k_a0 (fun r1 kr1 => ?_)
      refine z_aload_n dX10_keep_191 rfl 0 rfl ?_
      refine z_getI dX10_keep_192 fl_X10_360 k_a0 ?_
      refine z_aload_n dX10_keep_195 rfl 0 rfl ?_
      refine z_getI dX10_keep_196 fl_X10_182 k_a0 ?_
      refine z_iast dX10_keep_199 kr1 (fun h2 => ?_)
      refine z_aload_n dX10_keep_200 rfl 0 rfl ?_
      refine z_dup dX10_keep_201 rfl ?_
      refine z_getI dX10_keep_202 fl_X10_360 k_a0 ?_
      refine z_iconst (v := 1) dX10_keep_205 (by decide) ?_
      refine z_iadd dX10_keep_206 ?_
      refine z_putI dX10_keep_207 fl_X10_360 (Or.inl rfl) k_a0 (fun h3 => ?_)
      exact z_vret dX10_keep_210 rfl (en0 _ _ _ _) rfl
    · skip
      refine z_bipush (v := 12) dX10_keep_8 (by decide) ?_
      refine z_aload_n dX10_keep_10 rfl 0 rfl ?_
      refine z_getI dX10_keep_11 fl_X10_360 k_a0 ?_
      refine z_imul dX10_keep_14 ?_
      refine z_iload_n dX10_keep_15 rfl 1 rfl ?_
      refine z_iadd dX10_keep_16 ?_
      refine z_istore_n (L' := [(2, .int (((12 : Int32) * (g_I h a0 52)) + l1)), (0, .ref (a0)), (1, .int (l1))]) dX10_keep_17 rfl (by decide) rfl ?_
      refine z_aload_n dX10_keep_18 rfl 1 rfl ?_
      refine z_getR (kd := 50) dX10_keep_19 fl_X10_107 k_a0 (fun r4 kr4 => ?_)
      refine z_iload_n dX10_keep_22 rfl 0 rfl ?_
      refine z_aload_n dX10_keep_23 rfl 1 rfl ?_
      refine z_getR (kd := 50) dX10_keep_24 fl_X10_7 k_a0 (fun r5 kr5 => ?_)
      refine z_iload_n dX10_keep_27 rfl 2 rfl ?_
      refine z_iald dX10_keep_28 kr5 (fun v6 => ?_)
      refine z_iast dX10_keep_29 kr4 (fun h7 => ?_)
      refine z_aload_n dX10_keep_30 rfl 1 rfl ?_
      refine z_getR (kd := 50) dX10_keep_31 fl_X10_110 k_a0 (fun r8 kr8 => ?_)
      refine z_iload_n dX10_keep_34 rfl 0 rfl ?_
      refine z_aload_n dX10_keep_35 rfl 1 rfl ?_
      refine z_getR (kd := 50) dX10_keep_36 fl_X10_13 k_a0 (fun r9 kr9 => ?_)
      refine z_iload_n dX10_keep_39 rfl 2 rfl ?_
      refine z_iald dX10_keep_40 kr9 (fun v10 => ?_)
      refine z_iast dX10_keep_41 kr8 (fun h11 => ?_)
      refine z_aload_n dX10_keep_42 rfl 1 rfl ?_
      refine z_getR (kd := 50) dX10_keep_43 fl_X10_113 k_a0 (fun r12 kr12 => ?_)
      refine z_iload_n dX10_keep_46 rfl 0 rfl ?_
      refine z_aload_n dX10_keep_47 rfl 1 rfl ?_
      refine z_getR (kd := 50) dX10_keep_48 fl_X10_16 k_a0 (fun r13 kr13 => ?_)
      refine z_iload_n dX10_keep_51 rfl 2 rfl ?_
      refine z_iald dX10_keep_52 kr13 (fun v14 => ?_)
      refine z_iast dX10_keep_53 kr12 (fun h15 => ?_)
      refine z_iconst (v := 0) dX10_keep_54 (by decide) ?_
      refine z_istore_n (L' := [(3, .int ((0 : Int32))), (2, .int (((12 : Int32) * (g_I h a0 52)) + l1)), (0, .ref (a0)), (1, .int (l1))]) dX10_keep_55 rfl (by decide) rfl ?_
      refine z_sub [2, 3, 1, 0] rfl ?_
      refine zX10_keep_b56 _ _ _ a0 l1 (((12 : Int32) * (g_I h a0 52)) + l1) k_a0 _ (fun h24 => ?_) fu_ (0 : Int32) h15
      refine z_aload_n dX10_keep_112 rfl 0 rfl ?_
      refine z_getR (kd := 50) dX10_keep_113 fl_X10_125 k_a0 (fun r25 kr25 => ?_)
      refine z_iload_n dX10_keep_116 rfl 2 rfl ?_
      refine z_aload_n dX10_keep_117 rfl 0 rfl ?_
      refine z_getR (kd := 50) dX10_keep_118 fl_X10_30 k_a0 (fun r26 kr26 => ?_)
      refine z_iload_n dX10_keep_121 rfl 1 rfl ?_
      refine z_iald dX10_keep_122 kr26 (fun v27 => ?_)
      refine z_iast dX10_keep_123 kr25 (fun h28 => ?_)
      refine z_aload_n dX10_keep_124 rfl 0 rfl ?_
      refine z_getR (kd := 50) dX10_keep_125 fl_X10_128 k_a0 (fun r29 kr29 => ?_)
      refine z_iload_n dX10_keep_128 rfl 2 rfl ?_
      refine z_aload_n dX10_keep_129 rfl 0 rfl ?_
      refine z_getR (kd := 50) dX10_keep_130 fl_X10_33 k_a0 (fun r30 kr30 => ?_)
      refine z_iload_n dX10_keep_133 rfl 1 rfl ?_
      refine z_iald dX10_keep_134 kr30 (fun v31 => ?_)
      refine z_iast dX10_keep_135 kr29 (fun h32 => ?_)
      refine z_aload_n dX10_keep_136 rfl 0 rfl ?_
      refine z_getR (kd := 50) dX10_keep_137 fl_X10_131 k_a0 (fun r33 kr33 => ?_)
      refine z_iload_n dX10_keep_140 rfl 2 rfl ?_
      refine z_aload_n dX10_keep_141 rfl 0 rfl ?_
      refine z_getR (kd := 50) dX10_keep_142 fl_X10_36 k_a0 (fun r34 kr34 => ?_)
      refine z_iload_n dX10_keep_145 rfl 1 rfl ?_
      refine z_iald dX10_keep_146 kr34 (fun v35 => ?_)
      refine z_iast dX10_keep_147 kr33 (fun h36 => ?_)
      refine z_iconst (v := 0) dX10_keep_148 (by decide) ?_
      refine z_istore_n (L' := [(3, .int ((0 : Int32))), (0, .ref (a0)), (1, .int (l1)), (2, .int (((12 : Int32) * (g_I h a0 52)) + l1))]) dX10_keep_149 rfl (by decide) rfl ?_
      refine z_sub [1, 2, 3, 0] rfl ?_
      refine zX10_keep_b150 _ _ _ a0 l1 (((12 : Int32) * (g_I h a0 52)) + l1) k_a0 _ (fun h41 => ?_) fu_ (0 : Int32) h36
      refine z_iinc (j := 1) (v := l1 + 1) (L' := [(1, .int (l1 + 1)), (0, .ref (a0))]) dX10_keep_181 rfl rfl (by decide) rfl ?_
      refine z_goto (tgt := 2) dX10_keep_184 (by decide) ?_
      refine z_sub [1, 0] rfl ?_
      exact ih ((l1 + 1)) h41
def fX10_keep (κ : Kd) (a0 : Nat) (h : Hp) : Option (Hp) :=
  if (κ a0).1 = 9 then (
  fX10_keep_b2 κ a0 fu_ (0 : Int32) h) else none
set_option maxHeartbeats 4000000 in
set_option maxRecDepth 100000 in
theorem tX10_keep (κ : Kd) (n lim : Nat) (h : Hp) (a0 : Nat) : Ct_ mX10_keep [.ref (a0)] κ n lim h (eV κ n) (fX10_keep κ a0 h) := by
  refine ct_of (by decide) (Nat.le_of_ble_eq_true rfl) ?_
  unfold fX10_keep
  refine z_sub (L' := [(0, .ref (a0))]) [0] rfl ?_
  refine z_or (fun k_a0 => ?_)
  refine z_iconst (v := 0) dX10_keep_0 (by decide) ?_
  refine z_istore_n (L' := [(1, .int ((0 : Int32))), (0, .ref (a0))]) dX10_keep_1 rfl (by decide) rfl ?_
  refine z_sub [1, 0] rfl ?_
  exact zX10_keep_b2 _ _ _ a0 k_a0 fu_ (0 : Int32) h
def fX10_bringBack_b66 (κ : Kd) (a0 : Nat) (l1 : Int32) (l2 : Int32) (K : Hp → Option (Hp)) : Nat → Int32 → Hp → Option (Hp)
  | 0, _, _ => none
  | N + 1, l3, h =>
    if (12 : Int32) ≤ l3 then (
      K h
    ) else (
      to_ κ (g_R h a0 3) 51 fun r14 =>
      to_ κ (g_R h a0 56) 51 fun r15 =>
      a_J κ h r15 (((12 : Int32) * l2) + l3) fun v16 =>
      w_J κ h r14 (((12 : Int32) * l1) + l3) v16 fun h17 =>
      to_ κ (g_R h17 a0 4) 52 fun r18 =>
      to_ κ (g_R h17 a0 57) 52 fun r19 =>
      a_D κ h17 r19 (((12 : Int32) * l2) + l3) fun v20 =>
      w_D κ h17 r18 (((12 : Int32) * l1) + l3) v20 fun h21 =>
      fX10_bringBack_b66 κ a0 l1 l2 K N (l3 + 1) h21
    )
set_option maxRecDepth 100000 in
theorem zX10_bringBack_b66 (κ : Kd) (n lim : Nat) (a0 : Nat) (l1 : Int32) (l2 : Int32) (k_a0 : (κ a0).1 = 9) (K : Hp → Option (Hp)) (kx : ∀ (h : Hp), ZQ mX10_bringBack (eV κ n) (κ, n, 0, lim) 122 [(0, .ref (a0)), (1, .int (l1)), (2, .int (l2))] [] h (K  h)) : ∀ (N : Nat) (l3 : Int32) (h : Hp), ZQ mX10_bringBack (eV κ n) (κ, n, 0, lim) 66 [(0, .ref (a0)), (1, .int (l1)), (2, .int (l2)), (3, .int (l3))] [] h (fX10_bringBack_b66 κ a0 l1 l2 K N l3 h) := by
  intro N
  induction N with
  | zero =>
    intro l3 h
    rw [fX10_bringBack_b66]
    exact z_no
  | succ N ih =>
    intro l3 h
    rw [fX10_bringBack_b66]
    refine z_iload_n dX10_bringBack_66 rfl 3 rfl ?_
    refine z_bipush (v := 12) dX10_bringBack_67 (by decide) ?_
    refine z_icmp_ge (tgt := 122) dX10_bringBack_69 (by first | decide | omega) (fun _ => ?_) (fun _ => ?_)
    · skip
      refine z_sub [0, 1, 2] rfl ?_
      exact kx h
    · skip
      refine z_aload_n dX10_bringBack_72 rfl 0 rfl ?_
      refine z_getR (kd := 51) dX10_bringBack_73 fl_X10_19 k_a0 (fun r14 kr14 => ?_)
      refine z_bipush (v := 12) dX10_bringBack_76 (by decide) ?_
      refine z_iload_n dX10_bringBack_78 rfl 1 rfl ?_
      refine z_imul dX10_bringBack_79 ?_
      refine z_iload_n dX10_bringBack_80 rfl 3 rfl ?_
      refine z_iadd dX10_bringBack_81 ?_
      refine z_aload_n dX10_bringBack_82 rfl 0 rfl ?_
      refine z_getR (kd := 51) dX10_bringBack_83 fl_X10_116 k_a0 (fun r15 kr15 => ?_)
      refine z_bipush (v := 12) dX10_bringBack_86 (by decide) ?_
      refine z_iload_n dX10_bringBack_88 rfl 2 rfl ?_
      refine z_imul dX10_bringBack_89 ?_
      refine z_iload_n dX10_bringBack_90 rfl 3 rfl ?_
      refine z_iadd dX10_bringBack_91 ?_
      refine z_lald dX10_bringBack_92 kr15 (fun v16 => ?_)
      refine z_last dX10_bringBack_93 kr14 (fun h17 => ?_)
      refine z_aload_n dX10_bringBack_94 rfl 0 rfl ?_
      refine z_getR (kd := 52) dX10_bringBack_95 fl_X10_23 k_a0 (fun r18 kr18 => ?_)
      refine z_bipush (v := 12) dX10_bringBack_98 (by decide) ?_
      refine z_iload_n dX10_bringBack_100 rfl 1 rfl ?_
      refine z_imul dX10_bringBack_101 ?_
      refine z_iload_n dX10_bringBack_102 rfl 3 rfl ?_
      refine z_iadd dX10_bringBack_103 ?_
      refine z_aload_n dX10_bringBack_104 rfl 0 rfl ?_
      refine z_getR (kd := 52) dX10_bringBack_105 fl_X10_119 k_a0 (fun r19 kr19 => ?_)
      refine z_bipush (v := 12) dX10_bringBack_108 (by decide) ?_
      refine z_iload_n dX10_bringBack_110 rfl 2 rfl ?_
      refine z_imul dX10_bringBack_111 ?_
      refine z_iload_n dX10_bringBack_112 rfl 3 rfl ?_
      refine z_iadd dX10_bringBack_113 ?_
      refine z_dald dX10_bringBack_114 kr19 (fun v20 => ?_)
      refine z_dast dX10_bringBack_115 kr18 (fun h21 => ?_)
      refine z_iinc (j := 3) (v := l3 + 1) (L' := [(3, .int (l3 + 1)), (0, .ref (a0)), (1, .int (l1)), (2, .int (l2))]) dX10_bringBack_116 rfl rfl (by decide) rfl ?_
      refine z_goto (tgt := 66) dX10_bringBack_119 (by decide) ?_
      refine z_sub [1, 2, 3, 0] rfl ?_
      exact ih ((l3 + 1)) h21
def fX10_bringBack_b173 (κ : Kd) (a0 : Nat) (l1 : Int32) (l2 : Int32) (K : Hp → Option (Hp)) : Nat → Int32 → Hp → Option (Hp)
  | 0, _, _ => none
  | N + 1, l3, h =>
    if (4 : Int32) ≤ l3 then (
      K h
    ) else (
      to_ κ (g_R h a0 10) 50 fun r37 =>
      to_ κ (g_R h a0 62) 50 fun r38 =>
      a_I κ h r38 (((4 : Int32) * l2) + l3) fun v39 =>
      w_I κ h r37 (((4 : Int32) * l1) + l3) v39 fun h40 =>
      fX10_bringBack_b173 κ a0 l1 l2 K N (l3 + 1) h40
    )
set_option maxRecDepth 100000 in
theorem zX10_bringBack_b173 (κ : Kd) (n lim : Nat) (a0 : Nat) (l1 : Int32) (l2 : Int32) (k_a0 : (κ a0).1 = 9) (K : Hp → Option (Hp)) (kx : ∀ (h : Hp), ZQ mX10_bringBack (eV κ n) (κ, n, 0, lim) 204 [(0, .ref (a0)), (1, .int (l1))] [] h (K  h)) : ∀ (N : Nat) (l3 : Int32) (h : Hp), ZQ mX10_bringBack (eV κ n) (κ, n, 0, lim) 173 [(0, .ref (a0)), (1, .int (l1)), (2, .int (l2)), (3, .int (l3))] [] h (fX10_bringBack_b173 κ a0 l1 l2 K N l3 h) := by
  intro N
  induction N with
  | zero =>
    intro l3 h
    rw [fX10_bringBack_b173]
    exact z_no
  | succ N ih =>
    intro l3 h
    rw [fX10_bringBack_b173]
    refine z_iload_n dX10_bringBack_173 rfl 3 rfl ?_
    refine z_iconst (v := 4) dX10_bringBack_174 (by decide) ?_
    refine z_icmp_ge (tgt := 204) dX10_bringBack_175 (by first | decide | omega) (fun _ => ?_) (fun _ => ?_)
    · skip
      refine z_sub [0, 1] rfl ?_
      exact kx h
    · skip
      refine z_aload_n dX10_bringBack_178 rfl 0 rfl ?_
      refine z_getR (kd := 50) dX10_bringBack_179 fl_X10_39 k_a0 (fun r37 kr37 => ?_)
      refine z_iconst (v := 4) dX10_bringBack_182 (by decide) ?_
      refine z_iload_n dX10_bringBack_183 rfl 1 rfl ?_
      refine z_imul dX10_bringBack_184 ?_
      refine z_iload_n dX10_bringBack_185 rfl 3 rfl ?_
      refine z_iadd dX10_bringBack_186 ?_
      refine z_aload_n dX10_bringBack_187 rfl 0 rfl ?_
      refine z_getR (kd := 50) dX10_bringBack_188 fl_X10_134 k_a0 (fun r38 kr38 => ?_)
      refine z_iconst (v := 4) dX10_bringBack_191 (by decide) ?_
      refine z_iload_n dX10_bringBack_192 rfl 2 rfl ?_
      refine z_imul dX10_bringBack_193 ?_
      refine z_iload_n dX10_bringBack_194 rfl 3 rfl ?_
      refine z_iadd dX10_bringBack_195 ?_
      refine z_iald dX10_bringBack_196 kr38 (fun v39 => ?_)
      refine z_iast dX10_bringBack_197 kr37 (fun h40 => ?_)
      refine z_iinc (j := 3) (v := l3 + 1) (L' := [(3, .int (l3 + 1)), (0, .ref (a0)), (1, .int (l1)), (2, .int (l2))]) dX10_bringBack_198 rfl rfl (by decide) rfl ?_
      refine z_goto (tgt := 173) dX10_bringBack_201 (by decide) ?_
      refine z_sub [1, 2, 3, 0] rfl ?_
      exact ih ((l3 + 1)) h40
def fX10_bringBack_b12 (κ : Kd) (a0 : Nat) : Nat → Int32 → Hp → Option (Hp)
  | 0, _, _ => none
  | N + 1, l1, h =>
    if (12 : Int32) ≤ l1 then (
      some h
    ) else (
      to_ κ (g_R h a0 0) 50 fun r2 =>
      to_ κ (g_R h a0 53) 50 fun r3 =>
      a_I κ h r3 (((12 : Int32) * (g_I h a0 52)) + l1) fun v4 =>
      w_I κ h r2 l1 v4 fun h5 =>
      to_ κ (g_R h5 a0 1) 50 fun r6 =>
      to_ κ (g_R h5 a0 54) 50 fun r7 =>
      a_I κ h5 r7 (((12 : Int32) * (g_I h a0 52)) + l1) fun v8 =>
      w_I κ h5 r6 l1 v8 fun h9 =>
      to_ κ (g_R h9 a0 2) 50 fun r10 =>
      to_ κ (g_R h9 a0 55) 50 fun r11 =>
      a_I κ h9 r11 (((12 : Int32) * (g_I h a0 52)) + l1) fun v12 =>
      w_I κ h9 r10 l1 v12 fun h13 =>
      fX10_bringBack_b66 κ a0 l1 (((12 : Int32) * (g_I h a0 52)) + l1) (fun h22 =>
        to_ κ (g_R h22 a0 58) 50 fun r23 =>
        a_I κ h22 r23 (g_I h22 a0 52) fun v24 =>
        if v24 ≤ l1 then (
          fX10_bringBack_b12 κ a0 N (l1 + 1) h22
        ) else (
          to_ κ (g_R h22 a0 7) 50 fun r25 =>
          to_ κ (g_R h22 a0 59) 50 fun r26 =>
          a_I κ h22 r26 (((12 : Int32) * (g_I h a0 52)) + l1) fun v27 =>
          w_I κ h22 r25 l1 v27 fun h28 =>
          to_ κ (g_R h28 a0 8) 50 fun r29 =>
          to_ κ (g_R h28 a0 60) 50 fun r30 =>
          a_I κ h28 r30 (((12 : Int32) * (g_I h a0 52)) + l1) fun v31 =>
          w_I κ h28 r29 l1 v31 fun h32 =>
          to_ κ (g_R h32 a0 9) 50 fun r33 =>
          to_ κ (g_R h32 a0 61) 50 fun r34 =>
          a_I κ h32 r34 (((12 : Int32) * (g_I h a0 52)) + l1) fun v35 =>
          w_I κ h32 r33 l1 v35 fun h36 =>
          fX10_bringBack_b173 κ a0 l1 (((12 : Int32) * (g_I h a0 52)) + l1) (fun h41 =>
            fX10_bringBack_b12 κ a0 N (l1 + 1) h41
          ) fu_ (0 : Int32) h36
        )
      ) fu_ (0 : Int32) h13
    )
set_option maxRecDepth 100000 in
theorem zX10_bringBack_b12 (κ : Kd) (n lim : Nat) (a0 : Nat) (k_a0 : (κ a0).1 = 9) : ∀ (N : Nat) (l1 : Int32) (h : Hp), ZQ mX10_bringBack (eV κ n) (κ, n, 0, lim) 12 [(0, .ref (a0)), (1, .int (l1))] [] h (fX10_bringBack_b12 κ a0 N l1 h) := by
  intro N
  induction N with
  | zero =>
    intro l1 h
    rw [fX10_bringBack_b12]
    exact z_no
  | succ N ih =>
    intro l1 h
    rw [fX10_bringBack_b12]
    refine z_iload_n dX10_bringBack_12 rfl 1 rfl ?_
    refine z_bipush (v := 12) dX10_bringBack_13 (by decide) ?_
    refine z_icmp_ge (tgt := 210) dX10_bringBack_15 (by first | decide | omega) (fun _ => ?_) (fun _ => ?_)
    · skip
      exact z_vret dX10_bringBack_210 rfl (en0 _ _ _ _) rfl
    · skip
      refine z_bipush (v := 12) dX10_bringBack_18 (by decide) ?_
      refine z_aload_n dX10_bringBack_20 rfl 0 rfl ?_
      refine z_getI dX10_bringBack_21 fl_X10_360 k_a0 ?_
      refine z_imul dX10_bringBack_24 ?_
      refine z_iload_n dX10_bringBack_25 rfl 1 rfl ?_
      refine z_iadd dX10_bringBack_26 ?_
      refine z_istore_n (L' := [(2, .int (((12 : Int32) * (g_I h a0 52)) + l1)), (0, .ref (a0)), (1, .int (l1))]) dX10_bringBack_27 rfl (by decide) rfl ?_
      refine z_aload_n dX10_bringBack_28 rfl 1 rfl ?_
      refine z_getR (kd := 50) dX10_bringBack_29 fl_X10_7 k_a0 (fun r2 kr2 => ?_)
      refine z_iload_n dX10_bringBack_32 rfl 2 rfl ?_
      refine z_aload_n dX10_bringBack_33 rfl 1 rfl ?_
      refine z_getR (kd := 50) dX10_bringBack_34 fl_X10_107 k_a0 (fun r3 kr3 => ?_)
      refine z_iload_n dX10_bringBack_37 rfl 0 rfl ?_
      refine z_iald dX10_bringBack_38 kr3 (fun v4 => ?_)
      refine z_iast dX10_bringBack_39 kr2 (fun h5 => ?_)
      refine z_aload_n dX10_bringBack_40 rfl 1 rfl ?_
      refine z_getR (kd := 50) dX10_bringBack_41 fl_X10_13 k_a0 (fun r6 kr6 => ?_)
      refine z_iload_n dX10_bringBack_44 rfl 2 rfl ?_
      refine z_aload_n dX10_bringBack_45 rfl 1 rfl ?_
      refine z_getR (kd := 50) dX10_bringBack_46 fl_X10_110 k_a0 (fun r7 kr7 => ?_)
      refine z_iload_n dX10_bringBack_49 rfl 0 rfl ?_
      refine z_iald dX10_bringBack_50 kr7 (fun v8 => ?_)
      refine z_iast dX10_bringBack_51 kr6 (fun h9 => ?_)
      refine z_aload_n dX10_bringBack_52 rfl 1 rfl ?_
      refine z_getR (kd := 50) dX10_bringBack_53 fl_X10_16 k_a0 (fun r10 kr10 => ?_)
      refine z_iload_n dX10_bringBack_56 rfl 2 rfl ?_
      refine z_aload_n dX10_bringBack_57 rfl 1 rfl ?_
      refine z_getR (kd := 50) dX10_bringBack_58 fl_X10_113 k_a0 (fun r11 kr11 => ?_)
      refine z_iload_n dX10_bringBack_61 rfl 0 rfl ?_
      refine z_iald dX10_bringBack_62 kr11 (fun v12 => ?_)
      refine z_iast dX10_bringBack_63 kr10 (fun h13 => ?_)
      refine z_iconst (v := 0) dX10_bringBack_64 (by decide) ?_
      refine z_istore_n (L' := [(3, .int ((0 : Int32))), (2, .int (((12 : Int32) * (g_I h a0 52)) + l1)), (0, .ref (a0)), (1, .int (l1))]) dX10_bringBack_65 rfl (by decide) rfl ?_
      refine z_sub [2, 3, 1, 0] rfl ?_
      refine zX10_bringBack_b66 _ _ _ a0 l1 (((12 : Int32) * (g_I h a0 52)) + l1) k_a0 _ (fun h22 => ?_) fu_ (0 : Int32) h13
      refine z_iload_n dX10_bringBack_122 rfl 1 rfl ?_
      refine z_aload_n dX10_bringBack_123 rfl 0 rfl ?_
      refine z_getR (kd := 50) dX10_bringBack_124 fl_X10_122 k_a0 (fun r23 kr23 => ?_)
      refine z_aload_n dX10_bringBack_127 rfl 0 rfl ?_
      refine z_getI dX10_bringBack_128 fl_X10_360 k_a0 ?_
      refine z_iald dX10_bringBack_131 kr23 (fun v24 => ?_)
      refine z_icmp_ge (tgt := 204) dX10_bringBack_132 (by first | decide | omega) (fun _ => ?_) (fun _ => ?_)
      · skip
        refine z_iinc (j := 1) (v := l1 + 1) (L' := [(1, .int (l1 + 1)), (0, .ref (a0)), (2, .int (((12 : Int32) * (g_I h a0 52)) + l1))]) dX10_bringBack_204 rfl rfl (by decide) rfl ?_
        refine z_goto (tgt := 12) dX10_bringBack_207 (by decide) ?_
        refine z_sub [1, 0] rfl ?_
        exact ih ((l1 + 1)) h22
      · skip
        refine z_aload_n dX10_bringBack_135 rfl 0 rfl ?_
        refine z_getR (kd := 50) dX10_bringBack_136 fl_X10_30 k_a0 (fun r25 kr25 => ?_)
        refine z_iload_n dX10_bringBack_139 rfl 1 rfl ?_
        refine z_aload_n dX10_bringBack_140 rfl 0 rfl ?_
        refine z_getR (kd := 50) dX10_bringBack_141 fl_X10_125 k_a0 (fun r26 kr26 => ?_)
        refine z_iload_n dX10_bringBack_144 rfl 2 rfl ?_
        refine z_iald dX10_bringBack_145 kr26 (fun v27 => ?_)
        refine z_iast dX10_bringBack_146 kr25 (fun h28 => ?_)
        refine z_aload_n dX10_bringBack_147 rfl 0 rfl ?_
        refine z_getR (kd := 50) dX10_bringBack_148 fl_X10_33 k_a0 (fun r29 kr29 => ?_)
        refine z_iload_n dX10_bringBack_151 rfl 1 rfl ?_
        refine z_aload_n dX10_bringBack_152 rfl 0 rfl ?_
        refine z_getR (kd := 50) dX10_bringBack_153 fl_X10_128 k_a0 (fun r30 kr30 => ?_)
        refine z_iload_n dX10_bringBack_156 rfl 2 rfl ?_
        refine z_iald dX10_bringBack_157 kr30 (fun v31 => ?_)
        refine z_iast dX10_bringBack_158 kr29 (fun h32 => ?_)
        refine z_aload_n dX10_bringBack_159 rfl 0 rfl ?_
        refine z_getR (kd := 50) dX10_bringBack_160 fl_X10_36 k_a0 (fun r33 kr33 => ?_)
        refine z_iload_n dX10_bringBack_163 rfl 1 rfl ?_
        refine z_aload_n dX10_bringBack_164 rfl 0 rfl ?_
        refine z_getR (kd := 50) dX10_bringBack_165 fl_X10_131 k_a0 (fun r34 kr34 => ?_)
        refine z_iload_n dX10_bringBack_168 rfl 2 rfl ?_
        refine z_iald dX10_bringBack_169 kr34 (fun v35 => ?_)
        refine z_iast dX10_bringBack_170 kr33 (fun h36 => ?_)
        refine z_iconst (v := 0) dX10_bringBack_171 (by decide) ?_
        refine z_istore_n (L' := [(3, .int ((0 : Int32))), (0, .ref (a0)), (1, .int (l1)), (2, .int (((12 : Int32) * (g_I h a0 52)) + l1))]) dX10_bringBack_172 rfl (by decide) rfl ?_
        refine z_sub [1, 2, 3, 0] rfl ?_
        refine zX10_bringBack_b173 _ _ _ a0 l1 (((12 : Int32) * (g_I h a0 52)) + l1) k_a0 _ (fun h41 => ?_) fu_ (0 : Int32) h36
        refine z_iinc (j := 1) (v := l1 + 1) (L' := [(1, .int (l1 + 1)), (0, .ref (a0))]) dX10_bringBack_204 rfl rfl (by decide) rfl ?_
        refine z_goto (tgt := 12) dX10_bringBack_207 (by decide) ?_
        refine z_sub [1, 0] rfl ?_
        exact ih ((l1 + 1)) h41
def fX10_bringBack (κ : Kd) (a0 : Nat) (h : Hp) : Option (Hp) :=
  if (κ a0).1 = 9 then (
  lt_ (s_I h a0 52 ((g_I h a0 52) - (1 : Int32))) fun h1 =>
  fX10_bringBack_b12 κ a0 fu_ (0 : Int32) h1) else none
set_option maxHeartbeats 4000000 in
set_option maxRecDepth 100000 in
theorem tX10_bringBack (κ : Kd) (n lim : Nat) (h : Hp) (a0 : Nat) : Ct_ mX10_bringBack [.ref (a0)] κ n lim h (eV κ n) (fX10_bringBack κ a0 h) := by
  refine ct_of (by decide) (Nat.le_of_ble_eq_true rfl) ?_
  unfold fX10_bringBack
  refine z_sub (L' := [(0, .ref (a0))]) [0] rfl ?_
  refine z_or (fun k_a0 => ?_)
  refine z_aload_n dX10_bringBack_0 rfl 0 rfl ?_
  refine z_dup dX10_bringBack_1 rfl ?_
  refine z_getI dX10_bringBack_2 fl_X10_360 k_a0 ?_
  refine z_iconst (v := 1) dX10_bringBack_5 (by decide) ?_
  refine z_isub dX10_bringBack_6 ?_
  refine z_putI dX10_bringBack_7 fl_X10_360 (Or.inl rfl) k_a0 (fun h1 => ?_)
  refine z_iconst (v := 0) dX10_bringBack_10 (by decide) ?_
  refine z_istore_n (L' := [(1, .int ((0 : Int32))), (0, .ref (a0))]) dX10_bringBack_11 rfl (by decide) rfl ?_
  refine z_sub [1, 0] rfl ?_
  exact zX10_bringBack_b12 _ _ _ a0 k_a0 fu_ (0 : Int32) h1
