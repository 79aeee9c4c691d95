def fX10_goesUp_b70 (κ : Kd) (a0 : Nat)  (h : Hp) : Option (Hp) :=
  if (g_I h a0 23) = 0 then (
    lt_ (s_I h a0 38 (2 : Int32)) fun h1 =>
    lt_ (s_I h1 a0 43 (g_I h1 a0 34)) fun h2 =>
    lt_ (s_J h2 a0 44 (g_J h2 a0 35)) fun h3 =>
    lt_ (s_I h3 a0 45 (g_I h3 a0 36)) fun h4 =>
    lt_ (s_I h4 a0 46 (g_I h4 a0 37)) fun h5 =>
    some h5
  ) else (
    some h
  )
set_option maxRecDepth 100000 in
theorem zX10_goesUp_b70 (κ : Kd) (n lim : Nat) (a0 : Nat)  (k_a0 : (κ a0).1 = 9) (h : Hp) : ZQ mX10_goesUp (eV κ n) (κ, n, 0, lim) 70 [(0, .ref (a0))] [] h (fX10_goesUp_b70 κ a0  h) := by
  unfold fX10_goesUp_b70
  refine z_aload_n dX10_goesUp_70 rfl 0 rfl ?_
  refine z_getI dX10_goesUp_71 fl_X10_239 k_a0 ?_
  refine z_if_ne (tgt := 114) dX10_goesUp_74 (by first | decide | omega) (fun _ => ?_) (fun _ => ?_)
  · skip
    exact z_vret dX10_goesUp_114 rfl (en0 _ _ _ _) rfl
  · skip
    refine z_aload_n dX10_goesUp_77 rfl 0 rfl ?_
    refine z_iconst (v := 2) dX10_goesUp_78 (by decide) ?_
    refine z_putI dX10_goesUp_79 fl_X10_278 (Or.inl rfl) k_a0 (fun h1 => ?_)
    refine z_aload_n dX10_goesUp_82 rfl 0 rfl ?_
    refine z_aload_n dX10_goesUp_83 rfl 0 rfl ?_
    refine z_getI dX10_goesUp_84 fl_X10_252 k_a0 ?_
    refine z_putI dX10_goesUp_87 fl_X10_281 (Or.inl rfl) k_a0 (fun h2 => ?_)
    refine z_aload_n dX10_goesUp_90 rfl 0 rfl ?_
    refine z_aload_n dX10_goesUp_91 rfl 0 rfl ?_
    refine z_getJ dX10_goesUp_92 fl_X10_258 k_a0 ?_
    refine z_putJ dX10_goesUp_95 fl_X10_284 (Or.inl rfl) k_a0 (fun h3 => ?_)
    refine z_aload_n dX10_goesUp_98 rfl 0 rfl ?_
    refine z_aload_n dX10_goesUp_99 rfl 0 rfl ?_
    refine z_getI dX10_goesUp_100 fl_X10_268 k_a0 ?_
    refine z_putI dX10_goesUp_103 fl_X10_100 (Or.inl rfl) k_a0 (fun h4 => ?_)
    refine z_aload_n dX10_goesUp_106 rfl 0 rfl ?_
    refine z_aload_n dX10_goesUp_107 rfl 0 rfl ?_
    refine z_getI dX10_goesUp_108 fl_X10_271 k_a0 ?_
    refine z_putI dX10_goesUp_111 fl_X10_104 (Or.inl rfl) k_a0 (fun h5 => ?_)
    exact z_vret dX10_goesUp_114 rfl (en0 _ _ _ _) rfl
def fX10_goesUp_b2 (κ : Kd) (a0 : Nat) : Nat → Int32 → Hp → Option (Hp)
  | 0, _, _ => none
  | N + 1, l1, h =>
    if l1 = 0 then (
      fX10_goesUp_b70 κ a0  h
    ) else (
      if (g_I h a0 23) ≤ 0 then (
        fX10_goesUp_b70 κ a0  h
      ) else (
        b2 (fX10_isTaken κ a0 h) fun v6 h7 =>
        if v6 = 0 then (
          (fX10_mayBeginLast κ a0 h7).bind fun v8 =>
          if v8 = 0 then (
            lt_ (s_I h7 a0 23 ((g_I h7 a0 23) - (1 : Int32))) fun h9 =>
            fX10_goesUp_b2 κ a0 N l1 h9
          ) else (
            (fX10_beginLast κ a0 (g_I h7 a0 34) (g_J h7 a0 35) (g_I h7 a0 36) (g_I h7 a0 37) h7).bind fun h10 =>
            fX10_goesUp_b2 κ a0 N (0 : Int32) h10
          )
        ) else (
          fX10_goesUp_b2 κ a0 N (0 : Int32) h7
        )
      )
    )
set_option maxRecDepth 100000 in
theorem zX10_goesUp_b2 (κ : Kd) (n lim : Nat) (a0 : Nat) (k_a0 : (κ a0).1 = 9) : ∀ (N : Nat) (l1 : Int32) (h : Hp), ZQ mX10_goesUp (eV κ n) (κ, n, 0, lim) 2 [(0, .ref (a0)), (1, .int (l1))] [] h (fX10_goesUp_b2 κ a0 N l1 h) := by
  intro N
  induction N with
  | zero =>
    intro l1 h
    rw [fX10_goesUp_b2]
    exact z_no
  | succ N ih =>
    intro l1 h
    rw [fX10_goesUp_b2]
    refine z_iload_n dX10_goesUp_2 rfl 1 rfl ?_
    refine z_if_eq (tgt := 70) dX10_goesUp_3 (by first | decide | omega) (fun _ => ?_) (fun _ => ?_)
    · skip
      refine z_sub [0] rfl ?_
      exact zX10_goesUp_b70 _ _ _ a0  k_a0 h
    · skip
      refine z_aload_n dX10_goesUp_6 rfl 0 rfl ?_
      refine z_getI dX10_goesUp_7 fl_X10_239 k_a0 ?_
      refine z_if_le (tgt := 70) dX10_goesUp_10 (by first | decide | omega) (fun _ => ?_) (fun _ => ?_)
      · skip
        refine z_sub [0] rfl ?_
        exact zX10_goesUp_b70 _ _ _ a0  k_a0 h
      · skip
        refine z_aload_n dX10_goesUp_13 rfl 0 rfl ?_
        refine z_cI (as := [.ref (a0)]) (rn_V dX10_goesUp_14 mf_X10_isTaken in_X10_isTaken lk_X10_261 ⟨by decide, by decide⟩ cl_8 rfl k_a0 rfl (Nat.le_of_ble_eq_true rfl)) (tX10_isTaken _ _ _ _ _) cz_X10_isTaken (c00 _) (fun v6 h7 => ?_)
        refine z_if_eq (tgt := 25) dX10_goesUp_17 (by first | decide | omega) (fun _ => ?_) (fun _ => ?_)
        · skip
          refine z_aload_n dX10_goesUp_25 rfl 0 rfl ?_
          refine z_pI (as := [.ref (a0)]) (rn_V dX10_goesUp_26 mf_X10_mayBeginLast in_X10_mayBeginLast lk_X10_265 ⟨by decide, by decide⟩ cl_8 rfl k_a0 rfl (Nat.le_of_ble_eq_true rfl)) (tX10_mayBeginLast _ _ _ _ _) cz_X10_mayBeginLast (c00 _) (fun v8 => ?_)
          refine z_if_eq (tgt := 57) dX10_goesUp_29 (by first | decide | omega) (fun _ => ?_) (fun _ => ?_)
          · skip
            refine z_aload_n dX10_goesUp_57 rfl 0 rfl ?_
            refine z_dup dX10_goesUp_58 rfl ?_
            refine z_getI dX10_goesUp_59 fl_X10_239 k_a0 ?_
            refine z_iconst (v := 1) dX10_goesUp_62 (by decide) ?_
            refine z_isub dX10_goesUp_63 ?_
            refine z_putI dX10_goesUp_64 fl_X10_239 (Or.inl rfl) k_a0 (fun h9 => ?_)
            refine z_goto (tgt := 2) dX10_goesUp_67 (by decide) ?_
            refine z_sub [0, 1] rfl ?_
            exact ih (l1) h9
          · skip
            refine z_aload_n dX10_goesUp_32 rfl 0 rfl ?_
            refine z_aload_n dX10_goesUp_33 rfl 0 rfl ?_
            refine z_getI dX10_goesUp_34 fl_X10_252 k_a0 ?_
            refine z_aload_n dX10_goesUp_37 rfl 0 rfl ?_
            refine z_getJ dX10_goesUp_38 fl_X10_258 k_a0 ?_
            refine z_aload_n dX10_goesUp_41 rfl 0 rfl ?_
            refine z_getI dX10_goesUp_42 fl_X10_268 k_a0 ?_
            refine z_aload_n dX10_goesUp_45 rfl 0 rfl ?_
            refine z_getI dX10_goesUp_46 fl_X10_271 k_a0 ?_
            refine z_cV (as := [.ref (a0), .int (g_I h7 a0 34), .long (g_J h7 a0 35), .int (g_I h7 a0 36), .int (g_I h7 a0 37)]) (rn_V dX10_goesUp_49 mf_X10_beginLast in_X10_beginLast lk_X10_274 ⟨by decide, by decide⟩ cl_8 rfl k_a0 rfl (Nat.le_of_ble_eq_true rfl)) (tX10_beginLast _ _ _ _ _ _ _ _ _) cz_X10_beginLast (c00 _) (fun h10 => ?_)
            refine z_iconst (v := 0) dX10_goesUp_52 (by decide) ?_
            refine z_istore_n (L' := [(1, .int ((0 : Int32))), (0, .ref (a0))]) dX10_goesUp_53 rfl (by decide) rfl ?_
            refine z_goto (tgt := 2) dX10_goesUp_54 (by decide) ?_
            refine z_sub [1, 0] rfl ?_
            exact ih ((0 : Int32)) h10
        · skip
          refine z_iconst (v := 0) dX10_goesUp_20 (by decide) ?_
          refine z_istore_n (L' := [(1, .int ((0 : Int32))), (0, .ref (a0))]) dX10_goesUp_21 rfl (by decide) rfl ?_
          refine z_goto (tgt := 2) dX10_goesUp_22 (by decide) ?_
          refine z_sub [1, 0] rfl ?_
          exact ih ((0 : Int32)) h7
def fX10_goesUp (κ : Kd) (a0 : Nat) (h : Hp) : Option (Hp) :=
  if (κ a0).1 = 9 then (
  fX10_goesUp_b2 κ a0 fu_ (1 : Int32) h) else none
set_option maxHeartbeats 4000000 in
set_option maxRecDepth 100000 in
theorem tX10_goesUp (κ : Kd) (n lim : Nat) (h : Hp) (a0 : Nat) : Ct_ mX10_goesUp [.ref (a0)] κ n lim h (eV κ n) (fX10_goesUp κ a0 h) := by
  refine ct_of (by decide) (Nat.le_of_ble_eq_true rfl) ?_
  unfold fX10_goesUp
  refine z_sub (L' := [(0, .ref (a0))]) [0] rfl ?_
  refine z_or (fun k_a0 => ?_)
  refine z_iconst (v := 1) dX10_goesUp_0 (by decide) ?_
  refine z_istore_n (L' := [(1, .int ((1 : Int32))), (0, .ref (a0))]) dX10_goesUp_1 rfl (by decide) rfl ?_
  refine z_sub [1, 0] rfl ?_
  exact zX10_goesUp_b2 _ _ _ a0 k_a0 fu_ (1 : Int32) h
def fX10_comes (κ : Kd) (a0 : Nat) (l1 : Int32) (l2 : Int64) (h : Hp) : Option (Hp) :=
  if (κ a0).1 = 9 then (
  lt_ (s_I h a0 48 ((g_I h a0 48) + (1 : Int32))) fun h1 =>
  if (g_I h1 a0 48) = (25 : Int32) then (
    lt_ (s_I h1 a0 38 (3 : Int32)) fun h11 =>
    some h11
  ) else (
    lt_ (s_I h1 a0 34 l1) fun h2 =>
    lt_ (s_J h2 a0 35 l2) fun h3 =>
    to_ κ (g_R h3 a0 24) 50 fun r4 =>
    a_I κ h3 r4 ((g_I h3 a0 23) - (1 : Int32)) fun v5 =>
    lt_ (s_I h3 a0 36 v5) fun h6 =>
    to_ κ (g_R h6 a0 25) 50 fun r7 =>
    a_I κ h6 r7 ((g_I h6 a0 23) - (1 : Int32)) fun v8 =>
    lt_ (s_I h6 a0 37 v8) fun h9 =>
    (fX10_goesUp κ a0 h9).bind fun h10 =>
    some h10
  )) else none
set_option maxHeartbeats 4000000 in
set_option maxRecDepth 100000 in
theorem tX10_comes (κ : Kd) (n lim : Nat) (h : Hp) (a0 : Nat) (l1 : Int32) (l2 : Int64) : Ct_ mX10_comes [.ref (a0), .int (l1), .long (l2)] κ n lim h (eV κ n) (fX10_comes κ a0 l1 l2 h) := by
  refine ct_of (by decide) (Nat.le_of_ble_eq_true rfl) ?_
  unfold fX10_comes
  refine z_sub (L' := [(0, .ref (a0)), (1, .int (l1)), (2, .long (l2))]) [0, 1, 2] rfl ?_
  refine z_or (fun k_a0 => ?_)
  refine z_aload_n dX10_comes_0 rfl 0 rfl ?_
  refine z_dup dX10_comes_1 rfl ?_
  refine z_getI dX10_comes_2 fl_X10_287 k_a0 ?_
  refine z_iconst (v := 1) dX10_comes_5 (by decide) ?_
  refine z_iadd dX10_comes_6 ?_
  refine z_putI dX10_comes_7 fl_X10_287 (Or.inl rfl) k_a0 (fun h1 => ?_)
  refine z_aload_n dX10_comes_10 rfl 0 rfl ?_
  refine z_getI dX10_comes_11 fl_X10_287 k_a0 ?_
  refine z_bipush (v := 25) dX10_comes_14 (by decide) ?_
  refine z_icmp_ne (tgt := 25) dX10_comes_16 (by first | decide | omega) (fun _ => ?_) (fun _ => ?_)
  · skip
    refine z_aload_n dX10_comes_25 rfl 0 rfl ?_
    refine z_iload_n dX10_comes_26 rfl 1 rfl ?_
    refine z_putI dX10_comes_27 fl_X10_252 (Or.inl rfl) k_a0 (fun h2 => ?_)
    refine z_aload_n dX10_comes_30 rfl 0 rfl ?_
    refine z_lload_n dX10_comes_31 rfl 2 rfl ?_
    refine z_putJ dX10_comes_32 fl_X10_258 (Or.inl rfl) k_a0 (fun h3 => ?_)
    refine z_aload_n dX10_comes_35 rfl 0 rfl ?_
    refine z_aload_n dX10_comes_36 rfl 0 rfl ?_
    refine z_getR (kd := 50) dX10_comes_37 fl_X10_66 k_a0 (fun r4 kr4 => ?_)
    refine z_aload_n dX10_comes_40 rfl 0 rfl ?_
    refine z_getI dX10_comes_41 fl_X10_239 k_a0 ?_
    refine z_iconst (v := 1) dX10_comes_44 (by decide) ?_
    refine z_isub dX10_comes_45 ?_
    refine z_iald dX10_comes_46 kr4 (fun v5 => ?_)
    refine z_putI dX10_comes_47 fl_X10_268 (Or.inl rfl) k_a0 (fun h6 => ?_)
    refine z_aload_n dX10_comes_50 rfl 0 rfl ?_
    refine z_aload_n dX10_comes_51 rfl 0 rfl ?_
    refine z_getR (kd := 50) dX10_comes_52 fl_X10_69 k_a0 (fun r7 kr7 => ?_)
    refine z_aload_n dX10_comes_55 rfl 0 rfl ?_
    refine z_getI dX10_comes_56 fl_X10_239 k_a0 ?_
    refine z_iconst (v := 1) dX10_comes_59 (by decide) ?_
    refine z_isub dX10_comes_60 ?_
    refine z_iald dX10_comes_61 kr7 (fun v8 => ?_)
    refine z_putI dX10_comes_62 fl_X10_271 (Or.inl rfl) k_a0 (fun h9 => ?_)
    refine z_aload_n dX10_comes_65 rfl 0 rfl ?_
    refine z_cV (as := [.ref (a0)]) (rn_V dX10_comes_66 mf_X10_goesUp in_X10_goesUp lk_X10_290 ⟨by decide, by decide⟩ cl_8 rfl k_a0 rfl (Nat.le_of_ble_eq_true rfl)) (tX10_goesUp _ _ _ _ _) cz_X10_goesUp (c00 _) (fun h10 => ?_)
    exact z_vret dX10_comes_69 rfl (en0 _ _ _ _) rfl
  · skip
    refine z_aload_n dX10_comes_19 rfl 0 rfl ?_
    refine z_iconst (v := 3) dX10_comes_20 (by decide) ?_
    refine z_putI dX10_comes_21 fl_X10_278 (Or.inl rfl) k_a0 (fun h11 => ?_)
    exact z_vret dX10_comes_24 rfl (en0 _ _ _ _) rfl
def fX10_goesTo (κ : Kd) (a0 : Nat) (l1 : Int32) (h : Hp) : Option (Hp) :=
  if (κ a0).1 = 9 then (
  to_ κ (g_R h a0 24) 50 fun r1 =>
  a_I κ h r1 ((g_I h a0 23) - (1 : Int32)) fun v2 =>
  (fX10_isPlace κ a0 v2 l1 h).bind fun v3 =>
  if v3 = 0 then (
    (fX10_comes κ a0 (10 : Int32) (0 : Int64) h).bind fun h4 =>
    some h4
  ) else (
    to_ κ (g_R h a0 25) 50 fun r5 =>
    w_I κ h r5 ((g_I h a0 23) - (1 : Int32)) l1 fun h6 =>
    some h6
  )) else none
set_option maxHeartbeats 4000000 in
set_option maxRecDepth 100000 in
theorem tX10_goesTo (κ : Kd) (n lim : Nat) (h : Hp) (a0 : Nat) (l1 : Int32) : Ct_ mX10_goesTo [.ref (a0), .int (l1)] κ n lim h (eV κ n) (fX10_goesTo κ a0 l1 h) := by
  refine ct_of (by decide) (Nat.le_of_ble_eq_true rfl) ?_
  unfold fX10_goesTo
  refine z_sub (L' := [(0, .ref (a0)), (1, .int (l1))]) [0, 1] rfl ?_
  refine z_or (fun k_a0 => ?_)
  refine z_aload_n dX10_goesTo_0 rfl 0 rfl ?_
  refine z_getI dX10_goesTo_1 fl_X10_239 k_a0 ?_
  refine z_iconst (v := 1) dX10_goesTo_4 (by decide) ?_
  refine z_isub dX10_goesTo_5 ?_
  refine z_istore_n (L' := [(2, .int ((g_I h a0 23) - (1 : Int32))), (0, .ref (a0)), (1, .int (l1))]) dX10_goesTo_6 rfl (by decide) rfl ?_
  refine z_aload_n dX10_goesTo_7 rfl 1 rfl ?_
  refine z_aload_n dX10_goesTo_8 rfl 1 rfl ?_
  refine z_getR (kd := 50) dX10_goesTo_9 fl_X10_66 k_a0 (fun r1 kr1 => ?_)
  refine z_iload_n dX10_goesTo_12 rfl 0 rfl ?_
  refine z_iald dX10_goesTo_13 kr1 (fun v2 => ?_)
  refine z_iload_n dX10_goesTo_14 rfl 2 rfl ?_
  refine z_pI (as := [.ref (a0), .int (v2), .int (l1)]) (rn_V dX10_goesTo_15 mf_X10_isPlace in_X10_isPlace lk_X10_245 ⟨by decide, by decide⟩ cl_8 rfl k_a0 rfl (Nat.le_of_ble_eq_true rfl)) (tX10_isPlace _ _ _ _ _ _ _) cz_X10_isPlace (c00 _) (fun v3 => ?_)
  refine z_if_eq (tgt := 31) dX10_goesTo_18 (by first | decide | omega) (fun _ => ?_) (fun _ => ?_)
  · skip
    refine z_aload_n dX10_goesTo_31 rfl 1 rfl ?_
    refine z_bipush (v := 10) dX10_goesTo_32 (by decide) ?_
    refine z_lconst (v := 0) dX10_goesTo_34 (by decide) ?_
    refine z_cV (as := [.ref (a0), .int ((10 : Int32)), .long ((0 : Int64))]) (rn_V dX10_goesTo_35 mf_X10_comes in_X10_comes lk_X10_293 ⟨by decide, by decide⟩ cl_8 rfl k_a0 rfl (Nat.le_of_ble_eq_true rfl)) (tX10_comes _ _ _ _ _ _ _) cz_X10_comes (c00 _) (fun h4 => ?_)
    exact z_vret dX10_goesTo_38 rfl (en0 _ _ _ _) rfl
  · skip
    refine z_aload_n dX10_goesTo_21 rfl 1 rfl ?_
    refine z_getR (kd := 50) dX10_goesTo_22 fl_X10_69 k_a0 (fun r5 kr5 => ?_)
    refine z_iload_n dX10_goesTo_25 rfl 0 rfl ?_
    refine z_iload_n dX10_goesTo_26 rfl 2 rfl ?_
    refine z_iast dX10_goesTo_27 kr5 (fun h6 => ?_)
    refine z_goto (tgt := 38) dX10_goesTo_28 (by decide) ?_
    exact z_vret dX10_goesTo_38 rfl (en0 _ _ _ _) rfl
def fX10_lays (κ : Kd) (a0 : Nat) (l1 : Int64) (h : Hp) : Option (Hp) :=
  if (κ a0).1 = 9 then (
  to_ κ (g_R h a0 28) 50 fun r1 =>
  a_I κ h r1 ((g_I h a0 23) - (1 : Int32)) fun v2 =>
  if v2 = (8 : Int32) then (
    (fX10_comes κ a0 (8 : Int32) (0 : Int64) h).bind fun h13 =>
    some h13
  ) else (
    to_ κ (g_R h a0 27) 51 fun r3 =>
    to_ κ (g_R h a0 28) 50 fun r4 =>
    a_I κ h r4 ((g_I h a0 23) - (1 : Int32)) fun v5 =>
    w_J κ h r3 (((8 : Int32) * ((g_I h a0 23) - (1 : Int32))) + v5) l1 fun h6 =>
    to_ κ (g_R h6 a0 28) 50 fun r7 =>
    a_I κ h6 r7 ((g_I h a0 23) - (1 : Int32)) fun v8 =>
    w_I κ h6 r7 ((g_I h a0 23) - (1 : Int32)) (v8 + (1 : Int32)) fun h9 =>
    to_ κ (g_R h9 a0 25) 50 fun r10 =>
    a_I κ h9 r10 ((g_I h a0 23) - (1 : Int32)) fun v11 =>
    (fX10_goesTo κ a0 (v11 + (1 : Int32)) h9).bind fun h12 =>
    some h12
  )) else none
set_option maxHeartbeats 4000000 in
set_option maxRecDepth 100000 in
theorem tX10_lays (κ : Kd) (n lim : Nat) (h : Hp) (a0 : Nat) (l1 : Int64) : Ct_ mX10_lays [.ref (a0), .long (l1)] κ n lim h (eV κ n) (fX10_lays κ a0 l1 h) := by
  refine ct_of (by decide) (Nat.le_of_ble_eq_true rfl) ?_
  unfold fX10_lays
  refine z_sub (L' := [(0, .ref (a0)), (1, .long (l1))]) [0, 1] rfl ?_
  refine z_or (fun k_a0 => ?_)
  refine z_aload_n dX10_lays_0 rfl 0 rfl ?_
  refine z_getI dX10_lays_1 fl_X10_239 k_a0 ?_
  refine z_iconst (v := 1) dX10_lays_4 (by decide) ?_
  refine z_isub dX10_lays_5 ?_
  refine z_istore_n (L' := [(3, .int ((g_I h a0 23) - (1 : Int32))), (0, .ref (a0)), (1, .long (l1))]) dX10_lays_6 rfl (by decide) rfl ?_
  refine z_aload_n dX10_lays_7 rfl 1 rfl ?_
  refine z_getR (kd := 50) dX10_lays_8 fl_X10_78 k_a0 (fun r1 kr1 => ?_)
  refine z_iload_n dX10_lays_11 rfl 0 rfl ?_
  refine z_iald dX10_lays_12 kr1 (fun v2 => ?_)
  refine z_bipush (v := 8) dX10_lays_13 (by decide) ?_
  refine z_icmp_ne (tgt := 26) dX10_lays_15 (by first | decide | omega) (fun _ => ?_) (fun _ => ?_)
  · skip
    refine z_aload_n dX10_lays_26 rfl 1 rfl ?_
    refine z_getR (kd := 51) dX10_lays_27 fl_X10_75 k_a0 (fun r3 kr3 => ?_)
    refine z_bipush (v := 8) dX10_lays_30 (by decide) ?_
    refine z_iload_n dX10_lays_32 rfl 0 rfl ?_
    refine z_imul dX10_lays_33 ?_
    refine z_aload_n dX10_lays_34 rfl 1 rfl ?_
    refine z_getR (kd := 50) dX10_lays_35 fl_X10_78 k_a0 (fun r4 kr4 => ?_)
    refine z_iload_n dX10_lays_38 rfl 0 rfl ?_
    refine z_iald dX10_lays_39 kr4 (fun v5 => ?_)
    refine z_iadd dX10_lays_40 ?_
    refine z_lload_n dX10_lays_41 rfl 2 rfl ?_
    refine z_last dX10_lays_42 kr3 (fun h6 => ?_)
    refine z_aload_n dX10_lays_43 rfl 1 rfl ?_
    refine z_getR (kd := 50) dX10_lays_44 fl_X10_78 k_a0 (fun r7 kr7 => ?_)
    refine z_iload_n dX10_lays_47 rfl 0 rfl ?_
    refine z_dup2 dX10_lays_48 rfl rfl ?_
    refine z_iald dX10_lays_49 kr7 (fun v8 => ?_)
    refine z_iconst (v := 1) dX10_lays_50 (by decide) ?_
    refine z_iadd dX10_lays_51 ?_
    refine z_iast dX10_lays_52 kr7 (fun h9 => ?_)
    refine z_aload_n dX10_lays_53 rfl 1 rfl ?_
    refine z_aload_n dX10_lays_54 rfl 1 rfl ?_
    refine z_getR (kd := 50) dX10_lays_55 fl_X10_69 k_a0 (fun r10 kr10 => ?_)
    refine z_iload_n dX10_lays_58 rfl 0 rfl ?_
    refine z_iald dX10_lays_59 kr10 (fun v11 => ?_)
    refine z_iconst (v := 1) dX10_lays_60 (by decide) ?_
    refine z_iadd dX10_lays_61 ?_
    refine z_cV (as := [.ref (a0), .int (v11 + (1 : Int32))]) (rn_V dX10_lays_62 mf_X10_goesTo in_X10_goesTo lk_X10_297 ⟨by decide, by decide⟩ cl_8 rfl k_a0 rfl (Nat.le_of_ble_eq_true rfl)) (tX10_goesTo _ _ _ _ _ _) cz_X10_goesTo (c00 _) (fun h12 => ?_)
    exact z_vret dX10_lays_65 rfl (en0 _ _ _ _) rfl
  · skip
    refine z_aload_n dX10_lays_18 rfl 1 rfl ?_
    refine z_bipush (v := 8) dX10_lays_19 (by decide) ?_
    refine z_lconst (v := 0) dX10_lays_21 (by decide) ?_
    refine z_cV (as := [.ref (a0), .int ((8 : Int32)), .long ((0 : Int64))]) (rn_V dX10_lays_22 mf_X10_comes in_X10_comes lk_X10_293 ⟨by decide, by decide⟩ cl_8 rfl k_a0 rfl (Nat.le_of_ble_eq_true rfl)) (tX10_comes _ _ _ _ _ _ _) cz_X10_comes (c00 _) (fun h13 => ?_)
    exact z_vret dX10_lays_25 rfl (en0 _ _ _ _) rfl
def fX10_goesOn (κ : Kd) (a0 : Nat) (h : Hp) : Option (Hp) :=
  if (κ a0).1 = 9 then (
  to_ κ (g_R h a0 25) 50 fun r1 =>
  a_I κ h r1 ((g_I h a0 23) - (1 : Int32)) fun v2 =>
  (fX10_goesTo κ a0 (v2 + (1 : Int32)) h).bind fun h3 =>
  some h3) else none
set_option maxHeartbeats 4000000 in
set_option maxRecDepth 100000 in
theorem tX10_goesOn (κ : Kd) (n lim : Nat) (h : Hp) (a0 : Nat) : Ct_ mX10_goesOn [.ref (a0)] κ n lim h (eV κ n) (fX10_goesOn κ a0 h) := by
  refine ct_of (by decide) (Nat.le_of_ble_eq_true rfl) ?_
  unfold fX10_goesOn
  refine z_sub (L' := [(0, .ref (a0))]) [0] rfl ?_
  refine z_or (fun k_a0 => ?_)
  refine z_aload_n dX10_goesOn_0 rfl 0 rfl ?_
  refine z_aload_n dX10_goesOn_1 rfl 0 rfl ?_
  refine z_getR (kd := 50) dX10_goesOn_2 fl_X10_69 k_a0 (fun r1 kr1 => ?_)
  refine z_aload_n dX10_goesOn_5 rfl 0 rfl ?_
  refine z_getI dX10_goesOn_6 fl_X10_239 k_a0 ?_
  refine z_iconst (v := 1) dX10_goesOn_9 (by decide) ?_
  refine z_isub dX10_goesOn_10 ?_
  refine z_iald dX10_goesOn_11 kr1 (fun v2 => ?_)
  refine z_iconst (v := 1) dX10_goesOn_12 (by decide) ?_
  refine z_iadd dX10_goesOn_13 ?_
  refine z_cV (as := [.ref (a0), .int (v2 + (1 : Int32))]) (rn_V dX10_goesOn_14 mf_X10_goesTo in_X10_goesTo lk_X10_297 ⟨by decide, by decide⟩ cl_8 rfl k_a0 rfl (Nat.le_of_ble_eq_true rfl)) (tX10_goesTo _ _ _ _ _ _) cz_X10_goesTo (c00 _) (fun h3 => ?_)
  exact z_vret dX10_goesOn_17 rfl (en0 _ _ _ _) rfl
def fX10_endsWith (κ : Kd) (a0 : Nat) (l1 : Int64) (h : Hp) : Option (Hp) :=
  if (κ a0).1 = 9 then (
  lt_ (s_I h a0 23 ((g_I h a0 23) - (1 : Int32))) fun h1 =>
  if (g_I h1 a0 23) = 0 then (
    lt_ (s_I h1 a0 38 (1 : Int32)) fun h3 =>
    lt_ (s_J h3 a0 42 l1) fun h4 =>
    some h4
  ) else (
    (fX10_lays κ a0 l1 h1).bind fun h2 =>
    some h2
  )) else none
set_option maxHeartbeats 4000000 in
set_option maxRecDepth 100000 in
theorem tX10_endsWith (κ : Kd) (n lim : Nat) (h : Hp) (a0 : Nat) (l1 : Int64) : Ct_ mX10_endsWith [.ref (a0), .long (l1)] κ n lim h (eV κ n) (fX10_endsWith κ a0 l1 h) := by
  refine ct_of (by decide) (Nat.le_of_ble_eq_true rfl) ?_
  unfold fX10_endsWith
  refine z_sub (L' := [(0, .ref (a0)), (1, .long (l1))]) [0, 1] rfl ?_
  refine z_or (fun k_a0 => ?_)
  refine z_aload_n dX10_endsWith_0 rfl 0 rfl ?_
  refine z_dup dX10_endsWith_1 rfl ?_
  refine z_getI dX10_endsWith_2 fl_X10_239 k_a0 ?_
  refine z_iconst (v := 1) dX10_endsWith_5 (by decide) ?_
  refine z_isub dX10_endsWith_6 ?_
  refine z_putI dX10_endsWith_7 fl_X10_239 (Or.inl rfl) k_a0 (fun h1 => ?_)
  refine z_aload_n dX10_endsWith_10 rfl 0 rfl ?_
  refine z_getI dX10_endsWith_11 fl_X10_239 k_a0 ?_
  refine z_if_ne (tgt := 30) dX10_endsWith_14 (by first | decide | omega) (fun _ => ?_) (fun _ => ?_)
  · skip
    refine z_aload_n dX10_endsWith_30 rfl 0 rfl ?_
    refine z_lload_n dX10_endsWith_31 rfl 1 rfl ?_
    refine z_cV (as := [.ref (a0), .long (l1)]) (rn_V dX10_endsWith_32 mf_X10_lays in_X10_lays lk_X10_304 ⟨by decide, by decide⟩ cl_8 rfl k_a0 rfl (Nat.le_of_ble_eq_true rfl)) (tX10_lays _ _ _ _ _ _) cz_X10_lays (c00 _) (fun h2 => ?_)
    exact z_vret dX10_endsWith_35 rfl (en0 _ _ _ _) rfl
  · skip
    refine z_aload_n dX10_endsWith_17 rfl 0 rfl ?_
    refine z_iconst (v := 1) dX10_endsWith_18 (by decide) ?_
    refine z_putI dX10_endsWith_19 fl_X10_278 (Or.inl rfl) k_a0 (fun h3 => ?_)
    refine z_aload_n dX10_endsWith_22 rfl 0 rfl ?_
    refine z_lload_n dX10_endsWith_23 rfl 1 rfl ?_
    refine z_putJ dX10_endsWith_24 fl_X10_301 (Or.inl rfl) k_a0 (fun h4 => ?_)
    refine z_goto (tgt := 35) dX10_endsWith_27 (by decide) ?_
    exact z_vret dX10_endsWith_35 rfl (en0 _ _ _ _) rfl
def fX10_takes (κ : Kd) (l0 : Int32) (l1 : Int32) (l2 : Int32) (h : Hp) : Option (Int32) :=
  if l0 = (2 : Int32) then (
    some ((1 : Int32))
  ) else
  if l0 = (3 : Int32) then (
    some ((2 : Int32))
  ) else
  if l0 = (4 : Int32) then (
    some ((2 : Int32))
  ) else
  if l0 = (5 : Int32) then (
    some ((2 : Int32))
  ) else
  if l0 = (6 : Int32) then (
    some ((2 : Int32))
  ) else
  if l0 = (7 : Int32) then (
    some ((2 : Int32))
  ) else
  if l0 = (8 : Int32) then (
    some ((2 : Int32))
  ) else
  if l0 = (9 : Int32) then (
    some ((2 : Int32))
  ) else
  if l0 = (11 : Int32) then (
    some ((1 : Int32))
  ) else
  if l0 = (12 : Int32) then (
    some ((1 : Int32))
  ) else
  if l0 = (13 : Int32) then (
    some ((2 : Int32))
  ) else
  if l0 = (15 : Int32) then (
    some ((1 : Int32))
  ) else
  if l0 = (17 : Int32) then (
    some ((1 : Int32))
  ) else
  if l0 = (18 : Int32) then (
    some ((2 : Int32))
  ) else
  if l0 = (19 : Int32) then (
    some (l2)
  ) else
  if l0 = (20 : Int32) then (
    some ((1 : Int32))
  ) else
  if l0 = (21 : Int32) then (
    some ((1 : Int32))
  ) else
  if l0 = (23 : Int32) then (
    if l1 = (1 : Int32) then (
      some ((2 : Int32))
    ) else (
      if l1 ≤ (5 : Int32) then (
        some ((1 : Int32))
      ) else (
        some ((2 : Int32))
      )
    )
  ) else
  if l0 = (24 : Int32) then (
    some ((3 : Int32))
  ) else
  if l0 = (25 : Int32) then (
    some ((2 : Int32))
  ) else
  if l0 = (26 : Int32) then (
    some ((1 : Int32))
  ) else
  (
    some ((0 : Int32))
  )
set_option maxHeartbeats 4000000 in
set_option maxRecDepth 100000 in
theorem tX10_takes (κ : Kd) (n lim : Nat) (h : Hp) (l0 : Int32) (l1 : Int32) (l2 : Int32) : Ct_ mX10_takes [.int (l0), .int (l1), .int (l2)] κ n lim h (pI κ n h) (fX10_takes κ l0 l1 l2 h) := by
  refine ct_of (by decide) (Nat.le_of_ble_eq_true rfl) ?_
  unfold fX10_takes
  refine z_sub (L' := [(0, .int (l0)), (1, .int (l1)), (2, .int (l2))]) [0, 1, 2] rfl ?_
  refine z_iload_n dX10_takes_0 rfl 0 rfl ?_
  refine z_ite (fun c2 => ?_) (fun n1 => ?_)
  · refine z_tin (tgt := 116) dX10_takes_1 (2) c2 (by decide) (by decide) rfl (by decide) ?_
    refine z_iconst (v := 1) dX10_takes_116 (by decide) ?_
    exact z_iret dX10_takes_117 rfl (en0 _ _ _ _) rfl
  refine z_ite (fun c4 => ?_) (fun n3 => ?_)
  · refine z_tin (tgt := 118) dX10_takes_1 (3) c4 (by decide) (by decide) rfl (by decide) ?_
    refine z_iconst (v := 2) dX10_takes_118 (by decide) ?_
    exact z_iret dX10_takes_119 rfl (en0 _ _ _ _) rfl
  refine z_ite (fun c6 => ?_) (fun n5 => ?_)
  · refine z_tin (tgt := 118) dX10_takes_1 (4) c6 (by decide) (by decide) rfl (by decide) ?_
    refine z_iconst (v := 2) dX10_takes_118 (by decide) ?_
    exact z_iret dX10_takes_119 rfl (en0 _ _ _ _) rfl
  refine z_ite (fun c8 => ?_) (fun n7 => ?_)
  · refine z_tin (tgt := 118) dX10_takes_1 (5) c8 (by decide) (by decide) rfl (by decide) ?_
    refine z_iconst (v := 2) dX10_takes_118 (by decide) ?_
    exact z_iret dX10_takes_119 rfl (en0 _ _ _ _) rfl
  refine z_ite (fun c10 => ?_) (fun n9 => ?_)
  · refine z_tin (tgt := 118) dX10_takes_1 (6) c10 (by decide) (by decide) rfl (by decide) ?_
    refine z_iconst (v := 2) dX10_takes_118 (by decide) ?_
    exact z_iret dX10_takes_119 rfl (en0 _ _ _ _) rfl
  refine z_ite (fun c12 => ?_) (fun n11 => ?_)
  · refine z_tin (tgt := 118) dX10_takes_1 (7) c12 (by decide) (by decide) rfl (by decide) ?_
    refine z_iconst (v := 2) dX10_takes_118 (by decide) ?_
    exact z_iret dX10_takes_119 rfl (en0 _ _ _ _) rfl
  refine z_ite (fun c14 => ?_) (fun n13 => ?_)
  · refine z_tin (tgt := 118) dX10_takes_1 (8) c14 (by decide) (by decide) rfl (by decide) ?_
    refine z_iconst (v := 2) dX10_takes_118 (by decide) ?_
    exact z_iret dX10_takes_119 rfl (en0 _ _ _ _) rfl
  refine z_ite (fun c16 => ?_) (fun n15 => ?_)
  · refine z_tin (tgt := 118) dX10_takes_1 (9) c16 (by decide) (by decide) rfl (by decide) ?_
    refine z_iconst (v := 2) dX10_takes_118 (by decide) ?_
    exact z_iret dX10_takes_119 rfl (en0 _ _ _ _) rfl
  refine z_ite (fun c18 => ?_) (fun n17 => ?_)
  · refine z_tin (tgt := 116) dX10_takes_1 (11) c18 (by decide) (by decide) rfl (by decide) ?_
    refine z_iconst (v := 1) dX10_takes_116 (by decide) ?_
    exact z_iret dX10_takes_117 rfl (en0 _ _ _ _) rfl
  refine z_ite (fun c20 => ?_) (fun n19 => ?_)
  · refine z_tin (tgt := 116) dX10_takes_1 (12) c20 (by decide) (by decide) rfl (by decide) ?_
    refine z_iconst (v := 1) dX10_takes_116 (by decide) ?_
    exact z_iret dX10_takes_117 rfl (en0 _ _ _ _) rfl
  refine z_ite (fun c22 => ?_) (fun n21 => ?_)
  · refine z_tin (tgt := 118) dX10_takes_1 (13) c22 (by decide) (by decide) rfl (by decide) ?_
    refine z_iconst (v := 2) dX10_takes_118 (by decide) ?_
    exact z_iret dX10_takes_119 rfl (en0 _ _ _ _) rfl
  refine z_ite (fun c24 => ?_) (fun n23 => ?_)
  · refine z_tin (tgt := 116) dX10_takes_1 (15) c24 (by decide) (by decide) rfl (by decide) ?_
    refine z_iconst (v := 1) dX10_takes_116 (by decide) ?_
    exact z_iret dX10_takes_117 rfl (en0 _ _ _ _) rfl
  refine z_ite (fun c26 => ?_) (fun n25 => ?_)
  · refine z_tin (tgt := 116) dX10_takes_1 (17) c26 (by decide) (by decide) rfl (by decide) ?_
    refine z_iconst (v := 1) dX10_takes_116 (by decide) ?_
    exact z_iret dX10_takes_117 rfl (en0 _ _ _ _) rfl
  refine z_ite (fun c28 => ?_) (fun n27 => ?_)
  · refine z_tin (tgt := 118) dX10_takes_1 (18) c28 (by decide) (by decide) rfl (by decide) ?_
    refine z_iconst (v := 2) dX10_takes_118 (by decide) ?_
    exact z_iret dX10_takes_119 rfl (en0 _ _ _ _) rfl
  refine z_ite (fun c30 => ?_) (fun n29 => ?_)
  · refine z_tin (tgt := 120) dX10_takes_1 (19) c30 (by decide) (by decide) rfl (by decide) ?_
    refine z_iload_n dX10_takes_120 rfl 2 rfl ?_
    exact z_iret dX10_takes_121 rfl (en0 _ _ _ _) rfl
  refine z_ite (fun c32 => ?_) (fun n31 => ?_)
  · refine z_tin (tgt := 116) dX10_takes_1 (20) c32 (by decide) (by decide) rfl (by decide) ?_
    refine z_iconst (v := 1) dX10_takes_116 (by decide) ?_
    exact z_iret dX10_takes_117 rfl (en0 _ _ _ _) rfl
  refine z_ite (fun c34 => ?_) (fun n33 => ?_)
  · refine z_tin (tgt := 116) dX10_takes_1 (21) c34 (by decide) (by decide) rfl (by decide) ?_
    refine z_iconst (v := 1) dX10_takes_116 (by decide) ?_
    exact z_iret dX10_takes_117 rfl (en0 _ _ _ _) rfl
  refine z_ite (fun c36 => ?_) (fun n35 => ?_)
  · refine z_tin (tgt := 122) dX10_takes_1 (23) c36 (by decide) (by decide) rfl (by decide) ?_
    refine z_iload_n dX10_takes_122 rfl 1 rfl ?_
    refine z_iconst (v := 1) dX10_takes_123 (by decide) ?_
    refine z_icmp_eq (tgt := 132) dX10_takes_124 (by first | decide | omega) (fun _ => ?_) (fun _ => ?_)
    · skip
      refine z_iconst (v := 2) dX10_takes_132 (by decide) ?_
      refine z_goto (tgt := 137) dX10_takes_133 (by decide) ?_
      exact z_iret dX10_takes_137 rfl (en0 _ _ _ _) rfl
    · skip
      refine z_iload_n dX10_takes_127 rfl 1 rfl ?_
      refine z_iconst (v := 5) dX10_takes_128 (by decide) ?_
      refine z_icmp_le (tgt := 136) dX10_takes_129 (by first | decide | omega) (fun _ => ?_) (fun _ => ?_)
      · skip
        refine z_iconst (v := 1) dX10_takes_136 (by decide) ?_
        exact z_iret dX10_takes_137 rfl (en0 _ _ _ _) rfl
      · skip
        refine z_iconst (v := 2) dX10_takes_132 (by decide) ?_
        refine z_goto (tgt := 137) dX10_takes_133 (by decide) ?_
        exact z_iret dX10_takes_137 rfl (en0 _ _ _ _) rfl
  refine z_ite (fun c38 => ?_) (fun n37 => ?_)
  · refine z_tin (tgt := 138) dX10_takes_1 (24) c38 (by decide) (by decide) rfl (by decide) ?_
    refine z_iconst (v := 3) dX10_takes_138 (by decide) ?_
    exact z_iret dX10_takes_139 rfl (en0 _ _ _ _) rfl
  refine z_ite (fun c40 => ?_) (fun n39 => ?_)
  · refine z_tin (tgt := 118) dX10_takes_1 (25) c40 (by decide) (by decide) rfl (by decide) ?_
    refine z_iconst (v := 2) dX10_takes_118 (by decide) ?_
    exact z_iret dX10_takes_119 rfl (en0 _ _ _ _) rfl
  refine z_ite (fun c42 => ?_) (fun n41 => ?_)
  · refine z_tin (tgt := 116) dX10_takes_1 (26) c42 (by decide) (by decide) rfl (by decide) ?_
    refine z_iconst (v := 1) dX10_takes_116 (by decide) ?_
    exact z_iret dX10_takes_117 rfl (en0 _ _ _ _) rfl
  refine z_tdef (tgt := 140) dX10_takes_1 [2, 3, 4, 5, 6, 7, 8, 9, 11, 12, 13, 15, 17, 18, 19, 20, 21, 23, 24, 25, 26] (List.forall_mem_cons.mpr ⟨n1, List.forall_mem_cons.mpr ⟨n3, List.forall_mem_cons.mpr ⟨n5, List.forall_mem_cons.mpr ⟨n7, List.forall_mem_cons.mpr ⟨n9, List.forall_mem_cons.mpr ⟨n11, List.forall_mem_cons.mpr ⟨n13, List.forall_mem_cons.mpr ⟨n15, List.forall_mem_cons.mpr ⟨n17, List.forall_mem_cons.mpr ⟨n19, List.forall_mem_cons.mpr ⟨n21, List.forall_mem_cons.mpr ⟨n23, List.forall_mem_cons.mpr ⟨n25, List.forall_mem_cons.mpr ⟨n27, List.forall_mem_cons.mpr ⟨n29, List.forall_mem_cons.mpr ⟨n31, List.forall_mem_cons.mpr ⟨n33, List.forall_mem_cons.mpr ⟨n35, List.forall_mem_cons.mpr ⟨n37, List.forall_mem_cons.mpr ⟨n39, List.forall_mem_cons.mpr ⟨n41, fun _ h => absurd h List.not_mem_nil⟩⟩⟩⟩⟩⟩⟩⟩⟩⟩⟩⟩⟩⟩⟩⟩⟩⟩⟩⟩⟩) (by decide +kernel) (by decide) ?_
  refine z_iconst (v := 0) dX10_takes_140 (by decide) ?_
  exact z_iret dX10_takes_141 rfl (en0 _ _ _ _) rfl
def fX10_plain (κ : Kd) (a0 : Nat) (l1 : Int32) (l2 : Int32) (l3 : Int64) (l5 : Int64) (h : Hp) : Option (Hp) :=
  if (κ a0).1 = 9 then (
  if l1 = (0 : Int32) then (
    (fX10_lays κ a0 l2.toInt64 h).bind fun h1 =>
    some h1
  ) else
  if l1 = (1 : Int32) then (
    to_ κ (g_R h a0 26) 51 fun r4 =>
    a_J κ h r4 (((6 : Int32) * ((g_I h a0 23) - (1 : Int32))) + l2) fun v5 =>
    (fX10_lays κ a0 v5 h).bind fun h6 =>
    some h6
  ) else
  if l1 = (2 : Int32) then (
    to_ κ (g_R h a0 26) 51 fun r9 =>
    w_J κ h r9 (((6 : Int32) * ((g_I h a0 23) - (1 : Int32))) + l2) l3 fun h10 =>
    (fX10_goesOn κ a0 h10).bind fun h11 =>
    some h11
  ) else
  if l1 = (3 : Int32) then (
    (fX10_lays κ a0 (l3 + l5) h).bind fun h14 =>
    some h14
  ) else
  if l1 = (4 : Int32) then (
    (fX10_lays κ a0 (l3 - l5) h).bind fun h17 =>
    some h17
  ) else
  if l1 = (5 : Int32) then (
    (fX10_lays κ a0 (l3 * l5) h).bind fun h20 =>
    some h20
  ) else
  if l1 = (6 : Int32) then (
    if l5 = (0 : Int64) then (
      (fX10_comes κ a0 (6 : Int32) (0 : Int64) h).bind fun h27 =>
      some h27
    ) else (
      if l1 = (6 : Int32) then (
        if l5 = 0 then none else
        (fX10_lays κ a0 (l3 / l5) h).bind fun h26 =>
        some h26
      ) else (
        if l5 = 0 then none else
        (fX10_lays κ a0 (l3 - l3 / l5 * l5) h).bind fun h24 =>
        some h24
      )
    )
  ) else
  if l1 = (7 : Int32) then (
    if l5 = (0 : Int64) then (
      (fX10_comes κ a0 (6 : Int32) (0 : Int64) h).bind fun h34 =>
      some h34
    ) else (
      if l1 = (6 : Int32) then (
        if l5 = 0 then none else
        (fX10_lays κ a0 (l3 / l5) h).bind fun h33 =>
        some h33
      ) else (
        if l5 = 0 then none else
        (fX10_lays κ a0 (l3 - l3 / l5 * l5) h).bind fun h31 =>
        some h31
      )
    )
  ) else
  if l1 = (8 : Int32) then (
    if l5 ≤ l3 then (
      (fX10_lays κ a0 (0 : Int64) h).bind fun h37 =>
      some h37
    ) else (
      (fX10_lays κ a0 (1 : Int64) h).bind fun h38 =>
      some h38
    )
  ) else
  if l1 = (9 : Int32) then (
    if l3 = l5 then (
      (fX10_lays κ a0 (1 : Int64) h).bind fun h42 =>
      some h42
    ) else (
      (fX10_lays κ a0 (0 : Int64) h).bind fun h41 =>
      some h41
    )
  ) else
  if l1 = (10 : Int32) then (
    (fX10_goesTo κ a0 l2 h).bind fun h45 =>
    some h45
  ) else
  (
    if l3 = (0 : Int64) then (
      (fX10_goesTo κ a0 l2 h).bind fun h51 =>
      some h51
    ) else (
      to_ κ (g_R h a0 25) 50 fun r48 =>
      a_I κ h r48 ((g_I h a0 23) - (1 : Int32)) fun v49 =>
      (fX10_goesTo κ a0 (v49 + (1 : Int32)) h).bind fun h50 =>
      some h50
    )
  )) else none
set_option maxHeartbeats 4000000 in
set_option maxRecDepth 100000 in
theorem tX10_plain (κ : Kd) (n lim : Nat) (h : Hp) (a0 : Nat) (l1 : Int32) (l2 : Int32) (l3 : Int64) (l5 : Int64) : Ct_ mX10_plain [.ref (a0), .int (l1), .int (l2), .long (l3), .long (l5)] κ n lim h (eV κ n) (fX10_plain κ a0 l1 l2 l3 l5 h) := by
  refine ct_of (by decide) (Nat.le_of_ble_eq_true rfl) ?_
  unfold fX10_plain
  refine z_sub (L' := [(0, .ref (a0)), (1, .int (l1)), (2, .int (l2)), (3, .long (l3)), (5, .long (l5))]) [0, 1, 2, 3, 4] rfl ?_
  refine z_or (fun k_a0 => ?_)
  refine z_aload_n dX10_plain_0 rfl 0 rfl ?_
  refine z_getI dX10_plain_1 fl_X10_239 k_a0 ?_
  refine z_iconst (v := 1) dX10_plain_4 (by decide) ?_
  refine z_isub dX10_plain_5 ?_
  refine z_istore (L' := [(7, .int ((g_I h a0 23) - (1 : Int32))), (0, .ref (a0)), (1, .int (l1)), (2, .int (l2)), (3, .long (l3)), (5, .long (l5))]) dX10_plain_6 (by decide) rfl ?_
  refine z_iload_n dX10_plain_8 rfl 2 rfl ?_
  refine z_ite (fun c3 => ?_) (fun n2 => ?_)
  · refine z_tin (tgt := 68) dX10_plain_9 (0) c3 (by decide) (by decide) rfl (by decide) ?_
    refine z_aload_n dX10_plain_68 rfl 1 rfl ?_
    refine z_iload_n dX10_plain_69 rfl 3 rfl ?_
    refine z_i2l dX10_plain_70 ?_
    refine z_cV (as := [.ref (a0), .long (l2.toInt64)]) (rn_V dX10_plain_71 mf_X10_lays in_X10_lays lk_X10_304 ⟨by decide, by decide⟩ cl_8 rfl k_a0 rfl (Nat.le_of_ble_eq_true rfl)) (tX10_lays _ _ _ _ _ _) cz_X10_lays (c00 _) (fun h1 => ?_)
    refine z_goto (tgt := 259) dX10_plain_74 (by decide) ?_
    exact z_vret dX10_plain_259 rfl (en0 _ _ _ _) rfl
  refine z_ite (fun c8 => ?_) (fun n7 => ?_)
  · refine z_tin (tgt := 77) dX10_plain_9 (1) c8 (by decide) (by decide) rfl (by decide) ?_
    refine z_aload_n dX10_plain_77 rfl 1 rfl ?_
    refine z_aload_n dX10_plain_78 rfl 1 rfl ?_
    refine z_getR (kd := 51) dX10_plain_79 fl_X10_72 k_a0 (fun r4 kr4 => ?_)
    refine z_bipush (v := 6) dX10_plain_82 (by decide) ?_
    refine z_iload dX10_plain_84 0 rfl ?_
    refine z_imul dX10_plain_86 ?_
    refine z_iload_n dX10_plain_87 rfl 3 rfl ?_
    refine z_iadd dX10_plain_88 ?_
    refine z_lald dX10_plain_89 kr4 (fun v5 => ?_)
    refine z_cV (as := [.ref (a0), .long (v5)]) (rn_V dX10_plain_90 mf_X10_lays in_X10_lays lk_X10_304 ⟨by decide, by decide⟩ cl_8 rfl k_a0 rfl (Nat.le_of_ble_eq_true rfl)) (tX10_lays _ _ _ _ _ _) cz_X10_lays (c00 _) (fun h6 => ?_)
    refine z_goto (tgt := 259) dX10_plain_93 (by decide) ?_
    exact z_vret dX10_plain_259 rfl (en0 _ _ _ _) rfl
  refine z_ite (fun c13 => ?_) (fun n12 => ?_)
  · refine z_tin (tgt := 96) dX10_plain_9 (2) c13 (by decide) (by decide) rfl (by decide) ?_
    refine z_aload_n dX10_plain_96 rfl 1 rfl ?_
    refine z_getR (kd := 51) dX10_plain_97 fl_X10_72 k_a0 (fun r9 kr9 => ?_)
    refine z_bipush (v := 6) dX10_plain_100 (by decide) ?_
    refine z_iload dX10_plain_102 0 rfl ?_
    refine z_imul dX10_plain_104 ?_
    refine z_iload_n dX10_plain_105 rfl 3 rfl ?_
    refine z_iadd dX10_plain_106 ?_
    refine z_lload_n dX10_plain_107 rfl 4 rfl ?_
    refine z_last dX10_plain_108 kr9 (fun h10 => ?_)
    refine z_aload_n dX10_plain_109 rfl 1 rfl ?_
    refine z_cV (as := [.ref (a0)]) (rn_V dX10_plain_110 mf_X10_goesOn in_X10_goesOn lk_X10_328 ⟨by decide, by decide⟩ cl_8 rfl k_a0 rfl (Nat.le_of_ble_eq_true rfl)) (tX10_goesOn _ _ _ _ _) cz_X10_goesOn (c00 _) (fun h11 => ?_)
    refine z_goto (tgt := 259) dX10_plain_113 (by decide) ?_
    exact z_vret dX10_plain_259 rfl (en0 _ _ _ _) rfl
  refine z_ite (fun c16 => ?_) (fun n15 => ?_)
  · refine z_tin (tgt := 116) dX10_plain_9 (3) c16 (by decide) (by decide) rfl (by decide) ?_
    refine z_aload_n dX10_plain_116 rfl 1 rfl ?_
    refine z_lload_n dX10_plain_117 rfl 4 rfl ?_
    refine z_lload dX10_plain_118 5 rfl ?_
    refine z_ladd dX10_plain_120 ?_
    refine z_cV (as := [.ref (a0), .long (l3 + l5)]) (rn_V dX10_plain_121 mf_X10_lays in_X10_lays lk_X10_304 ⟨by decide, by decide⟩ cl_8 rfl k_a0 rfl (Nat.le_of_ble_eq_true rfl)) (tX10_lays _ _ _ _ _ _) cz_X10_lays (c00 _) (fun h14 => ?_)
    refine z_goto (tgt := 259) dX10_plain_124 (by decide) ?_
    exact z_vret dX10_plain_259 rfl (en0 _ _ _ _) rfl
  refine z_ite (fun c19 => ?_) (fun n18 => ?_)
  · refine z_tin (tgt := 127) dX10_plain_9 (4) c19 (by decide) (by decide) rfl (by decide) ?_
    refine z_aload_n dX10_plain_127 rfl 1 rfl ?_
    refine z_lload_n dX10_plain_128 rfl 4 rfl ?_
    refine z_lload dX10_plain_129 5 rfl ?_
    refine z_lsub dX10_plain_131 ?_
    refine z_cV (as := [.ref (a0), .long (l3 - l5)]) (rn_V dX10_plain_132 mf_X10_lays in_X10_lays lk_X10_304 ⟨by decide, by decide⟩ cl_8 rfl k_a0 rfl (Nat.le_of_ble_eq_true rfl)) (tX10_lays _ _ _ _ _ _) cz_X10_lays (c00 _) (fun h17 => ?_)
    refine z_goto (tgt := 259) dX10_plain_135 (by decide) ?_
    exact z_vret dX10_plain_259 rfl (en0 _ _ _ _) rfl
  refine z_ite (fun c22 => ?_) (fun n21 => ?_)
  · refine z_tin (tgt := 138) dX10_plain_9 (5) c22 (by decide) (by decide) rfl (by decide) ?_
    refine z_aload_n dX10_plain_138 rfl 1 rfl ?_
    refine z_lload_n dX10_plain_139 rfl 4 rfl ?_
    refine z_lload dX10_plain_140 5 rfl ?_
    refine z_lmul dX10_plain_142 ?_
    refine z_cV (as := [.ref (a0), .long (l3 * l5)]) (rn_V dX10_plain_143 mf_X10_lays in_X10_lays lk_X10_304 ⟨by decide, by decide⟩ cl_8 rfl k_a0 rfl (Nat.le_of_ble_eq_true rfl)) (tX10_lays _ _ _ _ _ _) cz_X10_lays (c00 _) (fun h20 => ?_)
    refine z_goto (tgt := 259) dX10_plain_146 (by decide) ?_
    exact z_vret dX10_plain_259 rfl (en0 _ _ _ _) rfl
  refine z_ite (fun c29 => ?_) (fun n28 => ?_)
  · refine z_tin (tgt := 149) dX10_plain_9 (6) c29 (by decide) (by decide) rfl (by decide) ?_
    refine z_lload dX10_plain_149 5 rfl ?_
    refine z_lconst (v := 0) dX10_plain_151 (by decide) ?_
    refine z_lc_ne (tgt := 166) dX10_plain_152 dX10_plain_153 (by first | decide | omega) (fun _ => ?_) (fun _ => ?_)
    · skip
      refine z_aload_n dX10_plain_166 rfl 1 rfl ?_
      refine z_iload_n dX10_plain_167 rfl 2 rfl ?_
      refine z_bipush (v := 6) dX10_plain_168 (by decide) ?_
      refine z_icmp_ne (tgt := 180) dX10_plain_170 (by first | decide | omega) (fun _ => ?_) (fun _ => ?_)
      · skip
        refine z_lload_n dX10_plain_180 rfl 4 rfl ?_
        refine z_lload dX10_plain_181 5 rfl ?_
        refine z_ite (fun _ => z_no) (fun hne23 => ?_)
        refine z_lrem dX10_plain_183 hne23 ?_
        refine z_cV (as := [.ref (a0), .long (l3 - l3 / l5 * l5)]) (rn_V dX10_plain_184 mf_X10_lays in_X10_lays lk_X10_304 ⟨by decide, by decide⟩ cl_8 rfl k_a0 rfl (Nat.le_of_ble_eq_true rfl)) (tX10_lays _ _ _ _ _ _) cz_X10_lays (c00 _) (fun h24 => ?_)
        refine z_goto (tgt := 259) dX10_plain_187 (by decide) ?_
        exact z_vret dX10_plain_259 rfl (en0 _ _ _ _) rfl
      · skip
        refine z_lload_n dX10_plain_173 rfl 4 rfl ?_
        refine z_lload dX10_plain_174 5 rfl ?_
        refine z_ite (fun _ => z_no) (fun hne25 => ?_)
        refine z_ldiv dX10_plain_176 hne25 ?_
        refine z_goto (tgt := 184) dX10_plain_177 (by decide) ?_
        refine z_cV (as := [.ref (a0), .long (l3 / l5)]) (rn_V dX10_plain_184 mf_X10_lays in_X10_lays lk_X10_304 ⟨by decide, by decide⟩ cl_8 rfl k_a0 rfl (Nat.le_of_ble_eq_true rfl)) (tX10_lays _ _ _ _ _ _) cz_X10_lays (c00 _) (fun h26 => ?_)
        refine z_goto (tgt := 259) dX10_plain_187 (by decide) ?_
        exact z_vret dX10_plain_259 rfl (en0 _ _ _ _) rfl
    · skip
      refine z_aload_n dX10_plain_156 rfl 1 rfl ?_
      refine z_bipush (v := 6) dX10_plain_157 (by decide) ?_
      refine z_lconst (v := 0) dX10_plain_159 (by decide) ?_
      refine z_cV (as := [.ref (a0), .int ((6 : Int32)), .long ((0 : Int64))]) (rn_V dX10_plain_160 mf_X10_comes in_X10_comes lk_X10_293 ⟨by decide, by decide⟩ cl_8 rfl k_a0 rfl (Nat.le_of_ble_eq_true rfl)) (tX10_comes _ _ _ _ _ _ _) cz_X10_comes (c00 _) (fun h27 => ?_)
      refine z_goto (tgt := 259) dX10_plain_163 (by decide) ?_
      exact z_vret dX10_plain_259 rfl (en0 _ _ _ _) rfl
  refine z_ite (fun c36 => ?_) (fun n35 => ?_)
  · refine z_tin (tgt := 149) dX10_plain_9 (7) c36 (by decide) (by decide) rfl (by decide) ?_
    refine z_lload dX10_plain_149 5 rfl ?_
    refine z_lconst (v := 0) dX10_plain_151 (by decide) ?_
    refine z_lc_ne (tgt := 166) dX10_plain_152 dX10_plain_153 (by first | decide | omega) (fun _ => ?_) (fun _ => ?_)
    · skip
      refine z_aload_n dX10_plain_166 rfl 1 rfl ?_
      refine z_iload_n dX10_plain_167 rfl 2 rfl ?_
      refine z_bipush (v := 6) dX10_plain_168 (by decide) ?_
      refine z_icmp_ne (tgt := 180) dX10_plain_170 (by first | decide | omega) (fun _ => ?_) (fun _ => ?_)
      · skip
        refine z_lload_n dX10_plain_180 rfl 4 rfl ?_
        refine z_lload dX10_plain_181 5 rfl ?_
        refine z_ite (fun _ => z_no) (fun hne30 => ?_)
        refine z_lrem dX10_plain_183 hne30 ?_
        refine z_cV (as := [.ref (a0), .long (l3 - l3 / l5 * l5)]) (rn_V dX10_plain_184 mf_X10_lays in_X10_lays lk_X10_304 ⟨by decide, by decide⟩ cl_8 rfl k_a0 rfl (Nat.le_of_ble_eq_true rfl)) (tX10_lays _ _ _ _ _ _) cz_X10_lays (c00 _) (fun h31 => ?_)
        refine z_goto (tgt := 259) dX10_plain_187 (by decide) ?_
        exact z_vret dX10_plain_259 rfl (en0 _ _ _ _) rfl
      · skip
        refine z_lload_n dX10_plain_173 rfl 4 rfl ?_
        refine z_lload dX10_plain_174 5 rfl ?_
        refine z_ite (fun _ => z_no) (fun hne32 => ?_)
        refine z_ldiv dX10_plain_176 hne32 ?_
        refine z_goto (tgt := 184) dX10_plain_177 (by decide) ?_
        refine z_cV (as := [.ref (a0), .long (l3 / l5)]) (rn_V dX10_plain_184 mf_X10_lays in_X10_lays lk_X10_304 ⟨by decide, by decide⟩ cl_8 rfl k_a0 rfl (Nat.le_of_ble_eq_true rfl)) (tX10_lays _ _ _ _ _ _) cz_X10_lays (c00 _) (fun h33 => ?_)
        refine z_goto (tgt := 259) dX10_plain_187 (by decide) ?_
        exact z_vret dX10_plain_259 rfl (en0 _ _ _ _) rfl
    · skip
      refine z_aload_n dX10_plain_156 rfl 1 rfl ?_
      refine z_bipush (v := 6) dX10_plain_157 (by decide) ?_
      refine z_lconst (v := 0) dX10_plain_159 (by decide) ?_
      refine z_cV (as := [.ref (a0), .int ((6 : Int32)), .long ((0 : Int64))]) (rn_V dX10_plain_160 mf_X10_comes in_X10_comes lk_X10_293 ⟨by decide, by decide⟩ cl_8 rfl k_a0 rfl (Nat.le_of_ble_eq_true rfl)) (tX10_comes _ _ _ _ _ _ _) cz_X10_comes (c00 _) (fun h34 => ?_)
      refine z_goto (tgt := 259) dX10_plain_163 (by decide) ?_
      exact z_vret dX10_plain_259 rfl (en0 _ _ _ _) rfl
  refine z_ite (fun c40 => ?_) (fun n39 => ?_)
  · refine z_tin (tgt := 190) dX10_plain_9 (8) c40 (by decide) (by decide) rfl (by decide) ?_
    refine z_aload_n dX10_plain_190 rfl 1 rfl ?_
    refine z_lload_n dX10_plain_191 rfl 4 rfl ?_
    refine z_lload dX10_plain_192 5 rfl ?_
    refine z_lc_ge (tgt := 202) dX10_plain_194 dX10_plain_195 (by first | decide | omega) (fun _ => ?_) (fun _ => ?_)
    · skip
      refine z_lconst (v := 0) dX10_plain_202 (by decide) ?_
      refine z_cV (as := [.ref (a0), .long ((0 : Int64))]) (rn_V dX10_plain_203 mf_X10_lays in_X10_lays lk_X10_304 ⟨by decide, by decide⟩ cl_8 rfl k_a0 rfl (Nat.le_of_ble_eq_true rfl)) (tX10_lays _ _ _ _ _ _) cz_X10_lays (c00 _) (fun h37 => ?_)
      refine z_goto (tgt := 259) dX10_plain_206 (by decide) ?_
      exact z_vret dX10_plain_259 rfl (en0 _ _ _ _) rfl
    · skip
      refine z_lconst (v := 1) dX10_plain_198 (by decide) ?_
      refine z_goto (tgt := 203) dX10_plain_199 (by decide) ?_
      refine z_cV (as := [.ref (a0), .long ((1 : Int64))]) (rn_V dX10_plain_203 mf_X10_lays in_X10_lays lk_X10_304 ⟨by decide, by decide⟩ cl_8 rfl k_a0 rfl (Nat.le_of_ble_eq_true rfl)) (tX10_lays _ _ _ _ _ _) cz_X10_lays (c00 _) (fun h38 => ?_)
      refine z_goto (tgt := 259) dX10_plain_206 (by decide) ?_
      exact z_vret dX10_plain_259 rfl (en0 _ _ _ _) rfl
  refine z_ite (fun c44 => ?_) (fun n43 => ?_)
  · refine z_tin (tgt := 209) dX10_plain_9 (9) c44 (by decide) (by decide) rfl (by decide) ?_
    refine z_aload_n dX10_plain_209 rfl 1 rfl ?_
    refine z_lload_n dX10_plain_210 rfl 4 rfl ?_
    refine z_lload dX10_plain_211 5 rfl ?_
    refine z_lc_ne (tgt := 221) dX10_plain_213 dX10_plain_214 (by first | decide | omega) (fun _ => ?_) (fun _ => ?_)
    · skip
      refine z_lconst (v := 0) dX10_plain_221 (by decide) ?_
      refine z_cV (as := [.ref (a0), .long ((0 : Int64))]) (rn_V dX10_plain_222 mf_X10_lays in_X10_lays lk_X10_304 ⟨by decide, by decide⟩ cl_8 rfl k_a0 rfl (Nat.le_of_ble_eq_true rfl)) (tX10_lays _ _ _ _ _ _) cz_X10_lays (c00 _) (fun h41 => ?_)
      refine z_goto (tgt := 259) dX10_plain_225 (by decide) ?_
      exact z_vret dX10_plain_259 rfl (en0 _ _ _ _) rfl
    · skip
      refine z_lconst (v := 1) dX10_plain_217 (by decide) ?_
      refine z_goto (tgt := 222) dX10_plain_218 (by decide) ?_
      refine z_cV (as := [.ref (a0), .long ((1 : Int64))]) (rn_V dX10_plain_222 mf_X10_lays in_X10_lays lk_X10_304 ⟨by decide, by decide⟩ cl_8 rfl k_a0 rfl (Nat.le_of_ble_eq_true rfl)) (tX10_lays _ _ _ _ _ _) cz_X10_lays (c00 _) (fun h42 => ?_)
      refine z_goto (tgt := 259) dX10_plain_225 (by decide) ?_
      exact z_vret dX10_plain_259 rfl (en0 _ _ _ _) rfl
  refine z_ite (fun c47 => ?_) (fun n46 => ?_)
  · refine z_tin (tgt := 228) dX10_plain_9 (10) c47 (by decide) (by decide) rfl (by decide) ?_
    refine z_aload_n dX10_plain_228 rfl 1 rfl ?_
    refine z_iload_n dX10_plain_229 rfl 3 rfl ?_
    refine z_cV (as := [.ref (a0), .int (l2)]) (rn_V dX10_plain_230 mf_X10_goesTo in_X10_goesTo lk_X10_297 ⟨by decide, by decide⟩ cl_8 rfl k_a0 rfl (Nat.le_of_ble_eq_true rfl)) (tX10_goesTo _ _ _ _ _ _) cz_X10_goesTo (c00 _) (fun h45 => ?_)
    refine z_goto (tgt := 259) dX10_plain_233 (by decide) ?_
    exact z_vret dX10_plain_259 rfl (en0 _ _ _ _) rfl
  refine z_tdef (tgt := 236) dX10_plain_9 [0, 1, 2, 3, 4, 5, 6, 7, 8, 9, 10] (List.forall_mem_cons.mpr ⟨n2, List.forall_mem_cons.mpr ⟨n7, List.forall_mem_cons.mpr ⟨n12, List.forall_mem_cons.mpr ⟨n15, List.forall_mem_cons.mpr ⟨n18, List.forall_mem_cons.mpr ⟨n21, List.forall_mem_cons.mpr ⟨n28, List.forall_mem_cons.mpr ⟨n35, List.forall_mem_cons.mpr ⟨n39, List.forall_mem_cons.mpr ⟨n43, List.forall_mem_cons.mpr ⟨n46, fun _ h => absurd h List.not_mem_nil⟩⟩⟩⟩⟩⟩⟩⟩⟩⟩⟩) (by decide +kernel) (by decide) ?_
  refine z_aload_n dX10_plain_236 rfl 1 rfl ?_
  refine z_lload_n dX10_plain_237 rfl 4 rfl ?_
  refine z_lconst (v := 0) dX10_plain_238 (by decide) ?_
  refine z_lc_ne (tgt := 247) dX10_plain_239 dX10_plain_240 (by first | decide | omega) (fun _ => ?_) (fun _ => ?_)
  · skip
    refine z_aload_n dX10_plain_247 rfl 1 rfl ?_
    refine z_getR (kd := 50) dX10_plain_248 fl_X10_69 k_a0 (fun r48 kr48 => ?_)
    refine z_iload dX10_plain_251 0 rfl ?_
    refine z_iald dX10_plain_253 kr48 (fun v49 => ?_)
    refine z_iconst (v := 1) dX10_plain_254 (by decide) ?_
    refine z_iadd dX10_plain_255 ?_
    refine z_cV (as := [.ref (a0), .int (v49 + (1 : Int32))]) (rn_V dX10_plain_256 mf_X10_goesTo in_X10_goesTo lk_X10_297 ⟨by decide, by decide⟩ cl_8 rfl k_a0 rfl (Nat.le_of_ble_eq_true rfl)) (tX10_goesTo _ _ _ _ _ _) cz_X10_goesTo (c00 _) (fun h50 => ?_)
    exact z_vret dX10_plain_259 rfl (en0 _ _ _ _) rfl
  · skip
    refine z_iload_n dX10_plain_243 rfl 3 rfl ?_
    refine z_goto (tgt := 256) dX10_plain_244 (by decide) ?_
    refine z_cV (as := [.ref (a0), .int (l2)]) (rn_V dX10_plain_256 mf_X10_goesTo in_X10_goesTo lk_X10_297 ⟨by decide, by decide⟩ cl_8 rfl k_a0 rfl (Nat.le_of_ble_eq_true rfl)) (tX10_goesTo _ _ _ _ _ _) cz_X10_goesTo (c00 _) (fun h51 => ?_)
    exact z_vret dX10_plain_259 rfl (en0 _ _ _ _) rfl
def fX10_asked (κ : Kd) (a0 : Nat) (l1 : Int32) (l2 : Int32) (l3 : Int32) (h : Hp) : Option (Int64) :=
  if (κ a0).1 = 9 then (
  to_ κ (g_R h a0 1) 50 fun r1 =>
  a_I κ h r1 l1 fun v2 =>
  if (6 : Int32) ≤ v2 then (
    (fX10_valueAt κ a0 l1 l2 h).bind fun v3 =>
    some (v3)
  ) else (
    if l3 ≤ (5 : Int32) then (
      (fX10_valueAt κ a0 l1 l2 h).bind fun v4 =>
      some (v4)
    ) else (
      to_ κ (g_R h a0 3) 51 fun r5 =>
      a_J κ h r5 (((12 : Int32) * l1) + l2) fun v6 =>
      (fX10_asReal κ l3 v6 h).bind fun v7 =>
      some (FP.d2l v7)
    )
  )) else none
set_option maxHeartbeats 4000000 in
set_option maxRecDepth 100000 in
theorem tX10_asked (κ : Kd) (n lim : Nat) (h : Hp) (a0 : Nat) (l1 : Int32) (l2 : Int32) (l3 : Int32) : Ct_ mX10_asked [.ref (a0), .int (l1), .int (l2), .int (l3)] κ n lim h (pJ κ n h) (fX10_asked κ a0 l1 l2 l3 h) := by
  refine ct_of (by decide) (Nat.le_of_ble_eq_true rfl) ?_
  unfold fX10_asked
  refine z_sub (L' := [(0, .ref (a0)), (1, .int (l1)), (2, .int (l2)), (3, .int (l3))]) [0, 1, 2, 3] rfl ?_
  refine z_or (fun k_a0 => ?_)
  refine z_aload_n dX10_asked_0 rfl 0 rfl ?_
  refine z_getR (kd := 50) dX10_asked_1 fl_X10_13 k_a0 (fun r1 kr1 => ?_)
  refine z_iload_n dX10_asked_4 rfl 1 rfl ?_
  refine z_iald dX10_asked_5 kr1 (fun v2 => ?_)
  refine z_bipush (v := 6) dX10_asked_6 (by decide) ?_
  refine z_icmp_ge (tgt := 35) dX10_asked_8 (by first | decide | omega) (fun _ => ?_) (fun _ => ?_)
  · skip
    refine z_aload_n dX10_asked_35 rfl 0 rfl ?_
    refine z_iload_n dX10_asked_36 rfl 1 rfl ?_
    refine z_iload_n dX10_asked_37 rfl 2 rfl ?_
    refine z_pJ (as := [.ref (a0), .int (l1), .int (l2)]) (rn_V dX10_asked_38 mf_X10_valueAt in_X10_valueAt lk_X10_176 ⟨by decide, by decide⟩ cl_8 rfl k_a0 rfl (Nat.le_of_ble_eq_true rfl)) (tX10_valueAt _ _ _ _ _ _ _) cz_X10_valueAt (c00 _) (fun v3 => ?_)
    exact z_lret dX10_asked_41 rfl (en0 _ _ _ _) rfl
  · skip
    refine z_iload_n dX10_asked_11 rfl 3 rfl ?_
    refine z_iconst (v := 5) dX10_asked_12 (by decide) ?_
    refine z_icmp_le (tgt := 35) dX10_asked_13 (by first | decide | omega) (fun _ => ?_) (fun _ => ?_)
    · skip
      refine z_aload_n dX10_asked_35 rfl 0 rfl ?_
      refine z_iload_n dX10_asked_36 rfl 1 rfl ?_
      refine z_iload_n dX10_asked_37 rfl 2 rfl ?_
      refine z_pJ (as := [.ref (a0), .int (l1), .int (l2)]) (rn_V dX10_asked_38 mf_X10_valueAt in_X10_valueAt lk_X10_176 ⟨by decide, by decide⟩ cl_8 rfl k_a0 rfl (Nat.le_of_ble_eq_true rfl)) (tX10_valueAt _ _ _ _ _ _ _) cz_X10_valueAt (c00 _) (fun v4 => ?_)
      exact z_lret dX10_asked_41 rfl (en0 _ _ _ _) rfl
    · skip
      refine z_iload_n dX10_asked_16 rfl 3 rfl ?_
      refine z_aload_n dX10_asked_17 rfl 0 rfl ?_
      refine z_getR (kd := 51) dX10_asked_18 fl_X10_19 k_a0 (fun r5 kr5 => ?_)
      refine z_bipush (v := 12) dX10_asked_21 (by decide) ?_
      refine z_iload_n dX10_asked_23 rfl 1 rfl ?_
      refine z_imul dX10_asked_24 ?_
      refine z_iload_n dX10_asked_25 rfl 2 rfl ?_
      refine z_iadd dX10_asked_26 ?_
      refine z_lald dX10_asked_27 kr5 (fun v6 => ?_)
      refine z_pD (as := [.int (l3), .long (v6)]) (rn_S dX10_asked_28 mf_X10_asReal in_X10_asReal lk_X10_152 ⟨by decide, by decide⟩ rfl (Nat.le_of_ble_eq_true rfl)) (tX10_asReal _ _ _ _ _ _) cz_X10_asReal (c00 _) (fun v7 => ?_)
      refine z_d2l dX10_asked_31 ?_
      refine z_goto (tgt := 41) dX10_asked_32 (by decide) ?_
      exact z_lret dX10_asked_41 rfl (en0 _ _ _ _) rfl
def fX10_isPut (κ : Kd) (a0 : Nat) (l1 : Int32) (l2 : Int32) (l3 : Int32) (l4 : Int64) (h : Hp) : Option (Hp) :=
  if (κ a0).1 = 9 then (
  if (6 : Int32) ≤ l3 then (
    to_ κ (g_R h a0 4) 52 fun r1 =>
    (fX10_asReal κ l3 l4 h).bind fun v2 =>
    w_D κ h r1 (((12 : Int32) * l1) + l2) v2 fun h3 =>
    some h3
  ) else (
    (fX10_as κ l3 l4 h).bind fun v4 =>
    (fX10_lay κ a0 l1 l2 v4 h).bind fun h5 =>
    some h5
  )) else none
set_option maxHeartbeats 4000000 in
set_option maxRecDepth 100000 in
theorem tX10_isPut (κ : Kd) (n lim : Nat) (h : Hp) (a0 : Nat) (l1 : Int32) (l2 : Int32) (l3 : Int32) (l4 : Int64) : Ct_ mX10_isPut [.ref (a0), .int (l1), .int (l2), .int (l3), .long (l4)] κ n lim h (eV κ n) (fX10_isPut κ a0 l1 l2 l3 l4 h) := by
  refine ct_of (by decide) (Nat.le_of_ble_eq_true rfl) ?_
  unfold fX10_isPut
  refine z_sub (L' := [(0, .ref (a0)), (1, .int (l1)), (2, .int (l2)), (3, .int (l3)), (4, .long (l4))]) [0, 1, 2, 3, 4] rfl ?_
  refine z_or (fun k_a0 => ?_)
  refine z_iload_n dX10_isPut_0 rfl 3 rfl ?_
  refine z_bipush (v := 6) dX10_isPut_1 (by decide) ?_
  refine z_icmp_ge (tgt := 21) dX10_isPut_3 (by first | decide | omega) (fun _ => ?_) (fun _ => ?_)
  · skip
    refine z_aload_n dX10_isPut_21 rfl 0 rfl ?_
    refine z_getR (kd := 52) dX10_isPut_22 fl_X10_23 k_a0 (fun r1 kr1 => ?_)
    refine z_bipush (v := 12) dX10_isPut_25 (by decide) ?_
    refine z_iload_n dX10_isPut_27 rfl 1 rfl ?_
    refine z_imul dX10_isPut_28 ?_
    refine z_iload_n dX10_isPut_29 rfl 2 rfl ?_
    refine z_iadd dX10_isPut_30 ?_
    refine z_iload_n dX10_isPut_31 rfl 3 rfl ?_
    refine z_lload dX10_isPut_32 4 rfl ?_
    refine z_pD (as := [.int (l3), .long (l4)]) (rn_S dX10_isPut_34 mf_X10_asReal in_X10_asReal lk_X10_152 ⟨by decide, by decide⟩ rfl (Nat.le_of_ble_eq_true rfl)) (tX10_asReal _ _ _ _ _ _) cz_X10_asReal (c00 _) (fun v2 => ?_)
    refine z_dast dX10_isPut_37 kr1 (fun h3 => ?_)
    exact z_vret dX10_isPut_38 rfl (en0 _ _ _ _) rfl
  · skip
    refine z_aload_n dX10_isPut_6 rfl 0 rfl ?_
    refine z_iload_n dX10_isPut_7 rfl 1 rfl ?_
    refine z_iload_n dX10_isPut_8 rfl 2 rfl ?_
    refine z_iload_n dX10_isPut_9 rfl 3 rfl ?_
    refine z_lload dX10_isPut_10 4 rfl ?_
    refine z_pJ (as := [.int (l3), .long (l4)]) (rn_S dX10_isPut_12 mf_X10_as in_X10_as lk_X10_149 ⟨by decide, by decide⟩ rfl (Nat.le_of_ble_eq_true rfl)) (tX10_as _ _ _ _ _ _) cz_X10_as (c00 _) (fun v4 => ?_)
    refine z_cV (as := [.ref (a0), .int (l1), .int (l2), .long (v4)]) (rn_V dX10_isPut_15 mf_X10_lay in_X10_lay lk_X10_172 ⟨by decide, by decide⟩ cl_8 rfl k_a0 rfl (Nat.le_of_ble_eq_true rfl)) (tX10_lay _ _ _ _ _ _ _ _) cz_X10_lay (c00 _) (fun h5 => ?_)
    refine z_goto (tgt := 38) dX10_isPut_18 (by decide) ?_
    exact z_vret dX10_isPut_38 rfl (en0 _ _ _ _) rfl
def fX10_memory_b219 (κ : Kd) (a0 : Nat) (l1 : Int32) (l2 : Int32) (l3 : Int32) (l4 : Int64) (l6 : Int64) (l8 : Int32) (l9 : Int32)  (h : Hp) : Option (Hp) :=
  if l9 ≤ 0 then (
    if l1 = (12 : Int32) then (
      (fX10_valueAt κ a0 l8 l4.toInt32 h).bind fun v4 =>
      (fX10_lays κ a0 v4 h).bind fun h5 =>
      some h5
    ) else
    if l1 = (13 : Int32) then (
      (fX10_lay κ a0 l8 l4.toInt32 l6 h).bind fun h8 =>
      (fX10_goesOn κ a0 h8).bind fun h9 =>
      some h9
    ) else
    if l1 = (14 : Int32) then (
      to_ κ (g_R h a0 2) 50 fun r12 =>
      a_I κ h r12 l8 fun v13 =>
      (fX10_lays κ a0 v13.toInt64 h).bind fun h14 =>
      some h14
    ) else
    if l1 = (15 : Int32) then (
      (fX10_make κ a0 l2 l3 l4.toInt32 h).bind fun h17 =>
      (fX10_goesOn κ a0 h17).bind fun h18 =>
      some h18
    ) else
    if l1 = (16 : Int32) then (
      to_ κ (g_R h a0 0) 50 fun r21 =>
      w_I κ h r21 l2 (-1 : Int32) fun h22 =>
      (fX10_goesOn κ a0 h22).bind fun h23 =>
      some h23
    ) else
    if l1 = (17 : Int32) then (
      (fX10_asked κ a0 l8 l4.toInt32 l3 h).bind fun v26 =>
      (fX10_lays κ a0 v26 h).bind fun h27 =>
      some h27
    ) else
    if l1 = (18 : Int32) then (
      (fX10_isPut κ a0 l8 l4.toInt32 l3 l6 h).bind fun h30 =>
      (fX10_goesOn κ a0 h30).bind fun h31 =>
      some h31
    ) else
    (
      to_ κ (g_R h a0 0) 50 fun r34 =>
      to_ κ (g_R h a0 0) 50 fun r35 =>
      a_I κ h r35 l3 fun v36 =>
      w_I κ h r34 l2 v36 fun h37 =>
      (fX10_goesOn κ a0 h37).bind fun h38 =>
      some h38
    )
  ) else (
    (fX10_comes κ a0 l9 (0 : Int64) h).bind fun h39 =>
    some h39
  )
set_option maxRecDepth 100000 in
theorem zX10_memory_b219 (κ : Kd) (n lim : Nat) (a0 : Nat) (l1 : Int32) (l2 : Int32) (l3 : Int32) (l4 : Int64) (l6 : Int64) (l8 : Int32) (l9 : Int32)  (k_a0 : (κ a0).1 = 9) (h : Hp) : ZQ mX10_memory (eV κ n) (κ, n, 0, lim) 219 [(0, .ref (a0)), (1, .int (l1)), (2, .int (l2)), (3, .int (l3)), (4, .long (l4)), (6, .long (l6)), (8, .int (l8)), (9, .int (l9))] [] h (fX10_memory_b219 κ a0 l1 l2 l3 l4 l6 l8 l9  h) := by
  unfold fX10_memory_b219
  refine z_iload dX10_memory_219 7 rfl ?_
  refine z_if_le (tgt := 232) dX10_memory_221 (by first | decide | omega) (fun _ => ?_) (fun _ => ?_)
  · skip
    refine z_iload_n dX10_memory_232 rfl 1 rfl ?_
    refine z_ite (fun c7 => ?_) (fun n6 => ?_)
    · refine z_tin (tgt := 276) dX10_memory_233 (12) c7 (by decide) (by decide) rfl (by decide) ?_
      refine z_aload_n dX10_memory_276 rfl 0 rfl ?_
      refine z_aload_n dX10_memory_277 rfl 0 rfl ?_
      refine z_iload dX10_memory_278 6 rfl ?_
      refine z_lload dX10_memory_280 4 rfl ?_
      refine z_l2i dX10_memory_282 ?_
      refine z_pJ (as := [.ref (a0), .int (l8), .int (l4.toInt32)]) (rn_V dX10_memory_283 mf_X10_valueAt in_X10_valueAt lk_X10_176 ⟨by decide, by decide⟩ cl_8 rfl k_a0 rfl (Nat.le_of_ble_eq_true rfl)) (tX10_valueAt _ _ _ _ _ _ _) cz_X10_valueAt (c00 _) (fun v4 => ?_)
      refine z_cV (as := [.ref (a0), .long (v4)]) (rn_V dX10_memory_286 mf_X10_lays in_X10_lays lk_X10_304 ⟨by decide, by decide⟩ cl_8 rfl k_a0 rfl (Nat.le_of_ble_eq_true rfl)) (tX10_lays _ _ _ _ _ _) cz_X10_lays (c00 _) (fun h5 => ?_)
      refine z_goto (tgt := 407) dX10_memory_289 (by decide) ?_
      exact z_vret dX10_memory_407 rfl (en0 _ _ _ _) rfl
    refine z_ite (fun c11 => ?_) (fun n10 => ?_)
    · refine z_tin (tgt := 292) dX10_memory_233 (13) c11 (by decide) (by decide) rfl (by decide) ?_
      refine z_aload_n dX10_memory_292 rfl 0 rfl ?_
      refine z_iload dX10_memory_293 6 rfl ?_
      refine z_lload dX10_memory_295 4 rfl ?_
      refine z_l2i dX10_memory_297 ?_
      refine z_lload dX10_memory_298 5 rfl ?_
      refine z_cV (as := [.ref (a0), .int (l8), .int (l4.toInt32), .long (l6)]) (rn_V dX10_memory_300 mf_X10_lay in_X10_lay lk_X10_172 ⟨by decide, by decide⟩ cl_8 rfl k_a0 rfl (Nat.le_of_ble_eq_true rfl)) (tX10_lay _ _ _ _ _ _ _ _) cz_X10_lay (c00 _) (fun h8 => ?_)
      refine z_aload_n dX10_memory_303 rfl 0 rfl ?_
      refine z_cV (as := [.ref (a0)]) (rn_V dX10_memory_304 mf_X10_goesOn in_X10_goesOn lk_X10_328 ⟨by decide, by decide⟩ cl_8 rfl k_a0 rfl (Nat.le_of_ble_eq_true rfl)) (tX10_goesOn _ _ _ _ _) cz_X10_goesOn (c00 _) (fun h9 => ?_)
      refine z_goto (tgt := 407) dX10_memory_307 (by decide) ?_
      exact z_vret dX10_memory_407 rfl (en0 _ _ _ _) rfl
    refine z_ite (fun c16 => ?_) (fun n15 => ?_)
    · refine z_tin (tgt := 310) dX10_memory_233 (14) c16 (by decide) (by decide) rfl (by decide) ?_
      refine z_aload_n dX10_memory_310 rfl 0 rfl ?_
      refine z_aload_n dX10_memory_311 rfl 0 rfl ?_
      refine z_getR (kd := 50) dX10_memory_312 fl_X10_16 k_a0 (fun r12 kr12 => ?_)
      refine z_iload dX10_memory_315 6 rfl ?_
      refine z_iald dX10_memory_317 kr12 (fun v13 => ?_)
      refine z_i2l dX10_memory_318 ?_
      refine z_cV (as := [.ref (a0), .long (v13.toInt64)]) (rn_V dX10_memory_319 mf_X10_lays in_X10_lays lk_X10_304 ⟨by decide, by decide⟩ cl_8 rfl k_a0 rfl (Nat.le_of_ble_eq_true rfl)) (tX10_lays _ _ _ _ _ _) cz_X10_lays (c00 _) (fun h14 => ?_)
      refine z_goto (tgt := 407) dX10_memory_322 (by decide) ?_
      exact z_vret dX10_memory_407 rfl (en0 _ _ _ _) rfl
    refine z_ite (fun c20 => ?_) (fun n19 => ?_)
    · refine z_tin (tgt := 325) dX10_memory_233 (15) c20 (by decide) (by decide) rfl (by decide) ?_
      refine z_aload_n dX10_memory_325 rfl 0 rfl ?_
      refine z_iload_n dX10_memory_326 rfl 2 rfl ?_
      refine z_iload_n dX10_memory_327 rfl 3 rfl ?_
      refine z_lload dX10_memory_328 4 rfl ?_
      refine z_l2i dX10_memory_330 ?_
      refine z_cV (as := [.ref (a0), .int (l2), .int (l3), .int (l4.toInt32)]) (rn_V dX10_memory_331 mf_X10_make in_X10_make lk_X10_164 ⟨by decide, by decide⟩ cl_8 rfl k_a0 rfl (Nat.le_of_ble_eq_true rfl)) (tX10_make _ _ _ _ _ _ _ _) cz_X10_make (c00 _) (fun h17 => ?_)
      refine z_aload_n dX10_memory_334 rfl 0 rfl ?_
      refine z_cV (as := [.ref (a0)]) (rn_V dX10_memory_335 mf_X10_goesOn in_X10_goesOn lk_X10_328 ⟨by decide, by decide⟩ cl_8 rfl k_a0 rfl (Nat.le_of_ble_eq_true rfl)) (tX10_goesOn _ _ _ _ _) cz_X10_goesOn (c00 _) (fun h18 => ?_)
      refine z_goto (tgt := 407) dX10_memory_338 (by decide) ?_
      exact z_vret dX10_memory_407 rfl (en0 _ _ _ _) rfl
    refine z_ite (fun c25 => ?_) (fun n24 => ?_)
    · refine z_tin (tgt := 341) dX10_memory_233 (16) c25 (by decide) (by decide) rfl (by decide) ?_
      refine z_aload_n dX10_memory_341 rfl 0 rfl ?_
      refine z_getR (kd := 50) dX10_memory_342 fl_X10_7 k_a0 (fun r21 kr21 => ?_)
      refine z_iload_n dX10_memory_345 rfl 2 rfl ?_
      refine z_iconst (v := -1) dX10_memory_346 (by decide) ?_
      refine z_iast dX10_memory_347 kr21 (fun h22 => ?_)
      refine z_aload_n dX10_memory_348 rfl 0 rfl ?_
      refine z_cV (as := [.ref (a0)]) (rn_V dX10_memory_349 mf_X10_goesOn in_X10_goesOn lk_X10_328 ⟨by decide, by decide⟩ cl_8 rfl k_a0 rfl (Nat.le_of_ble_eq_true rfl)) (tX10_goesOn _ _ _ _ _) cz_X10_goesOn (c00 _) (fun h23 => ?_)
      refine z_goto (tgt := 407) dX10_memory_352 (by decide) ?_
      exact z_vret dX10_memory_407 rfl (en0 _ _ _ _) rfl
    refine z_ite (fun c29 => ?_) (fun n28 => ?_)
    · refine z_tin (tgt := 355) dX10_memory_233 (17) c29 (by decide) (by decide) rfl (by decide) ?_
      refine z_aload_n dX10_memory_355 rfl 0 rfl ?_
      refine z_aload_n dX10_memory_356 rfl 0 rfl ?_
      refine z_iload dX10_memory_357 6 rfl ?_
      refine z_lload dX10_memory_359 4 rfl ?_
      refine z_l2i dX10_memory_361 ?_
      refine z_iload_n dX10_memory_362 rfl 3 rfl ?_
      refine z_pJ (as := [.ref (a0), .int (l8), .int (l4.toInt32), .int (l3)]) (rn_V dX10_memory_363 mf_X10_asked in_X10_asked lk_X10_334 ⟨by decide, by decide⟩ cl_8 rfl k_a0 rfl (Nat.le_of_ble_eq_true rfl)) (tX10_asked _ _ _ _ _ _ _ _) cz_X10_asked (c00 _) (fun v26 => ?_)
      refine z_cV (as := [.ref (a0), .long (v26)]) (rn_V dX10_memory_366 mf_X10_lays in_X10_lays lk_X10_304 ⟨by decide, by decide⟩ cl_8 rfl k_a0 rfl (Nat.le_of_ble_eq_true rfl)) (tX10_lays _ _ _ _ _ _) cz_X10_lays (c00 _) (fun h27 => ?_)
      refine z_goto (tgt := 407) dX10_memory_369 (by decide) ?_
      exact z_vret dX10_memory_407 rfl (en0 _ _ _ _) rfl
    refine z_ite (fun c33 => ?_) (fun n32 => ?_)
    · refine z_tin (tgt := 372) dX10_memory_233 (18) c33 (by decide) (by decide) rfl (by decide) ?_
      refine z_aload_n dX10_memory_372 rfl 0 rfl ?_
      refine z_iload dX10_memory_373 6 rfl ?_
      refine z_lload dX10_memory_375 4 rfl ?_
      refine z_l2i dX10_memory_377 ?_
      refine z_iload_n dX10_memory_378 rfl 3 rfl ?_
      refine z_lload dX10_memory_379 5 rfl ?_
      refine z_cV (as := [.ref (a0), .int (l8), .int (l4.toInt32), .int (l3), .long (l6)]) (rn_V dX10_memory_381 mf_X10_isPut in_X10_isPut lk_X10_338 ⟨by decide, by decide⟩ cl_8 rfl k_a0 rfl (Nat.le_of_ble_eq_true rfl)) (tX10_isPut _ _ _ _ _ _ _ _ _) cz_X10_isPut (c00 _) (fun h30 => ?_)
      refine z_aload_n dX10_memory_384 rfl 0 rfl ?_
      refine z_cV (as := [.ref (a0)]) (rn_V dX10_memory_385 mf_X10_goesOn in_X10_goesOn lk_X10_328 ⟨by decide, by decide⟩ cl_8 rfl k_a0 rfl (Nat.le_of_ble_eq_true rfl)) (tX10_goesOn _ _ _ _ _) cz_X10_goesOn (c00 _) (fun h31 => ?_)
      refine z_goto (tgt := 407) dX10_memory_388 (by decide) ?_
      exact z_vret dX10_memory_407 rfl (en0 _ _ _ _) rfl
    refine z_tdef (tgt := 391) dX10_memory_233 [12, 13, 14, 15, 16, 17, 18] (List.forall_mem_cons.mpr ⟨n6, List.forall_mem_cons.mpr ⟨n10, List.forall_mem_cons.mpr ⟨n15, List.forall_mem_cons.mpr ⟨n19, List.forall_mem_cons.mpr ⟨n24, List.forall_mem_cons.mpr ⟨n28, List.forall_mem_cons.mpr ⟨n32, fun _ h => absurd h List.not_mem_nil⟩⟩⟩⟩⟩⟩⟩) (by decide +kernel) (by decide) ?_
    refine z_aload_n dX10_memory_391 rfl 0 rfl ?_
    refine z_getR (kd := 50) dX10_memory_392 fl_X10_7 k_a0 (fun r34 kr34 => ?_)
    refine z_iload_n dX10_memory_395 rfl 2 rfl ?_
    refine z_aload_n dX10_memory_396 rfl 0 rfl ?_
    refine z_getR (kd := 50) dX10_memory_397 fl_X10_7 k_a0 (fun r35 kr35 => ?_)
    refine z_iload_n dX10_memory_400 rfl 3 rfl ?_
    refine z_iald dX10_memory_401 kr35 (fun v36 => ?_)
    refine z_iast dX10_memory_402 kr34 (fun h37 => ?_)
    refine z_aload_n dX10_memory_403 rfl 0 rfl ?_
    refine z_cV (as := [.ref (a0)]) (rn_V dX10_memory_404 mf_X10_goesOn in_X10_goesOn lk_X10_328 ⟨by decide, by decide⟩ cl_8 rfl k_a0 rfl (Nat.le_of_ble_eq_true rfl)) (tX10_goesOn _ _ _ _ _) cz_X10_goesOn (c00 _) (fun h38 => ?_)
    exact z_vret dX10_memory_407 rfl (en0 _ _ _ _) rfl
  · skip
    refine z_aload_n dX10_memory_224 rfl 0 rfl ?_
    refine z_iload dX10_memory_225 7 rfl ?_
    refine z_lconst (v := 0) dX10_memory_227 (by decide) ?_
    refine z_cV (as := [.ref (a0), .int (l9), .long ((0 : Int64))]) (rn_V dX10_memory_228 mf_X10_comes in_X10_comes lk_X10_293 ⟨by decide, by decide⟩ cl_8 rfl k_a0 rfl (Nat.le_of_ble_eq_true rfl)) (tX10_comes _ _ _ _ _ _ _) cz_X10_comes (c00 _) (fun h39 => ?_)
    exact z_vret dX10_memory_231 rfl (en0 _ _ _ _) rfl
def fX10_memory_b217 (κ : Kd) (a0 : Nat) (l1 : Int32) (l2 : Int32) (l3 : Int32) (l4 : Int64) (l6 : Int64) (l8 : Int32) (s0 : Int32) (h : Hp) : Option (Hp) :=
  fX10_memory_b219 κ a0 l1 l2 l3 l4 l6 l8 s0  h
set_option maxRecDepth 100000 in
theorem zX10_memory_b217 (κ : Kd) (n lim : Nat) (a0 : Nat) (l1 : Int32) (l2 : Int32) (l3 : Int32) (l4 : Int64) (l6 : Int64) (l8 : Int32) (s0 : Int32) (k_a0 : (κ a0).1 = 9) (h : Hp) : ZQ mX10_memory (eV κ n) (κ, n, 0, lim) 217 [(0, .ref (a0)), (1, .int (l1)), (2, .int (l2)), (3, .int (l3)), (4, .long (l4)), (6, .long (l6)), (8, .int (l8))] [.int (s0)] h (fX10_memory_b217 κ a0 l1 l2 l3 l4 l6 l8 s0 h) := by
  unfold fX10_memory_b217
  refine z_istore (L' := [(9, .int (s0)), (0, .ref (a0)), (1, .int (l1)), (2, .int (l2)), (3, .int (l3)), (4, .long (l4)), (6, .long (l6)), (8, .int (l8))]) dX10_memory_217 (by decide) rfl ?_
  refine z_sub [1, 2, 3, 4, 5, 6, 7, 0] rfl ?_
  exact zX10_memory_b219 _ _ _ a0 l1 l2 l3 l4 l6 l8 s0  k_a0 h
def fX10_memory_b185 (κ : Kd) (a0 : Nat) (l1 : Int32) (l2 : Int32) (l3 : Int32) (l4 : Int64) (l6 : Int64) (l8 : Int32) (l9 : Int32)  (h : Hp) : Option (Hp) :=
  if l1 = (15 : Int32) then (
    if (0 : Int64) ≤ l4 then (
      if l4 ≤ (12 : Int64) then (
        fX10_memory_b217 κ a0 l1 l2 l3 l4 l6 l8 (0 : Int32) h
      ) else (
        fX10_memory_b217 κ a0 l1 l2 l3 l4 l6 l8 (7 : Int32) h
      )
    ) else (
      fX10_memory_b217 κ a0 l1 l2 l3 l4 l6 l8 (5 : Int32) h
    )
  ) else (
    fX10_memory_b219 κ a0 l1 l2 l3 l4 l6 l8 l9  h
  )
set_option maxRecDepth 100000 in
theorem zX10_memory_b185 (κ : Kd) (n lim : Nat) (a0 : Nat) (l1 : Int32) (l2 : Int32) (l3 : Int32) (l4 : Int64) (l6 : Int64) (l8 : Int32) (l9 : Int32)  (k_a0 : (κ a0).1 = 9) (h : Hp) : ZQ mX10_memory (eV κ n) (κ, n, 0, lim) 185 [(0, .ref (a0)), (1, .int (l1)), (2, .int (l2)), (3, .int (l3)), (4, .long (l4)), (6, .long (l6)), (8, .int (l8)), (9, .int (l9))] [] h (fX10_memory_b185 κ a0 l1 l2 l3 l4 l6 l8 l9  h) := by
  unfold fX10_memory_b185
  refine z_iload_n dX10_memory_185 rfl 1 rfl ?_
  refine z_bipush (v := 15) dX10_memory_186 (by decide) ?_
  refine z_icmp_ne (tgt := 219) dX10_memory_188 (by first | decide | omega) (fun _ => ?_) (fun _ => ?_)
  · skip
    refine z_sub [0, 1, 2, 3, 4, 5, 6, 7] rfl ?_
    exact zX10_memory_b219 _ _ _ a0 l1 l2 l3 l4 l6 l8 l9  k_a0 h
  · skip
    refine z_lload dX10_memory_191 4 rfl ?_
    refine z_lconst (v := 0) dX10_memory_193 (by decide) ?_
    refine z_lc_ge (tgt := 202) dX10_memory_194 dX10_memory_195 (by first | decide | omega) (fun _ => ?_) (fun _ => ?_)
    · skip
      refine z_lload dX10_memory_202 4 rfl ?_
      refine z_ldc2 dX10_memory_204 co_X10_224 ?_
      refine z_lc_le (tgt := 216) dX10_memory_207 dX10_memory_208 (by first | decide | omega) (fun _ => ?_) (fun _ => ?_)
      · skip
        refine z_iconst (v := 0) dX10_memory_216 (by decide) ?_
        refine z_sub [0, 1, 2, 3, 4, 5, 6] rfl ?_
        exact zX10_memory_b217 _ _ _ a0 l1 l2 l3 l4 l6 l8 (0 : Int32) k_a0 h
      · skip
        refine z_bipush (v := 7) dX10_memory_211 (by decide) ?_
        refine z_goto (tgt := 217) dX10_memory_213 (by decide) ?_
        refine z_sub [0, 1, 2, 3, 4, 5, 6] rfl ?_
        exact zX10_memory_b217 _ _ _ a0 l1 l2 l3 l4 l6 l8 (7 : Int32) k_a0 h
    · skip
      refine z_iconst (v := 5) dX10_memory_198 (by decide) ?_
      refine z_goto (tgt := 217) dX10_memory_199 (by decide) ?_
      refine z_sub [0, 1, 2, 3, 4, 5, 6] rfl ?_
      exact zX10_memory_b217 _ _ _ a0 l1 l2 l3 l4 l6 l8 (5 : Int32) k_a0 h
def fX10_memory_b170 (κ : Kd) (a0 : Nat) (l1 : Int32) (l2 : Int32) (l3 : Int32) (l4 : Int64) (l6 : Int64) (l8 : Int32) (l9 : Int32)  (h : Hp) : Option (Hp) :=
  if l1 = (14 : Int32) then (
    if l8 = (-1 : Int32) then (
      fX10_memory_b185 κ a0 l1 l2 l3 l4 l6 l8 (1 : Int32)  h
    ) else (
      fX10_memory_b185 κ a0 l1 l2 l3 l4 l6 l8 l9  h
    )
  ) else (
    fX10_memory_b185 κ a0 l1 l2 l3 l4 l6 l8 l9  h
  )
set_option maxRecDepth 100000 in
theorem zX10_memory_b170 (κ : Kd) (n lim : Nat) (a0 : Nat) (l1 : Int32) (l2 : Int32) (l3 : Int32) (l4 : Int64) (l6 : Int64) (l8 : Int32) (l9 : Int32)  (k_a0 : (κ a0).1 = 9) (h : Hp) : ZQ mX10_memory (eV κ n) (κ, n, 0, lim) 170 [(0, .ref (a0)), (1, .int (l1)), (2, .int (l2)), (3, .int (l3)), (4, .long (l4)), (6, .long (l6)), (8, .int (l8)), (9, .int (l9))] [] h (fX10_memory_b170 κ a0 l1 l2 l3 l4 l6 l8 l9  h) := by
  unfold fX10_memory_b170
  refine z_iload_n dX10_memory_170 rfl 1 rfl ?_
  refine z_bipush (v := 14) dX10_memory_171 (by decide) ?_
  refine z_icmp_ne (tgt := 185) dX10_memory_173 (by first | decide | omega) (fun _ => ?_) (fun _ => ?_)
  · skip
    refine z_sub [0, 1, 2, 3, 4, 5, 6, 7] rfl ?_
    exact zX10_memory_b185 _ _ _ a0 l1 l2 l3 l4 l6 l8 l9  k_a0 h
  · skip
    refine z_iload dX10_memory_176 6 rfl ?_
    refine z_iconst (v := -1) dX10_memory_178 (by decide) ?_
    refine z_icmp_ne (tgt := 185) dX10_memory_179 (by first | decide | omega) (fun _ => ?_) (fun _ => ?_)
    · skip
      refine z_sub [0, 1, 2, 3, 4, 5, 6, 7] rfl ?_
      exact zX10_memory_b185 _ _ _ a0 l1 l2 l3 l4 l6 l8 l9  k_a0 h
    · skip
      refine z_iconst (v := 1) dX10_memory_182 (by decide) ?_
      refine z_istore (L' := [(9, .int ((1 : Int32))), (0, .ref (a0)), (1, .int (l1)), (2, .int (l2)), (3, .int (l3)), (4, .long (l4)), (6, .long (l6)), (8, .int (l8))]) dX10_memory_183 (by decide) rfl ?_
      refine z_sub [1, 2, 3, 4, 5, 6, 7, 0] rfl ?_
      exact zX10_memory_b185 _ _ _ a0 l1 l2 l3 l4 l6 l8 (1 : Int32)  k_a0 h
def fX10_memory_b168 (κ : Kd) (a0 : Nat) (l1 : Int32) (l2 : Int32) (l3 : Int32) (l4 : Int64) (l6 : Int64) (l8 : Int32) (s0 : Int32) (h : Hp) : Option (Hp) :=
  fX10_memory_b170 κ a0 l1 l2 l3 l4 l6 l8 s0  h
set_option maxRecDepth 100000 in
theorem zX10_memory_b168 (κ : Kd) (n lim : Nat) (a0 : Nat) (l1 : Int32) (l2 : Int32) (l3 : Int32) (l4 : Int64) (l6 : Int64) (l8 : Int32) (s0 : Int32) (k_a0 : (κ a0).1 = 9) (h : Hp) : ZQ mX10_memory (eV κ n) (κ, n, 0, lim) 168 [(0, .ref (a0)), (1, .int (l1)), (2, .int (l2)), (3, .int (l3)), (4, .long (l4)), (6, .long (l6)), (8, .int (l8))] [.int (s0)] h (fX10_memory_b168 κ a0 l1 l2 l3 l4 l6 l8 s0 h) := by
  unfold fX10_memory_b168
  refine z_istore (L' := [(9, .int (s0)), (0, .ref (a0)), (1, .int (l1)), (2, .int (l2)), (3, .int (l3)), (4, .long (l4)), (6, .long (l6)), (8, .int (l8))]) dX10_memory_168 (by decide) rfl ?_
  refine z_sub [1, 2, 3, 4, 5, 6, 7, 0] rfl ?_
  exact zX10_memory_b170 _ _ _ a0 l1 l2 l3 l4 l6 l8 s0  k_a0 h
def fX10_memory_b162 (κ : Kd) (a0 : Nat) (l1 : Int32) (l2 : Int32) (l3 : Int32) (l4 : Int64) (l6 : Int64) (l8 : Int32)  (h : Hp) : Option (Hp) :=
  fX10_memory_b168 κ a0 l1 l2 l3 l4 l6 l8 (0 : Int32) h
set_option maxRecDepth 100000 in
theorem zX10_memory_b162 (κ : Kd) (n lim : Nat) (a0 : Nat) (l1 : Int32) (l2 : Int32) (l3 : Int32) (l4 : Int64) (l6 : Int64) (l8 : Int32)  (k_a0 : (κ a0).1 = 9) (h : Hp) : ZQ mX10_memory (eV κ n) (κ, n, 0, lim) 162 [(0, .ref (a0)), (1, .int (l1)), (2, .int (l2)), (3, .int (l3)), (4, .long (l4)), (6, .long (l6)), (8, .int (l8))] [] h (fX10_memory_b162 κ a0 l1 l2 l3 l4 l6 l8  h) := by
  unfold fX10_memory_b162
  refine z_iconst (v := 0) dX10_memory_162 (by decide) ?_
  refine z_goto (tgt := 168) dX10_memory_163 (by decide) ?_
  refine z_sub [0, 1, 2, 3, 4, 5, 6] rfl ?_
  exact zX10_memory_b168 _ _ _ a0 l1 l2 l3 l4 l6 l8 (0 : Int32) k_a0 h
def fX10_memory_b126 (κ : Kd) (a0 : Nat) (l1 : Int32) (l2 : Int32) (l3 : Int32) (l4 : Int64) (l6 : Int64) (l8 : Int32) (l9 : Int32)  (h : Hp) : Option (Hp) :=
  if l1 = (18 : Int32) then (
    if l9 = 0 then (
      to_ κ (g_R h a0 1) 50 fun r40 =>
      a_I κ h r40 l8 fun v41 =>
      if v41 = l3 then (
        fX10_memory_b162 κ a0 l1 l2 l3 l4 l6 l8  h
      ) else (
        to_ κ (g_R h a0 1) 50 fun r42 =>
        a_I κ h r42 l8 fun v43 =>
        (fX10_goesInto κ l3 v43 h).bind fun v44 =>
        if v44 = 0 then (
          fX10_memory_b168 κ a0 l1 l2 l3 l4 l6 l8 (7 : Int32) h
        ) else (
          fX10_memory_b162 κ a0 l1 l2 l3 l4 l6 l8  h
        )
      )
    ) else (
      fX10_memory_b170 κ a0 l1 l2 l3 l4 l6 l8 l9  h
    )
  ) else (
    fX10_memory_b170 κ a0 l1 l2 l3 l4 l6 l8 l9  h
  )
set_option maxRecDepth 100000 in
theorem zX10_memory_b126 (κ : Kd) (n lim : Nat) (a0 : Nat) (l1 : Int32) (l2 : Int32) (l3 : Int32) (l4 : Int64) (l6 : Int64) (l8 : Int32) (l9 : Int32)  (k_a0 : (κ a0).1 = 9) (h : Hp) : ZQ mX10_memory (eV κ n) (κ, n, 0, lim) 126 [(0, .ref (a0)), (1, .int (l1)), (2, .int (l2)), (3, .int (l3)), (4, .long (l4)), (6, .long (l6)), (8, .int (l8)), (9, .int (l9))] [] h (fX10_memory_b126 κ a0 l1 l2 l3 l4 l6 l8 l9  h) := by
  unfold fX10_memory_b126
  refine z_iload_n dX10_memory_126 rfl 1 rfl ?_
  refine z_bipush (v := 18) dX10_memory_127 (by decide) ?_
  refine z_icmp_ne (tgt := 170) dX10_memory_129 (by first | decide | omega) (fun _ => ?_) (fun _ => ?_)
  · skip
    refine z_sub [0, 1, 2, 3, 4, 5, 6, 7] rfl ?_
    exact zX10_memory_b170 _ _ _ a0 l1 l2 l3 l4 l6 l8 l9  k_a0 h
  · skip
    refine z_iload dX10_memory_132 7 rfl ?_
    refine z_if_ne (tgt := 170) dX10_memory_134 (by first | decide | omega) (fun _ => ?_) (fun _ => ?_)
    · skip
      refine z_sub [0, 1, 2, 3, 4, 5, 6, 7] rfl ?_
      exact zX10_memory_b170 _ _ _ a0 l1 l2 l3 l4 l6 l8 l9  k_a0 h
    · skip
      refine z_aload_n dX10_memory_137 rfl 0 rfl ?_
      refine z_getR (kd := 50) dX10_memory_138 fl_X10_13 k_a0 (fun r40 kr40 => ?_)
      refine z_iload dX10_memory_141 6 rfl ?_
      refine z_iald dX10_memory_143 kr40 (fun v41 => ?_)
      refine z_iload_n dX10_memory_144 rfl 3 rfl ?_
      refine z_icmp_eq (tgt := 162) dX10_memory_145 (by first | decide | omega) (fun _ => ?_) (fun _ => ?_)
      · skip
        refine z_sub [0, 1, 2, 3, 4, 5, 6] rfl ?_
        exact zX10_memory_b162 _ _ _ a0 l1 l2 l3 l4 l6 l8  k_a0 h
      · skip
        refine z_iload_n dX10_memory_148 rfl 3 rfl ?_
        refine z_aload_n dX10_memory_149 rfl 0 rfl ?_
        refine z_getR (kd := 50) dX10_memory_150 fl_X10_13 k_a0 (fun r42 kr42 => ?_)
        refine z_iload dX10_memory_153 6 rfl ?_
        refine z_iald dX10_memory_155 kr42 (fun v43 => ?_)
        refine z_pI (as := [.int (l3), .int (v43)]) (rn_S dX10_memory_156 mf_X10_goesInto in_X10_goesInto lk_X10_331 ⟨by decide, by decide⟩ rfl (Nat.le_of_ble_eq_true rfl)) (tX10_goesInto _ _ _ _ _ _) cz_X10_goesInto (c00 _) (fun v44 => ?_)
        refine z_if_eq (tgt := 166) dX10_memory_159 (by first | decide | omega) (fun _ => ?_) (fun _ => ?_)
        · skip
          refine z_bipush (v := 7) dX10_memory_166 (by decide) ?_
          refine z_sub [0, 1, 2, 3, 4, 5, 6] rfl ?_
          exact zX10_memory_b168 _ _ _ a0 l1 l2 l3 l4 l6 l8 (7 : Int32) k_a0 h
        · skip
          refine z_sub [0, 1, 2, 3, 4, 5, 6] rfl ?_
          exact zX10_memory_b162 _ _ _ a0 l1 l2 l3 l4 l6 l8  k_a0 h
def fX10_memory_b124 (κ : Kd) (a0 : Nat) (l1 : Int32) (l2 : Int32) (l3 : Int32) (l4 : Int64) (l6 : Int64) (l8 : Int32) (s0 : Int32) (h : Hp) : Option (Hp) :=
  fX10_memory_b126 κ a0 l1 l2 l3 l4 l6 l8 s0  h
set_option maxRecDepth 100000 in
theorem zX10_memory_b124 (κ : Kd) (n lim : Nat) (a0 : Nat) (l1 : Int32) (l2 : Int32) (l3 : Int32) (l4 : Int64) (l6 : Int64) (l8 : Int32) (s0 : Int32) (k_a0 : (κ a0).1 = 9) (h : Hp) : ZQ mX10_memory (eV κ n) (κ, n, 0, lim) 124 [(0, .ref (a0)), (1, .int (l1)), (2, .int (l2)), (3, .int (l3)), (4, .long (l4)), (6, .long (l6)), (8, .int (l8))] [.int (s0)] h (fX10_memory_b124 κ a0 l1 l2 l3 l4 l6 l8 s0 h) := by
  unfold fX10_memory_b124
  refine z_istore (L' := [(9, .int (s0)), (0, .ref (a0)), (1, .int (l1)), (2, .int (l2)), (3, .int (l3)), (4, .long (l4)), (6, .long (l6)), (8, .int (l8))]) dX10_memory_124 (by decide) rfl ?_
  refine z_sub [1, 2, 3, 4, 5, 6, 7, 0] rfl ?_
  exact zX10_memory_b126 _ _ _ a0 l1 l2 l3 l4 l6 l8 s0  k_a0 h
def fX10_memory_b118 (κ : Kd) (a0 : Nat) (l1 : Int32) (l2 : Int32) (l3 : Int32) (l4 : Int64) (l6 : Int64) (l8 : Int32)  (h : Hp) : Option (Hp) :=
  fX10_memory_b124 κ a0 l1 l2 l3 l4 l6 l8 (0 : Int32) h
set_option maxRecDepth 100000 in
theorem zX10_memory_b118 (κ : Kd) (n lim : Nat) (a0 : Nat) (l1 : Int32) (l2 : Int32) (l3 : Int32) (l4 : Int64) (l6 : Int64) (l8 : Int32)  (k_a0 : (κ a0).1 = 9) (h : Hp) : ZQ mX10_memory (eV κ n) (κ, n, 0, lim) 118 [(0, .ref (a0)), (1, .int (l1)), (2, .int (l2)), (3, .int (l3)), (4, .long (l4)), (6, .long (l6)), (8, .int (l8))] [] h (fX10_memory_b118 κ a0 l1 l2 l3 l4 l6 l8  h) := by
  unfold fX10_memory_b118
  refine z_iconst (v := 0) dX10_memory_118 (by decide) ?_
  refine z_goto (tgt := 124) dX10_memory_119 (by decide) ?_
  refine z_sub [0, 1, 2, 3, 4, 5, 6] rfl ?_
  exact zX10_memory_b124 _ _ _ a0 l1 l2 l3 l4 l6 l8 (0 : Int32) k_a0 h
def fX10_memory_b82 (κ : Kd) (a0 : Nat) (l1 : Int32) (l2 : Int32) (l3 : Int32) (l4 : Int64) (l6 : Int64) (l8 : Int32) (l9 : Int32)  (h : Hp) : Option (Hp) :=
  if l1 = (17 : Int32) then (
    if l9 = 0 then (
      to_ κ (g_R h a0 1) 50 fun r45 =>
      a_I κ h r45 l8 fun v46 =>
      if v46 = l3 then (
        fX10_memory_b118 κ a0 l1 l2 l3 l4 l6 l8  h
      ) else (
        to_ κ (g_R h a0 1) 50 fun r47 =>
        a_I κ h r47 l8 fun v48 =>
        (fX10_goesInto κ v48 l3 h).bind fun v49 =>
        if v49 = 0 then (
          fX10_memory_b124 κ a0 l1 l2 l3 l4 l6 l8 (7 : Int32) h
        ) else (
          fX10_memory_b118 κ a0 l1 l2 l3 l4 l6 l8  h
        )
      )
    ) else (
      fX10_memory_b126 κ a0 l1 l2 l3 l4 l6 l8 l9  h
    )
  ) else (
    fX10_memory_b126 κ a0 l1 l2 l3 l4 l6 l8 l9  h
  )
set_option maxRecDepth 100000 in
theorem zX10_memory_b82 (κ : Kd) (n lim : Nat) (a0 : Nat) (l1 : Int32) (l2 : Int32) (l3 : Int32) (l4 : Int64) (l6 : Int64) (l8 : Int32) (l9 : Int32)  (k_a0 : (κ a0).1 = 9) (h : Hp) : ZQ mX10_memory (eV κ n) (κ, n, 0, lim) 82 [(0, .ref (a0)), (1, .int (l1)), (2, .int (l2)), (3, .int (l3)), (4, .long (l4)), (6, .long (l6)), (8, .int (l8)), (9, .int (l9))] [] h (fX10_memory_b82 κ a0 l1 l2 l3 l4 l6 l8 l9  h) := by
  unfold fX10_memory_b82
  refine z_iload_n dX10_memory_82 rfl 1 rfl ?_
  refine z_bipush (v := 17) dX10_memory_83 (by decide) ?_
  refine z_icmp_ne (tgt := 126) dX10_memory_85 (by first | decide | omega) (fun _ => ?_) (fun _ => ?_)
  · skip
    refine z_sub [0, 1, 2, 3, 4, 5, 6, 7] rfl ?_
    exact zX10_memory_b126 _ _ _ a0 l1 l2 l3 l4 l6 l8 l9  k_a0 h
  · skip
    refine z_iload dX10_memory_88 7 rfl ?_
    refine z_if_ne (tgt := 126) dX10_memory_90 (by first | decide | omega) (fun _ => ?_) (fun _ => ?_)
    · skip
      refine z_sub [0, 1, 2, 3, 4, 5, 6, 7] rfl ?_
      exact zX10_memory_b126 _ _ _ a0 l1 l2 l3 l4 l6 l8 l9  k_a0 h
    · skip
      refine z_aload_n dX10_memory_93 rfl 0 rfl ?_
      refine z_getR (kd := 50) dX10_memory_94 fl_X10_13 k_a0 (fun r45 kr45 => ?_)
      refine z_iload dX10_memory_97 6 rfl ?_
      refine z_iald dX10_memory_99 kr45 (fun v46 => ?_)
      refine z_iload_n dX10_memory_100 rfl 3 rfl ?_
      refine z_icmp_eq (tgt := 118) dX10_memory_101 (by first | decide | omega) (fun _ => ?_) (fun _ => ?_)
      · skip
        refine z_sub [0, 1, 2, 3, 4, 5, 6] rfl ?_
        exact zX10_memory_b118 _ _ _ a0 l1 l2 l3 l4 l6 l8  k_a0 h
      · skip
        refine z_aload_n dX10_memory_104 rfl 0 rfl ?_
        refine z_getR (kd := 50) dX10_memory_105 fl_X10_13 k_a0 (fun r47 kr47 => ?_)
        refine z_iload dX10_memory_108 6 rfl ?_
        refine z_iald dX10_memory_110 kr47 (fun v48 => ?_)
        refine z_iload_n dX10_memory_111 rfl 3 rfl ?_
        refine z_pI (as := [.int (v48), .int (l3)]) (rn_S dX10_memory_112 mf_X10_goesInto in_X10_goesInto lk_X10_331 ⟨by decide, by decide⟩ rfl (Nat.le_of_ble_eq_true rfl)) (tX10_goesInto _ _ _ _ _ _) cz_X10_goesInto (c00 _) (fun v49 => ?_)
        refine z_if_eq (tgt := 122) dX10_memory_115 (by first | decide | omega) (fun _ => ?_) (fun _ => ?_)
        · skip
          refine z_bipush (v := 7) dX10_memory_122 (by decide) ?_
          refine z_sub [0, 1, 2, 3, 4, 5, 6] rfl ?_
          exact zX10_memory_b124 _ _ _ a0 l1 l2 l3 l4 l6 l8 (7 : Int32) k_a0 h
        · skip
          refine z_sub [0, 1, 2, 3, 4, 5, 6] rfl ?_
          exact zX10_memory_b118 _ _ _ a0 l1 l2 l3 l4 l6 l8  k_a0 h
def fX10_memory_b80 (κ : Kd) (a0 : Nat) (l1 : Int32) (l2 : Int32) (l3 : Int32) (l4 : Int64) (l6 : Int64) (l8 : Int32) (s0 : Int32) (h : Hp) : Option (Hp) :=
  fX10_memory_b82 κ a0 l1 l2 l3 l4 l6 l8 s0  h
set_option maxRecDepth 100000 in
theorem zX10_memory_b80 (κ : Kd) (n lim : Nat) (a0 : Nat) (l1 : Int32) (l2 : Int32) (l3 : Int32) (l4 : Int64) (l6 : Int64) (l8 : Int32) (s0 : Int32) (k_a0 : (κ a0).1 = 9) (h : Hp) : ZQ mX10_memory (eV κ n) (κ, n, 0, lim) 80 [(0, .ref (a0)), (1, .int (l1)), (2, .int (l2)), (3, .int (l3)), (4, .long (l4)), (6, .long (l6)), (8, .int (l8))] [.int (s0)] h (fX10_memory_b80 κ a0 l1 l2 l3 l4 l6 l8 s0 h) := by
  unfold fX10_memory_b80
  refine z_istore (L' := [(9, .int (s0)), (0, .ref (a0)), (1, .int (l1)), (2, .int (l2)), (3, .int (l3)), (4, .long (l4)), (6, .long (l6)), (8, .int (l8))]) dX10_memory_80 (by decide) rfl ?_
  refine z_sub [1, 2, 3, 4, 5, 6, 7, 0] rfl ?_
  exact zX10_memory_b82 _ _ _ a0 l1 l2 l3 l4 l6 l8 s0  k_a0 h
def fX10_memory_b78 (κ : Kd) (a0 : Nat) (l1 : Int32) (l2 : Int32) (l3 : Int32) (l4 : Int64) (l6 : Int64) (l8 : Int32) (l9 : Int32)  (h : Hp) : Option (Hp) :=
  fX10_memory_b80 κ a0 l1 l2 l3 l4 l6 l8 l9 h
set_option maxRecDepth 100000 in
theorem zX10_memory_b78 (κ : Kd) (n lim : Nat) (a0 : Nat) (l1 : Int32) (l2 : Int32) (l3 : Int32) (l4 : Int64) (l6 : Int64) (l8 : Int32) (l9 : Int32)  (k_a0 : (κ a0).1 = 9) (h : Hp) : ZQ mX10_memory (eV κ n) (κ, n, 0, lim) 78 [(0, .ref (a0)), (1, .int (l1)), (2, .int (l2)), (3, .int (l3)), (4, .long (l4)), (6, .long (l6)), (8, .int (l8)), (9, .int (l9))] [] h (fX10_memory_b78 κ a0 l1 l2 l3 l4 l6 l8 l9  h) := by
  unfold fX10_memory_b78
  refine z_iload dX10_memory_78 7 rfl ?_
  refine z_sub [0, 1, 2, 3, 4, 5, 6] rfl ?_
  exact zX10_memory_b80 _ _ _ a0 l1 l2 l3 l4 l6 l8 l9 k_a0 h
def fX10_memory_b57 (κ : Kd) (a0 : Nat) (l1 : Int32) (l2 : Int32) (l3 : Int32) (l4 : Int64) (l6 : Int64) (l8 : Int32) (l9 : Int32)  (h : Hp) : Option (Hp) :=
  if l9 = (1 : Int32) then (
    fX10_memory_b78 κ a0 l1 l2 l3 l4 l6 l8 l9  h
  ) else (
    to_ κ (g_R h a0 1) 50 fun r50 =>
    a_I κ h r50 l8 fun v51 =>
    if v51 = l3 then (
      fX10_memory_b78 κ a0 l1 l2 l3 l4 l6 l8 l9  h
    ) else (
      fX10_memory_b80 κ a0 l1 l2 l3 l4 l6 l8 (3 : Int32) h
    )
  )
set_option maxRecDepth 100000 in
theorem zX10_memory_b57 (κ : Kd) (n lim : Nat) (a0 : Nat) (l1 : Int32) (l2 : Int32) (l3 : Int32) (l4 : Int64) (l6 : Int64) (l8 : Int32) (l9 : Int32)  (k_a0 : (κ a0).1 = 9) (h : Hp) : ZQ mX10_memory (eV κ n) (κ, n, 0, lim) 57 [(0, .ref (a0)), (1, .int (l1)), (2, .int (l2)), (3, .int (l3)), (4, .long (l4)), (6, .long (l6)), (8, .int (l8)), (9, .int (l9))] [] h (fX10_memory_b57 κ a0 l1 l2 l3 l4 l6 l8 l9  h) := by
  unfold fX10_memory_b57
  refine z_iload dX10_memory_57 7 rfl ?_
  refine z_iconst (v := 1) dX10_memory_59 (by decide) ?_
  refine z_icmp_eq (tgt := 78) dX10_memory_60 (by first | decide | omega) (fun _ => ?_) (fun _ => ?_)
  · skip
    refine z_sub [0, 1, 2, 3, 4, 5, 6, 7] rfl ?_
    exact zX10_memory_b78 _ _ _ a0 l1 l2 l3 l4 l6 l8 l9  k_a0 h
  · skip
    refine z_aload_n dX10_memory_63 rfl 0 rfl ?_
    refine z_getR (kd := 50) dX10_memory_64 fl_X10_13 k_a0 (fun r50 kr50 => ?_)
    refine z_iload dX10_memory_67 6 rfl ?_
    refine z_iald dX10_memory_69 kr50 (fun v51 => ?_)
    refine z_iload_n dX10_memory_70 rfl 3 rfl ?_
    refine z_icmp_eq (tgt := 78) dX10_memory_71 (by first | decide | omega) (fun _ => ?_) (fun _ => ?_)
    · skip
      refine z_sub [0, 1, 2, 3, 4, 5, 6, 7] rfl ?_
      exact zX10_memory_b78 _ _ _ a0 l1 l2 l3 l4 l6 l8 l9  k_a0 h
    · skip
      refine z_iconst (v := 3) dX10_memory_74 (by decide) ?_
      refine z_goto (tgt := 80) dX10_memory_75 (by decide) ?_
      refine z_sub [0, 1, 2, 3, 4, 5, 6] rfl ?_
      exact zX10_memory_b80 _ _ _ a0 l1 l2 l3 l4 l6 l8 (3 : Int32) k_a0 h
def fX10_memory_b43 (κ : Kd) (a0 : Nat) (l1 : Int32) (l2 : Int32) (l3 : Int32) (l4 : Int64) (l6 : Int64) (l8 : Int32) (s0 : Int32) (h : Hp) : Option (Hp) :=
  if l1 = (12 : Int32) then (
    fX10_memory_b57 κ a0 l1 l2 l3 l4 l6 l8 s0  h
  ) else (
    if l1 = (13 : Int32) then (
      fX10_memory_b57 κ a0 l1 l2 l3 l4 l6 l8 s0  h
    ) else (
      fX10_memory_b82 κ a0 l1 l2 l3 l4 l6 l8 s0  h
    )
  )
set_option maxRecDepth 100000 in
theorem zX10_memory_b43 (κ : Kd) (n lim : Nat) (a0 : Nat) (l1 : Int32) (l2 : Int32) (l3 : Int32) (l4 : Int64) (l6 : Int64) (l8 : Int32) (s0 : Int32) (k_a0 : (κ a0).1 = 9) (h : Hp) : ZQ mX10_memory (eV κ n) (κ, n, 0, lim) 43 [(0, .ref (a0)), (1, .int (l1)), (2, .int (l2)), (3, .int (l3)), (4, .long (l4)), (6, .long (l6)), (8, .int (l8))] [.int (s0)] h (fX10_memory_b43 κ a0 l1 l2 l3 l4 l6 l8 s0 h) := by
  unfold fX10_memory_b43
  refine z_istore (L' := [(9, .int (s0)), (0, .ref (a0)), (1, .int (l1)), (2, .int (l2)), (3, .int (l3)), (4, .long (l4)), (6, .long (l6)), (8, .int (l8))]) dX10_memory_43 (by decide) rfl ?_
  refine z_iload_n dX10_memory_45 rfl 2 rfl ?_
  refine z_bipush (v := 12) dX10_memory_46 (by decide) ?_
  refine z_icmp_eq (tgt := 57) dX10_memory_48 (by first | decide | omega) (fun _ => ?_) (fun _ => ?_)
  · skip
    refine z_sub [1, 2, 3, 4, 5, 6, 7, 0] rfl ?_
    exact zX10_memory_b57 _ _ _ a0 l1 l2 l3 l4 l6 l8 s0  k_a0 h
  · skip
    refine z_iload_n dX10_memory_51 rfl 2 rfl ?_
    refine z_bipush (v := 13) dX10_memory_52 (by decide) ?_
    refine z_icmp_ne (tgt := 82) dX10_memory_54 (by first | decide | omega) (fun _ => ?_) (fun _ => ?_)
    · skip
      refine z_sub [1, 2, 3, 4, 5, 6, 7, 0] rfl ?_
      exact zX10_memory_b82 _ _ _ a0 l1 l2 l3 l4 l6 l8 s0  k_a0 h
    · skip
      refine z_sub [1, 2, 3, 4, 5, 6, 7, 0] rfl ?_
      exact zX10_memory_b57 _ _ _ a0 l1 l2 l3 l4 l6 l8 s0  k_a0 h
def fX10_memory_b32 (κ : Kd) (a0 : Nat) (l1 : Int32) (l2 : Int32) (l3 : Int32) (l4 : Int64) (l6 : Int64) (l8 : Int32)  (h : Hp) : Option (Hp) :=
  (fX10_against κ a0 l2 l4 h).bind fun v3 =>
  fX10_memory_b43 κ a0 l1 l2 l3 l4 l6 l8 v3 h
set_option maxRecDepth 100000 in
theorem zX10_memory_b32 (κ : Kd) (n lim : Nat) (a0 : Nat) (l1 : Int32) (l2 : Int32) (l3 : Int32) (l4 : Int64) (l6 : Int64) (l8 : Int32)  (k_a0 : (κ a0).1 = 9) (h : Hp) : ZQ mX10_memory (eV κ n) (κ, n, 0, lim) 32 [(0, .ref (a0)), (1, .int (l1)), (2, .int (l2)), (3, .int (l3)), (4, .long (l4)), (6, .long (l6)), (8, .int (l8))] [] h (fX10_memory_b32 κ a0 l1 l2 l3 l4 l6 l8  h) := by
  unfold fX10_memory_b32
  refine z_aload_n dX10_memory_32 rfl 0 rfl ?_
  refine z_iload_n dX10_memory_33 rfl 2 rfl ?_
  refine z_lload dX10_memory_34 4 rfl ?_
  refine z_pI (as := [.ref (a0), .int (l2), .long (l4)]) (rn_V dX10_memory_36 mf_X10_against in_X10_against lk_X10_168 ⟨by decide, by decide⟩ cl_8 rfl k_a0 rfl (Nat.le_of_ble_eq_true rfl)) (tX10_against _ _ _ _ _ _ _) cz_X10_against (c00 _) (fun v3 => ?_)
  refine z_goto (tgt := 43) dX10_memory_39 (by decide) ?_
  refine z_sub [0, 1, 2, 3, 4, 5, 6] rfl ?_
  exact zX10_memory_b43 _ _ _ a0 l1 l2 l3 l4 l6 l8 v3 k_a0 h
def fX10_memory (κ : Kd) (a0 : Nat) (l1 : Int32) (l2 : Int32) (l3 : Int32) (l4 : Int64) (l6 : Int64) (h : Hp) : Option (Hp) :=
  if (κ a0).1 = 9 then (
  to_ κ (g_R h a0 0) 50 fun r1 =>
  a_I κ h r1 l2 fun v2 =>
  if l1 = (12 : Int32) then (
    fX10_memory_b32 κ a0 l1 l2 l3 l4 l6 v2  h
  ) else (
    if l1 = (13 : Int32) then (
      fX10_memory_b32 κ a0 l1 l2 l3 l4 l6 v2  h
    ) else (
      if l1 = (17 : Int32) then (
        fX10_memory_b32 κ a0 l1 l2 l3 l4 l6 v2  h
      ) else (
        if l1 = (18 : Int32) then (
          fX10_memory_b32 κ a0 l1 l2 l3 l4 l6 v2  h
        ) else (
          fX10_memory_b43 κ a0 l1 l2 l3 l4 l6 v2 (0 : Int32) h
        )
      )
    )
  )) else none
set_option maxHeartbeats 4000000 in
set_option maxRecDepth 100000 in
theorem tX10_memory (κ : Kd) (n lim : Nat) (h : Hp) (a0 : Nat) (l1 : Int32) (l2 : Int32) (l3 : Int32) (l4 : Int64) (l6 : Int64) : Ct_ mX10_memory [.ref (a0), .int (l1), .int (l2), .int (l3), .long (l4), .long (l6)] κ n lim h (eV κ n) (fX10_memory κ a0 l1 l2 l3 l4 l6 h) := by
  refine ct_of (by decide) (Nat.le_of_ble_eq_true rfl) ?_
  unfold fX10_memory
  refine z_sub (L' := [(0, .ref (a0)), (1, .int (l1)), (2, .int (l2)), (3, .int (l3)), (4, .long (l4)), (6, .long (l6))]) [0, 1, 2, 3, 4, 5] rfl ?_
  refine z_or (fun k_a0 => ?_)
  refine z_aload_n dX10_memory_0 rfl 0 rfl ?_
  refine z_getR (kd := 50) dX10_memory_1 fl_X10_7 k_a0 (fun r1 kr1 => ?_)
  refine z_iload_n dX10_memory_4 rfl 2 rfl ?_
  refine z_iald dX10_memory_5 kr1 (fun v2 => ?_)
  refine z_istore (L' := [(8, .int (v2)), (0, .ref (a0)), (1, .int (l1)), (2, .int (l2)), (3, .int (l3)), (4, .long (l4)), (6, .long (l6))]) dX10_memory_6 (by decide) rfl ?_
  refine z_iload_n dX10_memory_8 rfl 2 rfl ?_
  refine z_bipush (v := 12) dX10_memory_9 (by decide) ?_
  refine z_icmp_eq (tgt := 32) dX10_memory_11 (by first | decide | omega) (fun _ => ?_) (fun _ => ?_)
  · skip
    refine z_sub [1, 2, 3, 4, 5, 6, 0] rfl ?_
    exact zX10_memory_b32 _ _ _ a0 l1 l2 l3 l4 l6 v2  k_a0 h
  · skip
    refine z_iload_n dX10_memory_14 rfl 2 rfl ?_
    refine z_bipush (v := 13) dX10_memory_15 (by decide) ?_
    refine z_icmp_eq (tgt := 32) dX10_memory_17 (by first | decide | omega) (fun _ => ?_) (fun _ => ?_)
    · skip
      refine z_sub [1, 2, 3, 4, 5, 6, 0] rfl ?_
      exact zX10_memory_b32 _ _ _ a0 l1 l2 l3 l4 l6 v2  k_a0 h
    · skip
      refine z_iload_n dX10_memory_20 rfl 2 rfl ?_
      refine z_bipush (v := 17) dX10_memory_21 (by decide) ?_
      refine z_icmp_eq (tgt := 32) dX10_memory_23 (by first | decide | omega) (fun _ => ?_) (fun _ => ?_)
      · skip
        refine z_sub [1, 2, 3, 4, 5, 6, 0] rfl ?_
        exact zX10_memory_b32 _ _ _ a0 l1 l2 l3 l4 l6 v2  k_a0 h
      · skip
        refine z_iload_n dX10_memory_26 rfl 2 rfl ?_
        refine z_bipush (v := 18) dX10_memory_27 (by decide) ?_
        refine z_icmp_ne (tgt := 42) dX10_memory_29 (by first | decide | omega) (fun _ => ?_) (fun _ => ?_)
        · skip
          refine z_iconst (v := 0) dX10_memory_42 (by decide) ?_
          refine z_sub [1, 2, 3, 4, 5, 6, 0] rfl ?_
          exact zX10_memory_b43 _ _ _ a0 l1 l2 l3 l4 l6 v2 (0 : Int32) k_a0 h
        · skip
          refine z_sub [1, 2, 3, 4, 5, 6, 0] rfl ?_
          exact zX10_memory_b32 _ _ _ a0 l1 l2 l3 l4 l6 v2  k_a0 h
