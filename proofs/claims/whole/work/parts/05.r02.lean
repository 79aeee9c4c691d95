def fX10_in (κ : Kd) (l0 : Int64) (l2 : Int64) (l4 : Int64) (h : Hp) : Option (Int32) :=
  if l0 < l2 then (
    some ((0 : Int32))
  ) else (
    if l4 < l0 then (
      some ((0 : Int32))
    ) else (
      some ((1 : Int32))
    )
  )
set_option maxHeartbeats 4000000 in
set_option maxRecDepth 100000 in
theorem tX10_in (κ : Kd) (n lim : Nat) (h : Hp) (l0 : Int64) (l2 : Int64) (l4 : Int64) : Ct_ mX10_in [.long (l0), .long (l2), .long (l4)] κ n lim h (pI κ n h) (fX10_in κ l0 l2 l4 h) := by
  refine ct_of (by decide) (Nat.le_of_ble_eq_true rfl) ?_
  unfold fX10_in
  refine z_sub (L' := [(0, .long (l0)), (2, .long (l2)), (4, .long (l4))]) [0, 1, 2] rfl ?_
  refine z_lload_n dX10_in_0 rfl 0 rfl ?_
  refine z_lload_n dX10_in_1 rfl 1 rfl ?_
  refine z_lc_lt (tgt := 17) dX10_in_2 dX10_in_3 (by first | decide | omega) (fun _ => ?_) (fun _ => ?_)
  · skip
    refine z_iconst (v := 0) dX10_in_17 (by decide) ?_
    exact z_zret dX10_in_18 rfl rfl (en0 _ _ _ _) rfl
  · skip
    refine z_lload_n dX10_in_6 rfl 0 rfl ?_
    refine z_lload dX10_in_7 2 rfl ?_
    refine z_lc_gt (tgt := 17) dX10_in_9 dX10_in_10 (by first | decide | omega) (fun _ => ?_) (fun _ => ?_)
    · skip
      refine z_iconst (v := 0) dX10_in_17 (by decide) ?_
      exact z_zret dX10_in_18 rfl rfl (en0 _ _ _ _) rfl
    · skip
      refine z_iconst (v := 1) dX10_in_13 (by decide) ?_
      refine z_goto (tgt := 18) dX10_in_14 (by decide) ?_
      exact z_zret dX10_in_18 rfl rfl (en0 _ _ _ _) rfl
def fX10_isRow (κ : Kd) (l0 : Int32) (h : Hp) : Option (Int32) :=
  (fX10_in κ l0.toInt64 (0 : Int64) (11 : Int64) h).bind fun v1 =>
  if v1 = 0 ∨ v1 = 1 then some (v1) else none
set_option maxHeartbeats 4000000 in
set_option maxRecDepth 100000 in
theorem tX10_isRow (κ : Kd) (n lim : Nat) (h : Hp) (l0 : Int32) : Ct_ mX10_isRow [.int (l0)] κ n lim h (pI κ n h) (fX10_isRow κ l0 h) := by
  refine ct_of (by decide) (Nat.le_of_ble_eq_true rfl) ?_
  unfold fX10_isRow
  refine z_sub (L' := [(0, .int (l0))]) [0] rfl ?_
  refine z_iload_n dX10_isRow_0 rfl 0 rfl ?_
  refine z_i2l dX10_isRow_1 ?_
  refine z_lconst (v := 0) dX10_isRow_2 (by decide) ?_
  refine z_ldc2 dX10_isRow_3 co_X10_137 ?_
  refine z_pI (as := [.long (l0.toInt64), .long ((0 : Int64)), .long ((11 : Int64))]) (rn_S dX10_isRow_6 mf_X10_in in_X10_in lk_X10_139 ⟨by decide, by decide⟩ rfl (Nat.le_of_ble_eq_true rfl)) (tX10_in _ _ _ _ _ _ _) cz_X10_in (c00 _) (fun v1 => ?_)
  exact z_or (fun hz => z_zret dX10_isRow_9 rfl (nb_ hz) (en0 _ _ _ _) rfl)
def fX10_isLane (κ : Kd) (l0 : Int32) (h : Hp) : Option (Int32) :=
  (fX10_in κ l0.toInt64 (0 : Int64) (7 : Int64) h).bind fun v1 =>
  if v1 = 0 ∨ v1 = 1 then some (v1) else none
set_option maxHeartbeats 4000000 in
set_option maxRecDepth 100000 in
theorem tX10_isLane (κ : Kd) (n lim : Nat) (h : Hp) (l0 : Int32) : Ct_ mX10_isLane [.int (l0)] κ n lim h (pI κ n h) (fX10_isLane κ l0 h) := by
  refine ct_of (by decide) (Nat.le_of_ble_eq_true rfl) ?_
  unfold fX10_isLane
  refine z_sub (L' := [(0, .int (l0))]) [0] rfl ?_
  refine z_iload_n dX10_isLane_0 rfl 0 rfl ?_
  refine z_i2l dX10_isLane_1 ?_
  refine z_lconst (v := 0) dX10_isLane_2 (by decide) ?_
  refine z_ldc2 dX10_isLane_3 co_X10_143 ?_
  refine z_pI (as := [.long (l0.toInt64), .long ((0 : Int64)), .long ((7 : Int64))]) (rn_S dX10_isLane_6 mf_X10_in in_X10_in lk_X10_139 ⟨by decide, by decide⟩ rfl (Nat.le_of_ble_eq_true rfl)) (tX10_in _ _ _ _ _ _ _) cz_X10_in (c00 _) (fun v1 => ?_)
  exact z_or (fun hz => z_zret dX10_isLane_9 rfl (nb_ hz) (en0 _ _ _ _) rfl)
def fX10_spare_b15 (κ : Kd) (a0 : Nat) (l1 : Int32) (l2 : Int32) (l3 : Int32) (K : Int32 → Hp → Option (Int32)) : Nat → Int32 → Int32 → Hp → Option (Int32)
  | 0, _, _, _ => none
  | N + 1, l4, l5, h =>
    if (12 : Int32) ≤ l5 then (
      K (l4) h
    ) else (
      if l4 = 0 then (
        if l5 = l1 then (
          fX10_spare_b15 κ a0 l1 l2 l3 K N (0 : Int32) (l5 + 1) h
        ) else (
          to_ κ (g_R h a0 0) 50 fun r1 =>
          a_I κ h r1 l5 fun v2 =>
          if v2 = l3 then (
            fX10_spare_b15 κ a0 l1 l2 l3 K N (1 : Int32) (l5 + 1) h
          ) else (
            fX10_spare_b15 κ a0 l1 l2 l3 K N (0 : Int32) (l5 + 1) h
          )
        )
      ) else (
        fX10_spare_b15 κ a0 l1 l2 l3 K N (1 : Int32) (l5 + 1) h
      )
    )
set_option maxRecDepth 100000 in
theorem zX10_spare_b15 (κ : Kd) (n lim : Nat) (a0 : Nat) (l1 : Int32) (l2 : Int32) (l3 : Int32) (k_a0 : (κ a0).1 = 9) (K : Int32 → Hp → Option (Int32)) (kx : ∀ (x4 : Int32) (h : Hp), ZQ mX10_spare (pI κ n h) (κ, n, 0, lim) 57 [(0, .ref (a0)), (1, .int (l1)), (2, .int (l2)), (3, .int (l3)), (4, .int (x4))] [] h (K x4 h)) : ∀ (N : Nat) (l4 : Int32) (l5 : Int32) (h : Hp), ZQ mX10_spare (pI κ n h) (κ, n, 0, lim) 15 [(0, .ref (a0)), (1, .int (l1)), (2, .int (l2)), (3, .int (l3)), (4, .int (l4)), (5, .int (l5))] [] h (fX10_spare_b15 κ a0 l1 l2 l3 K N l4 l5 h) := by
  intro N
  induction N with
  | zero =>
    intro l4 l5 h
    rw [fX10_spare_b15]
    exact z_no
  | succ N ih =>
    intro l4 l5 h
    rw [fX10_spare_b15]
    refine z_iload dX10_spare_15 5 rfl ?_
    refine z_bipush (v := 12) dX10_spare_17 (by decide) ?_
    refine z_icmp_ge (tgt := 57) dX10_spare_19 (by first | decide | omega) (fun _ => ?_) (fun _ => ?_)
    · skip
      refine z_sub [0, 1, 2, 3, 4] rfl ?_
      exact kx (l4) h
    · skip
      refine z_iload dX10_spare_22 4 rfl ?_
      refine z_if_ne (tgt := 44) dX10_spare_24 (by first | decide | omega) (fun _ => ?_) (fun _ => ?_)
      · skip
        refine z_iconst (v := 1) dX10_spare_44 (by decide) ?_
        refine z_goto (tgt := 49) dX10_spare_45 (by decide) ?_
        refine z_istore (L' := [(4, .int ((1 : Int32))), (0, .ref (a0)), (1, .int (l1)), (2, .int (l2)), (3, .int (l3)), (5, .int (l5))]) dX10_spare_49 (by decide) rfl ?_
        refine z_iinc (j := 5) (v := l5 + 1) (L' := [(5, .int (l5 + 1)), (4, .int ((1 : Int32))), (0, .ref (a0)), (1, .int (l1)), (2, .int (l2)), (3, .int (l3))]) dX10_spare_51 rfl rfl (by decide) rfl ?_
        refine z_goto (tgt := 15) dX10_spare_54 (by decide) ?_
        refine z_sub [2, 3, 4, 5, 1, 0] rfl ?_
        exact ih ((1 : Int32)) ((l5 + 1)) h
      · skip
        refine z_iload dX10_spare_27 5 rfl ?_
        refine z_iload_n dX10_spare_29 rfl 1 rfl ?_
        refine z_icmp_eq (tgt := 48) dX10_spare_30 (by first | decide | omega) (fun _ => ?_) (fun _ => ?_)
        · skip
          refine z_iconst (v := 0) dX10_spare_48 (by decide) ?_
          refine z_istore (L' := [(4, .int ((0 : Int32))), (0, .ref (a0)), (1, .int (l1)), (2, .int (l2)), (3, .int (l3)), (5, .int (l5))]) dX10_spare_49 (by decide) rfl ?_
          refine z_iinc (j := 5) (v := l5 + 1) (L' := [(5, .int (l5 + 1)), (4, .int ((0 : Int32))), (0, .ref (a0)), (1, .int (l1)), (2, .int (l2)), (3, .int (l3))]) dX10_spare_51 rfl rfl (by decide) rfl ?_
          refine z_goto (tgt := 15) dX10_spare_54 (by decide) ?_
          refine z_sub [2, 3, 4, 5, 1, 0] rfl ?_
          exact ih ((0 : Int32)) ((l5 + 1)) h
        · skip
          refine z_aload_n dX10_spare_33 rfl 0 rfl ?_
          refine z_getR (kd := 50) dX10_spare_34 fl_X10_7 k_a0 (fun r1 kr1 => ?_)
          refine z_iload dX10_spare_37 5 rfl ?_
          refine z_iald dX10_spare_39 kr1 (fun v2 => ?_)
          refine z_iload_n dX10_spare_40 rfl 3 rfl ?_
          refine z_icmp_ne (tgt := 48) dX10_spare_41 (by first | decide | omega) (fun _ => ?_) (fun _ => ?_)
          · skip
            refine z_iconst (v := 0) dX10_spare_48 (by decide) ?_
            refine z_istore (L' := [(4, .int ((0 : Int32))), (0, .ref (a0)), (1, .int (l1)), (2, .int (l2)), (3, .int (l3)), (5, .int (l5))]) dX10_spare_49 (by decide) rfl ?_
            refine z_iinc (j := 5) (v := l5 + 1) (L' := [(5, .int (l5 + 1)), (4, .int ((0 : Int32))), (0, .ref (a0)), (1, .int (l1)), (2, .int (l2)), (3, .int (l3))]) dX10_spare_51 rfl rfl (by decide) rfl ?_
            refine z_goto (tgt := 15) dX10_spare_54 (by decide) ?_
            refine z_sub [2, 3, 4, 5, 1, 0] rfl ?_
            exact ih ((0 : Int32)) ((l5 + 1)) h
          · skip
            refine z_iconst (v := 1) dX10_spare_44 (by decide) ?_
            refine z_goto (tgt := 49) dX10_spare_45 (by decide) ?_
            refine z_istore (L' := [(4, .int ((1 : Int32))), (0, .ref (a0)), (1, .int (l1)), (2, .int (l2)), (3, .int (l3)), (5, .int (l5))]) dX10_spare_49 (by decide) rfl ?_
            refine z_iinc (j := 5) (v := l5 + 1) (L' := [(5, .int (l5 + 1)), (4, .int ((1 : Int32))), (0, .ref (a0)), (1, .int (l1)), (2, .int (l2)), (3, .int (l3))]) dX10_spare_51 rfl rfl (by decide) rfl ?_
            refine z_goto (tgt := 15) dX10_spare_54 (by decide) ?_
            refine z_sub [2, 3, 4, 5, 1, 0] rfl ?_
            exact ih ((1 : Int32)) ((l5 + 1)) h
def fX10_spare_b5 (κ : Kd) (a0 : Nat) (l1 : Int32) : Nat → Int32 → Int32 → Hp → Option (Int32)
  | 0, _, _, _ => none
  | N + 1, l2, l3, h =>
    if l3 < 0 then (
      some (l2)
    ) else (
      fX10_spare_b15 κ a0 l1 l2 l3 (fun x4 h3 =>
        if x4 = 0 then (
          fX10_spare_b5 κ a0 l1 N l3 (l3 + (-1)) h3
        ) else (
          fX10_spare_b5 κ a0 l1 N l2 (l3 + (-1)) h3
        )
      ) fu_ (0 : Int32) (0 : Int32) h
    )
set_option maxRecDepth 100000 in
theorem zX10_spare_b5 (κ : Kd) (n lim : Nat) (a0 : Nat) (l1 : Int32) (k_a0 : (κ a0).1 = 9) : ∀ (N : Nat) (l2 : Int32) (l3 : Int32) (h : Hp), ZQ mX10_spare (pI κ n h) (κ, n, 0, lim) 5 [(0, .ref (a0)), (1, .int (l1)), (2, .int (l2)), (3, .int (l3))] [] h (fX10_spare_b5 κ a0 l1 N l2 l3 h) := by
  intro N
  induction N with
  | zero =>
    intro l2 l3 h
    rw [fX10_spare_b5]
    exact z_no
  | succ N ih =>
    intro l2 l3 h
    rw [fX10_spare_b5]
    refine z_iload_n dX10_spare_5 rfl 3 rfl ?_
    refine z_if_lt (tgt := 74) dX10_spare_6 (by first | decide | omega) (fun _ => ?_) (fun _ => ?_)
    · skip
      refine z_iload_n dX10_spare_74 rfl 2 rfl ?_
      exact z_iret dX10_spare_75 rfl (en0 _ _ _ _) rfl
    · skip
      refine z_iconst (v := 0) dX10_spare_9 (by decide) ?_
      refine z_istore (L' := [(4, .int ((0 : Int32))), (0, .ref (a0)), (1, .int (l1)), (2, .int (l2)), (3, .int (l3))]) dX10_spare_10 (by decide) rfl ?_
      refine z_iconst (v := 0) dX10_spare_12 (by decide) ?_
      refine z_istore (L' := [(5, .int ((0 : Int32))), (4, .int ((0 : Int32))), (0, .ref (a0)), (1, .int (l1)), (2, .int (l2)), (3, .int (l3))]) dX10_spare_13 (by decide) rfl ?_
      refine z_sub [2, 3, 4, 5, 1, 0] rfl ?_
      refine zX10_spare_b15 _ _ _ a0 l1 l2 l3 k_a0 _ (fun x4 h3 => ?_) fu_ (0 : Int32) (0 : Int32) h
      refine z_iload dX10_spare_57 4 rfl ?_
      refine z_if_eq (tgt := 66) dX10_spare_59 (by first | decide | omega) (fun _ => ?_) (fun _ => ?_)
      · skip
        refine z_iload_n dX10_spare_66 rfl 3 rfl ?_
        refine z_istore_n (L' := [(2, .int (l3)), (0, .ref (a0)), (1, .int (l1)), (3, .int (l3)), (4, .int (x4))]) dX10_spare_67 rfl (by decide) rfl ?_
        refine z_iinc (j := 3) (v := l3 + (-1)) (L' := [(3, .int (l3 + (-1))), (2, .int (l3)), (0, .ref (a0)), (1, .int (l1)), (4, .int (x4))]) dX10_spare_68 rfl rfl (by decide) rfl ?_
        refine z_goto (tgt := 5) dX10_spare_71 (by decide) ?_
        refine z_sub [2, 3, 1, 0] rfl ?_
        exact ih (l3) ((l3 + (-1))) h3
      · skip
        refine z_iload_n dX10_spare_62 rfl 2 rfl ?_
        refine z_goto (tgt := 67) dX10_spare_63 (by decide) ?_
        refine z_istore_n (L' := [(2, .int (l2)), (0, .ref (a0)), (1, .int (l1)), (3, .int (l3)), (4, .int (x4))]) dX10_spare_67 rfl (by decide) rfl ?_
        refine z_iinc (j := 3) (v := l3 + (-1)) (L' := [(3, .int (l3 + (-1))), (2, .int (l2)), (0, .ref (a0)), (1, .int (l1)), (4, .int (x4))]) dX10_spare_68 rfl rfl (by decide) rfl ?_
        refine z_goto (tgt := 5) dX10_spare_71 (by decide) ?_
        refine z_sub [2, 3, 1, 0] rfl ?_
        exact ih (l2) ((l3 + (-1))) h3
def fX10_spare (κ : Kd) (a0 : Nat) (l1 : Int32) (h : Hp) : Option (Int32) :=
  if (κ a0).1 = 9 then (
  fX10_spare_b5 κ a0 l1 fu_ (-1 : Int32) (11 : Int32) h) else none
set_option maxHeartbeats 4000000 in
set_option maxRecDepth 100000 in
theorem tX10_spare (κ : Kd) (n lim : Nat) (h : Hp) (a0 : Nat) (l1 : Int32) : Ct_ mX10_spare [.ref (a0), .int (l1)] κ n lim h (pI κ n h) (fX10_spare κ a0 l1 h) := by
  refine ct_of (by decide) (Nat.le_of_ble_eq_true rfl) ?_
  unfold fX10_spare
  refine z_sub (L' := [(0, .ref (a0)), (1, .int (l1))]) [0, 1] rfl ?_
  refine z_or (fun k_a0 => ?_)
  refine z_iconst (v := -1) dX10_spare_0 (by decide) ?_
  refine z_istore_n (L' := [(2, .int ((-1 : Int32))), (0, .ref (a0)), (1, .int (l1))]) dX10_spare_1 rfl (by decide) rfl ?_
  refine z_bipush (v := 11) dX10_spare_2 (by decide) ?_
  refine z_istore_n (L' := [(3, .int ((11 : Int32))), (2, .int ((-1 : Int32))), (0, .ref (a0)), (1, .int (l1))]) dX10_spare_4 rfl (by decide) rfl ?_
  refine z_sub [2, 3, 1, 0] rfl ?_
  exact zX10_spare_b5 _ _ _ a0 l1 k_a0 fu_ (-1 : Int32) (11 : Int32) h
def fX10_make_b34 (κ : Kd) (a0 : Nat) (l4 : Int32) : Nat → Int32 → Hp → Option (Hp)
  | 0, _, _ => none
  | N + 1, l5, h =>
    if (12 : Int32) ≤ l5 then (
      some h
    ) else (
      to_ κ (g_R h a0 3) 51 fun r8 =>
      w_J κ h r8 (((12 : Int32) * l4) + l5) (0 : Int64) fun h9 =>
      to_ κ (g_R h9 a0 4) 52 fun r10 =>
      w_D κ h9 r10 (((12 : Int32) * l4) + l5) FP.dconst0 fun h11 =>
      fX10_make_b34 κ a0 l4 N (l5 + 1) h11
    )
set_option maxRecDepth 100000 in
theorem zX10_make_b34 (κ : Kd) (n lim : Nat) (a0 : Nat) (l4 : Int32) (k_a0 : (κ a0).1 = 9) : ∀ (N : Nat) (l5 : Int32) (h : Hp), ZQ mX10_make (eV κ n) (κ, n, 0, lim) 34 [(0, .ref (a0)), (4, .int (l4)), (5, .int (l5))] [] h (fX10_make_b34 κ a0 l4 N l5 h) := by
  intro N
  induction N with
  | zero =>
    intro l5 h
    rw [fX10_make_b34]
    exact z_no
  | succ N ih =>
    intro l5 h
    rw [fX10_make_b34]
    refine z_iload dX10_make_34 2 rfl ?_
    refine z_bipush (v := 12) dX10_make_36 (by decide) ?_
    refine z_icmp_ge (tgt := 75) dX10_make_38 (by first | decide | omega) (fun _ => ?_) (fun _ => ?_)
    · skip
      exact z_vret dX10_make_75 rfl (en0 _ _ _ _) rfl
    · skip
      refine z_aload_n dX10_make_41 rfl 0 rfl ?_
      refine z_getR (kd := 51) dX10_make_42 fl_X10_19 k_a0 (fun r8 kr8 => ?_)
      refine z_bipush (v := 12) dX10_make_45 (by decide) ?_
      refine z_iload dX10_make_47 1 rfl ?_
      refine z_imul dX10_make_49 ?_
      refine z_iload dX10_make_50 2 rfl ?_
      refine z_iadd dX10_make_52 ?_
      refine z_lconst (v := 0) dX10_make_53 (by decide) ?_
      refine z_last dX10_make_54 kr8 (fun h9 => ?_)
      refine z_aload_n dX10_make_55 rfl 0 rfl ?_
      refine z_getR (kd := 52) dX10_make_56 fl_X10_23 k_a0 (fun r10 kr10 => ?_)
      refine z_bipush (v := 12) dX10_make_59 (by decide) ?_
      refine z_iload dX10_make_61 1 rfl ?_
      refine z_imul dX10_make_63 ?_
      refine z_iload dX10_make_64 2 rfl ?_
      refine z_iadd dX10_make_66 ?_
      refine z_dconst dX10_make_67 ?_
      refine z_dast dX10_make_68 kr10 (fun h11 => ?_)
      refine z_iinc (j := 2) (v := l5 + 1) (L' := [(5, .int (l5 + 1)), (0, .ref (a0)), (4, .int (l4))]) dX10_make_69 rfl rfl (by decide) rfl ?_
      refine z_goto (tgt := 34) dX10_make_72 (by decide) ?_
      refine z_sub [1, 2, 0] rfl ?_
      exact ih ((l5 + 1)) h11
def fX10_make (κ : Kd) (a0 : Nat) (l1 : Int32) (l2 : Int32) (l3 : Int32) (h : Hp) : Option (Hp) :=
  if (κ a0).1 = 9 then (
  (fX10_spare κ a0 l1 h).bind fun v1 =>
  to_ κ (g_R h a0 0) 50 fun r2 =>
  w_I κ h r2 l1 v1 fun h3 =>
  to_ κ (g_R h3 a0 1) 50 fun r4 =>
  w_I κ h3 r4 v1 l2 fun h5 =>
  to_ κ (g_R h5 a0 2) 50 fun r6 =>
  w_I κ h5 r6 v1 l3 fun h7 =>
  fX10_make_b34 κ a0 v1 fu_ (0 : Int32) h7) else none
set_option maxHeartbeats 4000000 in
set_option maxRecDepth 100000 in
theorem tX10_make (κ : Kd) (n lim : Nat) (h : Hp) (a0 : Nat) (l1 : Int32) (l2 : Int32) (l3 : Int32) : Ct_ mX10_make [.ref (a0), .int (l1), .int (l2), .int (l3)] κ n lim h (eV κ n) (fX10_make κ a0 l1 l2 l3 h) := by
  refine ct_of (by decide) (Nat.le_of_ble_eq_true rfl) ?_
  unfold fX10_make
  refine z_sub (L' := [(0, .ref (a0)), (1, .int (l1)), (2, .int (l2)), (3, .int (l3))]) [0, 1, 2, 3] rfl ?_
  refine z_or (fun k_a0 => ?_)
  refine z_aload_n dX10_make_0 rfl 0 rfl ?_
  refine z_iload_n dX10_make_1 rfl 1 rfl ?_
  refine z_pI (as := [.ref (a0), .int (l1)]) (rn_V dX10_make_2 mf_X10_spare in_X10_spare lk_X10_145 ⟨by decide, by decide⟩ cl_8 rfl k_a0 rfl (Nat.le_of_ble_eq_true rfl)) (tX10_spare _ _ _ _ _ _) cz_X10_spare (c00 _) (fun v1 => ?_)
  refine z_istore (L' := [(4, .int (v1)), (0, .ref (a0)), (1, .int (l1)), (2, .int (l2)), (3, .int (l3))]) dX10_make_5 (by decide) rfl ?_
  refine z_aload_n dX10_make_7 rfl 1 rfl ?_
  refine z_getR (kd := 50) dX10_make_8 fl_X10_7 k_a0 (fun r2 kr2 => ?_)
  refine z_iload_n dX10_make_11 rfl 2 rfl ?_
  refine z_iload dX10_make_12 0 rfl ?_
  refine z_iast dX10_make_14 kr2 (fun h3 => ?_)
  refine z_aload_n dX10_make_15 rfl 1 rfl ?_
  refine z_getR (kd := 50) dX10_make_16 fl_X10_13 k_a0 (fun r4 kr4 => ?_)
  refine z_iload dX10_make_19 0 rfl ?_
  refine z_iload_n dX10_make_21 rfl 3 rfl ?_
  refine z_iast dX10_make_22 kr4 (fun h5 => ?_)
  refine z_aload_n dX10_make_23 rfl 1 rfl ?_
  refine z_getR (kd := 50) dX10_make_24 fl_X10_16 k_a0 (fun r6 kr6 => ?_)
  refine z_iload dX10_make_27 0 rfl ?_
  refine z_iload_n dX10_make_29 rfl 4 rfl ?_
  refine z_iast dX10_make_30 kr6 (fun h7 => ?_)
  refine z_iconst (v := 0) dX10_make_31 (by decide) ?_
  refine z_istore (L' := [(5, .int ((0 : Int32))), (4, .int (v1)), (0, .ref (a0)), (1, .int (l1)), (2, .int (l2)), (3, .int (l3))]) dX10_make_32 (by decide) rfl ?_
  refine z_sub [2, 1, 0] rfl ?_
  exact zX10_make_b34 _ _ _ a0 v1 k_a0 fu_ (0 : Int32) h7
def fX10_as (κ : Kd) (l0 : Int32) (l1 : Int64) (h : Hp) : Option (Int64) :=
  if l0 = (0 : Int32) then (
    some (l1 &&& (1 : Int64))
  ) else
  if l0 = (1 : Int32) then (
    some (l1.toInt32.toInt8.toInt32.toInt64)
  ) else
  if l0 = (2 : Int32) then (
    some (l1.toInt32.toInt16.toInt32.toInt64)
  ) else
  if l0 = (3 : Int32) then (
    some (((l1.toInt32.toUInt32 % 65536).toInt32).toInt64)
  ) else
  if l0 = (4 : Int32) then (
    some (l1.toInt32.toInt64)
  ) else
  (
    some (l1)
  )
set_option maxHeartbeats 4000000 in
set_option maxRecDepth 100000 in
theorem tX10_as (κ : Kd) (n lim : Nat) (h : Hp) (l0 : Int32) (l1 : Int64) : Ct_ mX10_as [.int (l0), .long (l1)] κ n lim h (pJ κ n h) (fX10_as κ l0 l1 h) := by
  refine ct_of (by decide) (Nat.le_of_ble_eq_true rfl) ?_
  unfold fX10_as
  refine z_sub (L' := [(0, .int (l0)), (1, .long (l1))]) [0, 1] rfl ?_
  refine z_iload_n dX10_as_0 rfl 0 rfl ?_
  refine z_ite (fun c2 => ?_) (fun n1 => ?_)
  · refine z_tin (tgt := 36) dX10_as_1 (0) c2 (by decide) (by decide) rfl (by decide) ?_
    refine z_lload_n dX10_as_36 rfl 1 rfl ?_
    refine z_lconst (v := 1) dX10_as_37 (by decide) ?_
    refine z_land dX10_as_38 ?_
    exact z_lret dX10_as_39 rfl (en0 _ _ _ _) rfl
  refine z_ite (fun c4 => ?_) (fun n3 => ?_)
  · refine z_tin (tgt := 40) dX10_as_1 (1) c4 (by decide) (by decide) rfl (by decide) ?_
    refine z_lload_n dX10_as_40 rfl 1 rfl ?_
    refine z_l2i dX10_as_41 ?_
    refine z_i2b dX10_as_42 ?_
    refine z_i2l dX10_as_43 ?_
    exact z_lret dX10_as_44 rfl (en0 _ _ _ _) rfl
  refine z_ite (fun c6 => ?_) (fun n5 => ?_)
  · refine z_tin (tgt := 45) dX10_as_1 (2) c6 (by decide) (by decide) rfl (by decide) ?_
    refine z_lload_n dX10_as_45 rfl 1 rfl ?_
    refine z_l2i dX10_as_46 ?_
    refine z_i2s dX10_as_47 ?_
    refine z_i2l dX10_as_48 ?_
    exact z_lret dX10_as_49 rfl (en0 _ _ _ _) rfl
  refine z_ite (fun c8 => ?_) (fun n7 => ?_)
  · refine z_tin (tgt := 50) dX10_as_1 (3) c8 (by decide) (by decide) rfl (by decide) ?_
    refine z_lload_n dX10_as_50 rfl 1 rfl ?_
    refine z_l2i dX10_as_51 ?_
    refine z_i2c dX10_as_52 ?_
    refine z_i2l dX10_as_53 ?_
    exact z_lret dX10_as_54 rfl (en0 _ _ _ _) rfl
  refine z_ite (fun c10 => ?_) (fun n9 => ?_)
  · refine z_tin (tgt := 55) dX10_as_1 (4) c10 (by decide) (by decide) rfl (by decide) ?_
    refine z_lload_n dX10_as_55 rfl 1 rfl ?_
    refine z_l2i dX10_as_56 ?_
    refine z_i2l dX10_as_57 ?_
    exact z_lret dX10_as_58 rfl (en0 _ _ _ _) rfl
  refine z_tdef (tgt := 59) dX10_as_1 [0, 1, 2, 3, 4] (List.forall_mem_cons.mpr ⟨n1, List.forall_mem_cons.mpr ⟨n3, List.forall_mem_cons.mpr ⟨n5, List.forall_mem_cons.mpr ⟨n7, List.forall_mem_cons.mpr ⟨n9, fun _ h => absurd h List.not_mem_nil⟩⟩⟩⟩⟩) (by decide +kernel) (by decide) ?_
  refine z_lload_n dX10_as_59 rfl 1 rfl ?_
  exact z_lret dX10_as_60 rfl (en0 _ _ _ _) rfl
def fX10_asReal (κ : Kd) (l0 : Int32) (l1 : Int64) (h : Hp) : Option (UInt64) :=
  if l0 = (6 : Int32) then (
    if (FP.f2d (FP.l2f l1)) &&& 0x7fffffffffffffff ≤ 0x7ff0000000000000 then
    some (FP.f2d (FP.l2f l1)) else none
  ) else (
    some (FP.l2d l1)
  )
set_option maxHeartbeats 4000000 in
set_option maxRecDepth 100000 in
theorem tX10_asReal (κ : Kd) (n lim : Nat) (h : Hp) (l0 : Int32) (l1 : Int64) : Ct_ mX10_asReal [.int (l0), .long (l1)] κ n lim h (pD κ n h) (fX10_asReal κ l0 l1 h) := by
  refine ct_of (by decide) (Nat.le_of_ble_eq_true rfl) ?_
  unfold fX10_asReal
  refine z_sub (L' := [(0, .int (l0)), (1, .long (l1))]) [0, 1] rfl ?_
  refine z_iload_n dX10_asReal_0 rfl 0 rfl ?_
  refine z_bipush (v := 6) dX10_asReal_1 (by decide) ?_
  refine z_icmp_ne (tgt := 12) dX10_asReal_3 (by first | decide | omega) (fun _ => ?_) (fun _ => ?_)
  · skip
    refine z_lload_n dX10_asReal_12 rfl 1 rfl ?_
    refine z_l2d dX10_asReal_13 ?_
    exact z_dret dX10_asReal_14 rfl (en0 _ _ _ _) rfl
  · skip
    refine z_lload_n dX10_asReal_6 rfl 1 rfl ?_
    refine z_l2f dX10_asReal_7 ?_
    refine z_ite (fun hne1 => ?_) (fun _ => z_no)
    refine z_f2d dX10_asReal_8 hne1 ?_
    refine z_goto (tgt := 14) dX10_asReal_9 (by decide) ?_
    exact z_dret dX10_asReal_14 rfl (en0 _ _ _ _) rfl
def fX10_lay (κ : Kd) (a0 : Nat) (l1 : Int32) (l2 : Int32) (l3 : Int64) (h : Hp) : Option (Hp) :=
  if (κ a0).1 = 9 then (
  to_ κ (g_R h a0 1) 50 fun r1 =>
  a_I κ h r1 l1 fun v2 =>
  if (6 : Int32) ≤ v2 then (
    to_ κ (g_R h a0 4) 52 fun r3 =>
    to_ κ (g_R h a0 1) 50 fun r4 =>
    a_I κ h r4 l1 fun v5 =>
    (fX10_asReal κ v5 l3 h).bind fun v6 =>
    w_D κ h r3 (((12 : Int32) * l1) + l2) v6 fun h7 =>
    some h7
  ) else (
    to_ κ (g_R h a0 3) 51 fun r8 =>
    to_ κ (g_R h a0 1) 50 fun r9 =>
    a_I κ h r9 l1 fun v10 =>
    (fX10_as κ v10 l3 h).bind fun v11 =>
    w_J κ h r8 (((12 : Int32) * l1) + l2) v11 fun h12 =>
    some h12
  )) else none
set_option maxHeartbeats 4000000 in
set_option maxRecDepth 100000 in
theorem tX10_lay (κ : Kd) (n lim : Nat) (h : Hp) (a0 : Nat) (l1 : Int32) (l2 : Int32) (l3 : Int64) : Ct_ mX10_lay [.ref (a0), .int (l1), .int (l2), .long (l3)] κ n lim h (eV κ n) (fX10_lay κ a0 l1 l2 l3 h) := by
  refine ct_of (by decide) (Nat.le_of_ble_eq_true rfl) ?_
  unfold fX10_lay
  refine z_sub (L' := [(0, .ref (a0)), (1, .int (l1)), (2, .int (l2)), (3, .long (l3))]) [0, 1, 2, 3] rfl ?_
  refine z_or (fun k_a0 => ?_)
  refine z_aload_n dX10_lay_0 rfl 0 rfl ?_
  refine z_getR (kd := 50) dX10_lay_1 fl_X10_13 k_a0 (fun r1 kr1 => ?_)
  refine z_iload_n dX10_lay_4 rfl 1 rfl ?_
  refine z_iald dX10_lay_5 kr1 (fun v2 => ?_)
  refine z_bipush (v := 6) dX10_lay_6 (by decide) ?_
  refine z_icmp_ge (tgt := 35) dX10_lay_8 (by first | decide | omega) (fun _ => ?_) (fun _ => ?_)
  · skip
    refine z_aload_n dX10_lay_35 rfl 0 rfl ?_
    refine z_getR (kd := 52) dX10_lay_36 fl_X10_23 k_a0 (fun r3 kr3 => ?_)
    refine z_bipush (v := 12) dX10_lay_39 (by decide) ?_
    refine z_iload_n dX10_lay_41 rfl 1 rfl ?_
    refine z_imul dX10_lay_42 ?_
    refine z_iload_n dX10_lay_43 rfl 2 rfl ?_
    refine z_iadd dX10_lay_44 ?_
    refine z_aload_n dX10_lay_45 rfl 0 rfl ?_
    refine z_getR (kd := 50) dX10_lay_46 fl_X10_13 k_a0 (fun r4 kr4 => ?_)
    refine z_iload_n dX10_lay_49 rfl 1 rfl ?_
    refine z_iald dX10_lay_50 kr4 (fun v5 => ?_)
    refine z_lload_n dX10_lay_51 rfl 3 rfl ?_
    refine z_pD (as := [.int (v5), .long (l3)]) (rn_S dX10_lay_52 mf_X10_asReal in_X10_asReal lk_X10_152 ⟨by decide, by decide⟩ rfl (Nat.le_of_ble_eq_true rfl)) (tX10_asReal _ _ _ _ _ _) cz_X10_asReal (c00 _) (fun v6 => ?_)
    refine z_dast dX10_lay_55 kr3 (fun h7 => ?_)
    exact z_vret dX10_lay_56 rfl (en0 _ _ _ _) rfl
  · skip
    refine z_aload_n dX10_lay_11 rfl 0 rfl ?_
    refine z_getR (kd := 51) dX10_lay_12 fl_X10_19 k_a0 (fun r8 kr8 => ?_)
    refine z_bipush (v := 12) dX10_lay_15 (by decide) ?_
    refine z_iload_n dX10_lay_17 rfl 1 rfl ?_
    refine z_imul dX10_lay_18 ?_
    refine z_iload_n dX10_lay_19 rfl 2 rfl ?_
    refine z_iadd dX10_lay_20 ?_
    refine z_aload_n dX10_lay_21 rfl 0 rfl ?_
    refine z_getR (kd := 50) dX10_lay_22 fl_X10_13 k_a0 (fun r9 kr9 => ?_)
    refine z_iload_n dX10_lay_25 rfl 1 rfl ?_
    refine z_iald dX10_lay_26 kr9 (fun v10 => ?_)
    refine z_lload_n dX10_lay_27 rfl 3 rfl ?_
    refine z_pJ (as := [.int (v10), .long (l3)]) (rn_S dX10_lay_28 mf_X10_as in_X10_as lk_X10_149 ⟨by decide, by decide⟩ rfl (Nat.le_of_ble_eq_true rfl)) (tX10_as _ _ _ _ _ _) cz_X10_as (c00 _) (fun v11 => ?_)
    refine z_last dX10_lay_31 kr8 (fun h12 => ?_)
    refine z_goto (tgt := 56) dX10_lay_32 (by decide) ?_
    exact z_vret dX10_lay_56 rfl (en0 _ _ _ _) rfl
def fX10_valueAt (κ : Kd) (a0 : Nat) (l1 : Int32) (l2 : Int32) (h : Hp) : Option (Int64) :=
  if (κ a0).1 = 9 then (
  to_ κ (g_R h a0 1) 50 fun r1 =>
  a_I κ h r1 l1 fun v2 =>
  if (6 : Int32) ≤ v2 then (
    to_ κ (g_R h a0 4) 52 fun r3 =>
    a_D κ h r3 (((12 : Int32) * l1) + l2) fun v4 =>
    some (FP.d2l v4)
  ) else (
    to_ κ (g_R h a0 3) 51 fun r5 =>
    a_J κ h r5 (((12 : Int32) * l1) + l2) fun v6 =>
    some (v6)
  )) else none
set_option maxHeartbeats 4000000 in
set_option maxRecDepth 100000 in
theorem tX10_valueAt (κ : Kd) (n lim : Nat) (h : Hp) (a0 : Nat) (l1 : Int32) (l2 : Int32) : Ct_ mX10_valueAt [.ref (a0), .int (l1), .int (l2)] κ n lim h (pJ κ n h) (fX10_valueAt κ a0 l1 l2 h) := by
  refine ct_of (by decide) (Nat.le_of_ble_eq_true rfl) ?_
  unfold fX10_valueAt
  refine z_sub (L' := [(0, .ref (a0)), (1, .int (l1)), (2, .int (l2))]) [0, 1, 2] rfl ?_
  refine z_or (fun k_a0 => ?_)
  refine z_aload_n dX10_valueAt_0 rfl 0 rfl ?_
  refine z_getR (kd := 50) dX10_valueAt_1 fl_X10_13 k_a0 (fun r1 kr1 => ?_)
  refine z_iload_n dX10_valueAt_4 rfl 1 rfl ?_
  refine z_iald dX10_valueAt_5 kr1 (fun v2 => ?_)
  refine z_bipush (v := 6) dX10_valueAt_6 (by decide) ?_
  refine z_icmp_ge (tgt := 25) dX10_valueAt_8 (by first | decide | omega) (fun _ => ?_) (fun _ => ?_)
  · skip
    refine z_aload_n dX10_valueAt_25 rfl 0 rfl ?_
    refine z_getR (kd := 52) dX10_valueAt_26 fl_X10_23 k_a0 (fun r3 kr3 => ?_)
    refine z_bipush (v := 12) dX10_valueAt_29 (by decide) ?_
    refine z_iload_n dX10_valueAt_31 rfl 1 rfl ?_
    refine z_imul dX10_valueAt_32 ?_
    refine z_iload_n dX10_valueAt_33 rfl 2 rfl ?_
    refine z_iadd dX10_valueAt_34 ?_
    refine z_dald dX10_valueAt_35 kr3 (fun v4 => ?_)
    refine z_d2l dX10_valueAt_36 ?_
    exact z_lret dX10_valueAt_37 rfl (en0 _ _ _ _) rfl
  · skip
    refine z_aload_n dX10_valueAt_11 rfl 0 rfl ?_
    refine z_getR (kd := 51) dX10_valueAt_12 fl_X10_19 k_a0 (fun r5 kr5 => ?_)
    refine z_bipush (v := 12) dX10_valueAt_15 (by decide) ?_
    refine z_iload_n dX10_valueAt_17 rfl 1 rfl ?_
    refine z_imul dX10_valueAt_18 ?_
    refine z_iload_n dX10_valueAt_19 rfl 2 rfl ?_
    refine z_iadd dX10_valueAt_20 ?_
    refine z_lald dX10_valueAt_21 kr5 (fun v6 => ?_)
    refine z_goto (tgt := 37) dX10_valueAt_22 (by decide) ?_
    exact z_lret dX10_valueAt_37 rfl (en0 _ _ _ _) rfl
def fX10_goesInto_b30 (κ : Kd) (l0 : Int32) (l1 : Int32)  (h : Hp) : Option (Int32) :=
  if l0 ≤ (3 : Int32) then (
    some ((0 : Int32))
  ) else (
    if (7 : Int32) ≤ l0 then (
      some ((0 : Int32))
    ) else (
      if l1 ≤ l0 then (
        some ((0 : Int32))
      ) else (
        some ((1 : Int32))
      )
    )
  )
set_option maxRecDepth 100000 in
theorem zX10_goesInto_b30 (κ : Kd) (n lim : Nat) (l0 : Int32) (l1 : Int32)   (h : Hp) : ZQ mX10_goesInto (pI κ n h) (κ, n, 0, lim) 30 [(0, .int (l0)), (1, .int (l1))] [] h (fX10_goesInto_b30 κ l0 l1  h) := by
  unfold fX10_goesInto_b30
  refine z_iload_n dX10_goesInto_30 rfl 0 rfl ?_
  refine z_iconst (v := 3) dX10_goesInto_31 (by decide) ?_
  refine z_icmp_le (tgt := 50) dX10_goesInto_32 (by first | decide | omega) (fun _ => ?_) (fun _ => ?_)
  · skip
    refine z_iconst (v := 0) dX10_goesInto_50 (by decide) ?_
    exact z_zret dX10_goesInto_51 rfl rfl (en0 _ _ _ _) rfl
  · skip
    refine z_iload_n dX10_goesInto_35 rfl 0 rfl ?_
    refine z_bipush (v := 7) dX10_goesInto_36 (by decide) ?_
    refine z_icmp_ge (tgt := 50) dX10_goesInto_38 (by first | decide | omega) (fun _ => ?_) (fun _ => ?_)
    · skip
      refine z_iconst (v := 0) dX10_goesInto_50 (by decide) ?_
      exact z_zret dX10_goesInto_51 rfl rfl (en0 _ _ _ _) rfl
    · skip
      refine z_iload_n dX10_goesInto_41 rfl 1 rfl ?_
      refine z_iload_n dX10_goesInto_42 rfl 0 rfl ?_
      refine z_icmp_le (tgt := 50) dX10_goesInto_43 (by first | decide | omega) (fun _ => ?_) (fun _ => ?_)
      · skip
        refine z_iconst (v := 0) dX10_goesInto_50 (by decide) ?_
        exact z_zret dX10_goesInto_51 rfl rfl (en0 _ _ _ _) rfl
      · skip
        refine z_iconst (v := 1) dX10_goesInto_46 (by decide) ?_
        refine z_goto (tgt := 51) dX10_goesInto_47 (by decide) ?_
        exact z_zret dX10_goesInto_51 rfl rfl (en0 _ _ _ _) rfl
def fX10_goesInto_b25 (κ : Kd) (l0 : Int32) (l1 : Int32)  (h : Hp) : Option (Int32) :=
  if (3 : Int32) < l1 then (
    some ((1 : Int32))
  ) else (
    fX10_goesInto_b30 κ l0 l1  h
  )
set_option maxRecDepth 100000 in
theorem zX10_goesInto_b25 (κ : Kd) (n lim : Nat) (l0 : Int32) (l1 : Int32)   (h : Hp) : ZQ mX10_goesInto (pI κ n h) (κ, n, 0, lim) 25 [(0, .int (l0)), (1, .int (l1))] [] h (fX10_goesInto_b25 κ l0 l1  h) := by
  unfold fX10_goesInto_b25
  refine z_iload_n dX10_goesInto_25 rfl 1 rfl ?_
  refine z_iconst (v := 3) dX10_goesInto_26 (by decide) ?_
  refine z_icmp_gt (tgt := 46) dX10_goesInto_27 (by first | decide | omega) (fun _ => ?_) (fun _ => ?_)
  · skip
    refine z_iconst (v := 1) dX10_goesInto_46 (by decide) ?_
    refine z_goto (tgt := 51) dX10_goesInto_47 (by decide) ?_
    exact z_zret dX10_goesInto_51 rfl rfl (en0 _ _ _ _) rfl
  · skip
    refine z_sub [0, 1] rfl ?_
    exact zX10_goesInto_b30 _ _ _ l0 l1   h
def fX10_goesInto_b15 (κ : Kd) (l0 : Int32) (l1 : Int32)  (h : Hp) : Option (Int32) :=
  if l0 = (2 : Int32) then (
    fX10_goesInto_b25 κ l0 l1  h
  ) else (
    if l0 = (3 : Int32) then (
      fX10_goesInto_b25 κ l0 l1  h
    ) else (
      fX10_goesInto_b30 κ l0 l1  h
    )
  )
set_option maxRecDepth 100000 in
theorem zX10_goesInto_b15 (κ : Kd) (n lim : Nat) (l0 : Int32) (l1 : Int32)   (h : Hp) : ZQ mX10_goesInto (pI κ n h) (κ, n, 0, lim) 15 [(0, .int (l0)), (1, .int (l1))] [] h (fX10_goesInto_b15 κ l0 l1  h) := by
  unfold fX10_goesInto_b15
  refine z_iload_n dX10_goesInto_15 rfl 0 rfl ?_
  refine z_iconst (v := 2) dX10_goesInto_16 (by decide) ?_
  refine z_icmp_eq (tgt := 25) dX10_goesInto_17 (by first | decide | omega) (fun _ => ?_) (fun _ => ?_)
  · skip
    refine z_sub [0, 1] rfl ?_
    exact zX10_goesInto_b25 _ _ _ l0 l1   h
  · skip
    refine z_iload_n dX10_goesInto_20 rfl 0 rfl ?_
    refine z_iconst (v := 3) dX10_goesInto_21 (by decide) ?_
    refine z_icmp_ne (tgt := 30) dX10_goesInto_22 (by first | decide | omega) (fun _ => ?_) (fun _ => ?_)
    · skip
      refine z_sub [0, 1] rfl ?_
      exact zX10_goesInto_b30 _ _ _ l0 l1   h
    · skip
      refine z_sub [0, 1] rfl ?_
      exact zX10_goesInto_b25 _ _ _ l0 l1   h
def fX10_goesInto (κ : Kd) (l0 : Int32) (l1 : Int32) (h : Hp) : Option (Int32) :=
  if l0 = (1 : Int32) then (
    if l1 ≤ (1 : Int32) then (
      fX10_goesInto_b15 κ l0 l1  h
    ) else (
      if l1 = (3 : Int32) then (
        fX10_goesInto_b15 κ l0 l1  h
      ) else (
        some ((1 : Int32))
      )
    )
  ) else (
    fX10_goesInto_b15 κ l0 l1  h
  )
set_option maxHeartbeats 4000000 in
set_option maxRecDepth 100000 in
theorem tX10_goesInto (κ : Kd) (n lim : Nat) (h : Hp) (l0 : Int32) (l1 : Int32) : Ct_ mX10_goesInto [.int (l0), .int (l1)] κ n lim h (pI κ n h) (fX10_goesInto κ l0 l1 h) := by
  refine ct_of (by decide) (Nat.le_of_ble_eq_true rfl) ?_
  unfold fX10_goesInto
  refine z_sub (L' := [(0, .int (l0)), (1, .int (l1))]) [0, 1] rfl ?_
  refine z_iload_n dX10_goesInto_0 rfl 0 rfl ?_
  refine z_iconst (v := 1) dX10_goesInto_1 (by decide) ?_
  refine z_icmp_ne (tgt := 15) dX10_goesInto_2 (by first | decide | omega) (fun _ => ?_) (fun _ => ?_)
  · skip
    refine z_sub [0, 1] rfl ?_
    exact zX10_goesInto_b15 _ _ _ l0 l1   h
  · skip
    refine z_iload_n dX10_goesInto_5 rfl 1 rfl ?_
    refine z_iconst (v := 1) dX10_goesInto_6 (by decide) ?_
    refine z_icmp_le (tgt := 15) dX10_goesInto_7 (by first | decide | omega) (fun _ => ?_) (fun _ => ?_)
    · skip
      refine z_sub [0, 1] rfl ?_
      exact zX10_goesInto_b15 _ _ _ l0 l1   h
    · skip
      refine z_iload_n dX10_goesInto_10 rfl 1 rfl ?_
      refine z_iconst (v := 3) dX10_goesInto_11 (by decide) ?_
      refine z_icmp_ne (tgt := 46) dX10_goesInto_12 (by first | decide | omega) (fun _ => ?_) (fun _ => ?_)
      · skip
        refine z_iconst (v := 1) dX10_goesInto_46 (by decide) ?_
        refine z_goto (tgt := 51) dX10_goesInto_47 (by decide) ?_
        exact z_zret dX10_goesInto_51 rfl rfl (en0 _ _ _ _) rfl
      · skip
        refine z_sub [0, 1] rfl ?_
        exact zX10_goesInto_b15 _ _ _ l0 l1   h
def fX10_against (κ : Kd) (a0 : Nat) (l1 : Int32) (l2 : Int64) (h : Hp) : Option (Int32) :=
  if (κ a0).1 = 9 then (
  to_ κ (g_R h a0 0) 50 fun r1 =>
  a_I κ h r1 l1 fun v2 =>
  if v2 = (-1 : Int32) then (
    some ((1 : Int32))
  ) else (
    to_ κ (g_R h a0 2) 50 fun r3 =>
    to_ κ (g_R h a0 0) 50 fun r4 =>
    a_I κ h r4 l1 fun v5 =>
    a_I κ h r3 v5 fun v6 =>
    (fX10_in κ l2 (0 : Int64) (v6.toInt64 - (1 : Int64)) h).bind fun v7 =>
    if v7 = 0 then (
      some ((2 : Int32))
    ) else (
      some ((0 : Int32))
    )
  )) else none
set_option maxHeartbeats 4000000 in
set_option maxRecDepth 100000 in
theorem tX10_against (κ : Kd) (n lim : Nat) (h : Hp) (a0 : Nat) (l1 : Int32) (l2 : Int64) : Ct_ mX10_against [.ref (a0), .int (l1), .long (l2)] κ n lim h (pI κ n h) (fX10_against κ a0 l1 l2 h) := by
  refine ct_of (by decide) (Nat.le_of_ble_eq_true rfl) ?_
  unfold fX10_against
  refine z_sub (L' := [(0, .ref (a0)), (1, .int (l1)), (2, .long (l2))]) [0, 1, 2] rfl ?_
  refine z_or (fun k_a0 => ?_)
  refine z_aload_n dX10_against_0 rfl 0 rfl ?_
  refine z_getR (kd := 50) dX10_against_1 fl_X10_7 k_a0 (fun r1 kr1 => ?_)
  refine z_iload_n dX10_against_4 rfl 1 rfl ?_
  refine z_iald dX10_against_5 kr1 (fun v2 => ?_)
  refine z_iconst (v := -1) dX10_against_6 (by decide) ?_
  refine z_icmp_ne (tgt := 14) dX10_against_7 (by first | decide | omega) (fun _ => ?_) (fun _ => ?_)
  · skip
    refine z_lload_n dX10_against_14 rfl 2 rfl ?_
    refine z_lconst (v := 0) dX10_against_15 (by decide) ?_
    refine z_aload_n dX10_against_16 rfl 0 rfl ?_
    refine z_getR (kd := 50) dX10_against_17 fl_X10_16 k_a0 (fun r3 kr3 => ?_)
    refine z_aload_n dX10_against_20 rfl 0 rfl ?_
    refine z_getR (kd := 50) dX10_against_21 fl_X10_7 k_a0 (fun r4 kr4 => ?_)
    refine z_iload_n dX10_against_24 rfl 1 rfl ?_
    refine z_iald dX10_against_25 kr4 (fun v5 => ?_)
    refine z_iald dX10_against_26 kr3 (fun v6 => ?_)
    refine z_i2l dX10_against_27 ?_
    refine z_lconst (v := 1) dX10_against_28 (by decide) ?_
    refine z_lsub dX10_against_29 ?_
    refine z_pI (as := [.long (l2), .long ((0 : Int64)), .long (v6.toInt64 - (1 : Int64))]) (rn_S dX10_against_30 mf_X10_in in_X10_in lk_X10_139 ⟨by decide, by decide⟩ rfl (Nat.le_of_ble_eq_true rfl)) (tX10_in _ _ _ _ _ _ _) cz_X10_in (c00 _) (fun v7 => ?_)
    refine z_if_eq (tgt := 40) dX10_against_33 (by first | decide | omega) (fun _ => ?_) (fun _ => ?_)
    · skip
      refine z_iconst (v := 2) dX10_against_40 (by decide) ?_
      exact z_iret dX10_against_41 rfl (en0 _ _ _ _) rfl
    · skip
      refine z_iconst (v := 0) dX10_against_36 (by decide) ?_
      refine z_goto (tgt := 41) dX10_against_37 (by decide) ?_
      exact z_iret dX10_against_41 rfl (en0 _ _ _ _) rfl
  · skip
    refine z_iconst (v := 1) dX10_against_10 (by decide) ?_
    refine z_goto (tgt := 41) dX10_against_11 (by decide) ?_
    exact z_iret dX10_against_41 rfl (en0 _ _ _ _) rfl
def fX10_row (κ : Kd) (a0 : Nat) (l1 : Int32) (l2 : Int32) (l3 : Int32) (h : Hp) : Option (Int32 × Hp) :=
  if (κ a0).1 = 9 then (
  (fX10_isRow κ l1 h).bind fun v1 =>
  if v1 = 0 then (
    some ((-1000000 : Int32), h)
  ) else (
    (fX10_isLane κ l2 h).bind fun v2 =>
    if v2 = 0 then (
      some ((-1000000 : Int32), h)
    ) else (
      if l3 < 0 then (
        if 0 ≤ l3 then (
          some ((-17 : Int32), h)
        ) else (
          some ((-15 : Int32), h)
        )
      ) else (
        if l3 ≤ (12 : Int32) then (
          (fX10_make κ a0 l1 l2 l3 h).bind fun h3 =>
          some (l3, h3)
        ) else (
          if 0 ≤ l3 then (
            some ((-17 : Int32), h)
          ) else (
            some ((-15 : Int32), h)
          )
        )
      )
    )
  )) else none
set_option maxHeartbeats 4000000 in
set_option maxRecDepth 100000 in
theorem tX10_row (κ : Kd) (n lim : Nat) (h : Hp) (a0 : Nat) (l1 : Int32) (l2 : Int32) (l3 : Int32) : Ct_ mX10_row [.ref (a0), .int (l1), .int (l2), .int (l3)] κ n lim h (eI κ n) (fX10_row κ a0 l1 l2 l3 h) := by
  refine ct_of (by decide) (Nat.le_of_ble_eq_true rfl) ?_
  unfold fX10_row
  refine z_sub (L' := [(0, .ref (a0)), (1, .int (l1)), (2, .int (l2)), (3, .int (l3))]) [0, 1, 2, 3] rfl ?_
  refine z_or (fun k_a0 => ?_)
  refine z_iload_n dX10_row_0 rfl 1 rfl ?_
  refine z_pI (as := [.int (l1)]) (rn_S dX10_row_1 mf_X10_isRow in_X10_isRow lk_X10_156 ⟨by decide, by decide⟩ rfl (Nat.le_of_ble_eq_true rfl)) (tX10_isRow _ _ _ _ _) cz_X10_isRow (c00 _) (fun v1 => ?_)
  refine z_if_eq (tgt := 14) dX10_row_4 (by first | decide | omega) (fun _ => ?_) (fun _ => ?_)
  · skip
    refine z_ldc dX10_row_14 co_X10_163 ?_
    exact z_iret dX10_row_16 rfl (en0 _ _ _ _) rfl
  · skip
    refine z_iload_n dX10_row_7 rfl 2 rfl ?_
    refine z_pI (as := [.int (l2)]) (rn_S dX10_row_8 mf_X10_isLane in_X10_isLane lk_X10_160 ⟨by decide, by decide⟩ rfl (Nat.le_of_ble_eq_true rfl)) (tX10_isLane _ _ _ _ _) cz_X10_isLane (c00 _) (fun v2 => ?_)
    refine z_if_ne (tgt := 17) dX10_row_11 (by first | decide | omega) (fun _ => ?_) (fun _ => ?_)
    · skip
      refine z_iload_n dX10_row_17 rfl 3 rfl ?_
      refine z_if_lt (tgt := 27) dX10_row_18 (by first | decide | omega) (fun _ => ?_) (fun _ => ?_)
      · skip
        refine z_iload_n dX10_row_27 rfl 3 rfl ?_
        refine z_if_ge (tgt := 36) dX10_row_28 (by first | decide | omega) (fun _ => ?_) (fun _ => ?_)
        · skip
          refine z_bipush (v := -17) dX10_row_36 (by decide) ?_
          exact z_iret dX10_row_38 rfl (en0 _ _ _ _) rfl
        · skip
          refine z_bipush (v := -15) dX10_row_31 (by decide) ?_
          refine z_goto (tgt := 38) dX10_row_33 (by decide) ?_
          exact z_iret dX10_row_38 rfl (en0 _ _ _ _) rfl
      · skip
        refine z_iload_n dX10_row_21 rfl 3 rfl ?_
        refine z_bipush (v := 12) dX10_row_22 (by decide) ?_
        refine z_icmp_le (tgt := 39) dX10_row_24 (by first | decide | omega) (fun _ => ?_) (fun _ => ?_)
        · skip
          refine z_aload_n dX10_row_39 rfl 0 rfl ?_
          refine z_iload_n dX10_row_40 rfl 1 rfl ?_
          refine z_iload_n dX10_row_41 rfl 2 rfl ?_
          refine z_iload_n dX10_row_42 rfl 3 rfl ?_
          refine z_cV (as := [.ref (a0), .int (l1), .int (l2), .int (l3)]) (rn_V dX10_row_43 mf_X10_make in_X10_make lk_X10_164 ⟨by decide, by decide⟩ cl_8 rfl k_a0 rfl (Nat.le_of_ble_eq_true rfl)) (tX10_make _ _ _ _ _ _ _ _) cz_X10_make (c00 _) (fun h3 => ?_)
          refine z_iload_n dX10_row_46 rfl 3 rfl ?_
          exact z_iret dX10_row_47 rfl (en0 _ _ _ _) rfl
        · skip
          refine z_iload_n dX10_row_27 rfl 3 rfl ?_
          refine z_if_ge (tgt := 36) dX10_row_28 (by first | decide | omega) (fun _ => ?_) (fun _ => ?_)
          · skip
            refine z_bipush (v := -17) dX10_row_36 (by decide) ?_
            exact z_iret dX10_row_38 rfl (en0 _ _ _ _) rfl
          · skip
            refine z_bipush (v := -15) dX10_row_31 (by decide) ?_
            refine z_goto (tgt := 38) dX10_row_33 (by decide) ?_
            exact z_iret dX10_row_38 rfl (en0 _ _ _ _) rfl
    · skip
      refine z_ldc dX10_row_14 co_X10_163 ?_
      exact z_iret dX10_row_16 rfl (en0 _ _ _ _) rfl
def fX10_miss (κ : Kd) (a0 : Nat) (l1 : Int32) (h : Hp) : Option (Int32 × Hp) :=
  if (κ a0).1 = 9 then (
  (fX10_isRow κ l1 h).bind fun v1 =>
  if v1 = 0 then (
    some ((-1000000 : Int32), h)
  ) else (
    to_ κ (g_R h a0 0) 50 fun r2 =>
    a_I κ h r2 l1 fun v3 =>
    to_ κ (g_R h a0 0) 50 fun r4 =>
    w_I κ h r4 l1 (-1 : Int32) fun h5 =>
    if v3 = (-1 : Int32) then (
      some ((0 : Int32), h5)
    ) else (
      some ((1 : Int32), h5)
    )
  )) else none
set_option maxHeartbeats 4000000 in
set_option maxRecDepth 100000 in
theorem tX10_miss (κ : Kd) (n lim : Nat) (h : Hp) (a0 : Nat) (l1 : Int32) : Ct_ mX10_miss [.ref (a0), .int (l1)] κ n lim h (eI κ n) (fX10_miss κ a0 l1 h) := by
  refine ct_of (by decide) (Nat.le_of_ble_eq_true rfl) ?_
  unfold fX10_miss
  refine z_sub (L' := [(0, .ref (a0)), (1, .int (l1))]) [0, 1] rfl ?_
  refine z_or (fun k_a0 => ?_)
  refine z_iload_n dX10_miss_0 rfl 1 rfl ?_
  refine z_pI (as := [.int (l1)]) (rn_S dX10_miss_1 mf_X10_isRow in_X10_isRow lk_X10_156 ⟨by decide, by decide⟩ rfl (Nat.le_of_ble_eq_true rfl)) (tX10_isRow _ _ _ _ _) cz_X10_isRow (c00 _) (fun v1 => ?_)
  refine z_if_ne (tgt := 10) dX10_miss_4 (by first | decide | omega) (fun _ => ?_) (fun _ => ?_)
  · skip
    refine z_aload_n dX10_miss_10 rfl 0 rfl ?_
    refine z_getR (kd := 50) dX10_miss_11 fl_X10_7 k_a0 (fun r2 kr2 => ?_)
    refine z_iload_n dX10_miss_14 rfl 1 rfl ?_
    refine z_iald dX10_miss_15 kr2 (fun v3 => ?_)
    refine z_istore_n (L' := [(2, .int (v3)), (0, .ref (a0)), (1, .int (l1))]) dX10_miss_16 rfl (by decide) rfl ?_
    refine z_aload_n dX10_miss_17 rfl 1 rfl ?_
    refine z_getR (kd := 50) dX10_miss_18 fl_X10_7 k_a0 (fun r4 kr4 => ?_)
    refine z_iload_n dX10_miss_21 rfl 2 rfl ?_
    refine z_iconst (v := -1) dX10_miss_22 (by decide) ?_
    refine z_iast dX10_miss_23 kr4 (fun h5 => ?_)
    refine z_iload_n dX10_miss_24 rfl 0 rfl ?_
    refine z_iconst (v := -1) dX10_miss_25 (by decide) ?_
    refine z_icmp_ne (tgt := 33) dX10_miss_26 (by first | decide | omega) (fun _ => ?_) (fun _ => ?_)
    · skip
      refine z_iconst (v := 1) dX10_miss_33 (by decide) ?_
      exact z_iret dX10_miss_34 rfl (en0 _ _ _ _) rfl
    · skip
      refine z_iconst (v := 0) dX10_miss_29 (by decide) ?_
      refine z_goto (tgt := 34) dX10_miss_30 (by decide) ?_
      exact z_iret dX10_miss_34 rfl (en0 _ _ _ _) rfl
  · skip
    refine z_ldc dX10_miss_7 co_X10_163 ?_
    exact z_iret dX10_miss_9 rfl (en0 _ _ _ _) rfl
def fX10_share (κ : Kd) (a0 : Nat) (l1 : Int32) (l2 : Int32) (h : Hp) : Option (Int32 × Hp) :=
  if (κ a0).1 = 9 then (
  (fX10_isRow κ l1 h).bind fun v1 =>
  if v1 = 0 then (
    some ((-1000000 : Int32), h)
  ) else (
    (fX10_isRow κ l2 h).bind fun v2 =>
    if v2 = 0 then (
      some ((-1000000 : Int32), h)
    ) else (
      to_ κ (g_R h a0 0) 50 fun r3 =>
      a_I κ h r3 l1 fun v4 =>
      to_ κ (g_R h a0 0) 50 fun r5 =>
      a_I κ h r5 l2 fun v6 =>
      if v4 = v6 then (
        to_ κ (g_R h a0 0) 50 fun r11 =>
        to_ κ (g_R h a0 0) 50 fun r12 =>
        a_I κ h r12 l2 fun v13 =>
        w_I κ h r11 l1 v13 fun h14 =>
        some ((0 : Int32), h14)
      ) else (
        to_ κ (g_R h a0 0) 50 fun r7 =>
        to_ κ (g_R h a0 0) 50 fun r8 =>
        a_I κ h r8 l2 fun v9 =>
        w_I κ h r7 l1 v9 fun h10 =>
        some ((1 : Int32), h10)
      )
    )
  )) else none
set_option maxHeartbeats 4000000 in
set_option maxRecDepth 100000 in
theorem tX10_share (κ : Kd) (n lim : Nat) (h : Hp) (a0 : Nat) (l1 : Int32) (l2 : Int32) : Ct_ mX10_share [.ref (a0), .int (l1), .int (l2)] κ n lim h (eI κ n) (fX10_share κ a0 l1 l2 h) := by
  refine ct_of (by decide) (Nat.le_of_ble_eq_true rfl) ?_
  unfold fX10_share
  refine z_sub (L' := [(0, .ref (a0)), (1, .int (l1)), (2, .int (l2))]) [0, 1, 2] rfl ?_
  refine z_or (fun k_a0 => ?_)
  refine z_iload_n dX10_share_0 rfl 1 rfl ?_
  refine z_pI (as := [.int (l1)]) (rn_S dX10_share_1 mf_X10_isRow in_X10_isRow lk_X10_156 ⟨by decide, by decide⟩ rfl (Nat.le_of_ble_eq_true rfl)) (tX10_isRow _ _ _ _ _) cz_X10_isRow (c00 _) (fun v1 => ?_)
  refine z_if_eq (tgt := 14) dX10_share_4 (by first | decide | omega) (fun _ => ?_) (fun _ => ?_)
  · skip
    refine z_ldc dX10_share_14 co_X10_163 ?_
    exact z_iret dX10_share_16 rfl (en0 _ _ _ _) rfl
  · skip
    refine z_iload_n dX10_share_7 rfl 2 rfl ?_
    refine z_pI (as := [.int (l2)]) (rn_S dX10_share_8 mf_X10_isRow in_X10_isRow lk_X10_156 ⟨by decide, by decide⟩ rfl (Nat.le_of_ble_eq_true rfl)) (tX10_isRow _ _ _ _ _) cz_X10_isRow (c00 _) (fun v2 => ?_)
    refine z_if_ne (tgt := 17) dX10_share_11 (by first | decide | omega) (fun _ => ?_) (fun _ => ?_)
    · skip
      refine z_aload_n dX10_share_17 rfl 0 rfl ?_
      refine z_getR (kd := 50) dX10_share_18 fl_X10_7 k_a0 (fun r3 kr3 => ?_)
      refine z_iload_n dX10_share_21 rfl 1 rfl ?_
      refine z_iald dX10_share_22 kr3 (fun v4 => ?_)
      refine z_aload_n dX10_share_23 rfl 0 rfl ?_
      refine z_getR (kd := 50) dX10_share_24 fl_X10_7 k_a0 (fun r5 kr5 => ?_)
      refine z_iload_n dX10_share_27 rfl 2 rfl ?_
      refine z_iald dX10_share_28 kr5 (fun v6 => ?_)
      refine z_icmp_ne (tgt := 36) dX10_share_29 (by first | decide | omega) (fun _ => ?_) (fun _ => ?_)
      · skip
        refine z_iconst (v := 1) dX10_share_36 (by decide) ?_
        refine z_istore_n (L' := [(3, .int ((1 : Int32))), (0, .ref (a0)), (1, .int (l1)), (2, .int (l2))]) dX10_share_37 rfl (by decide) rfl ?_
        refine z_aload_n dX10_share_38 rfl 1 rfl ?_
        refine z_getR (kd := 50) dX10_share_39 fl_X10_7 k_a0 (fun r7 kr7 => ?_)
        refine z_iload_n dX10_share_42 rfl 2 rfl ?_
        refine z_aload_n dX10_share_43 rfl 1 rfl ?_
        refine z_getR (kd := 50) dX10_share_44 fl_X10_7 k_a0 (fun r8 kr8 => ?_)
        refine z_iload_n dX10_share_47 rfl 3 rfl ?_
        refine z_iald dX10_share_48 kr8 (fun v9 => ?_)
        refine z_iast dX10_share_49 kr7 (fun h10 => ?_)
        refine z_iload_n dX10_share_50 rfl 0 rfl ?_
        exact z_iret dX10_share_51 rfl (en0 _ _ _ _) rfl
      · skip
        refine z_iconst (v := 0) dX10_share_32 (by decide) ?_
        refine z_goto (tgt := 37) dX10_share_33 (by decide) ?_
        refine z_istore_n (L' := [(3, .int ((0 : Int32))), (0, .ref (a0)), (1, .int (l1)), (2, .int (l2))]) dX10_share_37 rfl (by decide) rfl ?_
        refine z_aload_n dX10_share_38 rfl 1 rfl ?_
        refine z_getR (kd := 50) dX10_share_39 fl_X10_7 k_a0 (fun r11 kr11 => ?_)
        refine z_iload_n dX10_share_42 rfl 2 rfl ?_
        refine z_aload_n dX10_share_43 rfl 1 rfl ?_
        refine z_getR (kd := 50) dX10_share_44 fl_X10_7 k_a0 (fun r12 kr12 => ?_)
        refine z_iload_n dX10_share_47 rfl 3 rfl ?_
        refine z_iald dX10_share_48 kr12 (fun v13 => ?_)
        refine z_iast dX10_share_49 kr11 (fun h14 => ?_)
        refine z_iload_n dX10_share_50 rfl 0 rfl ?_
        exact z_iret dX10_share_51 rfl (en0 _ _ _ _) rfl
    · skip
      refine z_ldc dX10_share_14 co_X10_163 ?_
      exact z_iret dX10_share_16 rfl (en0 _ _ _ _) rfl
def fX10_put (κ : Kd) (a0 : Nat) (l1 : Int32) (l2 : Int32) (l3 : Int64) (h : Hp) : Option (Int32 × Hp) :=
  if (κ a0).1 = 9 then (
  (fX10_isRow κ l1 h).bind fun v1 =>
  if v1 = 0 then (
    some ((-1000000 : Int32), h)
  ) else (
    (fX10_against κ a0 l1 l2.toInt64 h).bind fun v2 =>
    if v2 ≤ 0 then (
      to_ κ (g_R h a0 0) 50 fun r3 =>
      a_I κ h r3 l1 fun v4 =>
      (fX10_lay κ a0 v4 l2 l3 h).bind fun h5 =>
      some ((1 : Int32), h5)
    ) else (
      some ((-10 : Int32) - v2, h)
    )
  )) else none
set_option maxHeartbeats 4000000 in
set_option maxRecDepth 100000 in
theorem tX10_put (κ : Kd) (n lim : Nat) (h : Hp) (a0 : Nat) (l1 : Int32) (l2 : Int32) (l3 : Int64) : Ct_ mX10_put [.ref (a0), .int (l1), .int (l2), .long (l3)] κ n lim h (eI κ n) (fX10_put κ a0 l1 l2 l3 h) := by
  refine ct_of (by decide) (Nat.le_of_ble_eq_true rfl) ?_
  unfold fX10_put
  refine z_sub (L' := [(0, .ref (a0)), (1, .int (l1)), (2, .int (l2)), (3, .long (l3))]) [0, 1, 2, 3] rfl ?_
  refine z_or (fun k_a0 => ?_)
  refine z_iload_n dX10_put_0 rfl 1 rfl ?_
  refine z_pI (as := [.int (l1)]) (rn_S dX10_put_1 mf_X10_isRow in_X10_isRow lk_X10_156 ⟨by decide, by decide⟩ rfl (Nat.le_of_ble_eq_true rfl)) (tX10_isRow _ _ _ _ _) cz_X10_isRow (c00 _) (fun v1 => ?_)
  refine z_if_ne (tgt := 10) dX10_put_4 (by first | decide | omega) (fun _ => ?_) (fun _ => ?_)
  · skip
    refine z_aload_n dX10_put_10 rfl 0 rfl ?_
    refine z_iload_n dX10_put_11 rfl 1 rfl ?_
    refine z_iload_n dX10_put_12 rfl 2 rfl ?_
    refine z_i2l dX10_put_13 ?_
    refine z_pI (as := [.ref (a0), .int (l1), .long (l2.toInt64)]) (rn_V dX10_put_14 mf_X10_against in_X10_against lk_X10_168 ⟨by decide, by decide⟩ cl_8 rfl k_a0 rfl (Nat.le_of_ble_eq_true rfl)) (tX10_against _ _ _ _ _ _ _) cz_X10_against (c00 _) (fun v2 => ?_)
    refine z_istore (L' := [(5, .int (v2)), (0, .ref (a0)), (1, .int (l1)), (2, .int (l2)), (3, .long (l3))]) dX10_put_17 (by decide) rfl ?_
    refine z_iload dX10_put_19 0 rfl ?_
    refine z_if_le (tgt := 30) dX10_put_21 (by first | decide | omega) (fun _ => ?_) (fun _ => ?_)
    · skip
      refine z_aload_n dX10_put_30 rfl 1 rfl ?_
      refine z_aload_n dX10_put_31 rfl 1 rfl ?_
      refine z_getR (kd := 50) dX10_put_32 fl_X10_7 k_a0 (fun r3 kr3 => ?_)
      refine z_iload_n dX10_put_35 rfl 2 rfl ?_
      refine z_iald dX10_put_36 kr3 (fun v4 => ?_)
      refine z_iload_n dX10_put_37 rfl 3 rfl ?_
      refine z_lload_n dX10_put_38 rfl 4 rfl ?_
      refine z_cV (as := [.ref (a0), .int (v4), .int (l2), .long (l3)]) (rn_V dX10_put_39 mf_X10_lay in_X10_lay lk_X10_172 ⟨by decide, by decide⟩ cl_8 rfl k_a0 rfl (Nat.le_of_ble_eq_true rfl)) (tX10_lay _ _ _ _ _ _ _ _) cz_X10_lay (c00 _) (fun h5 => ?_)
      refine z_iconst (v := 1) dX10_put_42 (by decide) ?_
      exact z_iret dX10_put_43 rfl (en0 _ _ _ _) rfl
    · skip
      refine z_bipush (v := -10) dX10_put_24 (by decide) ?_
      refine z_iload dX10_put_26 0 rfl ?_
      refine z_isub dX10_put_28 ?_
      exact z_iret dX10_put_29 rfl (en0 _ _ _ _) rfl
  · skip
    refine z_ldc dX10_put_7 co_X10_163 ?_
    exact z_iret dX10_put_9 rfl (en0 _ _ _ _) rfl
def fX10_item (κ : Kd) (a0 : Nat) (l1 : Int32) (l2 : Int32) (h : Hp) : Option (Int64) :=
  if (κ a0).1 = 9 then (
  (fX10_isRow κ l1 h).bind fun v1 =>
  if v1 = 0 then (
    some ((0 : Int64))
  ) else (
    (fX10_against κ a0 l1 l2.toInt64 h).bind fun v2 =>
    if v2 = 0 then (
      to_ κ (g_R h a0 0) 50 fun r3 =>
      a_I κ h r3 l1 fun v4 =>
      (fX10_valueAt κ a0 v4 l2 h).bind fun v5 =>
      some (v5)
    ) else (
      some ((0 : Int64))
    )
  )) else none
set_option maxHeartbeats 4000000 in
set_option maxRecDepth 100000 in
theorem tX10_item (κ : Kd) (n lim : Nat) (h : Hp) (a0 : Nat) (l1 : Int32) (l2 : Int32) : Ct_ mX10_item [.ref (a0), .int (l1), .int (l2)] κ n lim h (pJ κ n h) (fX10_item κ a0 l1 l2 h) := by
  refine ct_of (by decide) (Nat.le_of_ble_eq_true rfl) ?_
  unfold fX10_item
  refine z_sub (L' := [(0, .ref (a0)), (1, .int (l1)), (2, .int (l2))]) [0, 1, 2] rfl ?_
  refine z_or (fun k_a0 => ?_)
  refine z_iload_n dX10_item_0 rfl 1 rfl ?_
  refine z_pI (as := [.int (l1)]) (rn_S dX10_item_1 mf_X10_isRow in_X10_isRow lk_X10_156 ⟨by decide, by decide⟩ rfl (Nat.le_of_ble_eq_true rfl)) (tX10_isRow _ _ _ _ _) cz_X10_isRow (c00 _) (fun v1 => ?_)
  refine z_if_eq (tgt := 31) dX10_item_4 (by first | decide | omega) (fun _ => ?_) (fun _ => ?_)
  · skip
    refine z_lconst (v := 0) dX10_item_31 (by decide) ?_
    exact z_lret dX10_item_32 rfl (en0 _ _ _ _) rfl
  · skip
    refine z_aload_n dX10_item_7 rfl 0 rfl ?_
    refine z_iload_n dX10_item_8 rfl 1 rfl ?_
    refine z_iload_n dX10_item_9 rfl 2 rfl ?_
    refine z_i2l dX10_item_10 ?_
    refine z_pI (as := [.ref (a0), .int (l1), .long (l2.toInt64)]) (rn_V dX10_item_11 mf_X10_against in_X10_against lk_X10_168 ⟨by decide, by decide⟩ cl_8 rfl k_a0 rfl (Nat.le_of_ble_eq_true rfl)) (tX10_against _ _ _ _ _ _ _) cz_X10_against (c00 _) (fun v2 => ?_)
    refine z_if_ne (tgt := 31) dX10_item_14 (by first | decide | omega) (fun _ => ?_) (fun _ => ?_)
    · skip
      refine z_lconst (v := 0) dX10_item_31 (by decide) ?_
      exact z_lret dX10_item_32 rfl (en0 _ _ _ _) rfl
    · skip
      refine z_aload_n dX10_item_17 rfl 0 rfl ?_
      refine z_aload_n dX10_item_18 rfl 0 rfl ?_
      refine z_getR (kd := 50) dX10_item_19 fl_X10_7 k_a0 (fun r3 kr3 => ?_)
      refine z_iload_n dX10_item_22 rfl 1 rfl ?_
      refine z_iald dX10_item_23 kr3 (fun v4 => ?_)
      refine z_iload_n dX10_item_24 rfl 2 rfl ?_
      refine z_pJ (as := [.ref (a0), .int (v4), .int (l2)]) (rn_V dX10_item_25 mf_X10_valueAt in_X10_valueAt lk_X10_176 ⟨by decide, by decide⟩ cl_8 rfl k_a0 rfl (Nat.le_of_ble_eq_true rfl)) (tX10_valueAt _ _ _ _ _ _ _) cz_X10_valueAt (c00 _) (fun v5 => ?_)
      refine z_goto (tgt := 32) dX10_item_28 (by decide) ?_
      exact z_lret dX10_item_32 rfl (en0 _ _ _ _) rfl
def fX10_about_b66 (κ : Kd) (a0 : Nat) (l3 : Int32) : Nat → Int32 → Hp → Option (Int32)
  | 0, _, _ => none
  | N + 1, l4, h =>
    to_ κ (g_R h a0 0) 50 fun r5 =>
    a_I κ h r5 l4 fun v6 =>
    if v6 = l3 then (
      some (l4)
    ) else (
      fX10_about_b66 κ a0 l3 N (l4 + 1) h
    )
set_option maxRecDepth 100000 in
theorem zX10_about_b66 (κ : Kd) (n lim : Nat) (a0 : Nat) (l3 : Int32) (k_a0 : (κ a0).1 = 9) : ∀ (N : Nat) (l4 : Int32) (h : Hp), ZQ mX10_about (pI κ n h) (κ, n, 0, lim) 66 [(0, .ref (a0)), (3, .int (l3)), (4, .int (l4))] [] h (fX10_about_b66 κ a0 l3 N l4 h) := by
  intro N
  induction N with
  | zero =>
    intro l4 h
    rw [fX10_about_b66]
    exact z_no
  | succ N ih =>
    intro l4 h
    rw [fX10_about_b66]
    refine z_aload_n dX10_about_66 rfl 0 rfl ?_
    refine z_getR (kd := 50) dX10_about_67 fl_X10_7 k_a0 (fun r5 kr5 => ?_)
    refine z_iload dX10_about_70 2 rfl ?_
    refine z_iald dX10_about_72 kr5 (fun v6 => ?_)
    refine z_iload_n dX10_about_73 rfl 1 rfl ?_
    refine z_icmp_eq (tgt := 83) dX10_about_74 (by first | decide | omega) (fun _ => ?_) (fun _ => ?_)
    · skip
      refine z_iload dX10_about_83 2 rfl ?_
      exact z_iret dX10_about_85 rfl (en0 _ _ _ _) rfl
    · skip
      refine z_iinc (j := 2) (v := l4 + 1) (L' := [(4, .int (l4 + 1)), (0, .ref (a0)), (3, .int (l3))]) dX10_about_77 rfl rfl (by decide) rfl ?_
      refine z_goto (tgt := 66) dX10_about_80 (by decide) ?_
      refine z_sub [1, 2, 0] rfl ?_
      exact ih ((l4 + 1)) h
def fX10_about (κ : Kd) (a0 : Nat) (l1 : Int32) (l2 : Int32) (h : Hp) : Option (Int32) :=
  if (κ a0).1 = 9 then (
  (fX10_isRow κ l1 h).bind fun v1 =>
  if v1 = 0 then (
    some ((-1000000 : Int32))
  ) else (
    (fX10_in κ l2.toInt64 (0 : Int64) (2 : Int64) h).bind fun v2 =>
    if v2 = 0 then (
      some ((-1000000 : Int32))
    ) else (
      to_ κ (g_R h a0 0) 50 fun r3 =>
      a_I κ h r3 l1 fun v4 =>
      if (2 : Int32) ≤ l2 then (
        fX10_about_b66 κ a0 v4 fu_ (0 : Int32) h
      ) else (
        if v4 = (-1 : Int32) then (
          some ((-1 : Int32))
        ) else (
          if l2 = 0 then (
            to_ κ (g_R h a0 2) 50 fun r9 =>
            a_I κ h r9 v4 fun v10 =>
            some (v10)
          ) else (
            to_ κ (g_R h a0 1) 50 fun r7 =>
            a_I κ h r7 v4 fun v8 =>
            some (v8)
          )
        )
      )
    )
  )) else none
set_option maxHeartbeats 4000000 in
set_option maxRecDepth 100000 in
theorem tX10_about (κ : Kd) (n lim : Nat) (h : Hp) (a0 : Nat) (l1 : Int32) (l2 : Int32) : Ct_ mX10_about [.ref (a0), .int (l1), .int (l2)] κ n lim h (pI κ n h) (fX10_about κ a0 l1 l2 h) := by
  refine ct_of (by decide) (Nat.le_of_ble_eq_true rfl) ?_
  unfold fX10_about
  refine z_sub (L' := [(0, .ref (a0)), (1, .int (l1)), (2, .int (l2))]) [0, 1, 2] rfl ?_
  refine z_or (fun k_a0 => ?_)
  refine z_iload_n dX10_about_0 rfl 1 rfl ?_
  refine z_pI (as := [.int (l1)]) (rn_S dX10_about_1 mf_X10_isRow in_X10_isRow lk_X10_156 ⟨by decide, by decide⟩ rfl (Nat.le_of_ble_eq_true rfl)) (tX10_isRow _ _ _ _ _) cz_X10_isRow (c00 _) (fun v1 => ?_)
  refine z_if_eq (tgt := 19) dX10_about_4 (by first | decide | omega) (fun _ => ?_) (fun _ => ?_)
  · skip
    refine z_ldc dX10_about_19 co_X10_163 ?_
    exact z_iret dX10_about_21 rfl (en0 _ _ _ _) rfl
  · skip
    refine z_iload_n dX10_about_7 rfl 2 rfl ?_
    refine z_i2l dX10_about_8 ?_
    refine z_lconst (v := 0) dX10_about_9 (by decide) ?_
    refine z_ldc2 dX10_about_10 co_X10_180 ?_
    refine z_pI (as := [.long (l2.toInt64), .long ((0 : Int64)), .long ((2 : Int64))]) (rn_S dX10_about_13 mf_X10_in in_X10_in lk_X10_139 ⟨by decide, by decide⟩ rfl (Nat.le_of_ble_eq_true rfl)) (tX10_in _ _ _ _ _ _ _) cz_X10_in (c00 _) (fun v2 => ?_)
    refine z_if_ne (tgt := 22) dX10_about_16 (by first | decide | omega) (fun _ => ?_) (fun _ => ?_)
    · skip
      refine z_aload_n dX10_about_22 rfl 0 rfl ?_
      refine z_getR (kd := 50) dX10_about_23 fl_X10_7 k_a0 (fun r3 kr3 => ?_)
      refine z_iload_n dX10_about_26 rfl 1 rfl ?_
      refine z_iald dX10_about_27 kr3 (fun v4 => ?_)
      refine z_istore_n (L' := [(3, .int (v4)), (0, .ref (a0)), (1, .int (l1)), (2, .int (l2))]) dX10_about_28 rfl (by decide) rfl ?_
      refine z_iload_n dX10_about_29 rfl 3 rfl ?_
      refine z_iconst (v := 2) dX10_about_30 (by decide) ?_
      refine z_icmp_ge (tgt := 63) dX10_about_31 (by first | decide | omega) (fun _ => ?_) (fun _ => ?_)
      · skip
        refine z_iconst (v := 0) dX10_about_63 (by decide) ?_
        refine z_istore (L' := [(4, .int ((0 : Int32))), (3, .int (v4)), (0, .ref (a0)), (1, .int (l1)), (2, .int (l2))]) dX10_about_64 (by decide) rfl ?_
        refine z_sub [2, 1, 0] rfl ?_
        exact zX10_about_b66 _ _ _ a0 v4 k_a0 fu_ (0 : Int32) h
      · skip
        refine z_iload_n dX10_about_34 rfl 0 rfl ?_
        refine z_iconst (v := -1) dX10_about_35 (by decide) ?_
        refine z_icmp_ne (tgt := 43) dX10_about_36 (by first | decide | omega) (fun _ => ?_) (fun _ => ?_)
        · skip
          refine z_iload_n dX10_about_43 rfl 3 rfl ?_
          refine z_if_ne (tgt := 56) dX10_about_44 (by first | decide | omega) (fun _ => ?_) (fun _ => ?_)
          · skip
            refine z_aload_n dX10_about_56 rfl 1 rfl ?_
            refine z_getR (kd := 50) dX10_about_57 fl_X10_13 k_a0 (fun r7 kr7 => ?_)
            refine z_iload_n dX10_about_60 rfl 0 rfl ?_
            refine z_iald dX10_about_61 kr7 (fun v8 => ?_)
            exact z_iret dX10_about_62 rfl (en0 _ _ _ _) rfl
          · skip
            refine z_aload_n dX10_about_47 rfl 1 rfl ?_
            refine z_getR (kd := 50) dX10_about_48 fl_X10_16 k_a0 (fun r9 kr9 => ?_)
            refine z_iload_n dX10_about_51 rfl 0 rfl ?_
            refine z_iald dX10_about_52 kr9 (fun v10 => ?_)
            refine z_goto (tgt := 62) dX10_about_53 (by decide) ?_
            exact z_iret dX10_about_62 rfl (en0 _ _ _ _) rfl
        · skip
          refine z_iconst (v := -1) dX10_about_39 (by decide) ?_
          refine z_goto (tgt := 62) dX10_about_40 (by decide) ?_
          exact z_iret dX10_about_62 rfl (en0 _ _ _ _) rfl
    · skip
      refine z_ldc dX10_about_19 co_X10_163 ?_
      exact z_iret dX10_about_21 rfl (en0 _ _ _ _) rfl
def fX10_isCrate (κ : Kd) (l0 : Int32) (h : Hp) : Option (Int32) :=
  if l0 ≤ 0 then (
    some ((0 : Int32))
  ) else (
    if (4 : Int32) ≤ l0 then (
      some ((0 : Int32))
    ) else (
      some ((1 : Int32))
    )
  )
set_option maxHeartbeats 4000000 in
set_option maxRecDepth 100000 in
theorem tX10_isCrate (κ : Kd) (n lim : Nat) (h : Hp) (l0 : Int32) : Ct_ mX10_isCrate [.int (l0)] κ n lim h (pI κ n h) (fX10_isCrate κ l0 h) := by
  refine ct_of (by decide) (Nat.le_of_ble_eq_true rfl) ?_
  unfold fX10_isCrate
  refine z_sub (L' := [(0, .int (l0))]) [0] rfl ?_
  refine z_iload_n dX10_isCrate_0 rfl 0 rfl ?_
  refine z_if_le (tgt := 13) dX10_isCrate_1 (by first | decide | omega) (fun _ => ?_) (fun _ => ?_)
  · skip
    refine z_iconst (v := 0) dX10_isCrate_13 (by decide) ?_
    exact z_zret dX10_isCrate_14 rfl rfl (en0 _ _ _ _) rfl
  · skip
    refine z_iload_n dX10_isCrate_4 rfl 0 rfl ?_
    refine z_iconst (v := 4) dX10_isCrate_5 (by decide) ?_
    refine z_icmp_ge (tgt := 13) dX10_isCrate_6 (by first | decide | omega) (fun _ => ?_) (fun _ => ?_)
    · skip
      refine z_iconst (v := 0) dX10_isCrate_13 (by decide) ?_
      exact z_zret dX10_isCrate_14 rfl rfl (en0 _ _ _ _) rfl
    · skip
      refine z_iconst (v := 1) dX10_isCrate_9 (by decide) ?_
      refine z_goto (tgt := 14) dX10_isCrate_10 (by decide) ?_
      exact z_zret dX10_isCrate_14 rfl rfl (en0 _ _ _ _) rfl
