abbrev kX7_init_1 (κ : Kd) (n : Nat) : Kd := up_K κ n (50, 30)
abbrev kX7_init_2 (κ : Kd) (n : Nat) : Kd := up_K (kX7_init_1 κ n) (n + 1) (50, 30)
abbrev kX7_init_3 (κ : Kd) (n : Nat) : Kd := up_K (kX7_init_2 κ n) (n + 2) (50, 30)
abbrev kX7_init_4 (κ : Kd) (n : Nat) : Kd := up_K (kX7_init_3 κ n) (n + 3) (50, 4)
abbrev kX7_init_5 (κ : Kd) (n : Nat) : Kd := up_K (kX7_init_4 κ n) (n + 4) (50, 4)
abbrev kX7_init_6 (κ : Kd) (n : Nat) : Kd := up_K (kX7_init_5 κ n) (n + 5) (50, 4)
abbrev kX7_init_7 (κ : Kd) (n : Nat) : Kd := up_K (kX7_init_6 κ n) (n + 6) (50, 4)
abbrev kX7_init (κ : Kd) (n : Nat) : Kd := kX7_init_7 κ n
theorem lvk_X7_init {κ : Kd} {n : Nat} (hv : Lv_ κ n) : Lv_ (kX7_init κ n) (n + 7) := by
  have hv := lv_up (v := (50, 30)) hv
  have hv := lv_up (v := (50, 30)) hv
  have hv := lv_up (v := (50, 30)) hv
  have hv := lv_up (v := (50, 4)) hv
  have hv := lv_up (v := (50, 4)) hv
  have hv := lv_up (v := (50, 4)) hv
  have hv := lv_up (v := (50, 4)) hv
  exact hv
theorem kp_X7_init {κ : Kd} {n b x : Nat} (hv : Lv_ κ n) (hb : (κ b).1 = x) (hx : x ≠ 0) : (kX7_init κ n b).1 = x := by
  have hb := up_ne (v := (50, 30)) hv hb hx
  have hv := lv_up (v := (50, 30)) hv
  have hb := up_ne (v := (50, 30)) hv hb hx
  have hv := lv_up (v := (50, 30)) hv
  have hb := up_ne (v := (50, 30)) hv hb hx
  have hv := lv_up (v := (50, 30)) hv
  have hb := up_ne (v := (50, 4)) hv hb hx
  have hv := lv_up (v := (50, 4)) hv
  have hb := up_ne (v := (50, 4)) hv hb hx
  have hv := lv_up (v := (50, 4)) hv
  have hb := up_ne (v := (50, 4)) hv hb hx
  have hv := lv_up (v := (50, 4)) hv
  have hb := up_ne (v := (50, 4)) hv hb hx
  have hv := lv_up (v := (50, 4)) hv
  exact hb
def fX7_init (κ : Kd) (n : Nat) (a0 : Nat) (l1 : Int32) (h : Hp) : Option (Hp) :=
  if (κ a0).1 = 6 then (
  lt_ (nw_ h n) fun h1 =>
  lt_ (s_R h1 a0 1 (some n)) fun h2 =>
  lt_ (nw_ h2 (n + 1)) fun h3 =>
  lt_ (s_R h3 a0 2 (some (n + 1))) fun h4 =>
  lt_ (nw_ h4 (n + 2)) fun h5 =>
  lt_ (s_R h5 a0 3 (some (n + 2))) fun h6 =>
  lt_ (nw_ h6 (n + 3)) fun h7 =>
  lt_ (s_R h7 a0 4 (some (n + 3))) fun h8 =>
  lt_ (nw_ h8 (n + 4)) fun h9 =>
  lt_ (s_R h9 a0 5 (some (n + 4))) fun h10 =>
  lt_ (nw_ h10 (n + 5)) fun h11 =>
  lt_ (s_R h11 a0 6 (some (n + 5))) fun h12 =>
  lt_ (nw_ h12 (n + 6)) fun h13 =>
  lt_ (s_R h13 a0 7 (some (n + 6))) fun h14 =>
  lt_ (s_I h14 a0 10 (-1 : Int32)) fun h15 =>
  lt_ (s_I h15 a0 0 l1) fun h16 =>
  some h16) else none
set_option maxHeartbeats 4000000 in
set_option maxRecDepth 100000 in
theorem tX7_init (κ : Kd) (n lim : Nat) (h : Hp) (a0 : Nat) (l1 : Int32) (hv : Lv_ κ n) (hl : n + 7 ≤ lim) : Ct_ mX7_init [.ref (a0), .int (l1)] κ n lim h (eV (kX7_init κ n) (n + 7)) (fX7_init κ n a0 l1 h) := by
  refine ct_of (by decide) (Nat.le_of_ble_eq_true rfl) ?_
  unfold fX7_init
  refine z_sub (L' := [(0, .ref (a0)), (1, .int (l1))]) [0, 1] rfl ?_
  refine z_or (fun k_a0 => ?_)
  refine z_aload_n dX7_init_0 rfl 0 rfl ?_
  refine z_oi dX7_init_1 oi_X7_3 ⟨by decide, Nat.le_of_ble_eq_true rfl⟩ ?_
  refine z_aload_n dX7_init_4 rfl 0 rfl ?_
  refine z_bipush (v := 30) dX7_init_5 (by decide) ?_
  refine z_newa (N := 30) dX7_init_7 pk_50 (by decide) (by decide) ⟨by omega, by decide, by decide⟩ (fun h1 => ?_)
  have k_a0 := up_ne (v := (50, 30)) hv k_a0 (by decide)
  have kn1 := up_eq κ n (50, 30)
  have hv := lv_up (v := (50, 30)) hv
  refine z_putR dX7_init_9 fl_X7_9 (Or.inr ⟨rfl, rfl, ff_X7_9⟩) k_a0 (fun h2 => ?_)
  refine z_aload_n dX7_init_12 rfl 0 rfl ?_
  refine z_bipush (v := 30) dX7_init_13 (by decide) ?_
  refine z_newa (N := 30) dX7_init_15 pk_50 (by decide) (by decide) ⟨by omega, by decide, by decide⟩ (fun h3 => ?_)
  have k_a0 := up_ne (v := (50, 30)) hv k_a0 (by decide)
  have kn1 := up_ne (v := (50, 30)) hv kn1 (by decide)
  have kn2 := up_eq (kX7_init_1 κ n) (n + 1) (50, 30)
  have hv := lv_up (v := (50, 30)) hv
  refine z_putR dX7_init_17 fl_X7_15 (Or.inr ⟨rfl, rfl, ff_X7_15⟩) k_a0 (fun h4 => ?_)
  refine z_aload_n dX7_init_20 rfl 0 rfl ?_
  refine z_bipush (v := 30) dX7_init_21 (by decide) ?_
  refine z_newa (N := 30) dX7_init_23 pk_50 (by decide) (by decide) ⟨by omega, by decide, by decide⟩ (fun h5 => ?_)
  have k_a0 := up_ne (v := (50, 30)) hv k_a0 (by decide)
  have kn1 := up_ne (v := (50, 30)) hv kn1 (by decide)
  have kn2 := up_ne (v := (50, 30)) hv kn2 (by decide)
  have kn3 := up_eq (kX7_init_2 κ n) (n + 2) (50, 30)
  have hv := lv_up (v := (50, 30)) hv
  refine z_putR dX7_init_25 fl_X7_18 (Or.inr ⟨rfl, rfl, ff_X7_18⟩) k_a0 (fun h6 => ?_)
  refine z_aload_n dX7_init_28 rfl 0 rfl ?_
  refine z_iconst (v := 4) dX7_init_29 (by decide) ?_
  refine z_newa (N := 4) dX7_init_30 pk_50 (by decide) (by decide) ⟨by omega, by decide, by decide⟩ (fun h7 => ?_)
  have k_a0 := up_ne (v := (50, 4)) hv k_a0 (by decide)
  have kn1 := up_ne (v := (50, 4)) hv kn1 (by decide)
  have kn2 := up_ne (v := (50, 4)) hv kn2 (by decide)
  have kn3 := up_ne (v := (50, 4)) hv kn3 (by decide)
  have kn4 := up_eq (kX7_init_3 κ n) (n + 3) (50, 4)
  have hv := lv_up (v := (50, 4)) hv
  refine z_putR dX7_init_32 fl_X7_21 (Or.inr ⟨rfl, rfl, ff_X7_21⟩) k_a0 (fun h8 => ?_)
  refine z_aload_n dX7_init_35 rfl 0 rfl ?_
  refine z_iconst (v := 4) dX7_init_36 (by decide) ?_
  refine z_newa (N := 4) dX7_init_37 pk_50 (by decide) (by decide) ⟨by omega, by decide, by decide⟩ (fun h9 => ?_)
  have k_a0 := up_ne (v := (50, 4)) hv k_a0 (by decide)
  have kn1 := up_ne (v := (50, 4)) hv kn1 (by decide)
  have kn2 := up_ne (v := (50, 4)) hv kn2 (by decide)
  have kn3 := up_ne (v := (50, 4)) hv kn3 (by decide)
  have kn4 := up_ne (v := (50, 4)) hv kn4 (by decide)
  have kn5 := up_eq (kX7_init_4 κ n) (n + 4) (50, 4)
  have hv := lv_up (v := (50, 4)) hv
  refine z_putR dX7_init_39 fl_X7_24 (Or.inr ⟨rfl, rfl, ff_X7_24⟩) k_a0 (fun h10 => ?_)
  refine z_aload_n dX7_init_42 rfl 0 rfl ?_
  refine z_iconst (v := 4) dX7_init_43 (by decide) ?_
  refine z_newa (N := 4) dX7_init_44 pk_50 (by decide) (by decide) ⟨by omega, by decide, by decide⟩ (fun h11 => ?_)
  have k_a0 := up_ne (v := (50, 4)) hv k_a0 (by decide)
  have kn1 := up_ne (v := (50, 4)) hv kn1 (by decide)
  have kn2 := up_ne (v := (50, 4)) hv kn2 (by decide)
  have kn3 := up_ne (v := (50, 4)) hv kn3 (by decide)
  have kn4 := up_ne (v := (50, 4)) hv kn4 (by decide)
  have kn5 := up_ne (v := (50, 4)) hv kn5 (by decide)
  have kn6 := up_eq (kX7_init_5 κ n) (n + 5) (50, 4)
  have hv := lv_up (v := (50, 4)) hv
  refine z_putR dX7_init_46 fl_X7_27 (Or.inr ⟨rfl, rfl, ff_X7_27⟩) k_a0 (fun h12 => ?_)
  refine z_aload_n dX7_init_49 rfl 0 rfl ?_
  refine z_iconst (v := 4) dX7_init_50 (by decide) ?_
  refine z_newa (N := 4) dX7_init_51 pk_50 (by decide) (by decide) ⟨by omega, by decide, by decide⟩ (fun h13 => ?_)
  have k_a0 := up_ne (v := (50, 4)) hv k_a0 (by decide)
  have kn1 := up_ne (v := (50, 4)) hv kn1 (by decide)
  have kn2 := up_ne (v := (50, 4)) hv kn2 (by decide)
  have kn3 := up_ne (v := (50, 4)) hv kn3 (by decide)
  have kn4 := up_ne (v := (50, 4)) hv kn4 (by decide)
  have kn5 := up_ne (v := (50, 4)) hv kn5 (by decide)
  have kn6 := up_ne (v := (50, 4)) hv kn6 (by decide)
  have kn7 := up_eq (kX7_init_6 κ n) (n + 6) (50, 4)
  have hv := lv_up (v := (50, 4)) hv
  refine z_putR dX7_init_53 fl_X7_30 (Or.inr ⟨rfl, rfl, ff_X7_30⟩) k_a0 (fun h14 => ?_)
  refine z_aload_n dX7_init_56 rfl 0 rfl ?_
  refine z_iconst (v := -1) dX7_init_57 (by decide) ?_
  refine z_putI dX7_init_58 fl_X7_33 (Or.inl rfl) k_a0 (fun h15 => ?_)
  refine z_aload_n dX7_init_61 rfl 0 rfl ?_
  refine z_iload_n dX7_init_62 rfl 1 rfl ?_
  refine z_putI dX7_init_63 fl_X7_37 (Or.inr ⟨rfl, rfl, ff_X7_37⟩) k_a0 (fun h16 => ?_)
  exact z_vret dX7_init_66 rfl ⟨Nat.le_of_ble_eq_true rfl, Nat.le_of_ble_eq_true rfl⟩ rfl
abbrev kX4_addRoutine_1 (κ : Kd) (n : Nat) : Kd := up_K κ n (6, 0)
abbrev kX4_addRoutine_2 (κ : Kd) (n : Nat) : Kd := kX7_init (kX4_addRoutine_1 κ n) (n + 1)
def fX4_addRoutine (κ : Kd) (n : Nat) (a0 : Nat) (l1 : Int32) (h : Hp) : Option (Int32 × Hp × Kd × Nat) :=
  if (κ a0).1 = 4 then (
  if (g_I h a0 4) < (12 : Int32) then (
    to_ κ (g_R h a0 3) 59 fun r1 =>
    lt_ (nw_ h n) fun h2 =>
    (fX7_init (kX4_addRoutine_1 κ n) (n + 1) n l1 h2).bind fun h3 =>
    w_R (kX4_addRoutine_2 κ n) h3 r1 (g_I h a0 4) n fun h4 =>
    lt_ (s_I h4 a0 4 ((g_I h4 a0 4) + (1 : Int32))) fun h5 =>
    some ((g_I h5 a0 4) - (1 : Int32), h5, kX4_addRoutine_2 κ n, n + 8)
  ) else (
    some ((-1000001 : Int32), h, κ, n)
  )) else none
set_option maxHeartbeats 4000000 in
set_option maxRecDepth 100000 in
theorem tX4_addRoutine (κ : Kd) (n lim : Nat) (h : Hp) (a0 : Nat) (l1 : Int32) (hv : Lv_ κ n) (hl : n + 8 ≤ lim) : Ct_ mX4_addRoutine [.ref (a0), .int (l1)] κ n lim h eA (fX4_addRoutine κ n a0 l1 h) := by
  refine ct_of (by decide) (Nat.le_of_ble_eq_true rfl) ?_
  unfold fX4_addRoutine
  refine z_sub (L' := [(0, .ref (a0)), (1, .int (l1))]) [0, 1] rfl ?_
  refine z_or (fun k_a0 => ?_)
  refine z_aload_n dX4_addRoutine_0 rfl 0 rfl ?_
  refine z_getI dX4_addRoutine_1 fl_X4_56 k_a0 ?_
  refine z_bipush (v := 12) dX4_addRoutine_4 (by decide) ?_
  refine z_icmp_lt (tgt := 12) dX4_addRoutine_6 (by first | decide | omega) (fun _ => ?_) (fun _ => ?_)
  · skip
    refine z_aload_n dX4_addRoutine_12 rfl 0 rfl ?_
    refine z_getR (kd := 59) dX4_addRoutine_13 fl_X4_34 k_a0 (fun r1 kr1 => ?_)
    refine z_aload_n dX4_addRoutine_16 rfl 0 rfl ?_
    refine z_getI dX4_addRoutine_17 fl_X4_56 k_a0 ?_
    refine z_new dX4_addRoutine_20 cl_5 nc_X4_32 (by decide) (by decide) ⟨by omega, by decide, by decide⟩ (fun h2 => ?_)
    have k_a0 := up_ne (v := (6, 0)) hv k_a0 (by decide)
    have kr1 := up_ne (v := (6, 0)) hv kr1 (by decide)
    have kn1 := up_eq κ n (6, 0)
    have hv := lv_up (v := (6, 0)) hv
    refine z_dup dX4_addRoutine_23 rfl ?_
    refine z_iload_n dX4_addRoutine_24 rfl 1 rfl ?_
    refine z_aV (as := [.ref (n), .int (l1)]) (rn_I dX4_addRoutine_25 mf_X7_init rfl in_X7_init lk_X4_61 ⟨by decide, by decide⟩ rfl (Nat.le_of_ble_eq_true rfl)) (tX7_init _ _ _ _ _ _ hv (by omega)) rfl ⟨by decide, by decide, rfl⟩ (fun h3 => ?_)
    have k_a0 := kp_X7_init hv k_a0 (by decide)
    have kr1 := kp_X7_init hv kr1 (by decide)
    have kn1 := kp_X7_init hv kn1 (by decide)
    have hv := lvk_X7_init hv
    refine z_aast dX4_addRoutine_28 rk_59 cl_5 rfl kr1 kn1 (fun h4 => ?_)
    refine z_aload_n dX4_addRoutine_29 rfl 0 rfl ?_
    refine z_dup dX4_addRoutine_30 rfl ?_
    refine z_getI dX4_addRoutine_31 fl_X4_56 k_a0 ?_
    refine z_iconst (v := 1) dX4_addRoutine_34 (by decide) ?_
    refine z_iadd dX4_addRoutine_35 ?_
    refine z_putI dX4_addRoutine_36 fl_X4_56 (Or.inl rfl) k_a0 (fun h5 => ?_)
    refine z_aload_n dX4_addRoutine_39 rfl 0 rfl ?_
    refine z_getI dX4_addRoutine_40 fl_X4_56 k_a0 ?_
    refine z_iconst (v := 1) dX4_addRoutine_43 (by decide) ?_
    refine z_isub dX4_addRoutine_44 ?_
    exact z_iret dX4_addRoutine_45 rfl ⟨Nat.le_of_ble_eq_true rfl, Nat.le_of_ble_eq_true rfl⟩ rfl
  · skip
    refine z_ldc dX4_addRoutine_9 co_X4_60 ?_
    exact z_iret dX4_addRoutine_11 rfl ⟨Nat.le_of_ble_eq_true rfl, Nat.le_of_ble_eq_true rfl⟩ rfl
def fX4_routineAt (κ : Kd) (a0 : Nat) (l1 : Int32) (h : Hp) : Option (Option Nat) :=
  if (κ a0).1 = 4 then (
  if l1 < 0 then (
    some ((none : Option Nat))
  ) else (
    if (g_I h a0 4) ≤ l1 then (
      some ((none : Option Nat))
    ) else (
      to_ κ (g_R h a0 3) 59 fun r1 =>
      a_R κ h r1 l1 6 fun r2 =>
      some ((some r2 : Option Nat))
    )
  )) else none
set_option maxHeartbeats 4000000 in
set_option maxRecDepth 100000 in
theorem tX4_routineAt (κ : Kd) (n lim : Nat) (h : Hp) (a0 : Nat) (l1 : Int32) : Ct_ mX4_routineAt [.ref (a0), .int (l1)] κ n lim h (pQ κ n h) (fX4_routineAt κ a0 l1 h) := by
  refine ct_of (by decide) (Nat.le_of_ble_eq_true rfl) ?_
  unfold fX4_routineAt
  refine z_sub (L' := [(0, .ref (a0)), (1, .int (l1))]) [0, 1] rfl ?_
  refine z_or (fun k_a0 => ?_)
  refine z_iload_n dX4_routineAt_0 rfl 1 rfl ?_
  refine z_if_lt (tgt := 21) dX4_routineAt_1 (by first | decide | omega) (fun _ => ?_) (fun _ => ?_)
  · skip
    refine z_null dX4_routineAt_21 ?_
    exact z_aret (r := none) dX4_routineAt_22 rfl (en0 _ _ _ _) rfl
  · skip
    refine z_iload_n dX4_routineAt_4 rfl 1 rfl ?_
    refine z_aload_n dX4_routineAt_5 rfl 0 rfl ?_
    refine z_getI dX4_routineAt_6 fl_X4_56 k_a0 ?_
    refine z_icmp_ge (tgt := 21) dX4_routineAt_9 (by first | decide | omega) (fun _ => ?_) (fun _ => ?_)
    · skip
      refine z_null dX4_routineAt_21 ?_
      exact z_aret (r := none) dX4_routineAt_22 rfl (en0 _ _ _ _) rfl
    · skip
      refine z_aload_n dX4_routineAt_12 rfl 0 rfl ?_
      refine z_getR (kd := 59) dX4_routineAt_13 fl_X4_34 k_a0 (fun r1 kr1 => ?_)
      refine z_iload_n dX4_routineAt_16 rfl 1 rfl ?_
      refine z_aald (kd := 6) dX4_routineAt_17 rk_59 kr1 (fun r2 kr2 => ?_)
      refine z_goto (tgt := 22) dX4_routineAt_18 (by decide) ?_
      exact z_aret (r := some r2) dX4_routineAt_22 rfl (en0 _ _ _ _) rfl
def fX4_beginRun (κ : Kd) (a0 : Nat) (h : Hp) : Option (Hp) :=
  if (κ a0).1 = 4 then (
  lt_ (s_I h a0 8 (0 : Int32)) fun h1 =>
  lt_ (s_I h1 a0 9 (0 : Int32)) fun h2 =>
  lt_ (s_I h2 a0 11 (0 : Int32)) fun h3 =>
  lt_ (s_I h3 a0 12 (0 : Int32)) fun h4 =>
  lt_ (s_I h4 a0 13 (0 : Int32)) fun h5 =>
  lt_ (s_I h5 a0 14 (0 : Int32)) fun h6 =>
  lt_ (s_I h6 a0 15 (0 : Int32)) fun h7 =>
  lt_ (s_I h7 a0 16 (0 : Int32)) fun h8 =>
  lt_ (s_J h8 a0 17 (0 : Int64)) fun h9 =>
  lt_ (s_I h9 a0 10 (3 : Int32)) fun h10 =>
  some h10) else none
set_option maxHeartbeats 4000000 in
set_option maxRecDepth 100000 in
theorem tX4_beginRun (κ : Kd) (n lim : Nat) (h : Hp) (a0 : Nat) : Ct_ mX4_beginRun [.ref (a0)] κ n lim h (eV κ n) (fX4_beginRun κ a0 h) := by
  refine ct_of (by decide) (Nat.le_of_ble_eq_true rfl) ?_
  unfold fX4_beginRun
  refine z_sub (L' := [(0, .ref (a0))]) [0] rfl ?_
  refine z_or (fun k_a0 => ?_)
  refine z_aload_n dX4_beginRun_0 rfl 0 rfl ?_
  refine z_iconst (v := 0) dX4_beginRun_1 (by decide) ?_
  refine z_putI dX4_beginRun_2 fl_X4_78 (Or.inl rfl) k_a0 (fun h1 => ?_)
  refine z_aload_n dX4_beginRun_5 rfl 0 rfl ?_
  refine z_iconst (v := 0) dX4_beginRun_6 (by decide) ?_
  refine z_putI dX4_beginRun_7 fl_X4_88 (Or.inl rfl) k_a0 (fun h2 => ?_)
  refine z_aload_n dX4_beginRun_10 rfl 0 rfl ?_
  refine z_iconst (v := 0) dX4_beginRun_11 (by decide) ?_
  refine z_putI dX4_beginRun_12 fl_X4_91 (Or.inl rfl) k_a0 (fun h3 => ?_)
  refine z_aload_n dX4_beginRun_15 rfl 0 rfl ?_
  refine z_iconst (v := 0) dX4_beginRun_16 (by decide) ?_
  refine z_putI dX4_beginRun_17 fl_X4_94 (Or.inl rfl) k_a0 (fun h4 => ?_)
  refine z_aload_n dX4_beginRun_20 rfl 0 rfl ?_
  refine z_iconst (v := 0) dX4_beginRun_21 (by decide) ?_
  refine z_putI dX4_beginRun_22 fl_X4_97 (Or.inl rfl) k_a0 (fun h5 => ?_)
  refine z_aload_n dX4_beginRun_25 rfl 0 rfl ?_
  refine z_iconst (v := 0) dX4_beginRun_26 (by decide) ?_
  refine z_putI dX4_beginRun_27 fl_X4_100 (Or.inl rfl) k_a0 (fun h6 => ?_)
  refine z_aload_n dX4_beginRun_30 rfl 0 rfl ?_
  refine z_iconst (v := 0) dX4_beginRun_31 (by decide) ?_
  refine z_putI dX4_beginRun_32 fl_X4_103 (Or.inl rfl) k_a0 (fun h7 => ?_)
  refine z_aload_n dX4_beginRun_35 rfl 0 rfl ?_
  refine z_iconst (v := 0) dX4_beginRun_36 (by decide) ?_
  refine z_putI dX4_beginRun_37 fl_X4_106 (Or.inl rfl) k_a0 (fun h8 => ?_)
  refine z_aload_n dX4_beginRun_40 rfl 0 rfl ?_
  refine z_lconst (v := 0) dX4_beginRun_41 (by decide) ?_
  refine z_putJ dX4_beginRun_42 fl_X4_109 (Or.inl rfl) k_a0 (fun h9 => ?_)
  refine z_aload_n dX4_beginRun_45 rfl 0 rfl ?_
  refine z_iconst (v := 3) dX4_beginRun_46 (by decide) ?_
  refine z_putI dX4_beginRun_47 fl_X4_75 (Or.inl rfl) k_a0 (fun h10 => ?_)
  exact z_vret dX4_beginRun_50 rfl (en0 _ _ _ _) rfl
def fX4_openFrame (κ : Kd) (a0 : Nat) (l1 : Int32) (a2 : Nat) (h : Hp) : Option (Option Nat × Hp) :=
  if (κ a0).1 = 4 then (
  if (κ a2).1 = 6 then (
  to_ κ (g_R h a0 5) 55 fun r1 =>
  a_R κ h r1 (g_I h a0 8) 2 fun r2 =>
  (fX1_beginWith κ r2 l1 a2 h).bind fun h3 =>
  lt_ (s_I h3 a0 8 ((g_I h3 a0 8) + (1 : Int32))) fun h4 =>
  lt_ (s_I h4 a0 16 (if (g_I h4 a0 16) < (g_I h4 a0 8) then (g_I h4 a0 8) else (g_I h4 a0 16))) fun h5 =>
  some ((some r2 : Option Nat), h5)) else none) else none
set_option maxHeartbeats 4000000 in
set_option maxRecDepth 100000 in
theorem tX4_openFrame (κ : Kd) (n lim : Nat) (h : Hp) (a0 : Nat) (l1 : Int32) (a2 : Nat) : Ct_ mX4_openFrame [.ref (a0), .int (l1), .ref (a2)] κ n lim h (eQ κ n) (fX4_openFrame κ a0 l1 a2 h) := by
  refine ct_of (by decide) (Nat.le_of_ble_eq_true rfl) ?_
  unfold fX4_openFrame
  refine z_sub (L' := [(0, .ref (a0)), (1, .int (l1)), (2, .ref (a2))]) [0, 1, 2] rfl ?_
  refine z_or (fun k_a0 => ?_)
  refine z_or (fun k_a2 => ?_)
  refine z_aload_n dX4_openFrame_0 rfl 0 rfl ?_
  refine z_getR (kd := 55) dX4_openFrame_1 fl_X4_40 k_a0 (fun r1 kr1 => ?_)
  refine z_aload_n dX4_openFrame_4 rfl 0 rfl ?_
  refine z_getI dX4_openFrame_5 fl_X4_78 k_a0 ?_
  refine z_aald (kd := 2) dX4_openFrame_8 rk_55 kr1 (fun r2 kr2 => ?_)
  refine z_astore_n (L' := [(3, .ref (r2)), (0, .ref (a0)), (1, .int (l1)), (2, .ref (a2))]) dX4_openFrame_9 rfl (by decide) rfl ?_
  refine z_aload_n dX4_openFrame_10 rfl 0 rfl ?_
  refine z_iload_n dX4_openFrame_11 rfl 2 rfl ?_
  refine z_aload_n dX4_openFrame_12 rfl 3 rfl ?_
  refine z_cV (as := [.ref (r2), .int (l1), .ref (a2)]) (rn_V dX4_openFrame_13 mf_X1_beginWith in_X1_beginWith lk_X4_113 ⟨by decide, by decide⟩ cl_1 rfl kr2 rfl (Nat.le_of_ble_eq_true rfl)) (tX1_beginWith _ _ _ _ _ _ _) cz_X1_beginWith (c00 _) (fun h3 => ?_)
  refine z_aload_n dX4_openFrame_16 rfl 1 rfl ?_
  refine z_dup dX4_openFrame_17 rfl ?_
  refine z_getI dX4_openFrame_18 fl_X4_78 k_a0 ?_
  refine z_iconst (v := 1) dX4_openFrame_21 (by decide) ?_
  refine z_iadd dX4_openFrame_22 ?_
  refine z_putI dX4_openFrame_23 fl_X4_78 (Or.inl rfl) k_a0 (fun h4 => ?_)
  refine z_aload_n dX4_openFrame_26 rfl 1 rfl ?_
  refine z_aload_n dX4_openFrame_27 rfl 1 rfl ?_
  refine z_getI dX4_openFrame_28 fl_X4_106 k_a0 ?_
  refine z_aload_n dX4_openFrame_31 rfl 1 rfl ?_
  refine z_getI dX4_openFrame_32 fl_X4_78 k_a0 ?_
  refine z_max dX4_openFrame_35 mx_X4_117 ⟨by decide, Nat.le_of_ble_eq_true rfl⟩ ?_
  refine z_putI dX4_openFrame_38 fl_X4_106 (Or.inl rfl) k_a0 (fun h5 => ?_)
  refine z_aload_n dX4_openFrame_41 rfl 0 rfl ?_
  exact z_aret (r := some r2) dX4_openFrame_42 rfl (en0 _ _ _ _) rfl
def fX8_hasNumber (κ : Kd) (l0 : Int32) (h : Hp) : Option (Int32) :=
  if l0 = (1 : Int32) then (
    some ((1 : Int32))
  ) else (
    if l0 < (6 : Int32) then (
      some ((0 : Int32))
    ) else (
      some ((1 : Int32))
    )
  )
set_option maxHeartbeats 4000000 in
set_option maxRecDepth 100000 in
theorem tX8_hasNumber (κ : Kd) (n lim : Nat) (h : Hp) (l0 : Int32) : Ct_ mX8_hasNumber [.int (l0)] κ n lim h (pI κ n h) (fX8_hasNumber κ l0 h) := by
  refine ct_of (by decide) (Nat.le_of_ble_eq_true rfl) ?_
  unfold fX8_hasNumber
  refine z_sub (L' := [(0, .int (l0))]) [0] rfl ?_
  refine z_iload_n dX8_hasNumber_0 rfl 0 rfl ?_
  refine z_iconst (v := 1) dX8_hasNumber_1 (by decide) ?_
  refine z_icmp_eq (tgt := 11) dX8_hasNumber_2 (by first | decide | omega) (fun _ => ?_) (fun _ => ?_)
  · skip
    refine z_iconst (v := 1) dX8_hasNumber_11 (by decide) ?_
    refine z_goto (tgt := 16) dX8_hasNumber_12 (by decide) ?_
    exact z_zret dX8_hasNumber_16 rfl rfl (en0 _ _ _ _) rfl
  · skip
    refine z_iload_n dX8_hasNumber_5 rfl 0 rfl ?_
    refine z_bipush (v := 6) dX8_hasNumber_6 (by decide) ?_
    refine z_icmp_lt (tgt := 15) dX8_hasNumber_8 (by first | decide | omega) (fun _ => ?_) (fun _ => ?_)
    · skip
      refine z_iconst (v := 0) dX8_hasNumber_15 (by decide) ?_
      exact z_zret dX8_hasNumber_16 rfl rfl (en0 _ _ _ _) rfl
    · skip
      refine z_iconst (v := 1) dX8_hasNumber_11 (by decide) ?_
      refine z_goto (tgt := 16) dX8_hasNumber_12 (by decide) ?_
      exact z_zret dX8_hasNumber_16 rfl rfl (en0 _ _ _ _) rfl
def fX6_takes (κ : Kd) (l0 : Int32) (l1 : Int32) (l2 : Int32) (h : Hp) : Option (Int32) :=
  if l0 = (19 : Int32) then (
    some (l2)
  ) else (
    if l0 = (23 : Int32) then (
      (fX8_hasNumber κ l1 h).bind fun v2 =>
      if v2 = 0 then (
        some ((1 : Int32))
      ) else (
        some ((2 : Int32))
      )
    ) else (
      if l0 < 0 then (
        some ((0 : Int32))
      ) else (
        if (30 : Int32) ≤ l0 then (
          some ((0 : Int32))
        ) else (
          s_ld 3 l0 fun v1 =>
          some (v1)
        )
      )
    )
  )
set_option maxHeartbeats 4000000 in
set_option maxRecDepth 100000 in
theorem tX6_takes (κ : Kd) (n lim : Nat) (h : Hp) (l0 : Int32) (l1 : Int32) (l2 : Int32) : Ct_ mX6_takes [.int (l0), .int (l1), .int (l2)] κ n lim h (pI κ n h) (fX6_takes κ l0 l1 l2 h) := by
  refine ct_of (by decide) (Nat.le_of_ble_eq_true rfl) ?_
  unfold fX6_takes
  refine z_sub (L' := [(0, .int (l0)), (1, .int (l1)), (2, .int (l2))]) [0, 1, 2] rfl ?_
  refine z_iload_n dX6_takes_0 rfl 0 rfl ?_
  refine z_bipush (v := 19) dX6_takes_1 (by decide) ?_
  refine z_icmp_ne (tgt := 8) dX6_takes_3 (by first | decide | omega) (fun _ => ?_) (fun _ => ?_)
  · skip
    refine z_iload_n dX6_takes_8 rfl 0 rfl ?_
    refine z_bipush (v := 23) dX6_takes_9 (by decide) ?_
    refine z_icmp_ne (tgt := 27) dX6_takes_11 (by first | decide | omega) (fun _ => ?_) (fun _ => ?_)
    · skip
      refine z_iload_n dX6_takes_27 rfl 0 rfl ?_
      refine z_if_lt (tgt := 47) dX6_takes_28 (by first | decide | omega) (fun _ => ?_) (fun _ => ?_)
      · skip
        refine z_iconst (v := 0) dX6_takes_47 (by decide) ?_
        exact z_iret dX6_takes_48 rfl (en0 _ _ _ _) rfl
      · skip
        refine z_iload_n dX6_takes_31 rfl 0 rfl ?_
        refine z_gets dX6_takes_32 sl_X6_15 ?_
        refine z_slen dX6_takes_35 (by decide) ?_
        refine z_icmp_ge (tgt := 47) dX6_takes_36 (by first | decide | omega) (fun _ => ?_) (fun _ => ?_)
        · skip
          refine z_iconst (v := 0) dX6_takes_47 (by decide) ?_
          exact z_iret dX6_takes_48 rfl (en0 _ _ _ _) rfl
        · skip
          refine z_gets dX6_takes_39 sl_X6_15 ?_
          refine z_iload_n dX6_takes_42 rfl 0 rfl ?_
          refine z_sld dX6_takes_43 (by decide) (fun v1 => ?_)
          refine z_goto (tgt := 48) dX6_takes_44 (by decide) ?_
          exact z_iret dX6_takes_48 rfl (en0 _ _ _ _) rfl
    · skip
      refine z_iload_n dX6_takes_14 rfl 1 rfl ?_
      refine z_pI (as := [.int (l1)]) (rn_S dX6_takes_15 mf_X8_hasNumber in_X8_hasNumber lk_X6_9 ⟨by decide, by decide⟩ rfl (Nat.le_of_ble_eq_true rfl)) (tX8_hasNumber _ _ _ _ _) cz_X8_hasNumber (c00 _) (fun v2 => ?_)
      refine z_if_eq (tgt := 25) dX6_takes_18 (by first | decide | omega) (fun _ => ?_) (fun _ => ?_)
      · skip
        refine z_iconst (v := 1) dX6_takes_25 (by decide) ?_
        exact z_iret dX6_takes_26 rfl (en0 _ _ _ _) rfl
      · skip
        refine z_iconst (v := 2) dX6_takes_21 (by decide) ?_
        refine z_goto (tgt := 26) dX6_takes_22 (by decide) ?_
        exact z_iret dX6_takes_26 rfl (en0 _ _ _ _) rfl
  · skip
    refine z_iload_n dX6_takes_6 rfl 2 rfl ?_
    exact z_iret dX6_takes_7 rfl (en0 _ _ _ _) rfl
def fX4_useLocals (κ : Kd) (a0 : Nat) (a1 : Nat) (l2 : Int32) (l3 : Int32) (h : Hp) : Option (Int32 × Hp) :=
  if (κ a0).1 = 4 then (
  if (κ a1).1 = 2 then (
  if l2 = (0 : Int32) then (
    b2 (fX1_lay κ a1 l3.toInt64 h) fun v1 h2 =>
    some (v1, h2)
  ) else
  if l2 = (1 : Int32) then (
    (fX1_local κ a1 l3 h).bind fun v5 =>
    b2 (fX1_lay κ a1 v5 h) fun v6 h7 =>
    some (v6, h7)
  ) else
  if l2 = (2 : Int32) then (
    (fX1_taken κ a1 (0 : Int32) h).bind fun v10 =>
    (fX1_setLocal κ a1 l3 v10 h).bind fun h11 =>
    some ((0 : Int32), h11)
  ) else
  if l2 = (10 : Int32) then (
    lt_ (s_I h a1 6 l3) fun h14 =>
    some ((0 : Int32), h14)
  ) else
  (
    (fX1_taken κ a1 (0 : Int32) h).bind fun v17 =>
    if v17 = (0 : Int64) then (
      lt_ (s_I h a1 6 l3) fun h19 =>
      some ((0 : Int32), h19)
    ) else (
      lt_ (s_I h a1 6 (g_I h a1 6)) fun h18 =>
      some ((0 : Int32), h18)
    )
  )) else none) else none
set_option maxHeartbeats 4000000 in
set_option maxRecDepth 100000 in
theorem tX4_useLocals (κ : Kd) (n lim : Nat) (h : Hp) (a0 : Nat) (a1 : Nat) (l2 : Int32) (l3 : Int32) : Ct_ mX4_useLocals [.ref (a0), .ref (a1), .int (l2), .int (l3)] κ n lim h (eI κ n) (fX4_useLocals κ a0 a1 l2 l3 h) := by
  refine ct_of (by decide) (Nat.le_of_ble_eq_true rfl) ?_
  unfold fX4_useLocals
  refine z_sub (L' := [(0, .ref (a0)), (1, .ref (a1)), (2, .int (l2)), (3, .int (l3))]) [0, 1, 2, 3] rfl ?_
  refine z_or (fun k_a0 => ?_)
  refine z_or (fun k_a1 => ?_)
  refine z_iload_n dX4_useLocals_0 rfl 2 rfl ?_
  refine z_ite (fun c4 => ?_) (fun n3 => ?_)
  · refine z_lkp (tgt := 44) (off := 43) dX4_useLocals_1 (0) c4 (by decide) (by decide) (by decide) ?_
    refine z_aload_n dX4_useLocals_44 rfl 1 rfl ?_
    refine z_iload_n dX4_useLocals_45 rfl 3 rfl ?_
    refine z_i2l dX4_useLocals_46 ?_
    refine z_cI (as := [.ref (a1), .long (l3.toInt64)]) (rn_V dX4_useLocals_47 mf_X1_lay in_X1_lay lk_X4_192 ⟨by decide, by decide⟩ cl_1 rfl k_a1 rfl (Nat.le_of_ble_eq_true rfl)) (tX1_lay _ _ _ _ _ _) cz_X1_lay (c00 _) (fun v1 h2 => ?_)
    exact z_iret dX4_useLocals_50 rfl (en0 _ _ _ _) rfl
  refine z_ite (fun c9 => ?_) (fun n8 => ?_)
  · refine z_lkp (tgt := 51) (off := 50) dX4_useLocals_1 (1) c9 (by decide) (by decide) (by decide) ?_
    refine z_aload_n dX4_useLocals_51 rfl 1 rfl ?_
    refine z_aload_n dX4_useLocals_52 rfl 1 rfl ?_
    refine z_iload_n dX4_useLocals_53 rfl 3 rfl ?_
    refine z_pJ (as := [.ref (a1), .int (l3)]) (rn_V dX4_useLocals_54 mf_X1_local in_X1_local lk_X4_256 ⟨by decide, by decide⟩ cl_1 rfl k_a1 rfl (Nat.le_of_ble_eq_true rfl)) (tX1_local _ _ _ _ _ _) cz_X1_local (c00 _) (fun v5 => ?_)
    refine z_cI (as := [.ref (a1), .long (v5)]) (rn_V dX4_useLocals_57 mf_X1_lay in_X1_lay lk_X4_192 ⟨by decide, by decide⟩ cl_1 rfl k_a1 rfl (Nat.le_of_ble_eq_true rfl)) (tX1_lay _ _ _ _ _ _) cz_X1_lay (c00 _) (fun v6 h7 => ?_)
    exact z_iret dX4_useLocals_60 rfl (en0 _ _ _ _) rfl
  refine z_ite (fun c13 => ?_) (fun n12 => ?_)
  · refine z_lkp (tgt := 61) (off := 60) dX4_useLocals_1 (2) c13 (by decide) (by decide) (by decide) ?_
    refine z_aload_n dX4_useLocals_61 rfl 1 rfl ?_
    refine z_iload_n dX4_useLocals_62 rfl 3 rfl ?_
    refine z_aload_n dX4_useLocals_63 rfl 1 rfl ?_
    refine z_iconst (v := 0) dX4_useLocals_64 (by decide) ?_
    refine z_pJ (as := [.ref (a1), .int ((0 : Int32))]) (rn_V dX4_useLocals_65 mf_X1_taken in_X1_taken lk_X4_219 ⟨by decide, by decide⟩ cl_1 rfl k_a1 rfl (Nat.le_of_ble_eq_true rfl)) (tX1_taken _ _ _ _ _ _) cz_X1_taken (c00 _) (fun v10 => ?_)
    refine z_cV (as := [.ref (a1), .int (l3), .long (v10)]) (rn_V dX4_useLocals_68 mf_X1_setLocal in_X1_setLocal lk_X4_71 ⟨by decide, by decide⟩ cl_1 rfl k_a1 rfl (Nat.le_of_ble_eq_true rfl)) (tX1_setLocal _ _ _ _ _ _ _) cz_X1_setLocal (c00 _) (fun h11 => ?_)
    refine z_iconst (v := 0) dX4_useLocals_71 (by decide) ?_
    exact z_iret dX4_useLocals_72 rfl (en0 _ _ _ _) rfl
  refine z_ite (fun c16 => ?_) (fun n15 => ?_)
  · refine z_lkp (tgt := 73) (off := 72) dX4_useLocals_1 (10) c16 (by decide) (by decide) (by decide) ?_
    refine z_aload_n dX4_useLocals_73 rfl 1 rfl ?_
    refine z_iload_n dX4_useLocals_74 rfl 3 rfl ?_
    refine z_putI dX4_useLocals_75 fl_X4_126 (Or.inl rfl) k_a1 (fun h14 => ?_)
    refine z_iconst (v := 0) dX4_useLocals_78 (by decide) ?_
    exact z_iret dX4_useLocals_79 rfl (en0 _ _ _ _) rfl
  refine z_lkd (tgt := 80) dX4_useLocals_1 (by decide) ((lv_osw (k := 0) n3 (by decide)).trans ((lv_osw (k := 1) n8 (by decide)).trans ((lv_osw (k := 2) n12 (by decide)).trans ((lv_osw (k := 10) n15 (by decide)).trans rfl)))) (by decide) ?_
  refine z_aload_n dX4_useLocals_80 rfl 1 rfl ?_
  refine z_aload_n dX4_useLocals_81 rfl 1 rfl ?_
  refine z_iconst (v := 0) dX4_useLocals_82 (by decide) ?_
  refine z_pJ (as := [.ref (a1), .int ((0 : Int32))]) (rn_V dX4_useLocals_83 mf_X1_taken in_X1_taken lk_X4_219 ⟨by decide, by decide⟩ cl_1 rfl k_a1 rfl (Nat.le_of_ble_eq_true rfl)) (tX1_taken _ _ _ _ _ _) cz_X1_taken (c00 _) (fun v17 => ?_)
  refine z_lconst (v := 0) dX4_useLocals_86 (by decide) ?_
  refine z_lc_ne (tgt := 95) dX4_useLocals_87 dX4_useLocals_88 (by first | decide | omega) (fun _ => ?_) (fun _ => ?_)
  · skip
    refine z_aload_n dX4_useLocals_95 rfl 1 rfl ?_
    refine z_getI dX4_useLocals_96 fl_X4_126 k_a1 ?_
    refine z_putI dX4_useLocals_99 fl_X4_126 (Or.inl rfl) k_a1 (fun h18 => ?_)
    refine z_iconst (v := 0) dX4_useLocals_102 (by decide) ?_
    exact z_iret dX4_useLocals_103 rfl (en0 _ _ _ _) rfl
  · skip
    refine z_iload_n dX4_useLocals_91 rfl 3 rfl ?_
    refine z_goto (tgt := 99) dX4_useLocals_92 (by decide) ?_
    refine z_putI dX4_useLocals_99 fl_X4_126 (Or.inl rfl) k_a1 (fun h19 => ?_)
    refine z_iconst (v := 0) dX4_useLocals_102 (by decide) ?_
    exact z_iret dX4_useLocals_103 rfl (en0 _ _ _ _) rfl
def fX5_reach (κ : Kd) (a0 : Nat) (l1 : Int32) (l2 : Int64) (h : Hp) : Option (Int32) :=
  if (κ a0).1 = 5 then (
  to_ κ (g_R h a0 0) 50 fun r1 =>
  a_I κ h r1 l1 fun v2 =>
  if v2 = (-1 : Int32) then (
    some ((1 : Int32))
  ) else (
    if l2 < (0 : Int64) then (
      some ((2 : Int32))
    ) else (
      to_ κ (g_R h a0 3) 50 fun r3 =>
      to_ κ (g_R h a0 0) 50 fun r4 =>
      a_I κ h r4 l1 fun v5 =>
      a_I κ h r3 v5 fun v6 =>
      if l2 < v6.toInt64 then (
        some ((0 : Int32))
      ) else (
        some ((2 : Int32))
      )
    )
  )) else none
set_option maxHeartbeats 4000000 in
set_option maxRecDepth 100000 in
theorem tX5_reach (κ : Kd) (n lim : Nat) (h : Hp) (a0 : Nat) (l1 : Int32) (l2 : Int64) : Ct_ mX5_reach [.ref (a0), .int (l1), .long (l2)] κ n lim h (pI κ n h) (fX5_reach κ a0 l1 l2 h) := by
  refine ct_of (by decide) (Nat.le_of_ble_eq_true rfl) ?_
  unfold fX5_reach
  refine z_sub (L' := [(0, .ref (a0)), (1, .int (l1)), (2, .long (l2))]) [0, 1, 2] rfl ?_
  refine z_or (fun k_a0 => ?_)
  refine z_aload_n dX5_reach_0 rfl 0 rfl ?_
  refine z_getR (kd := 50) dX5_reach_1 fl_X5_9 k_a0 (fun r1 kr1 => ?_)
  refine z_iload_n dX5_reach_4 rfl 1 rfl ?_
  refine z_iald dX5_reach_5 kr1 (fun v2 => ?_)
  refine z_iconst (v := -1) dX5_reach_6 (by decide) ?_
  refine z_icmp_ne (tgt := 12) dX5_reach_7 (by first | decide | omega) (fun _ => ?_) (fun _ => ?_)
  · skip
    refine z_lload_n dX5_reach_12 rfl 2 rfl ?_
    refine z_lconst (v := 0) dX5_reach_13 (by decide) ?_
    refine z_lc_lt (tgt := 35) dX5_reach_14 dX5_reach_15 (by first | decide | omega) (fun _ => ?_) (fun _ => ?_)
    · skip
      refine z_iconst (v := 2) dX5_reach_35 (by decide) ?_
      refine z_goto (tgt := 40) dX5_reach_36 (by decide) ?_
      exact z_iret dX5_reach_40 rfl (en0 _ _ _ _) rfl
    · skip
      refine z_lload_n dX5_reach_18 rfl 2 rfl ?_
      refine z_aload_n dX5_reach_19 rfl 0 rfl ?_
      refine z_getR (kd := 50) dX5_reach_20 fl_X5_21 k_a0 (fun r3 kr3 => ?_)
      refine z_aload_n dX5_reach_23 rfl 0 rfl ?_
      refine z_getR (kd := 50) dX5_reach_24 fl_X5_9 k_a0 (fun r4 kr4 => ?_)
      refine z_iload_n dX5_reach_27 rfl 1 rfl ?_
      refine z_iald dX5_reach_28 kr4 (fun v5 => ?_)
      refine z_iald dX5_reach_29 kr3 (fun v6 => ?_)
      refine z_i2l dX5_reach_30 ?_
      refine z_lc_lt (tgt := 39) dX5_reach_31 dX5_reach_32 (by first | decide | omega) (fun _ => ?_) (fun _ => ?_)
      · skip
        refine z_iconst (v := 0) dX5_reach_39 (by decide) ?_
        exact z_iret dX5_reach_40 rfl (en0 _ _ _ _) rfl
      · skip
        refine z_iconst (v := 2) dX5_reach_35 (by decide) ?_
        refine z_goto (tgt := 40) dX5_reach_36 (by decide) ?_
        exact z_iret dX5_reach_40 rfl (en0 _ _ _ _) rfl
  · skip
    refine z_iconst (v := 1) dX5_reach_10 (by decide) ?_
    exact z_iret dX5_reach_11 rfl (en0 _ _ _ _) rfl
def fX5_laneOf (κ : Kd) (a0 : Nat) (l1 : Int32) (h : Hp) : Option (Int32) :=
  if (κ a0).1 = 5 then (
  to_ κ (g_R h a0 0) 50 fun r1 =>
  a_I κ h r1 l1 fun v2 =>
  if v2 = (-1 : Int32) then (
    some ((-1 : Int32))
  ) else (
    to_ κ (g_R h a0 2) 50 fun r3 =>
    to_ κ (g_R h a0 0) 50 fun r4 =>
    a_I κ h r4 l1 fun v5 =>
    a_I κ h r3 v5 fun v6 =>
    some (v6)
  )) else none
set_option maxHeartbeats 4000000 in
set_option maxRecDepth 100000 in
theorem tX5_laneOf (κ : Kd) (n lim : Nat) (h : Hp) (a0 : Nat) (l1 : Int32) : Ct_ mX5_laneOf [.ref (a0), .int (l1)] κ n lim h (pI κ n h) (fX5_laneOf κ a0 l1 h) := by
  refine ct_of (by decide) (Nat.le_of_ble_eq_true rfl) ?_
  unfold fX5_laneOf
  refine z_sub (L' := [(0, .ref (a0)), (1, .int (l1))]) [0, 1] rfl ?_
  refine z_or (fun k_a0 => ?_)
  refine z_aload_n dX5_laneOf_0 rfl 0 rfl ?_
  refine z_getR (kd := 50) dX5_laneOf_1 fl_X5_9 k_a0 (fun r1 kr1 => ?_)
  refine z_iload_n dX5_laneOf_4 rfl 1 rfl ?_
  refine z_iald dX5_laneOf_5 kr1 (fun v2 => ?_)
  refine z_iconst (v := -1) dX5_laneOf_6 (by decide) ?_
  refine z_icmp_ne (tgt := 14) dX5_laneOf_7 (by first | decide | omega) (fun _ => ?_) (fun _ => ?_)
  · skip
    refine z_aload_n dX5_laneOf_14 rfl 0 rfl ?_
    refine z_getR (kd := 50) dX5_laneOf_15 fl_X5_18 k_a0 (fun r3 kr3 => ?_)
    refine z_aload_n dX5_laneOf_18 rfl 0 rfl ?_
    refine z_getR (kd := 50) dX5_laneOf_19 fl_X5_9 k_a0 (fun r4 kr4 => ?_)
    refine z_iload_n dX5_laneOf_22 rfl 1 rfl ?_
    refine z_iald dX5_laneOf_23 kr4 (fun v5 => ?_)
    refine z_iald dX5_laneOf_24 kr3 (fun v6 => ?_)
    exact z_iret dX5_laneOf_25 rfl (en0 _ _ _ _) rfl
  · skip
    refine z_iconst (v := -1) dX5_laneOf_10 (by decide) ?_
    refine z_goto (tgt := 25) dX5_laneOf_11 (by decide) ?_
    exact z_iret dX5_laneOf_25 rfl (en0 _ _ _ _) rfl
def fX5_reachAsked (κ : Kd) (a0 : Nat) (l1 : Int32) (l2 : Int32) (l3 : Int64) (h : Hp) : Option (Int32) :=
  if (κ a0).1 = 5 then (
  (fX5_reach κ a0 l1 l3 h).bind fun v1 =>
  if v1 = 0 then (
    (fX5_laneOf κ a0 l1 h).bind fun v2 =>
    if v2 = l2 then (
      some ((0 : Int32))
    ) else (
      (fX5_laneOf κ a0 l1 h).bind fun v3 =>
      (fX3_goesInto κ v3 l2 h).bind fun v4 =>
      if v4 = 0 then (
        some ((7 : Int32))
      ) else (
        some ((0 : Int32))
      )
    )
  ) else (
    some (v1)
  )) else none
set_option maxHeartbeats 4000000 in
set_option maxRecDepth 100000 in
theorem tX5_reachAsked (κ : Kd) (n lim : Nat) (h : Hp) (a0 : Nat) (l1 : Int32) (l2 : Int32) (l3 : Int64) : Ct_ mX5_reachAsked [.ref (a0), .int (l1), .int (l2), .long (l3)] κ n lim h (pI κ n h) (fX5_reachAsked κ a0 l1 l2 l3 h) := by
  refine ct_of (by decide) (Nat.le_of_ble_eq_true rfl) ?_
  unfold fX5_reachAsked
  refine z_sub (L' := [(0, .ref (a0)), (1, .int (l1)), (2, .int (l2)), (3, .long (l3))]) [0, 1, 2, 3] rfl ?_
  refine z_or (fun k_a0 => ?_)
  refine z_aload_n dX5_reachAsked_0 rfl 0 rfl ?_
  refine z_iload_n dX5_reachAsked_1 rfl 1 rfl ?_
  refine z_lload_n dX5_reachAsked_2 rfl 3 rfl ?_
  refine z_pI (as := [.ref (a0), .int (l1), .long (l3)]) (rn_V dX5_reachAsked_3 mf_X5_reach in_X5_reach lk_X5_48 ⟨by decide, by decide⟩ cl_4 rfl k_a0 rfl (Nat.le_of_ble_eq_true rfl)) (tX5_reach _ _ _ _ _ _ _) cz_X5_reach (c00 _) (fun v1 => ?_)
  refine z_istore (L' := [(5, .int (v1)), (0, .ref (a0)), (1, .int (l1)), (2, .int (l2)), (3, .long (l3))]) dX5_reachAsked_6 (by decide) rfl ?_
  refine z_iload dX5_reachAsked_8 0 rfl ?_
  refine z_if_eq (tgt := 16) dX5_reachAsked_10 (by first | decide | omega) (fun _ => ?_) (fun _ => ?_)
  · skip
    refine z_aload_n dX5_reachAsked_16 rfl 1 rfl ?_
    refine z_iload_n dX5_reachAsked_17 rfl 2 rfl ?_
    refine z_pI (as := [.ref (a0), .int (l1)]) (rn_V dX5_reachAsked_18 mf_X5_laneOf in_X5_laneOf lk_X5_52 ⟨by decide, by decide⟩ cl_4 rfl k_a0 rfl (Nat.le_of_ble_eq_true rfl)) (tX5_laneOf _ _ _ _ _ _) cz_X5_laneOf (c00 _) (fun v2 => ?_)
    refine z_iload_n dX5_reachAsked_21 rfl 3 rfl ?_
    refine z_icmp_eq (tgt := 37) dX5_reachAsked_22 (by first | decide | omega) (fun _ => ?_) (fun _ => ?_)
    · skip
      refine z_iconst (v := 0) dX5_reachAsked_37 (by decide) ?_
      refine z_goto (tgt := 43) dX5_reachAsked_38 (by decide) ?_
      exact z_iret dX5_reachAsked_43 rfl (en0 _ _ _ _) rfl
    · skip
      refine z_aload_n dX5_reachAsked_25 rfl 1 rfl ?_
      refine z_iload_n dX5_reachAsked_26 rfl 2 rfl ?_
      refine z_pI (as := [.ref (a0), .int (l1)]) (rn_V dX5_reachAsked_27 mf_X5_laneOf in_X5_laneOf lk_X5_52 ⟨by decide, by decide⟩ cl_4 rfl k_a0 rfl (Nat.le_of_ble_eq_true rfl)) (tX5_laneOf _ _ _ _ _ _) cz_X5_laneOf (c00 _) (fun v3 => ?_)
      refine z_iload_n dX5_reachAsked_30 rfl 3 rfl ?_
      refine z_pI (as := [.int (v3), .int (l2)]) (rn_S dX5_reachAsked_31 mf_X3_goesInto in_X3_goesInto lk_X5_56 ⟨by decide, by decide⟩ rfl (Nat.le_of_ble_eq_true rfl)) (tX3_goesInto _ _ _ _ _ _) cz_X3_goesInto (c00 _) (fun v4 => ?_)
      refine z_if_eq (tgt := 41) dX5_reachAsked_34 (by first | decide | omega) (fun _ => ?_) (fun _ => ?_)
      · skip
        refine z_bipush (v := 7) dX5_reachAsked_41 (by decide) ?_
        exact z_iret dX5_reachAsked_43 rfl (en0 _ _ _ _) rfl
      · skip
        refine z_iconst (v := 0) dX5_reachAsked_37 (by decide) ?_
        refine z_goto (tgt := 43) dX5_reachAsked_38 (by decide) ?_
        exact z_iret dX5_reachAsked_43 rfl (en0 _ _ _ _) rfl
  · skip
    refine z_iload dX5_reachAsked_13 0 rfl ?_
    exact z_iret dX5_reachAsked_15 rfl (en0 _ _ _ _) rfl
def fX5_reachPut (κ : Kd) (a0 : Nat) (l1 : Int32) (l2 : Int32) (l3 : Int64) (h : Hp) : Option (Int32) :=
  if (κ a0).1 = 5 then (
  (fX5_reach κ a0 l1 l3 h).bind fun v1 =>
  if v1 = 0 then (
    (fX5_laneOf κ a0 l1 h).bind fun v2 =>
    if v2 = l2 then (
      some ((0 : Int32))
    ) else (
      (fX5_laneOf κ a0 l1 h).bind fun v3 =>
      (fX3_goesInto κ l2 v3 h).bind fun v4 =>
      if v4 = 0 then (
        some ((7 : Int32))
      ) else (
        some ((0 : Int32))
      )
    )
  ) else (
    some (v1)
  )) else none
set_option maxHeartbeats 4000000 in
set_option maxRecDepth 100000 in
theorem tX5_reachPut (κ : Kd) (n lim : Nat) (h : Hp) (a0 : Nat) (l1 : Int32) (l2 : Int32) (l3 : Int64) : Ct_ mX5_reachPut [.ref (a0), .int (l1), .int (l2), .long (l3)] κ n lim h (pI κ n h) (fX5_reachPut κ a0 l1 l2 l3 h) := by
  refine ct_of (by decide) (Nat.le_of_ble_eq_true rfl) ?_
  unfold fX5_reachPut
  refine z_sub (L' := [(0, .ref (a0)), (1, .int (l1)), (2, .int (l2)), (3, .long (l3))]) [0, 1, 2, 3] rfl ?_
  refine z_or (fun k_a0 => ?_)
  refine z_aload_n dX5_reachPut_0 rfl 0 rfl ?_
  refine z_iload_n dX5_reachPut_1 rfl 1 rfl ?_
  refine z_lload_n dX5_reachPut_2 rfl 3 rfl ?_
  refine z_pI (as := [.ref (a0), .int (l1), .long (l3)]) (rn_V dX5_reachPut_3 mf_X5_reach in_X5_reach lk_X5_48 ⟨by decide, by decide⟩ cl_4 rfl k_a0 rfl (Nat.le_of_ble_eq_true rfl)) (tX5_reach _ _ _ _ _ _ _) cz_X5_reach (c00 _) (fun v1 => ?_)
  refine z_istore (L' := [(5, .int (v1)), (0, .ref (a0)), (1, .int (l1)), (2, .int (l2)), (3, .long (l3))]) dX5_reachPut_6 (by decide) rfl ?_
  refine z_iload dX5_reachPut_8 0 rfl ?_
  refine z_if_eq (tgt := 16) dX5_reachPut_10 (by first | decide | omega) (fun _ => ?_) (fun _ => ?_)
  · skip
    refine z_aload_n dX5_reachPut_16 rfl 1 rfl ?_
    refine z_iload_n dX5_reachPut_17 rfl 2 rfl ?_
    refine z_pI (as := [.ref (a0), .int (l1)]) (rn_V dX5_reachPut_18 mf_X5_laneOf in_X5_laneOf lk_X5_52 ⟨by decide, by decide⟩ cl_4 rfl k_a0 rfl (Nat.le_of_ble_eq_true rfl)) (tX5_laneOf _ _ _ _ _ _) cz_X5_laneOf (c00 _) (fun v2 => ?_)
    refine z_iload_n dX5_reachPut_21 rfl 3 rfl ?_
    refine z_icmp_eq (tgt := 37) dX5_reachPut_22 (by first | decide | omega) (fun _ => ?_) (fun _ => ?_)
    · skip
      refine z_iconst (v := 0) dX5_reachPut_37 (by decide) ?_
      refine z_goto (tgt := 43) dX5_reachPut_38 (by decide) ?_
      exact z_iret dX5_reachPut_43 rfl (en0 _ _ _ _) rfl
    · skip
      refine z_iload_n dX5_reachPut_25 rfl 3 rfl ?_
      refine z_aload_n dX5_reachPut_26 rfl 1 rfl ?_
      refine z_iload_n dX5_reachPut_27 rfl 2 rfl ?_
      refine z_pI (as := [.ref (a0), .int (l1)]) (rn_V dX5_reachPut_28 mf_X5_laneOf in_X5_laneOf lk_X5_52 ⟨by decide, by decide⟩ cl_4 rfl k_a0 rfl (Nat.le_of_ble_eq_true rfl)) (tX5_laneOf _ _ _ _ _ _) cz_X5_laneOf (c00 _) (fun v3 => ?_)
      refine z_pI (as := [.int (l2), .int (v3)]) (rn_S dX5_reachPut_31 mf_X3_goesInto in_X3_goesInto lk_X5_56 ⟨by decide, by decide⟩ rfl (Nat.le_of_ble_eq_true rfl)) (tX3_goesInto _ _ _ _ _ _) cz_X3_goesInto (c00 _) (fun v4 => ?_)
      refine z_if_eq (tgt := 41) dX5_reachPut_34 (by first | decide | omega) (fun _ => ?_) (fun _ => ?_)
      · skip
        refine z_bipush (v := 7) dX5_reachPut_41 (by decide) ?_
        exact z_iret dX5_reachPut_43 rfl (en0 _ _ _ _) rfl
      · skip
        refine z_iconst (v := 0) dX5_reachPut_37 (by decide) ?_
        refine z_goto (tgt := 43) dX5_reachPut_38 (by decide) ?_
        exact z_iret dX5_reachPut_43 rfl (en0 _ _ _ _) rfl
  · skip
    refine z_iload dX5_reachPut_13 0 rfl ?_
    exact z_iret dX5_reachPut_15 rfl (en0 _ _ _ _) rfl
def fX5_reachHeld (κ : Kd) (a0 : Nat) (l1 : Int32) (l2 : Int32) (l3 : Int64) (h : Hp) : Option (Int32) :=
  if (κ a0).1 = 5 then (
  to_ κ (g_R h a0 0) 50 fun r1 =>
  a_I κ h r1 l1 fun v2 =>
  if v2 = (-1 : Int32) then (
    (fX5_reach κ a0 l1 l3 h).bind fun v3 =>
    some (v3)
  ) else (
    to_ κ (g_R h a0 2) 50 fun r4 =>
    to_ κ (g_R h a0 0) 50 fun r5 =>
    a_I κ h r5 l1 fun v6 =>
    a_I κ h r4 v6 fun v7 =>
    if v7 = l2 then (
      (fX5_reach κ a0 l1 l3 h).bind fun v8 =>
      some (v8)
    ) else (
      some ((3 : Int32))
    )
  )) else none
set_option maxHeartbeats 4000000 in
set_option maxRecDepth 100000 in
theorem tX5_reachHeld (κ : Kd) (n lim : Nat) (h : Hp) (a0 : Nat) (l1 : Int32) (l2 : Int32) (l3 : Int64) : Ct_ mX5_reachHeld [.ref (a0), .int (l1), .int (l2), .long (l3)] κ n lim h (pI κ n h) (fX5_reachHeld κ a0 l1 l2 l3 h) := by
  refine ct_of (by decide) (Nat.le_of_ble_eq_true rfl) ?_
  unfold fX5_reachHeld
  refine z_sub (L' := [(0, .ref (a0)), (1, .int (l1)), (2, .int (l2)), (3, .long (l3))]) [0, 1, 2, 3] rfl ?_
  refine z_or (fun k_a0 => ?_)
  refine z_aload_n dX5_reachHeld_0 rfl 0 rfl ?_
  refine z_getR (kd := 50) dX5_reachHeld_1 fl_X5_9 k_a0 (fun r1 kr1 => ?_)
  refine z_iload_n dX5_reachHeld_4 rfl 1 rfl ?_
  refine z_iald dX5_reachHeld_5 kr1 (fun v2 => ?_)
  refine z_iconst (v := -1) dX5_reachHeld_6 (by decide) ?_
  refine z_icmp_eq (tgt := 29) dX5_reachHeld_7 (by first | decide | omega) (fun _ => ?_) (fun _ => ?_)
  · skip
    refine z_aload_n dX5_reachHeld_29 rfl 0 rfl ?_
    refine z_iload_n dX5_reachHeld_30 rfl 1 rfl ?_
    refine z_lload_n dX5_reachHeld_31 rfl 3 rfl ?_
    refine z_pI (as := [.ref (a0), .int (l1), .long (l3)]) (rn_V dX5_reachHeld_32 mf_X5_reach in_X5_reach lk_X5_48 ⟨by decide, by decide⟩ cl_4 rfl k_a0 rfl (Nat.le_of_ble_eq_true rfl)) (tX5_reach _ _ _ _ _ _ _) cz_X5_reach (c00 _) (fun v3 => ?_)
    exact z_iret dX5_reachHeld_35 rfl (en0 _ _ _ _) rfl
  · skip
    refine z_aload_n dX5_reachHeld_10 rfl 0 rfl ?_
    refine z_getR (kd := 50) dX5_reachHeld_11 fl_X5_18 k_a0 (fun r4 kr4 => ?_)
    refine z_aload_n dX5_reachHeld_14 rfl 0 rfl ?_
    refine z_getR (kd := 50) dX5_reachHeld_15 fl_X5_9 k_a0 (fun r5 kr5 => ?_)
    refine z_iload_n dX5_reachHeld_18 rfl 1 rfl ?_
    refine z_iald dX5_reachHeld_19 kr5 (fun v6 => ?_)
    refine z_iald dX5_reachHeld_20 kr4 (fun v7 => ?_)
    refine z_iload_n dX5_reachHeld_21 rfl 2 rfl ?_
    refine z_icmp_eq (tgt := 29) dX5_reachHeld_22 (by first | decide | omega) (fun _ => ?_) (fun _ => ?_)
    · skip
      refine z_aload_n dX5_reachHeld_29 rfl 0 rfl ?_
      refine z_iload_n dX5_reachHeld_30 rfl 1 rfl ?_
      refine z_lload_n dX5_reachHeld_31 rfl 3 rfl ?_
      refine z_pI (as := [.ref (a0), .int (l1), .long (l3)]) (rn_V dX5_reachHeld_32 mf_X5_reach in_X5_reach lk_X5_48 ⟨by decide, by decide⟩ cl_4 rfl k_a0 rfl (Nat.le_of_ble_eq_true rfl)) (tX5_reach _ _ _ _ _ _ _) cz_X5_reach (c00 _) (fun v8 => ?_)
      exact z_iret dX5_reachHeld_35 rfl (en0 _ _ _ _) rfl
    · skip
      refine z_iconst (v := 3) dX5_reachHeld_25 (by decide) ?_
      refine z_goto (tgt := 35) dX5_reachHeld_26 (by decide) ?_
      exact z_iret dX5_reachHeld_35 rfl (en0 _ _ _ _) rfl
def fX4_reachItem (κ : Kd) (a0 : Nat) (l1 : Int32) (l2 : Int32) (l3 : Int32) (l4 : Int64) (h : Hp) : Option (Int32) :=
  if (κ a0).1 = 4 then (
  if l1 = (17 : Int32) then (
    to_ κ (g_R h a0 0) 5 fun r1 =>
    (fX5_reachAsked κ r1 l2 l3 l4 h).bind fun v2 =>
    some (v2)
  ) else
  if l1 = (18 : Int32) then (
    to_ κ (g_R h a0 0) 5 fun r5 =>
    (fX5_reachPut κ r5 l2 l3 l4 h).bind fun v6 =>
    some (v6)
  ) else
  (
    to_ κ (g_R h a0 0) 5 fun r9 =>
    (fX5_reachHeld κ r9 l2 l3 l4 h).bind fun v10 =>
    some (v10)
  )) else none
set_option maxHeartbeats 4000000 in
set_option maxRecDepth 100000 in
theorem tX4_reachItem (κ : Kd) (n lim : Nat) (h : Hp) (a0 : Nat) (l1 : Int32) (l2 : Int32) (l3 : Int32) (l4 : Int64) : Ct_ mX4_reachItem [.ref (a0), .int (l1), .int (l2), .int (l3), .long (l4)] κ n lim h (pI κ n h) (fX4_reachItem κ a0 l1 l2 l3 l4 h) := by
  refine ct_of (by decide) (Nat.le_of_ble_eq_true rfl) ?_
  unfold fX4_reachItem
  refine z_sub (L' := [(0, .ref (a0)), (1, .int (l1)), (2, .int (l2)), (3, .int (l3)), (4, .long (l4))]) [0, 1, 2, 3, 4] rfl ?_
  refine z_or (fun k_a0 => ?_)
  refine z_iload_n dX4_reachItem_0 rfl 1 rfl ?_
  refine z_ite (fun c4 => ?_) (fun n3 => ?_)
  · refine z_lkp (tgt := 28) (off := 27) dX4_reachItem_1 (17) c4 (by decide) (by decide) (by decide) ?_
    refine z_aload_n dX4_reachItem_28 rfl 0 rfl ?_
    refine z_getR (kd := 5) dX4_reachItem_29 fl_X4_12 k_a0 (fun r1 kr1 => ?_)
    refine z_iload_n dX4_reachItem_32 rfl 2 rfl ?_
    refine z_iload_n dX4_reachItem_33 rfl 3 rfl ?_
    refine z_lload dX4_reachItem_34 4 rfl ?_
    refine z_pI (as := [.ref (r1), .int (l2), .int (l3), .long (l4)]) (rn_V dX4_reachItem_36 mf_X5_reachAsked in_X5_reachAsked lk_X4_276 ⟨by decide, by decide⟩ cl_4 rfl kr1 rfl (Nat.le_of_ble_eq_true rfl)) (tX5_reachAsked _ _ _ _ _ _ _ _) cz_X5_reachAsked (c00 _) (fun v2 => ?_)
    exact z_iret dX4_reachItem_39 rfl (en0 _ _ _ _) rfl
  refine z_ite (fun c8 => ?_) (fun n7 => ?_)
  · refine z_lkp (tgt := 40) (off := 39) dX4_reachItem_1 (18) c8 (by decide) (by decide) (by decide) ?_
    refine z_aload_n dX4_reachItem_40 rfl 0 rfl ?_
    refine z_getR (kd := 5) dX4_reachItem_41 fl_X4_12 k_a0 (fun r5 kr5 => ?_)
    refine z_iload_n dX4_reachItem_44 rfl 2 rfl ?_
    refine z_iload_n dX4_reachItem_45 rfl 3 rfl ?_
    refine z_lload dX4_reachItem_46 4 rfl ?_
    refine z_pI (as := [.ref (r5), .int (l2), .int (l3), .long (l4)]) (rn_V dX4_reachItem_48 mf_X5_reachPut in_X5_reachPut lk_X4_280 ⟨by decide, by decide⟩ cl_4 rfl kr5 rfl (Nat.le_of_ble_eq_true rfl)) (tX5_reachPut _ _ _ _ _ _ _ _) cz_X5_reachPut (c00 _) (fun v6 => ?_)
    exact z_iret dX4_reachItem_51 rfl (en0 _ _ _ _) rfl
  refine z_lkd (tgt := 52) dX4_reachItem_1 (by decide) ((lv_osw (k := 17) n3 (by decide)).trans ((lv_osw (k := 18) n7 (by decide)).trans rfl)) (by decide) ?_
  refine z_aload_n dX4_reachItem_52 rfl 0 rfl ?_
  refine z_getR (kd := 5) dX4_reachItem_53 fl_X4_12 k_a0 (fun r9 kr9 => ?_)
  refine z_iload_n dX4_reachItem_56 rfl 2 rfl ?_
  refine z_iload_n dX4_reachItem_57 rfl 3 rfl ?_
  refine z_lload dX4_reachItem_58 4 rfl ?_
  refine z_pI (as := [.ref (r9), .int (l2), .int (l3), .long (l4)]) (rn_V dX4_reachItem_60 mf_X5_reachHeld in_X5_reachHeld lk_X4_283 ⟨by decide, by decide⟩ cl_4 rfl kr9 rfl (Nat.le_of_ble_eq_true rfl)) (tX5_reachHeld _ _ _ _ _ _ _ _) cz_X5_reachHeld (c00 _) (fun v10 => ?_)
  exact z_iret dX4_reachItem_63 rfl (en0 _ _ _ _) rfl
def fX5_valueAt (κ : Kd) (a0 : Nat) (l1 : Int32) (l2 : Int64) (h : Hp) : Option (Int64) :=
  if (κ a0).1 = 5 then (
  (fX5_reach κ a0 l1 l2 h).bind fun v1 =>
  if v1 = 0 then (
    to_ κ (g_R h a0 4) 51 fun r2 =>
    to_ κ (g_R h a0 0) 50 fun r3 =>
    a_I κ h r3 l1 fun v4 =>
    a_J κ h r2 ((v4 * (12 : Int32)) + l2.toInt32) fun v5 =>
    some (v5)
  ) else (
    some ((0 : Int64))
  )) else none
set_option maxHeartbeats 4000000 in
set_option maxRecDepth 100000 in
theorem tX5_valueAt (κ : Kd) (n lim : Nat) (h : Hp) (a0 : Nat) (l1 : Int32) (l2 : Int64) : Ct_ mX5_valueAt [.ref (a0), .int (l1), .long (l2)] κ n lim h (pJ κ n h) (fX5_valueAt κ a0 l1 l2 h) := by
  refine ct_of (by decide) (Nat.le_of_ble_eq_true rfl) ?_
  unfold fX5_valueAt
  refine z_sub (L' := [(0, .ref (a0)), (1, .int (l1)), (2, .long (l2))]) [0, 1, 2] rfl ?_
  refine z_or (fun k_a0 => ?_)
  refine z_aload_n dX5_valueAt_0 rfl 0 rfl ?_
  refine z_iload_n dX5_valueAt_1 rfl 1 rfl ?_
  refine z_lload_n dX5_valueAt_2 rfl 2 rfl ?_
  refine z_pI (as := [.ref (a0), .int (l1), .long (l2)]) (rn_V dX5_valueAt_3 mf_X5_reach in_X5_reach lk_X5_48 ⟨by decide, by decide⟩ cl_4 rfl k_a0 rfl (Nat.le_of_ble_eq_true rfl)) (tX5_reach _ _ _ _ _ _ _) cz_X5_reach (c00 _) (fun v1 => ?_)
  refine z_if_ne (tgt := 29) dX5_valueAt_6 (by first | decide | omega) (fun _ => ?_) (fun _ => ?_)
  · skip
    refine z_lconst (v := 0) dX5_valueAt_29 (by decide) ?_
    exact z_lret dX5_valueAt_30 rfl (en0 _ _ _ _) rfl
  · skip
    refine z_aload_n dX5_valueAt_9 rfl 0 rfl ?_
    refine z_getR (kd := 51) dX5_valueAt_10 fl_X5_24 k_a0 (fun r2 kr2 => ?_)
    refine z_aload_n dX5_valueAt_13 rfl 0 rfl ?_
    refine z_getR (kd := 50) dX5_valueAt_14 fl_X5_9 k_a0 (fun r3 kr3 => ?_)
    refine z_iload_n dX5_valueAt_17 rfl 1 rfl ?_
    refine z_iald dX5_valueAt_18 kr3 (fun v4 => ?_)
    refine z_bipush (v := 12) dX5_valueAt_19 (by decide) ?_
    refine z_imul dX5_valueAt_21 ?_
    refine z_lload_n dX5_valueAt_22 rfl 2 rfl ?_
    refine z_l2i dX5_valueAt_23 ?_
    refine z_iadd dX5_valueAt_24 ?_
    refine z_lald dX5_valueAt_25 kr2 (fun v5 => ?_)
    refine z_goto (tgt := 30) dX5_valueAt_26 (by decide) ?_
    exact z_lret dX5_valueAt_30 rfl (en0 _ _ _ _) rfl
def fX5_store (κ : Kd) (a0 : Nat) (l1 : Int32) (l2 : Int64) (l4 : Int64) (h : Hp) : Option (Hp) :=
  if (κ a0).1 = 5 then (
  (fX5_reach κ a0 l1 l2 h).bind fun v1 =>
  if v1 = 0 then (
    to_ κ (g_R h a0 4) 51 fun r2 =>
    to_ κ (g_R h a0 0) 50 fun r3 =>
    a_I κ h r3 l1 fun v4 =>
    to_ κ (g_R h a0 2) 50 fun r5 =>
    to_ κ (g_R h a0 0) 50 fun r6 =>
    a_I κ h r6 l1 fun v7 =>
    a_I κ h r5 v7 fun v8 =>
    (fX3_through κ v8 l4 h).bind fun v9 =>
    w_J κ h r2 ((v4 * (12 : Int32)) + l2.toInt32) v9 fun h10 =>
    some h10
  ) else (
    some h
  )) else none
set_option maxHeartbeats 4000000 in
set_option maxRecDepth 100000 in
theorem tX5_store (κ : Kd) (n lim : Nat) (h : Hp) (a0 : Nat) (l1 : Int32) (l2 : Int64) (l4 : Int64) : Ct_ mX5_store [.ref (a0), .int (l1), .long (l2), .long (l4)] κ n lim h (eV κ n) (fX5_store κ a0 l1 l2 l4 h) := by
  refine ct_of (by decide) (Nat.le_of_ble_eq_true rfl) ?_
  unfold fX5_store
  refine z_sub (L' := [(0, .ref (a0)), (1, .int (l1)), (2, .long (l2)), (4, .long (l4))]) [0, 1, 2, 3] rfl ?_
  refine z_or (fun k_a0 => ?_)
  refine z_aload_n dX5_store_0 rfl 0 rfl ?_
  refine z_iload_n dX5_store_1 rfl 1 rfl ?_
  refine z_lload_n dX5_store_2 rfl 2 rfl ?_
  refine z_pI (as := [.ref (a0), .int (l1), .long (l2)]) (rn_V dX5_store_3 mf_X5_reach in_X5_reach lk_X5_48 ⟨by decide, by decide⟩ cl_4 rfl k_a0 rfl (Nat.le_of_ble_eq_true rfl)) (tX5_reach _ _ _ _ _ _ _) cz_X5_reach (c00 _) (fun v1 => ?_)
  refine z_if_ne (tgt := 42) dX5_store_6 (by first | decide | omega) (fun _ => ?_) (fun _ => ?_)
  · skip
    exact z_vret dX5_store_42 rfl (en0 _ _ _ _) rfl
  · skip
    refine z_aload_n dX5_store_9 rfl 0 rfl ?_
    refine z_getR (kd := 51) dX5_store_10 fl_X5_24 k_a0 (fun r2 kr2 => ?_)
    refine z_aload_n dX5_store_13 rfl 0 rfl ?_
    refine z_getR (kd := 50) dX5_store_14 fl_X5_9 k_a0 (fun r3 kr3 => ?_)
    refine z_iload_n dX5_store_17 rfl 1 rfl ?_
    refine z_iald dX5_store_18 kr3 (fun v4 => ?_)
    refine z_bipush (v := 12) dX5_store_19 (by decide) ?_
    refine z_imul dX5_store_21 ?_
    refine z_lload_n dX5_store_22 rfl 2 rfl ?_
    refine z_l2i dX5_store_23 ?_
    refine z_iadd dX5_store_24 ?_
    refine z_aload_n dX5_store_25 rfl 0 rfl ?_
    refine z_getR (kd := 50) dX5_store_26 fl_X5_18 k_a0 (fun r5 kr5 => ?_)
    refine z_aload_n dX5_store_29 rfl 0 rfl ?_
    refine z_getR (kd := 50) dX5_store_30 fl_X5_9 k_a0 (fun r6 kr6 => ?_)
    refine z_iload_n dX5_store_33 rfl 1 rfl ?_
    refine z_iald dX5_store_34 kr6 (fun v7 => ?_)
    refine z_iald dX5_store_35 kr5 (fun v8 => ?_)
    refine z_lload dX5_store_36 3 rfl ?_
    refine z_pJ (as := [.int (v8), .long (l4)]) (rn_S dX5_store_38 mf_X3_through in_X3_through lk_X5_62 ⟨by decide, by decide⟩ rfl (Nat.le_of_ble_eq_true rfl)) (tX3_through _ _ _ _ _ _) cz_X3_through (c00 _) (fun v9 => ?_)
    refine z_last dX5_store_41 kr2 (fun h10 => ?_)
    exact z_vret dX5_store_42 rfl (en0 _ _ _ _) rfl
def fX4_useItem (κ : Kd) (a0 : Nat) (a1 : Nat) (l2 : Int32) (l3 : Int32) (l4 : Int32) (h : Hp) : Option (Int32 × Hp) :=
  if (κ a0).1 = 4 then (
  if (κ a1).1 = 2 then (
  (fX1_taken κ a1 (0 : Int32) h).bind fun v1 =>
  (fX1_taken κ a1 (1 : Int32) h).bind fun v2 =>
  (fX4_reachItem κ a0 l2 l3 l4 v1 h).bind fun v3 =>
  if v3 = 0 then (
    if l2 = (12 : Int32) then (
      to_ κ (g_R h a0 0) 5 fun r4 =>
      (fX5_valueAt κ r4 l3 v1 h).bind fun v5 =>
      b2 (fX1_lay κ a1 v5 h) fun v6 h7 =>
      some (v6, h7)
    ) else
    if l2 = (17 : Int32) then (
      to_ κ (g_R h a0 0) 5 fun r10 =>
      (fX5_valueAt κ r10 l3 v1 h).bind fun v11 =>
      (fX3_through κ l4 v11 h).bind fun v12 =>
      b2 (fX1_lay κ a1 v12 h) fun v13 h14 =>
      some (v13, h14)
    ) else
    if l2 = (18 : Int32) then (
      to_ κ (g_R h a0 0) 5 fun r17 =>
      (fX3_through κ l4 v2 h).bind fun v18 =>
      (fX5_store κ r17 l3 v1 v18 h).bind fun h19 =>
      some ((0 : Int32), h19)
    ) else
    (
      to_ κ (g_R h a0 0) 5 fun r22 =>
      (fX5_store κ r22 l3 v1 v2 h).bind fun h23 =>
      some ((0 : Int32), h23)
    )
  ) else (
    some (v3, h)
  )) else none) else none
set_option maxHeartbeats 4000000 in
set_option maxRecDepth 100000 in
theorem tX4_useItem (κ : Kd) (n lim : Nat) (h : Hp) (a0 : Nat) (a1 : Nat) (l2 : Int32) (l3 : Int32) (l4 : Int32) : Ct_ mX4_useItem [.ref (a0), .ref (a1), .int (l2), .int (l3), .int (l4)] κ n lim h (eI κ n) (fX4_useItem κ a0 a1 l2 l3 l4 h) := by
  refine ct_of (by decide) (Nat.le_of_ble_eq_true rfl) ?_
  unfold fX4_useItem
  refine z_sub (L' := [(0, .ref (a0)), (1, .ref (a1)), (2, .int (l2)), (3, .int (l3)), (4, .int (l4))]) [0, 1, 2, 3, 4] rfl ?_
  refine z_or (fun k_a0 => ?_)
  refine z_or (fun k_a1 => ?_)
  refine z_aload_n dX4_useItem_0 rfl 1 rfl ?_
  refine z_iconst (v := 0) dX4_useItem_1 (by decide) ?_
  refine z_pJ (as := [.ref (a1), .int ((0 : Int32))]) (rn_V dX4_useItem_2 mf_X1_taken in_X1_taken lk_X4_219 ⟨by decide, by decide⟩ cl_1 rfl k_a1 rfl (Nat.le_of_ble_eq_true rfl)) (tX1_taken _ _ _ _ _ _) cz_X1_taken (c00 _) (fun v1 => ?_)
  refine z_lstore (L' := [(5, .long (v1)), (0, .ref (a0)), (1, .ref (a1)), (2, .int (l2)), (3, .int (l3)), (4, .int (l4))]) dX4_useItem_5 (by decide) rfl ?_
  refine z_aload_n dX4_useItem_7 rfl 2 rfl ?_
  refine z_iconst (v := 1) dX4_useItem_8 (by decide) ?_
  refine z_pJ (as := [.ref (a1), .int ((1 : Int32))]) (rn_V dX4_useItem_9 mf_X1_taken in_X1_taken lk_X4_219 ⟨by decide, by decide⟩ cl_1 rfl k_a1 rfl (Nat.le_of_ble_eq_true rfl)) (tX1_taken _ _ _ _ _ _) cz_X1_taken (c00 _) (fun v2 => ?_)
  refine z_lstore (L' := [(7, .long (v2)), (5, .long (v1)), (0, .ref (a0)), (1, .ref (a1)), (2, .int (l2)), (3, .int (l3)), (4, .int (l4))]) dX4_useItem_12 (by decide) rfl ?_
  refine z_aload_n dX4_useItem_14 rfl 2 rfl ?_
  refine z_iload_n dX4_useItem_15 rfl 4 rfl ?_
  refine z_iload_n dX4_useItem_16 rfl 5 rfl ?_
  refine z_iload dX4_useItem_17 6 rfl ?_
  refine z_lload dX4_useItem_19 1 rfl ?_
  refine z_pI (as := [.ref (a0), .int (l2), .int (l3), .int (l4), .long (v1)]) (rn_V dX4_useItem_21 mf_X4_reachItem in_X4_reachItem lk_X4_259 ⟨by decide, by decide⟩ cl_3 rfl k_a0 rfl (Nat.le_of_ble_eq_true rfl)) (tX4_reachItem _ _ _ _ _ _ _ _ _) cz_X4_reachItem (c00 _) (fun v3 => ?_)
  refine z_istore (L' := [(9, .int (v3)), (7, .long (v2)), (5, .long (v1)), (0, .ref (a0)), (1, .ref (a1)), (2, .int (l2)), (3, .int (l3)), (4, .int (l4))]) dX4_useItem_24 (by decide) rfl ?_
  refine z_iload dX4_useItem_26 0 rfl ?_
  refine z_if_eq (tgt := 34) dX4_useItem_28 (by first | decide | omega) (fun _ => ?_) (fun _ => ?_)
  · skip
    refine z_iload_n dX4_useItem_34 rfl 5 rfl ?_
    refine z_ite (fun c9 => ?_) (fun n8 => ?_)
    · refine z_lkp (tgt := 68) (off := 33) dX4_useItem_35 (12) c9 (by decide) (by decide) (by decide) ?_
      refine z_aload_n dX4_useItem_68 rfl 4 rfl ?_
      refine z_aload_n dX4_useItem_69 rfl 3 rfl ?_
      refine z_getR (kd := 5) dX4_useItem_70 fl_X4_12 k_a0 (fun r4 kr4 => ?_)
      refine z_iload_n dX4_useItem_73 rfl 6 rfl ?_
      refine z_lload dX4_useItem_74 2 rfl ?_
      refine z_pJ (as := [.ref (r4), .int (l3), .long (v1)]) (rn_V dX4_useItem_76 mf_X5_valueAt in_X5_valueAt lk_X4_263 ⟨by decide, by decide⟩ cl_4 rfl kr4 rfl (Nat.le_of_ble_eq_true rfl)) (tX5_valueAt _ _ _ _ _ _ _) cz_X5_valueAt (c00 _) (fun v5 => ?_)
      refine z_cI (as := [.ref (a1), .long (v5)]) (rn_V dX4_useItem_79 mf_X1_lay in_X1_lay lk_X4_192 ⟨by decide, by decide⟩ cl_1 rfl k_a1 rfl (Nat.le_of_ble_eq_true rfl)) (tX1_lay _ _ _ _ _ _) cz_X1_lay (c00 _) (fun v6 h7 => ?_)
      exact z_iret dX4_useItem_82 rfl (en0 _ _ _ _) rfl
    refine z_ite (fun c16 => ?_) (fun n15 => ?_)
    · refine z_lkp (tgt := 83) (off := 48) dX4_useItem_35 (17) c16 (by decide) (by decide) (by decide) ?_
      refine z_aload_n dX4_useItem_83 rfl 4 rfl ?_
      refine z_iload dX4_useItem_84 7 rfl ?_
      refine z_aload_n dX4_useItem_86 rfl 3 rfl ?_
      refine z_getR (kd := 5) dX4_useItem_87 fl_X4_12 k_a0 (fun r10 kr10 => ?_)
      refine z_iload_n dX4_useItem_90 rfl 6 rfl ?_
      refine z_lload dX4_useItem_91 2 rfl ?_
      refine z_pJ (as := [.ref (r10), .int (l3), .long (v1)]) (rn_V dX4_useItem_93 mf_X5_valueAt in_X5_valueAt lk_X4_263 ⟨by decide, by decide⟩ cl_4 rfl kr10 rfl (Nat.le_of_ble_eq_true rfl)) (tX5_valueAt _ _ _ _ _ _ _) cz_X5_valueAt (c00 _) (fun v11 => ?_)
      refine z_pJ (as := [.int (l4), .long (v11)]) (rn_S dX4_useItem_96 mf_X3_through in_X3_through lk_X4_267 ⟨by decide, by decide⟩ rfl (Nat.le_of_ble_eq_true rfl)) (tX3_through _ _ _ _ _ _) cz_X3_through (c00 _) (fun v12 => ?_)
      refine z_cI (as := [.ref (a1), .long (v12)]) (rn_V dX4_useItem_99 mf_X1_lay in_X1_lay lk_X4_192 ⟨by decide, by decide⟩ cl_1 rfl k_a1 rfl (Nat.le_of_ble_eq_true rfl)) (tX1_lay _ _ _ _ _ _) cz_X1_lay (c00 _) (fun v13 h14 => ?_)
      exact z_iret dX4_useItem_102 rfl (en0 _ _ _ _) rfl
    refine z_ite (fun c21 => ?_) (fun n20 => ?_)
    · refine z_lkp (tgt := 103) (off := 68) dX4_useItem_35 (18) c21 (by decide) (by decide) (by decide) ?_
      refine z_aload_n dX4_useItem_103 rfl 3 rfl ?_
      refine z_getR (kd := 5) dX4_useItem_104 fl_X4_12 k_a0 (fun r17 kr17 => ?_)
      refine z_iload_n dX4_useItem_107 rfl 6 rfl ?_
      refine z_lload dX4_useItem_108 2 rfl ?_
      refine z_iload dX4_useItem_110 7 rfl ?_
      refine z_lload dX4_useItem_112 1 rfl ?_
      refine z_pJ (as := [.int (l4), .long (v2)]) (rn_S dX4_useItem_114 mf_X3_through in_X3_through lk_X4_267 ⟨by decide, by decide⟩ rfl (Nat.le_of_ble_eq_true rfl)) (tX3_through _ _ _ _ _ _) cz_X3_through (c00 _) (fun v18 => ?_)
      refine z_cV (as := [.ref (r17), .int (l3), .long (v1), .long (v18)]) (rn_V dX4_useItem_117 mf_X5_store in_X5_store lk_X4_272 ⟨by decide, by decide⟩ cl_4 rfl kr17 rfl (Nat.le_of_ble_eq_true rfl)) (tX5_store _ _ _ _ _ _ _ _) cz_X5_store (c00 _) (fun h19 => ?_)
      refine z_iconst (v := 0) dX4_useItem_120 (by decide) ?_
      exact z_iret dX4_useItem_121 rfl (en0 _ _ _ _) rfl
    refine z_lkd (tgt := 122) dX4_useItem_35 (by decide) ((lv_osw (k := 12) n8 (by decide)).trans ((lv_osw (k := 17) n15 (by decide)).trans ((lv_osw (k := 18) n20 (by decide)).trans rfl))) (by decide) ?_
    refine z_aload_n dX4_useItem_122 rfl 3 rfl ?_
    refine z_getR (kd := 5) dX4_useItem_123 fl_X4_12 k_a0 (fun r22 kr22 => ?_)
    refine z_iload_n dX4_useItem_126 rfl 6 rfl ?_
    refine z_lload dX4_useItem_127 2 rfl ?_
    refine z_lload dX4_useItem_129 1 rfl ?_
    refine z_cV (as := [.ref (r22), .int (l3), .long (v1), .long (v2)]) (rn_V dX4_useItem_131 mf_X5_store in_X5_store lk_X4_272 ⟨by decide, by decide⟩ cl_4 rfl kr22 rfl (Nat.le_of_ble_eq_true rfl)) (tX5_store _ _ _ _ _ _ _ _) cz_X5_store (c00 _) (fun h23 => ?_)
    refine z_iconst (v := 0) dX4_useItem_134 (by decide) ?_
    exact z_iret dX4_useItem_135 rfl (en0 _ _ _ _) rfl
  · skip
    refine z_iload dX4_useItem_31 0 rfl ?_
    exact z_iret dX4_useItem_33 rfl (en0 _ _ _ _) rfl
