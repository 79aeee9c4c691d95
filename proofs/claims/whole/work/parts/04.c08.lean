def fX9_number (κ : Kd) (a0 : Nat) (h : Hp) : Option (Int64) :=
  if (κ a0).1 = 8 then (
  to_ κ (g_R h a0 0) 4 fun r1 =>
  to_ κ (g_R h r1 7) 1 fun r2 =>
  some (g_J h r2 1)) else none
set_option maxHeartbeats 4000000 in
set_option maxRecDepth 100000 in
theorem tX9_number (κ : Kd) (n lim : Nat) (h : Hp) (a0 : Nat) : Ct_ mX9_number [.ref (a0)] κ n lim h (pJ κ n h) (fX9_number κ a0 h) := by
  refine ct_of (by decide) (Nat.le_of_ble_eq_true rfl) ?_
  unfold fX9_number
  refine z_sub (L' := [(0, .ref (a0))]) [0] rfl ?_
  refine z_or (fun k_a0 => ?_)
  refine z_aload_n dX9_number_0 rfl 0 rfl ?_
  refine z_getR (kd := 4) dX9_number_1 fl_X9_10 k_a0 (fun r1 kr1 => ?_)
  refine z_getR (kd := 1) dX9_number_4 fl_X9_119 kr1 (fun r2 kr2 => ?_)
  refine z_getJ dX9_number_7 fl_X9_149 kr2 ?_
  exact z_lret dX9_number_10 rfl (en0 _ _ _ _) rfl
def fX9_output (κ : Kd) (a0 : Nat) (l1 : Int32) (h : Hp) : Option (Int64) :=
  if (κ a0).1 = 8 then (
  if l1 < 0 then (
    some ((0 : Int64))
  ) else (
    to_ κ (g_R h a0 0) 4 fun r1 =>
    if (g_I h r1 9) ≤ l1 then (
      some ((0 : Int64))
    ) else (
      to_ κ (g_R h a0 0) 4 fun r2 =>
      to_ κ (g_R h r2 6) 51 fun r3 =>
      a_J κ h r3 l1 fun v4 =>
      some (v4)
    )
  )) else none
set_option maxHeartbeats 4000000 in
set_option maxRecDepth 100000 in
theorem tX9_output (κ : Kd) (n lim : Nat) (h : Hp) (a0 : Nat) (l1 : Int32) : Ct_ mX9_output [.ref (a0), .int (l1)] κ n lim h (pJ κ n h) (fX9_output κ a0 l1 h) := by
  refine ct_of (by decide) (Nat.le_of_ble_eq_true rfl) ?_
  unfold fX9_output
  refine z_sub (L' := [(0, .ref (a0)), (1, .int (l1))]) [0, 1] rfl ?_
  refine z_or (fun k_a0 => ?_)
  refine z_iload_n dX9_output_0 rfl 1 rfl ?_
  refine z_if_lt (tgt := 27) dX9_output_1 (by first | decide | omega) (fun _ => ?_) (fun _ => ?_)
  · skip
    refine z_lconst (v := 0) dX9_output_27 (by decide) ?_
    exact z_lret dX9_output_28 rfl (en0 _ _ _ _) rfl
  · skip
    refine z_iload_n dX9_output_4 rfl 1 rfl ?_
    refine z_aload_n dX9_output_5 rfl 0 rfl ?_
    refine z_getR (kd := 4) dX9_output_6 fl_X9_10 k_a0 (fun r1 kr1 => ?_)
    refine z_getI dX9_output_9 fl_X9_152 kr1 ?_
    refine z_icmp_ge (tgt := 27) dX9_output_12 (by first | decide | omega) (fun _ => ?_) (fun _ => ?_)
    · skip
      refine z_lconst (v := 0) dX9_output_27 (by decide) ?_
      exact z_lret dX9_output_28 rfl (en0 _ _ _ _) rfl
    · skip
      refine z_aload_n dX9_output_15 rfl 0 rfl ?_
      refine z_getR (kd := 4) dX9_output_16 fl_X9_10 k_a0 (fun r2 kr2 => ?_)
      refine z_getR (kd := 51) dX9_output_19 fl_X9_155 kr2 (fun r3 kr3 => ?_)
      refine z_iload_n dX9_output_22 rfl 1 rfl ?_
      refine z_lald dX9_output_23 kr3 (fun v4 => ?_)
      refine z_goto (tgt := 28) dX9_output_24 (by decide) ?_
      exact z_lret dX9_output_28 rfl (en0 _ _ _ _) rfl
def fX9_countOfRoutine (κ : Kd) (l0 : Int32) (l1 : Option Nat) (h : Hp) : Option (Int32) :=
  mt_ l1 (
    some ((-1000000 : Int32))
  ) fun a1 => (
    if (κ a1).1 = 6 then (
    if l0 = (4 : Int32) then (
      some (g_I h a1 0)
    ) else
    if l0 = (5 : Int32) then (
      some (g_I h a1 8)
    ) else
    if l0 = (6 : Int32) then (
      some (g_I h a1 9)
    ) else
    (
      some ((-1000000 : Int32))
    )
    ) else none)
set_option maxHeartbeats 4000000 in
set_option maxRecDepth 100000 in
theorem tX9_countOfRoutine (κ : Kd) (n lim : Nat) (h : Hp) (l0 : Int32) (l1 : Option Nat) : Ct_ mX9_countOfRoutine [.int (l0), va_rf (l1)] κ n lim h (pI κ n h) (fX9_countOfRoutine κ l0 l1 h) := by
  refine ct_of (by decide) (by cases l1 <;> exact Nat.le_of_ble_eq_true rfl) ?_
  unfold fX9_countOfRoutine
  refine z_sub (L' := [(0, .int (l0)), (1, va_rf (l1))]) [0, 1] rfl ?_
  refine z_aload_nQ dX9_countOfRoutine_0 rfl 1 rfl ?_
  refine z_ifnonnullM (tgt := 7) dX9_countOfRoutine_1 (by first | decide | omega) (fun e2 => ?_) (fun a1 e2 => ?_)
  · subst e2
    refine z_ldc dX9_countOfRoutine_4 co_X9_23 ?_
    exact z_iret dX9_countOfRoutine_6 rfl (en0 _ _ _ _) rfl
  · subst e2
    refine z_or (fun ka1 => ?_)
    refine z_iload_n dX9_countOfRoutine_7 rfl 0 rfl ?_
    refine z_ite (fun c4 => ?_) (fun n3 => ?_)
    · refine z_tin (tgt := 36) dX9_countOfRoutine_8 (4) c4 (by decide) (by decide) rfl (by decide) ?_
      refine z_aload_n dX9_countOfRoutine_36 rfl 1 rfl ?_
      refine z_getI dX9_countOfRoutine_37 fl_X9_182 ka1 ?_
      exact z_iret dX9_countOfRoutine_40 rfl (en0 _ _ _ _) rfl
    refine z_ite (fun c6 => ?_) (fun n5 => ?_)
    · refine z_tin (tgt := 41) dX9_countOfRoutine_8 (5) c6 (by decide) (by decide) rfl (by decide) ?_
      refine z_aload_n dX9_countOfRoutine_41 rfl 1 rfl ?_
      refine z_getI dX9_countOfRoutine_42 fl_X9_108 ka1 ?_
      exact z_iret dX9_countOfRoutine_45 rfl (en0 _ _ _ _) rfl
    refine z_ite (fun c8 => ?_) (fun n7 => ?_)
    · refine z_tin (tgt := 46) dX9_countOfRoutine_8 (6) c8 (by decide) (by decide) rfl (by decide) ?_
      refine z_aload_n dX9_countOfRoutine_46 rfl 1 rfl ?_
      refine z_getI dX9_countOfRoutine_47 fl_X9_185 ka1 ?_
      exact z_iret dX9_countOfRoutine_50 rfl (en0 _ _ _ _) rfl
    refine z_tdef (tgt := 51) dX9_countOfRoutine_8 [4, 5, 6] (List.forall_mem_cons.mpr ⟨n3, List.forall_mem_cons.mpr ⟨n5, List.forall_mem_cons.mpr ⟨n7, fun _ h => absurd h List.not_mem_nil⟩⟩⟩) (by decide +kernel) (by decide) ?_
    refine z_ldc dX9_countOfRoutine_51 co_X9_23 ?_
    exact z_iret dX9_countOfRoutine_53 rfl (en0 _ _ _ _) rfl
def fX9_count (κ : Kd) (a0 : Nat) (l1 : Int32) (l2 : Int32) (h : Hp) : Option (Int32) :=
  if (κ a0).1 = 8 then (
  if l1 = (0 : Int32) then (
    to_ κ (g_R h a0 0) 4 fun r1 =>
    to_ κ (g_R h r1 1) 7 fun r2 =>
    some (g_I h r2 5)
  ) else
  if l1 = (1 : Int32) then (
    to_ κ (g_R h a0 0) 4 fun r5 =>
    some (g_I h r5 4)
  ) else
  if l1 = (2 : Int32) then (
    to_ κ (g_R h a0 0) 4 fun r8 =>
    to_ κ (g_R h r8 2) 3 fun r9 =>
    some (g_I h r9 2)
  ) else
  if l1 = (3 : Int32) then (
    to_ κ (g_R h a0 0) 4 fun r12 =>
    some (g_I h r12 9)
  ) else
  (
    to_ κ (g_R h a0 0) 4 fun r15 =>
    (fX4_routineAt κ r15 l2 h).bind fun v16 =>
    (fX9_countOfRoutine κ l1 v16 h).bind fun v17 =>
    some (v17)
  )) else none
set_option maxHeartbeats 4000000 in
set_option maxRecDepth 100000 in
theorem tX9_count (κ : Kd) (n lim : Nat) (h : Hp) (a0 : Nat) (l1 : Int32) (l2 : Int32) : Ct_ mX9_count [.ref (a0), .int (l1), .int (l2)] κ n lim h (pI κ n h) (fX9_count κ a0 l1 l2 h) := by
  refine ct_of (by decide) (Nat.le_of_ble_eq_true rfl) ?_
  unfold fX9_count
  refine z_sub (L' := [(0, .ref (a0)), (1, .int (l1)), (2, .int (l2))]) [0, 1, 2] rfl ?_
  refine z_or (fun k_a0 => ?_)
  refine z_iload_n dX9_count_0 rfl 1 rfl ?_
  refine z_ite (fun c4 => ?_) (fun n3 => ?_)
  · refine z_tin (tgt := 32) dX9_count_1 (0) c4 (by decide) (by decide) rfl (by decide) ?_
    refine z_aload_n dX9_count_32 rfl 0 rfl ?_
    refine z_getR (kd := 4) dX9_count_33 fl_X9_10 k_a0 (fun r1 kr1 => ?_)
    refine z_getR (kd := 7) dX9_count_36 fl_X9_63 kr1 (fun r2 kr2 => ?_)
    refine z_getI dX9_count_39 fl_X9_159 kr2 ?_
    exact z_iret dX9_count_42 rfl (en0 _ _ _ _) rfl
  refine z_ite (fun c7 => ?_) (fun n6 => ?_)
  · refine z_tin (tgt := 43) dX9_count_1 (1) c7 (by decide) (by decide) rfl (by decide) ?_
    refine z_aload_n dX9_count_43 rfl 0 rfl ?_
    refine z_getR (kd := 4) dX9_count_44 fl_X9_10 k_a0 (fun r5 kr5 => ?_)
    refine z_getI dX9_count_47 fl_X9_162 kr5 ?_
    exact z_iret dX9_count_50 rfl (en0 _ _ _ _) rfl
  refine z_ite (fun c11 => ?_) (fun n10 => ?_)
  · refine z_tin (tgt := 51) dX9_count_1 (2) c11 (by decide) (by decide) rfl (by decide) ?_
    refine z_aload_n dX9_count_51 rfl 0 rfl ?_
    refine z_getR (kd := 4) dX9_count_52 fl_X9_10 k_a0 (fun r8 kr8 => ?_)
    refine z_getR (kd := 3) dX9_count_55 fl_X9_165 kr8 (fun r9 kr9 => ?_)
    refine z_getI dX9_count_58 fl_X9_169 kr9 ?_
    exact z_iret dX9_count_61 rfl (en0 _ _ _ _) rfl
  refine z_ite (fun c14 => ?_) (fun n13 => ?_)
  · refine z_tin (tgt := 62) dX9_count_1 (3) c14 (by decide) (by decide) rfl (by decide) ?_
    refine z_aload_n dX9_count_62 rfl 0 rfl ?_
    refine z_getR (kd := 4) dX9_count_63 fl_X9_10 k_a0 (fun r12 kr12 => ?_)
    refine z_getI dX9_count_66 fl_X9_152 kr12 ?_
    exact z_iret dX9_count_69 rfl (en0 _ _ _ _) rfl
  refine z_tdef (tgt := 70) dX9_count_1 [0, 1, 2, 3] (List.forall_mem_cons.mpr ⟨n3, List.forall_mem_cons.mpr ⟨n6, List.forall_mem_cons.mpr ⟨n10, List.forall_mem_cons.mpr ⟨n13, fun _ h => absurd h List.not_mem_nil⟩⟩⟩⟩) (by decide +kernel) (by decide) ?_
  refine z_iload_n dX9_count_70 rfl 1 rfl ?_
  refine z_aload_n dX9_count_71 rfl 0 rfl ?_
  refine z_getR (kd := 4) dX9_count_72 fl_X9_10 k_a0 (fun r15 kr15 => ?_)
  refine z_iload_n dX9_count_75 rfl 2 rfl ?_
  refine z_pQ (as := [.ref (r15), .int (l2)]) (rn_V dX9_count_76 mf_X4_routineAt in_X4_routineAt lk_X9_83 ⟨by decide, by decide⟩ cl_3 rfl kr15 rfl (Nat.le_of_ble_eq_true rfl)) (tX4_routineAt _ _ _ _ _ _) cz_X4_routineAt (c00 _) (fun v16 => ?_)
  refine z_pI (as := [.int (l1), va_rf (v16)]) (rn_S dX9_count_79 mf_X9_countOfRoutine in_X9_countOfRoutine lk_X9_174 ⟨by decide, by decide⟩ rfl (Nat.le_of_ble_eq_true rfl)) (tX9_countOfRoutine _ _ _ _ _ _) cz_X9_countOfRoutine (c00 _) (fun v17 => ?_)
  exact z_iret dX9_count_82 rfl (en0 _ _ _ _) rfl
def fX9_forget (κ : Kd) (a0 : Nat) (h : Hp) : Option (Int32 × Hp) :=
  if (κ a0).1 = 8 then (
  to_ κ (g_R h a0 0) 4 fun r1 =>
  to_ κ (g_R h r1 2) 3 fun r2 =>
  b2 (fX2_clear κ r2 h) fun v3 h4 =>
  some (v3, h4)) else none
set_option maxHeartbeats 4000000 in
set_option maxRecDepth 100000 in
theorem tX9_forget (κ : Kd) (n lim : Nat) (h : Hp) (a0 : Nat) : Ct_ mX9_forget [.ref (a0)] κ n lim h (eI κ n) (fX9_forget κ a0 h) := by
  refine ct_of (by decide) (Nat.le_of_ble_eq_true rfl) ?_
  unfold fX9_forget
  refine z_sub (L' := [(0, .ref (a0))]) [0] rfl ?_
  refine z_or (fun k_a0 => ?_)
  refine z_aload_n dX9_forget_0 rfl 0 rfl ?_
  refine z_getR (kd := 4) dX9_forget_1 fl_X9_10 k_a0 (fun r1 kr1 => ?_)
  refine z_getR (kd := 3) dX9_forget_4 fl_X9_165 kr1 (fun r2 kr2 => ?_)
  refine z_cI (as := [.ref (r2)]) (rn_V dX9_forget_7 mf_X2_clear in_X2_clear lk_X9_178 ⟨by decide, by decide⟩ cl_2 rfl kr2 rfl (Nat.le_of_ble_eq_true rfl)) (tX2_clear _ _ _ _ _) cz_X2_clear (c00 _) (fun v3 h4 => ?_)
  exact z_iret dX9_forget_10 rfl (en0 _ _ _ _) rfl
