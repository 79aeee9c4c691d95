def fX7_handlerOf_b2 (κ : Kd) (a0 : Nat) (l1 : Int32) (l2 : Int32) : Nat → Int32 → Hp → Option (Int32)
  | 0, _, _ => none
  | N + 1, l3, h =>
    if (g_I h a0 9) ≤ l3 then (
      some ((-1 : Int32))
    ) else (
      to_ κ (g_R h a0 4) 50 fun r1 =>
      a_I κ h r1 l3 fun v2 =>
      if l1 < v2 then (
        if (0 : Int32) = 0 then (
          fX7_handlerOf_b2 κ a0 l1 l2 N (l3 + 1) h
        ) else (
          to_ κ (g_R h a0 6) 50 fun r3 =>
          a_I κ h r3 l3 fun v4 =>
          if v4 = l2 then (
            to_ κ (g_R h a0 7) 50 fun r5 =>
            a_I κ h r5 l3 fun v6 =>
            (fX7_hasOp κ a0 v6 h).bind fun v7 =>
            if v7 = 0 then (
              fX7_handlerOf_b2 κ a0 l1 l2 N (l3 + 1) h
            ) else (
              to_ κ (g_R h a0 7) 50 fun r8 =>
              a_I κ h r8 l3 fun v9 =>
              some (v9)
            )
          ) else (
            to_ κ (g_R h a0 6) 50 fun r10 =>
            a_I κ h r10 l3 fun v11 =>
            if v11 = 0 then (
              to_ κ (g_R h a0 7) 50 fun r12 =>
              a_I κ h r12 l3 fun v13 =>
              (fX7_hasOp κ a0 v13 h).bind fun v14 =>
              if v14 = 0 then (
                fX7_handlerOf_b2 κ a0 l1 l2 N (l3 + 1) h
              ) else (
                to_ κ (g_R h a0 7) 50 fun r15 =>
                a_I κ h r15 l3 fun v16 =>
                some (v16)
              )
            ) else (
              fX7_handlerOf_b2 κ a0 l1 l2 N (l3 + 1) h
            )
          )
        )
      ) else (
        to_ κ (g_R h a0 5) 50 fun r17 =>
        a_I κ h r17 l3 fun v18 =>
        if v18 ≤ l1 then (
          if (0 : Int32) = 0 then (
            fX7_handlerOf_b2 κ a0 l1 l2 N (l3 + 1) h
          ) else (
            to_ κ (g_R h a0 6) 50 fun r19 =>
            a_I κ h r19 l3 fun v20 =>
            if v20 = l2 then (
              to_ κ (g_R h a0 7) 50 fun r21 =>
              a_I κ h r21 l3 fun v22 =>
              (fX7_hasOp κ a0 v22 h).bind fun v23 =>
              if v23 = 0 then (
                fX7_handlerOf_b2 κ a0 l1 l2 N (l3 + 1) h
              ) else (
                to_ κ (g_R h a0 7) 50 fun r24 =>
                a_I κ h r24 l3 fun v25 =>
                some (v25)
              )
            ) else (
              to_ κ (g_R h a0 6) 50 fun r26 =>
              a_I κ h r26 l3 fun v27 =>
              if v27 = 0 then (
                to_ κ (g_R h a0 7) 50 fun r28 =>
                a_I κ h r28 l3 fun v29 =>
                (fX7_hasOp κ a0 v29 h).bind fun v30 =>
                if v30 = 0 then (
                  fX7_handlerOf_b2 κ a0 l1 l2 N (l3 + 1) h
                ) else (
                  to_ κ (g_R h a0 7) 50 fun r31 =>
                  a_I κ h r31 l3 fun v32 =>
                  some (v32)
                )
              ) else (
                fX7_handlerOf_b2 κ a0 l1 l2 N (l3 + 1) h
              )
            )
          )
        ) else (
          if (1 : Int32) = 0 then (
            fX7_handlerOf_b2 κ a0 l1 l2 N (l3 + 1) h
          ) else (
            to_ κ (g_R h a0 6) 50 fun r33 =>
            a_I κ h r33 l3 fun v34 =>
            if v34 = l2 then (
              to_ κ (g_R h a0 7) 50 fun r35 =>
              a_I κ h r35 l3 fun v36 =>
              (fX7_hasOp κ a0 v36 h).bind fun v37 =>
              if v37 = 0 then (
                fX7_handlerOf_b2 κ a0 l1 l2 N (l3 + 1) h
              ) else (
                to_ κ (g_R h a0 7) 50 fun r38 =>
                a_I κ h r38 l3 fun v39 =>
                some (v39)
              )
            ) else (
              to_ κ (g_R h a0 6) 50 fun r40 =>
              a_I κ h r40 l3 fun v41 =>
              if v41 = 0 then (
                to_ κ (g_R h a0 7) 50 fun r42 =>
                a_I κ h r42 l3 fun v43 =>
                (fX7_hasOp κ a0 v43 h).bind fun v44 =>
                if v44 = 0 then (
                  fX7_handlerOf_b2 κ a0 l1 l2 N (l3 + 1) h
                ) else (
                  to_ κ (g_R h a0 7) 50 fun r45 =>
                  a_I κ h r45 l3 fun v46 =>
                  some (v46)
                )
              ) else (
                fX7_handlerOf_b2 κ a0 l1 l2 N (l3 + 1) h
              )
            )
          )
        )
      )
    )
set_option maxRecDepth 100000 in
theorem zX7_handlerOf_b2 (κ : Kd) (n lim : Nat) (a0 : Nat) (l1 : Int32) (l2 : Int32) (k_a0 : (κ a0).1 = 6) : ∀ (N : Nat) (l3 : Int32) (h : Hp), ZQ mX7_handlerOf (pI κ n h) (κ, n, 0, lim) 2 [(0, .ref (a0)), (1, .int (l1)), (2, .int (l2)), (3, .int (l3))] [] h (fX7_handlerOf_b2 κ a0 l1 l2 N l3 h) := by
  intro N
  induction N with
  | zero =>
    intro l3 h
    rw [fX7_handlerOf_b2]
    exact z_no
  | succ N ih =>
    intro l3 h
    rw [fX7_handlerOf_b2]
    refine z_iload_n dX7_handlerOf_2 rfl 3 rfl ?_
    refine z_aload_n dX7_handlerOf_3 rfl 0 rfl ?_
    refine z_getI dX7_handlerOf_4 fl_X7_56 k_a0 ?_
    refine z_icmp_ge (tgt := 87) dX7_handlerOf_7 (by first | decide | omega) (fun _ => ?_) (fun _ => ?_)
    · skip
      refine z_iconst (v := -1) dX7_handlerOf_87 (by decide) ?_
      exact z_iret dX7_handlerOf_88 rfl (en0 _ _ _ _) rfl
    · skip
      refine z_aload_n dX7_handlerOf_10 rfl 0 rfl ?_
      refine z_getR (kd := 50) dX7_handlerOf_11 fl_X7_21 k_a0 (fun r1 kr1 => ?_)
      refine z_iload_n dX7_handlerOf_14 rfl 3 rfl ?_
      refine z_iald dX7_handlerOf_15 kr1 (fun v2 => ?_)
      refine z_iload_n dX7_handlerOf_16 rfl 1 rfl ?_
      refine z_icmp_gt (tgt := 34) dX7_handlerOf_17 (by first | decide | omega) (fun _ => ?_) (fun _ => ?_)
      · skip
        refine z_iconst (v := 0) dX7_handlerOf_34 (by decide) ?_
        refine z_istore (L' := [(4, .int ((0 : Int32))), (0, .ref (a0)), (1, .int (l1)), (2, .int (l2)), (3, .int (l3))]) dX7_handlerOf_35 (by decide) rfl ?_
        refine z_iload dX7_handlerOf_37 0 rfl ?_
        refine z_if_eq (tgt := 81) dX7_handlerOf_39 (by first | decide | omega) (fun _ => ?_) (fun _ => ?_)
        · skip
          refine z_iinc (j := 4) (v := l3 + 1) (L' := [(3, .int (l3 + 1)), (4, .int ((0 : Int32))), (0, .ref (a0)), (1, .int (l1)), (2, .int (l2))]) dX7_handlerOf_81 rfl rfl (by decide) rfl ?_
          refine z_goto (tgt := 2) dX7_handlerOf_84 (by decide) ?_
          refine z_sub [2, 3, 4, 0] rfl ?_
          exact ih ((l3 + 1)) h
        · skip
          refine z_aload_n dX7_handlerOf_42 rfl 1 rfl ?_
          refine z_getR (kd := 50) dX7_handlerOf_43 fl_X7_27 k_a0 (fun r3 kr3 => ?_)
          refine z_iload_n dX7_handlerOf_46 rfl 4 rfl ?_
          refine z_iald dX7_handlerOf_47 kr3 (fun v4 => ?_)
          refine z_iload_n dX7_handlerOf_48 rfl 3 rfl ?_
          refine z_icmp_eq (tgt := 61) dX7_handlerOf_49 (by first | decide | omega) (fun _ => ?_) (fun _ => ?_)
          · skip
            refine z_aload_n dX7_handlerOf_61 rfl 1 rfl ?_
            refine z_aload_n dX7_handlerOf_62 rfl 1 rfl ?_
            refine z_getR (kd := 50) dX7_handlerOf_63 fl_X7_30 k_a0 (fun r5 kr5 => ?_)
            refine z_iload_n dX7_handlerOf_66 rfl 4 rfl ?_
            refine z_iald dX7_handlerOf_67 kr5 (fun v6 => ?_)
            refine z_pI (as := [.ref (a0), .int (v6)]) (rn_V dX7_handlerOf_68 mf_X7_hasOp in_X7_hasOp lk_X7_59 ⟨by decide, by decide⟩ cl_5 rfl k_a0 rfl (Nat.le_of_ble_eq_true rfl)) (tX7_hasOp _ _ _ _ _ _) cz_X7_hasOp (c00 _) (fun v7 => ?_)
            refine z_if_eq (tgt := 81) dX7_handlerOf_71 (by first | decide | omega) (fun _ => ?_) (fun _ => ?_)
            · skip
              refine z_iinc (j := 4) (v := l3 + 1) (L' := [(3, .int (l3 + 1)), (4, .int ((0 : Int32))), (0, .ref (a0)), (1, .int (l1)), (2, .int (l2))]) dX7_handlerOf_81 rfl rfl (by decide) rfl ?_
              refine z_goto (tgt := 2) dX7_handlerOf_84 (by decide) ?_
              refine z_sub [2, 3, 4, 0] rfl ?_
              exact ih ((l3 + 1)) h
            · skip
              refine z_aload_n dX7_handlerOf_74 rfl 1 rfl ?_
              refine z_getR (kd := 50) dX7_handlerOf_75 fl_X7_30 k_a0 (fun r8 kr8 => ?_)
              refine z_iload_n dX7_handlerOf_78 rfl 4 rfl ?_
              refine z_iald dX7_handlerOf_79 kr8 (fun v9 => ?_)
              exact z_iret dX7_handlerOf_80 rfl (en0 _ _ _ _) rfl
          · skip
            refine z_aload_n dX7_handlerOf_52 rfl 1 rfl ?_
            refine z_getR (kd := 50) dX7_handlerOf_53 fl_X7_27 k_a0 (fun r10 kr10 => ?_)
            refine z_iload_n dX7_handlerOf_56 rfl 4 rfl ?_
            refine z_iald dX7_handlerOf_57 kr10 (fun v11 => ?_)
            refine z_if_ne (tgt := 81) dX7_handlerOf_58 (by first | decide | omega) (fun _ => ?_) (fun _ => ?_)
            · skip
              refine z_iinc (j := 4) (v := l3 + 1) (L' := [(3, .int (l3 + 1)), (4, .int ((0 : Int32))), (0, .ref (a0)), (1, .int (l1)), (2, .int (l2))]) dX7_handlerOf_81 rfl rfl (by decide) rfl ?_
              refine z_goto (tgt := 2) dX7_handlerOf_84 (by decide) ?_
              refine z_sub [2, 3, 4, 0] rfl ?_
              exact ih ((l3 + 1)) h
            · skip
              refine z_aload_n dX7_handlerOf_61 rfl 1 rfl ?_
              refine z_aload_n dX7_handlerOf_62 rfl 1 rfl ?_
              refine z_getR (kd := 50) dX7_handlerOf_63 fl_X7_30 k_a0 (fun r12 kr12 => ?_)
              refine z_iload_n dX7_handlerOf_66 rfl 4 rfl ?_
              refine z_iald dX7_handlerOf_67 kr12 (fun v13 => ?_)
              refine z_pI (as := [.ref (a0), .int (v13)]) (rn_V dX7_handlerOf_68 mf_X7_hasOp in_X7_hasOp lk_X7_59 ⟨by decide, by decide⟩ cl_5 rfl k_a0 rfl (Nat.le_of_ble_eq_true rfl)) (tX7_hasOp _ _ _ _ _ _) cz_X7_hasOp (c00 _) (fun v14 => ?_)
              refine z_if_eq (tgt := 81) dX7_handlerOf_71 (by first | decide | omega) (fun _ => ?_) (fun _ => ?_)
              · skip
                refine z_iinc (j := 4) (v := l3 + 1) (L' := [(3, .int (l3 + 1)), (4, .int ((0 : Int32))), (0, .ref (a0)), (1, .int (l1)), (2, .int (l2))]) dX7_handlerOf_81 rfl rfl (by decide) rfl ?_
                refine z_goto (tgt := 2) dX7_handlerOf_84 (by decide) ?_
                refine z_sub [2, 3, 4, 0] rfl ?_
                exact ih ((l3 + 1)) h
              · skip
                refine z_aload_n dX7_handlerOf_74 rfl 1 rfl ?_
                refine z_getR (kd := 50) dX7_handlerOf_75 fl_X7_30 k_a0 (fun r15 kr15 => ?_)
                refine z_iload_n dX7_handlerOf_78 rfl 4 rfl ?_
                refine z_iald dX7_handlerOf_79 kr15 (fun v16 => ?_)
                exact z_iret dX7_handlerOf_80 rfl (en0 _ _ _ _) rfl
      · skip
        refine z_iload_n dX7_handlerOf_20 rfl 1 rfl ?_
        refine z_aload_n dX7_handlerOf_21 rfl 0 rfl ?_
        refine z_getR (kd := 50) dX7_handlerOf_22 fl_X7_24 k_a0 (fun r17 kr17 => ?_)
        refine z_iload_n dX7_handlerOf_25 rfl 3 rfl ?_
        refine z_iald dX7_handlerOf_26 kr17 (fun v18 => ?_)
        refine z_icmp_ge (tgt := 34) dX7_handlerOf_27 (by first | decide | omega) (fun _ => ?_) (fun _ => ?_)
        · skip
          refine z_iconst (v := 0) dX7_handlerOf_34 (by decide) ?_
          refine z_istore (L' := [(4, .int ((0 : Int32))), (0, .ref (a0)), (1, .int (l1)), (2, .int (l2)), (3, .int (l3))]) dX7_handlerOf_35 (by decide) rfl ?_
          refine z_iload dX7_handlerOf_37 0 rfl ?_
          refine z_if_eq (tgt := 81) dX7_handlerOf_39 (by first | decide | omega) (fun _ => ?_) (fun _ => ?_)
          · skip
            refine z_iinc (j := 4) (v := l3 + 1) (L' := [(3, .int (l3 + 1)), (4, .int ((0 : Int32))), (0, .ref (a0)), (1, .int (l1)), (2, .int (l2))]) dX7_handlerOf_81 rfl rfl (by decide) rfl ?_
            refine z_goto (tgt := 2) dX7_handlerOf_84 (by decide) ?_
            refine z_sub [2, 3, 4, 0] rfl ?_
            exact ih ((l3 + 1)) h
          · skip
            refine z_aload_n dX7_handlerOf_42 rfl 1 rfl ?_
            refine z_getR (kd := 50) dX7_handlerOf_43 fl_X7_27 k_a0 (fun r19 kr19 => ?_)
            refine z_iload_n dX7_handlerOf_46 rfl 4 rfl ?_
            refine z_iald dX7_handlerOf_47 kr19 (fun v20 => ?_)
            refine z_iload_n dX7_handlerOf_48 rfl 3 rfl ?_
            refine z_icmp_eq (tgt := 61) dX7_handlerOf_49 (by first | decide | omega) (fun _ => ?_) (fun _ => ?_)
            · skip
              refine z_aload_n dX7_handlerOf_61 rfl 1 rfl ?_
              refine z_aload_n dX7_handlerOf_62 rfl 1 rfl ?_
              refine z_getR (kd := 50) dX7_handlerOf_63 fl_X7_30 k_a0 (fun r21 kr21 => ?_)
              refine z_iload_n dX7_handlerOf_66 rfl 4 rfl ?_
              refine z_iald dX7_handlerOf_67 kr21 (fun v22 => ?_)
              refine z_pI (as := [.ref (a0), .int (v22)]) (rn_V dX7_handlerOf_68 mf_X7_hasOp in_X7_hasOp lk_X7_59 ⟨by decide, by decide⟩ cl_5 rfl k_a0 rfl (Nat.le_of_ble_eq_true rfl)) (tX7_hasOp _ _ _ _ _ _) cz_X7_hasOp (c00 _) (fun v23 => ?_)
              refine z_if_eq (tgt := 81) dX7_handlerOf_71 (by first | decide | omega) (fun _ => ?_) (fun _ => ?_)
              · skip
                refine z_iinc (j := 4) (v := l3 + 1) (L' := [(3, .int (l3 + 1)), (4, .int ((0 : Int32))), (0, .ref (a0)), (1, .int (l1)), (2, .int (l2))]) dX7_handlerOf_81 rfl rfl (by decide) rfl ?_
                refine z_goto (tgt := 2) dX7_handlerOf_84 (by decide) ?_
                refine z_sub [2, 3, 4, 0] rfl ?_
                exact ih ((l3 + 1)) h
              · skip
                refine z_aload_n dX7_handlerOf_74 rfl 1 rfl ?_
                refine z_getR (kd := 50) dX7_handlerOf_75 fl_X7_30 k_a0 (fun r24 kr24 => ?_)
                refine z_iload_n dX7_handlerOf_78 rfl 4 rfl ?_
                refine z_iald dX7_handlerOf_79 kr24 (fun v25 => ?_)
                exact z_iret dX7_handlerOf_80 rfl (en0 _ _ _ _) rfl
            · skip
              refine z_aload_n dX7_handlerOf_52 rfl 1 rfl ?_
              refine z_getR (kd := 50) dX7_handlerOf_53 fl_X7_27 k_a0 (fun r26 kr26 => ?_)
              refine z_iload_n dX7_handlerOf_56 rfl 4 rfl ?_
              refine z_iald dX7_handlerOf_57 kr26 (fun v27 => ?_)
              refine z_if_ne (tgt := 81) dX7_handlerOf_58 (by first | decide | omega) (fun _ => ?_) (fun _ => ?_)
              · skip
                refine z_iinc (j := 4) (v := l3 + 1) (L' := [(3, .int (l3 + 1)), (4, .int ((0 : Int32))), (0, .ref (a0)), (1, .int (l1)), (2, .int (l2))]) dX7_handlerOf_81 rfl rfl (by decide) rfl ?_
                refine z_goto (tgt := 2) dX7_handlerOf_84 (by decide) ?_
                refine z_sub [2, 3, 4, 0] rfl ?_
                exact ih ((l3 + 1)) h
              · skip
                refine z_aload_n dX7_handlerOf_61 rfl 1 rfl ?_
                refine z_aload_n dX7_handlerOf_62 rfl 1 rfl ?_
                refine z_getR (kd := 50) dX7_handlerOf_63 fl_X7_30 k_a0 (fun r28 kr28 => ?_)
                refine z_iload_n dX7_handlerOf_66 rfl 4 rfl ?_
                refine z_iald dX7_handlerOf_67 kr28 (fun v29 => ?_)
                refine z_pI (as := [.ref (a0), .int (v29)]) (rn_V dX7_handlerOf_68 mf_X7_hasOp in_X7_hasOp lk_X7_59 ⟨by decide, by decide⟩ cl_5 rfl k_a0 rfl (Nat.le_of_ble_eq_true rfl)) (tX7_hasOp _ _ _ _ _ _) cz_X7_hasOp (c00 _) (fun v30 => ?_)
                refine z_if_eq (tgt := 81) dX7_handlerOf_71 (by first | decide | omega) (fun _ => ?_) (fun _ => ?_)
                · skip
                  refine z_iinc (j := 4) (v := l3 + 1) (L' := [(3, .int (l3 + 1)), (4, .int ((0 : Int32))), (0, .ref (a0)), (1, .int (l1)), (2, .int (l2))]) dX7_handlerOf_81 rfl rfl (by decide) rfl ?_
                  refine z_goto (tgt := 2) dX7_handlerOf_84 (by decide) ?_
                  refine z_sub [2, 3, 4, 0] rfl ?_
                  exact ih ((l3 + 1)) h
                · skip
                  refine z_aload_n dX7_handlerOf_74 rfl 1 rfl ?_
                  refine z_getR (kd := 50) dX7_handlerOf_75 fl_X7_30 k_a0 (fun r31 kr31 => ?_)
                  refine z_iload_n dX7_handlerOf_78 rfl 4 rfl ?_
                  refine z_iald dX7_handlerOf_79 kr31 (fun v32 => ?_)
                  exact z_iret dX7_handlerOf_80 rfl (en0 _ _ _ _) rfl
        · skip
          refine z_iconst (v := 1) dX7_handlerOf_30 (by decide) ?_
          refine z_goto (tgt := 35) dX7_handlerOf_31 (by decide) ?_
          refine z_istore (L' := [(4, .int ((1 : Int32))), (0, .ref (a0)), (1, .int (l1)), (2, .int (l2)), (3, .int (l3))]) dX7_handlerOf_35 (by decide) rfl ?_
          refine z_iload dX7_handlerOf_37 0 rfl ?_
          refine z_if_eq (tgt := 81) dX7_handlerOf_39 (by first | decide | omega) (fun _ => ?_) (fun _ => ?_)
          · skip
            refine z_iinc (j := 4) (v := l3 + 1) (L' := [(3, .int (l3 + 1)), (4, .int ((1 : Int32))), (0, .ref (a0)), (1, .int (l1)), (2, .int (l2))]) dX7_handlerOf_81 rfl rfl (by decide) rfl ?_
            refine z_goto (tgt := 2) dX7_handlerOf_84 (by decide) ?_
            refine z_sub [2, 3, 4, 0] rfl ?_
            exact ih ((l3 + 1)) h
          · skip
            refine z_aload_n dX7_handlerOf_42 rfl 1 rfl ?_
            refine z_getR (kd := 50) dX7_handlerOf_43 fl_X7_27 k_a0 (fun r33 kr33 => ?_)
            refine z_iload_n dX7_handlerOf_46 rfl 4 rfl ?_
            refine z_iald dX7_handlerOf_47 kr33 (fun v34 => ?_)
            refine z_iload_n dX7_handlerOf_48 rfl 3 rfl ?_
            refine z_icmp_eq (tgt := 61) dX7_handlerOf_49 (by first | decide | omega) (fun _ => ?_) (fun _ => ?_)
            · skip
              refine z_aload_n dX7_handlerOf_61 rfl 1 rfl ?_
              refine z_aload_n dX7_handlerOf_62 rfl 1 rfl ?_
              refine z_getR (kd := 50) dX7_handlerOf_63 fl_X7_30 k_a0 (fun r35 kr35 => ?_)
              refine z_iload_n dX7_handlerOf_66 rfl 4 rfl ?_
              refine z_iald dX7_handlerOf_67 kr35 (fun v36 => ?_)
              refine z_pI (as := [.ref (a0), .int (v36)]) (rn_V dX7_handlerOf_68 mf_X7_hasOp in_X7_hasOp lk_X7_59 ⟨by decide, by decide⟩ cl_5 rfl k_a0 rfl (Nat.le_of_ble_eq_true rfl)) (tX7_hasOp _ _ _ _ _ _) cz_X7_hasOp (c00 _) (fun v37 => ?_)
              refine z_if_eq (tgt := 81) dX7_handlerOf_71 (by first | decide | omega) (fun _ => ?_) (fun _ => ?_)
              · skip
                refine z_iinc (j := 4) (v := l3 + 1) (L' := [(3, .int (l3 + 1)), (4, .int ((1 : Int32))), (0, .ref (a0)), (1, .int (l1)), (2, .int (l2))]) dX7_handlerOf_81 rfl rfl (by decide) rfl ?_
                refine z_goto (tgt := 2) dX7_handlerOf_84 (by decide) ?_
                refine z_sub [2, 3, 4, 0] rfl ?_
                exact ih ((l3 + 1)) h
              · skip
                refine z_aload_n dX7_handlerOf_74 rfl 1 rfl ?_
                refine z_getR (kd := 50) dX7_handlerOf_75 fl_X7_30 k_a0 (fun r38 kr38 => ?_)
                refine z_iload_n dX7_handlerOf_78 rfl 4 rfl ?_
                refine z_iald dX7_handlerOf_79 kr38 (fun v39 => ?_)
                exact z_iret dX7_handlerOf_80 rfl (en0 _ _ _ _) rfl
            · skip
              refine z_aload_n dX7_handlerOf_52 rfl 1 rfl ?_
              refine z_getR (kd := 50) dX7_handlerOf_53 fl_X7_27 k_a0 (fun r40 kr40 => ?_)
              refine z_iload_n dX7_handlerOf_56 rfl 4 rfl ?_
              refine z_iald dX7_handlerOf_57 kr40 (fun v41 => ?_)
              refine z_if_ne (tgt := 81) dX7_handlerOf_58 (by first | decide | omega) (fun _ => ?_) (fun _ => ?_)
              · skip
                refine z_iinc (j := 4) (v := l3 + 1) (L' := [(3, .int (l3 + 1)), (4, .int ((1 : Int32))), (0, .ref (a0)), (1, .int (l1)), (2, .int (l2))]) dX7_handlerOf_81 rfl rfl (by decide) rfl ?_
                refine z_goto (tgt := 2) dX7_handlerOf_84 (by decide) ?_
                refine z_sub [2, 3, 4, 0] rfl ?_
                exact ih ((l3 + 1)) h
              · skip
                refine z_aload_n dX7_handlerOf_61 rfl 1 rfl ?_
                refine z_aload_n dX7_handlerOf_62 rfl 1 rfl ?_
                refine z_getR (kd := 50) dX7_handlerOf_63 fl_X7_30 k_a0 (fun r42 kr42 => ?_)
                refine z_iload_n dX7_handlerOf_66 rfl 4 rfl ?_
                refine z_iald dX7_handlerOf_67 kr42 (fun v43 => ?_)
                refine z_pI (as := [.ref (a0), .int (v43)]) (rn_V dX7_handlerOf_68 mf_X7_hasOp in_X7_hasOp lk_X7_59 ⟨by decide, by decide⟩ cl_5 rfl k_a0 rfl (Nat.le_of_ble_eq_true rfl)) (tX7_hasOp _ _ _ _ _ _) cz_X7_hasOp (c00 _) (fun v44 => ?_)
                refine z_if_eq (tgt := 81) dX7_handlerOf_71 (by first | decide | omega) (fun _ => ?_) (fun _ => ?_)
                · skip
                  refine z_iinc (j := 4) (v := l3 + 1) (L' := [(3, .int (l3 + 1)), (4, .int ((1 : Int32))), (0, .ref (a0)), (1, .int (l1)), (2, .int (l2))]) dX7_handlerOf_81 rfl rfl (by decide) rfl ?_
                  refine z_goto (tgt := 2) dX7_handlerOf_84 (by decide) ?_
                  refine z_sub [2, 3, 4, 0] rfl ?_
                  exact ih ((l3 + 1)) h
                · skip
                  refine z_aload_n dX7_handlerOf_74 rfl 1 rfl ?_
                  refine z_getR (kd := 50) dX7_handlerOf_75 fl_X7_30 k_a0 (fun r45 kr45 => ?_)
                  refine z_iload_n dX7_handlerOf_78 rfl 4 rfl ?_
                  refine z_iald dX7_handlerOf_79 kr45 (fun v46 => ?_)
                  exact z_iret dX7_handlerOf_80 rfl (en0 _ _ _ _) rfl
def fX7_handlerOf (κ : Kd) (a0 : Nat) (l1 : Int32) (l2 : Int32) (h : Hp) : Option (Int32) :=
  if (κ a0).1 = 6 then (
  fX7_handlerOf_b2 κ a0 l1 l2 fu_ (0 : Int32) h) else none
set_option maxHeartbeats 4000000 in
set_option maxRecDepth 100000 in
theorem tX7_handlerOf (κ : Kd) (n lim : Nat) (h : Hp) (a0 : Nat) (l1 : Int32) (l2 : Int32) : Ct_ mX7_handlerOf [.ref (a0), .int (l1), .int (l2)] κ n lim h (pI κ n h) (fX7_handlerOf κ a0 l1 l2 h) := by
  refine ct_of (by decide) (Nat.le_of_ble_eq_true rfl) ?_
  unfold fX7_handlerOf
  refine z_sub (L' := [(0, .ref (a0)), (1, .int (l1)), (2, .int (l2))]) [0, 1, 2] rfl ?_
  refine z_or (fun k_a0 => ?_)
  refine z_iconst (v := 0) dX7_handlerOf_0 (by decide) ?_
  refine z_istore_n (L' := [(3, .int ((0 : Int32))), (0, .ref (a0)), (1, .int (l1)), (2, .int (l2))]) dX7_handlerOf_1 rfl (by decide) rfl ?_
  refine z_sub [1, 2, 3, 0] rfl ?_
  exact zX7_handlerOf_b2 _ _ _ a0 l1 l2 k_a0 fu_ (0 : Int32) h
def fX4_beTaken (κ : Kd) (a0 : Nat) (a1 : Nat) (l2 : Int32) (h : Hp) : Option (Hp) :=
  if (κ a0).1 = 4 then (
  if (κ a1).1 = 2 then (
  lt_ (s_I h a0 14 ((g_I h a0 14) + (1 : Int32))) fun h1 =>
  lt_ (s_I h1 a1 7 (0 : Int32)) fun h2 =>
  to_ κ (g_R h2 a0 7) 1 fun r3 =>
  b2 (fX1_lay κ a1 (g_J h2 r3 1) h2) fun v4 h5 =>
  to_ κ (g_R h5 a0 7) 1 fun r6 =>
  b2 (fX1_lay κ a1 ((g_I h5 r6 0).toInt64) h5) fun v7 h8 =>
  lt_ (s_I h8 a1 5 l2) fun h9 =>
  some h9) else none) else none
set_option maxHeartbeats 4000000 in
set_option maxRecDepth 100000 in
theorem tX4_beTaken (κ : Kd) (n lim : Nat) (h : Hp) (a0 : Nat) (a1 : Nat) (l2 : Int32) : Ct_ mX4_beTaken [.ref (a0), .ref (a1), .int (l2)] κ n lim h (eV κ n) (fX4_beTaken κ a0 a1 l2 h) := by
  refine ct_of (by decide) (Nat.le_of_ble_eq_true rfl) ?_
  unfold fX4_beTaken
  refine z_sub (L' := [(0, .ref (a0)), (1, .ref (a1)), (2, .int (l2))]) [0, 1, 2] rfl ?_
  refine z_or (fun k_a0 => ?_)
  refine z_or (fun k_a1 => ?_)
  refine z_aload_n dX4_beTaken_0 rfl 0 rfl ?_
  refine z_dup dX4_beTaken_1 rfl ?_
  refine z_getI dX4_beTaken_2 fl_X4_100 k_a0 ?_
  refine z_iconst (v := 1) dX4_beTaken_5 (by decide) ?_
  refine z_iadd dX4_beTaken_6 ?_
  refine z_putI dX4_beTaken_7 fl_X4_100 (Or.inl rfl) k_a0 (fun h1 => ?_)
  refine z_aload_n dX4_beTaken_10 rfl 1 rfl ?_
  refine z_iconst (v := 0) dX4_beTaken_11 (by decide) ?_
  refine z_putI dX4_beTaken_12 fl_X4_186 (Or.inl rfl) k_a1 (fun h2 => ?_)
  refine z_aload_n dX4_beTaken_15 rfl 1 rfl ?_
  refine z_aload_n dX4_beTaken_16 rfl 0 rfl ?_
  refine z_getR (kd := 1) dX4_beTaken_17 fl_X4_51 k_a0 (fun r3 kr3 => ?_)
  refine z_getJ dX4_beTaken_20 fl_X4_189 kr3 ?_
  refine z_cI (as := [.ref (a1), .long (g_J h2 r3 1)]) (rn_V dX4_beTaken_23 mf_X1_lay in_X1_lay lk_X4_192 ⟨by decide, by decide⟩ cl_1 rfl k_a1 rfl (Nat.le_of_ble_eq_true rfl)) (tX1_lay _ _ _ _ _ _) cz_X1_lay (c00 _) (fun v4 h5 => ?_)
  refine z_pop dX4_beTaken_26 rfl ?_
  refine z_aload_n dX4_beTaken_27 rfl 1 rfl ?_
  refine z_aload_n dX4_beTaken_28 rfl 0 rfl ?_
  refine z_getR (kd := 1) dX4_beTaken_29 fl_X4_51 k_a0 (fun r6 kr6 => ?_)
  refine z_getI dX4_beTaken_32 fl_X4_168 kr6 ?_
  refine z_i2l dX4_beTaken_35 ?_
  refine z_cI (as := [.ref (a1), .long ((g_I h5 r6 0).toInt64)]) (rn_V dX4_beTaken_36 mf_X1_lay in_X1_lay lk_X4_192 ⟨by decide, by decide⟩ cl_1 rfl k_a1 rfl (Nat.le_of_ble_eq_true rfl)) (tX1_lay _ _ _ _ _ _) cz_X1_lay (c00 _) (fun v7 h8 => ?_)
  refine z_pop dX4_beTaken_39 rfl ?_
  refine z_aload_n dX4_beTaken_40 rfl 1 rfl ?_
  refine z_iload_n dX4_beTaken_41 rfl 2 rfl ?_
  refine z_putI dX4_beTaken_42 fl_X4_123 (Or.inl rfl) k_a1 (fun h9 => ?_)
  exact z_vret dX4_beTaken_45 rfl (en0 _ _ _ _) rfl
def fX4_passOn_b0 (κ : Kd) (a0 : Nat) : Nat → Hp → Option (Hp)
  | 0, _ => none
  | N + 1, h =>
    if (g_I h a0 8) ≤ 0 then (
      lt_ (s_I h a0 10 (1 : Int32)) fun h1 =>
      some h1
    ) else (
      to_ κ (g_R h a0 5) 55 fun r2 =>
      a_R κ h r2 ((g_I h a0 8) - (1 : Int32)) 2 fun r3 =>
      to_ κ (g_R h r3 3) 6 fun r4 =>
      to_ κ (g_R h a0 7) 1 fun r5 =>
      (fX7_handlerOf κ r4 (g_I h r3 5) (g_I h r5 0) h).bind fun v6 =>
      if v6 = (-1 : Int32) then (
        b2 (fX1_beginsLast κ r3 h) fun v7 h8 =>
        if v7 = 0 then (
          lt_ (s_I h8 a0 8 ((g_I h8 a0 8) - (1 : Int32))) fun h9 =>
          fX4_passOn_b0 κ a0 N  h9
        ) else (
          lt_ (s_I h8 a0 15 ((g_I h8 a0 15) + (1 : Int32))) fun h10 =>
          to_ κ (g_R h10 a0 7) 1 fun r11 =>
          (fX1_putFaultAside κ r3 r11 h10).bind fun h12 =>
          lt_ (s_I h12 r3 5 (g_I h12 r3 6)) fun h13 =>
          some h13
        )
      ) else (
        (fX4_beTaken κ a0 r3 v6 h).bind fun h14 =>
        some h14
      )
    )
set_option maxRecDepth 100000 in
theorem zX4_passOn_b0 (κ : Kd) (n lim : Nat) (a0 : Nat) (k_a0 : (κ a0).1 = 4) : ∀ (N : Nat) (h : Hp), ZQ mX4_passOn (eV κ n) (κ, n, 0, lim) 0 [(0, .ref (a0))] [] h (fX4_passOn_b0 κ a0 N  h) := by
  intro N
  induction N with
  | zero =>
    intro  h
    rw [fX4_passOn_b0]
    exact z_no
  | succ N ih =>
    intro  h
    rw [fX4_passOn_b0]
    refine z_aload_n dX4_passOn_0 rfl 0 rfl ?_
    refine z_getI dX4_passOn_1 fl_X4_78 k_a0 ?_
    refine z_if_le (tgt := 97) dX4_passOn_4 (by first | decide | omega) (fun _ => ?_) (fun _ => ?_)
    · skip
      refine z_aload_n dX4_passOn_97 rfl 0 rfl ?_
      refine z_iconst (v := 1) dX4_passOn_98 (by decide) ?_
      refine z_putI dX4_passOn_99 fl_X4_75 (Or.inl rfl) k_a0 (fun h1 => ?_)
      exact z_vret dX4_passOn_102 rfl (en0 _ _ _ _) rfl
    · skip
      refine z_aload_n dX4_passOn_7 rfl 0 rfl ?_
      refine z_getR (kd := 55) dX4_passOn_8 fl_X4_40 k_a0 (fun r2 kr2 => ?_)
      refine z_aload_n dX4_passOn_11 rfl 0 rfl ?_
      refine z_getI dX4_passOn_12 fl_X4_78 k_a0 ?_
      refine z_iconst (v := 1) dX4_passOn_15 (by decide) ?_
      refine z_isub dX4_passOn_16 ?_
      refine z_aald (kd := 2) dX4_passOn_17 rk_55 kr2 (fun r3 kr3 => ?_)
      refine z_astore_n (L' := [(1, .ref (r3)), (0, .ref (a0))]) dX4_passOn_18 rfl (by decide) rfl ?_
      refine z_aload_n dX4_passOn_19 rfl 0 rfl ?_
      refine z_getR (kd := 6) dX4_passOn_20 fl_X4_129 kr3 (fun r4 kr4 => ?_)
      refine z_aload_n dX4_passOn_23 rfl 0 rfl ?_
      refine z_getI dX4_passOn_24 fl_X4_123 kr3 ?_
      refine z_aload_n dX4_passOn_27 rfl 1 rfl ?_
      refine z_getR (kd := 1) dX4_passOn_28 fl_X4_51 k_a0 (fun r5 kr5 => ?_)
      refine z_getI dX4_passOn_31 fl_X4_168 kr5 ?_
      refine z_pI (as := [.ref (r4), .int (g_I h r3 5), .int (g_I h r5 0)]) (rn_V dX4_passOn_34 mf_X7_handlerOf in_X7_handlerOf lk_X4_171 ⟨by decide, by decide⟩ cl_5 rfl kr4 rfl (Nat.le_of_ble_eq_true rfl)) (tX7_handlerOf _ _ _ _ _ _ _) cz_X7_handlerOf (c00 _) (fun v6 => ?_)
      refine z_istore_n (L' := [(2, .int (v6)), (1, .ref (r3)), (0, .ref (a0))]) dX4_passOn_37 rfl (by decide) rfl ?_
      refine z_iload_n dX4_passOn_38 rfl 0 rfl ?_
      refine z_iconst (v := -1) dX4_passOn_39 (by decide) ?_
      refine z_icmp_eq (tgt := 50) dX4_passOn_40 (by first | decide | omega) (fun _ => ?_) (fun _ => ?_)
      · skip
        refine z_aload_n dX4_passOn_50 rfl 1 rfl ?_
        refine z_cI (as := [.ref (r3)]) (rn_V dX4_passOn_51 mf_X1_beginsLast in_X1_beginsLast lk_X4_178 ⟨by decide, by decide⟩ cl_1 rfl kr3 rfl (Nat.le_of_ble_eq_true rfl)) (tX1_beginsLast _ _ _ _ _) cz_X1_beginsLast (c00 _) (fun v7 h8 => ?_)
        refine z_if_eq (tgt := 84) dX4_passOn_54 (by first | decide | omega) (fun _ => ?_) (fun _ => ?_)
        · skip
          refine z_aload_n dX4_passOn_84 rfl 2 rfl ?_
          refine z_dup dX4_passOn_85 rfl ?_
          refine z_getI dX4_passOn_86 fl_X4_78 k_a0 ?_
          refine z_iconst (v := 1) dX4_passOn_89 (by decide) ?_
          refine z_isub dX4_passOn_90 ?_
          refine z_putI dX4_passOn_91 fl_X4_78 (Or.inl rfl) k_a0 (fun h9 => ?_)
          refine z_goto (tgt := 0) dX4_passOn_94 (by decide) ?_
          refine z_sub [2] rfl ?_
          exact ih  h9
        · skip
          refine z_aload_n dX4_passOn_57 rfl 2 rfl ?_
          refine z_dup dX4_passOn_58 rfl ?_
          refine z_getI dX4_passOn_59 fl_X4_103 k_a0 ?_
          refine z_iconst (v := 1) dX4_passOn_62 (by decide) ?_
          refine z_iadd dX4_passOn_63 ?_
          refine z_putI dX4_passOn_64 fl_X4_103 (Or.inl rfl) k_a0 (fun h10 => ?_)
          refine z_aload_n dX4_passOn_67 rfl 1 rfl ?_
          refine z_aload_n dX4_passOn_68 rfl 2 rfl ?_
          refine z_getR (kd := 1) dX4_passOn_69 fl_X4_51 k_a0 (fun r11 kr11 => ?_)
          refine z_cV (as := [.ref (r3), .ref (r11)]) (rn_V dX4_passOn_72 mf_X1_putFaultAside in_X1_putFaultAside lk_X4_182 ⟨by decide, by decide⟩ cl_1 rfl kr3 rfl (Nat.le_of_ble_eq_true rfl)) (tX1_putFaultAside _ _ _ _ _ _) cz_X1_putFaultAside (c00 _) (fun h12 => ?_)
          refine z_aload_n dX4_passOn_75 rfl 1 rfl ?_
          refine z_aload_n dX4_passOn_76 rfl 1 rfl ?_
          refine z_getI dX4_passOn_77 fl_X4_126 kr3 ?_
          refine z_putI dX4_passOn_80 fl_X4_123 (Or.inl rfl) kr3 (fun h13 => ?_)
          exact z_vret dX4_passOn_83 rfl (en0 _ _ _ _) rfl
      · skip
        refine z_aload_n dX4_passOn_43 rfl 2 rfl ?_
        refine z_aload_n dX4_passOn_44 rfl 1 rfl ?_
        refine z_iload_n dX4_passOn_45 rfl 0 rfl ?_
        refine z_cV (as := [.ref (a0), .ref (r3), .int (v6)]) (rn_V dX4_passOn_46 mf_X4_beTaken in_X4_beTaken lk_X4_174 ⟨by decide, by decide⟩ cl_3 rfl k_a0 rfl (Nat.le_of_ble_eq_true rfl)) (tX4_beTaken _ _ _ _ _ _ _) cz_X4_beTaken (c00 _) (fun h14 => ?_)
        exact z_vret dX4_passOn_49 rfl (en0 _ _ _ _) rfl
def fX4_passOn (κ : Kd) (a0 : Nat) (h : Hp) : Option (Hp) :=
  if (κ a0).1 = 4 then (
  fX4_passOn_b0 κ a0 fu_  h) else none
set_option maxHeartbeats 4000000 in
set_option maxRecDepth 100000 in
theorem tX4_passOn (κ : Kd) (n lim : Nat) (h : Hp) (a0 : Nat) : Ct_ mX4_passOn [.ref (a0)] κ n lim h (eV κ n) (fX4_passOn κ a0 h) := by
  refine ct_of (by decide) (Nat.le_of_ble_eq_true rfl) ?_
  unfold fX4_passOn
  refine z_sub (L' := [(0, .ref (a0))]) [0] rfl ?_
  refine z_or (fun k_a0 => ?_)
  refine z_sub [0] rfl ?_
  exact zX4_passOn_b0 _ _ _ a0 k_a0 fu_  h
def fX4_raise_b29 (κ : Kd) (a0 : Nat) (a2 : Nat) (s0 : Int64) (s1 : Int32) (s2 : Nat) (h : Hp) : Option (Hp) :=
  (fX0_become κ s2 s1 s0 (g_I h a2 4) (g_I h a2 5) h).bind fun h3 =>
  if (g_I h3 a0 13) < (25 : Int32) then (
    (fX4_passOn κ a0 h3).bind fun h4 =>
    some h4
  ) else (
    lt_ (s_I h3 a0 10 (2 : Int32)) fun h5 =>
    some h5
  )
set_option maxRecDepth 100000 in
theorem zX4_raise_b29 (κ : Kd) (n lim : Nat) (a0 : Nat) (a2 : Nat) (s0 : Int64) (s1 : Int32) (s2 : Nat) (k_a0 : (κ a0).1 = 4) (k_a2 : (κ a2).1 = 2)(k_s2 : (κ s2).1 = 1) (h : Hp) : ZQ mX4_raise (eV κ n) (κ, n, 0, lim) 29 [(0, .ref (a0)), (2, .ref (a2))] [.long (s0), .int (s1), .ref (s2)] h (fX4_raise_b29 κ a0 a2 s0 s1 s2 h) := by
  unfold fX4_raise_b29
  refine z_aload_n dX4_raise_29 rfl 1 rfl ?_
  refine z_getI dX4_raise_30 fl_X4_161 k_a2 ?_
  refine z_aload_n dX4_raise_33 rfl 1 rfl ?_
  refine z_getI dX4_raise_34 fl_X4_123 k_a2 ?_
  refine z_cV (as := [.ref (s2), .int (s1), .long (s0), .int (g_I h a2 4), .int (g_I h a2 5)]) (rn_V dX4_raise_37 mf_X0_become in_X0_become lk_X4_164 ⟨by decide, by decide⟩ cl_0 rfl k_s2 rfl (Nat.le_of_ble_eq_true rfl)) (tX0_become _ _ _ _ _ _ _ _ _) cz_X0_become (c00 _) (fun h3 => ?_)
  refine z_aload_n dX4_raise_40 rfl 0 rfl ?_
  refine z_getI dX4_raise_41 fl_X4_97 k_a0 ?_
  refine z_bipush (v := 25) dX4_raise_44 (by decide) ?_
  refine z_icmp_lt (tgt := 57) dX4_raise_46 (by first | decide | omega) (fun _ => ?_) (fun _ => ?_)
  · skip
    refine z_aload_n dX4_raise_57 rfl 0 rfl ?_
    refine z_cV (as := [.ref (a0)]) (rn_V dX4_raise_58 mf_X4_passOn in_X4_passOn lk_X4_151 ⟨by decide, by decide⟩ cl_3 rfl k_a0 rfl (Nat.le_of_ble_eq_true rfl)) (tX4_passOn _ _ _ _ _) cz_X4_passOn (c00 _) (fun h4 => ?_)
    exact z_vret dX4_raise_61 rfl (en0 _ _ _ _) rfl
  · skip
    refine z_aload_n dX4_raise_49 rfl 0 rfl ?_
    refine z_iconst (v := 2) dX4_raise_50 (by decide) ?_
    refine z_putI dX4_raise_51 fl_X4_75 (Or.inl rfl) k_a0 (fun h5 => ?_)
    refine z_goto (tgt := 61) dX4_raise_54 (by decide) ?_
    exact z_vret dX4_raise_61 rfl (en0 _ _ _ _) rfl
def fX4_raise (κ : Kd) (a0 : Nat) (l1 : Int32) (a2 : Nat) (h : Hp) : Option (Hp) :=
  if (κ a0).1 = 4 then (
  if (κ a2).1 = 2 then (
  lt_ (s_I h a0 13 ((g_I h a0 13) + (1 : Int32))) fun h1 =>
  to_ κ (g_R h1 a0 7) 1 fun r2 =>
  if l1 = (11 : Int32) then (
    fX4_raise_b29 κ a0 a2 (g_J h1 a0 18) l1 r2 h1
  ) else (
    fX4_raise_b29 κ a0 a2 (0 : Int64) l1 r2 h1
  )) else none) else none
set_option maxHeartbeats 4000000 in
set_option maxRecDepth 100000 in
theorem tX4_raise (κ : Kd) (n lim : Nat) (h : Hp) (a0 : Nat) (l1 : Int32) (a2 : Nat) : Ct_ mX4_raise [.ref (a0), .int (l1), .ref (a2)] κ n lim h (eV κ n) (fX4_raise κ a0 l1 a2 h) := by
  refine ct_of (by decide) (Nat.le_of_ble_eq_true rfl) ?_
  unfold fX4_raise
  refine z_sub (L' := [(0, .ref (a0)), (1, .int (l1)), (2, .ref (a2))]) [0, 1, 2] rfl ?_
  refine z_or (fun k_a0 => ?_)
  refine z_or (fun k_a2 => ?_)
  refine z_aload_n dX4_raise_0 rfl 0 rfl ?_
  refine z_dup dX4_raise_1 rfl ?_
  refine z_getI dX4_raise_2 fl_X4_97 k_a0 ?_
  refine z_iconst (v := 1) dX4_raise_5 (by decide) ?_
  refine z_iadd dX4_raise_6 ?_
  refine z_putI dX4_raise_7 fl_X4_97 (Or.inl rfl) k_a0 (fun h1 => ?_)
  refine z_aload_n dX4_raise_10 rfl 0 rfl ?_
  refine z_getR (kd := 1) dX4_raise_11 fl_X4_51 k_a0 (fun r2 kr2 => ?_)
  refine z_iload_n dX4_raise_14 rfl 1 rfl ?_
  refine z_iload_n dX4_raise_15 rfl 1 rfl ?_
  refine z_bipush (v := 11) dX4_raise_16 (by decide) ?_
  refine z_icmp_ne (tgt := 28) dX4_raise_18 (by first | decide | omega) (fun _ => ?_) (fun _ => ?_)
  · skip
    refine z_lconst (v := 0) dX4_raise_28 (by decide) ?_
    refine z_sub [0, 2] rfl ?_
    exact zX4_raise_b29 _ _ _ a0 a2 (0 : Int64) l1 r2 k_a0 k_a2 kr2 h1
  · skip
    refine z_aload_n dX4_raise_21 rfl 0 rfl ?_
    refine z_getJ dX4_raise_22 fl_X4_158 k_a0 ?_
    refine z_goto (tgt := 29) dX4_raise_25 (by decide) ?_
    refine z_sub [0, 2] rfl ?_
    exact zX4_raise_b29 _ _ _ a0 a2 (g_J h1 a0 18) l1 r2 k_a0 k_a2 kr2 h1
def fX4_step_b88 (κ : Kd) (a0 : Nat) (l2 : Int32)  (h : Hp) : Option (Hp) :=
  if l2 = (-1 : Int32) then (
    (fX4_passOn κ a0 h).bind fun h17 =>
    some h17
  ) else (
    if l2 = 0 then (
      some h
    ) else (
      to_ κ (g_R h a0 5) 55 fun r14 =>
      a_R κ h r14 ((g_I h a0 8) - (1 : Int32)) 2 fun r15 =>
      (fX4_raise κ a0 l2 r15 h).bind fun h16 =>
      some h16
    )
  )
set_option maxRecDepth 100000 in
theorem zX4_step_b88 (κ : Kd) (n lim : Nat) (a0 : Nat) (l2 : Int32)  (k_a0 : (κ a0).1 = 4) (h : Hp) : ZQ mX4_step (eV κ n) (κ, n, 0, lim) 88 [(0, .ref (a0)), (2, .int (l2))] [] h (fX4_step_b88 κ a0 l2  h) := by
  unfold fX4_step_b88
  refine z_iload_n dX4_step_88 rfl 1 rfl ?_
  refine z_iconst (v := -1) dX4_step_89 (by decide) ?_
  refine z_icmp_ne (tgt := 100) dX4_step_90 (by first | decide | omega) (fun _ => ?_) (fun _ => ?_)
  · skip
    refine z_iload_n dX4_step_100 rfl 1 rfl ?_
    refine z_if_eq (tgt := 120) dX4_step_101 (by first | decide | omega) (fun _ => ?_) (fun _ => ?_)
    · skip
      exact z_vret dX4_step_120 rfl (en0 _ _ _ _) rfl
    · skip
      refine z_aload_n dX4_step_104 rfl 0 rfl ?_
      refine z_iload_n dX4_step_105 rfl 1 rfl ?_
      refine z_aload_n dX4_step_106 rfl 0 rfl ?_
      refine z_getR (kd := 55) dX4_step_107 fl_X4_40 k_a0 (fun r14 kr14 => ?_)
      refine z_aload_n dX4_step_110 rfl 0 rfl ?_
      refine z_getI dX4_step_111 fl_X4_78 k_a0 ?_
      refine z_iconst (v := 1) dX4_step_114 (by decide) ?_
      refine z_isub dX4_step_115 ?_
      refine z_aald (kd := 2) dX4_step_116 rk_55 kr14 (fun r15 kr15 => ?_)
      refine z_cV (as := [.ref (a0), .int (l2), .ref (r15)]) (rn_V dX4_step_117 mf_X4_raise in_X4_raise lk_X4_154 ⟨by decide, by decide⟩ cl_3 rfl k_a0 rfl (Nat.le_of_ble_eq_true rfl)) (tX4_raise _ _ _ _ _ _ _) cz_X4_raise (c00 _) (fun h16 => ?_)
      exact z_vret dX4_step_120 rfl (en0 _ _ _ _) rfl
  · skip
    refine z_aload_n dX4_step_93 rfl 0 rfl ?_
    refine z_cV (as := [.ref (a0)]) (rn_V dX4_step_94 mf_X4_passOn in_X4_passOn lk_X4_151 ⟨by decide, by decide⟩ cl_3 rfl k_a0 rfl (Nat.le_of_ble_eq_true rfl)) (tX4_passOn _ _ _ _ _) cz_X4_passOn (c00 _) (fun h17 => ?_)
    refine z_goto (tgt := 120) dX4_step_97 (by decide) ?_
    exact z_vret dX4_step_120 rfl (en0 _ _ _ _) rfl
def fX4_step (κ : Kd) (a0 : Nat) (a1 : Nat) (h : Hp) : Option (Hp) :=
  if (κ a0).1 = 4 then (
  if (κ a1).1 = 2 then (
  lt_ (s_I h a0 12 ((g_I h a0 12) + (1 : Int32))) fun h1 =>
  lt_ (s_I h1 a1 6 ((g_I h1 a1 5) + (1 : Int32))) fun h2 =>
  to_ κ (g_R h2 a1 3) 6 fun r3 =>
  to_ κ (g_R h2 r3 1) 50 fun r4 =>
  a_I κ h2 r4 (g_I h2 a1 5) fun v5 =>
  to_ κ (g_R h2 a1 3) 6 fun r6 =>
  to_ κ (g_R h2 r6 2) 50 fun r7 =>
  a_I κ h2 r7 (g_I h2 a1 5) fun v8 =>
  to_ κ (g_R h2 a1 3) 6 fun r9 =>
  to_ κ (g_R h2 r9 3) 50 fun r10 =>
  a_I κ h2 r10 (g_I h2 a1 5) fun v11 =>
  b2 (fX4_act κ a0 a1 v5 v8 v11 h2) fun v12 h13 =>
  if v12 = 0 then (
    if (g_I h13 a0 8) ≤ 0 then (
      fX4_step_b88 κ a0 v12  h13
    ) else (
      to_ κ (g_R h13 a0 5) 55 fun r18 =>
      a_R κ h13 r18 ((g_I h13 a0 8) - (1 : Int32)) 2 fun r19 =>
      b2 (fX1_goOn κ r19 h13) fun v20 h21 =>
      fX4_step_b88 κ a0 v20  h21
    )
  ) else (
    fX4_step_b88 κ a0 v12  h13
  )) else none) else none
set_option maxHeartbeats 4000000 in
set_option maxRecDepth 100000 in
theorem tX4_step (κ : Kd) (n lim : Nat) (h : Hp) (a0 : Nat) (a1 : Nat) : Ct_ mX4_step [.ref (a0), .ref (a1)] κ n lim h (eV κ n) (fX4_step κ a0 a1 h) := by
  refine ct_of (by decide) (Nat.le_of_ble_eq_true rfl) ?_
  unfold fX4_step
  refine z_sub (L' := [(0, .ref (a0)), (1, .ref (a1))]) [0, 1] rfl ?_
  refine z_or (fun k_a0 => ?_)
  refine z_or (fun k_a1 => ?_)
  refine z_aload_n dX4_step_0 rfl 0 rfl ?_
  refine z_dup dX4_step_1 rfl ?_
  refine z_getI dX4_step_2 fl_X4_94 k_a0 ?_
  refine z_iconst (v := 1) dX4_step_5 (by decide) ?_
  refine z_iadd dX4_step_6 ?_
  refine z_putI dX4_step_7 fl_X4_94 (Or.inl rfl) k_a0 (fun h1 => ?_)
  refine z_aload_n dX4_step_10 rfl 1 rfl ?_
  refine z_aload_n dX4_step_11 rfl 1 rfl ?_
  refine z_getI dX4_step_12 fl_X4_123 k_a1 ?_
  refine z_iconst (v := 1) dX4_step_15 (by decide) ?_
  refine z_iadd dX4_step_16 ?_
  refine z_putI dX4_step_17 fl_X4_126 (Or.inl rfl) k_a1 (fun h2 => ?_)
  refine z_aload_n dX4_step_20 rfl 0 rfl ?_
  refine z_aload_n dX4_step_21 rfl 1 rfl ?_
  refine z_aload_n dX4_step_22 rfl 1 rfl ?_
  refine z_getR (kd := 6) dX4_step_23 fl_X4_129 k_a1 (fun r3 kr3 => ?_)
  refine z_getR (kd := 50) dX4_step_26 fl_X4_133 kr3 (fun r4 kr4 => ?_)
  refine z_aload_n dX4_step_29 rfl 1 rfl ?_
  refine z_getI dX4_step_30 fl_X4_123 k_a1 ?_
  refine z_iald dX4_step_33 kr4 (fun v5 => ?_)
  refine z_aload_n dX4_step_34 rfl 1 rfl ?_
  refine z_getR (kd := 6) dX4_step_35 fl_X4_129 k_a1 (fun r6 kr6 => ?_)
  refine z_getR (kd := 50) dX4_step_38 fl_X4_137 kr6 (fun r7 kr7 => ?_)
  refine z_aload_n dX4_step_41 rfl 1 rfl ?_
  refine z_getI dX4_step_42 fl_X4_123 k_a1 ?_
  refine z_iald dX4_step_45 kr7 (fun v8 => ?_)
  refine z_aload_n dX4_step_46 rfl 1 rfl ?_
  refine z_getR (kd := 6) dX4_step_47 fl_X4_129 k_a1 (fun r9 kr9 => ?_)
  refine z_getR (kd := 50) dX4_step_50 fl_X4_140 kr9 (fun r10 kr10 => ?_)
  refine z_aload_n dX4_step_53 rfl 1 rfl ?_
  refine z_getI dX4_step_54 fl_X4_123 k_a1 ?_
  refine z_iald dX4_step_57 kr10 (fun v11 => ?_)
  refine z_cI (as := [.ref (a0), .ref (a1), .int (v5), .int (v8), .int (v11)]) (rn_V dX4_step_58 mf_X4_act in_X4_act lk_X4_143 ⟨by decide, by decide⟩ cl_3 rfl k_a0 rfl (Nat.le_of_ble_eq_true rfl)) (tX4_act _ _ _ _ _ _ _ _ _) cz_X4_act (c00 _) (fun v12 h13 => ?_)
  refine z_istore_n (L' := [(2, .int (v12)), (0, .ref (a0)), (1, .ref (a1))]) dX4_step_61 rfl (by decide) rfl ?_
  refine z_iload_n dX4_step_62 rfl 0 rfl ?_
  refine z_if_ne (tgt := 88) dX4_step_63 (by first | decide | omega) (fun _ => ?_) (fun _ => ?_)
  · skip
    refine z_sub [1, 0] rfl ?_
    exact zX4_step_b88 _ _ _ a0 v12  k_a0 h13
  · skip
    refine z_aload_n dX4_step_66 rfl 1 rfl ?_
    refine z_getI dX4_step_67 fl_X4_78 k_a0 ?_
    refine z_if_le (tgt := 88) dX4_step_70 (by first | decide | omega) (fun _ => ?_) (fun _ => ?_)
    · skip
      refine z_sub [1, 0] rfl ?_
      exact zX4_step_b88 _ _ _ a0 v12  k_a0 h13
    · skip
      refine z_aload_n dX4_step_73 rfl 1 rfl ?_
      refine z_getR (kd := 55) dX4_step_74 fl_X4_40 k_a0 (fun r18 kr18 => ?_)
      refine z_aload_n dX4_step_77 rfl 1 rfl ?_
      refine z_getI dX4_step_78 fl_X4_78 k_a0 ?_
      refine z_iconst (v := 1) dX4_step_81 (by decide) ?_
      refine z_isub dX4_step_82 ?_
      refine z_aald (kd := 2) dX4_step_83 rk_55 kr18 (fun r19 kr19 => ?_)
      refine z_cI (as := [.ref (r19)]) (rn_V dX4_step_84 mf_X1_goOn in_X1_goOn lk_X4_147 ⟨by decide, by decide⟩ cl_1 rfl kr19 rfl (Nat.le_of_ble_eq_true rfl)) (tX1_goOn _ _ _ _ _) cz_X1_goOn (c00 _) (fun v20 h21 => ?_)
      refine z_istore_n (L' := [(2, .int (v20)), (0, .ref (a0)), (1, .ref (a1))]) dX4_step_87 rfl (by decide) rfl ?_
      refine z_sub [1, 0] rfl ?_
      exact zX4_step_b88 _ _ _ a0 v20  k_a0 h21
def fX4_play_b67 (κ : Kd) (a0 : Nat)  (h : Hp) : Option (Int32 × Hp) :=
  if (g_I h a0 10) = (3 : Int32) then (
    lt_ (s_I h a0 10 (2 : Int32)) fun h9 =>
    if (g_I h9 a0 10) = (1 : Int32) then (
      some (g_I h9 a0 10, h9)
    ) else (
      to_ κ (g_R h9 a0 7) 1 fun r10 =>
      (fX0_becomeNone κ r10 h9).bind fun h11 =>
      some (g_I h11 a0 10, h11)
    )
  ) else (
    if (g_I h a0 10) = (1 : Int32) then (
      some (g_I h a0 10, h)
    ) else (
      to_ κ (g_R h a0 7) 1 fun r7 =>
      (fX0_becomeNone κ r7 h).bind fun h8 =>
      some (g_I h8 a0 10, h8)
    )
  )
set_option maxRecDepth 100000 in
theorem zX4_play_b67 (κ : Kd) (n lim : Nat) (a0 : Nat)  (k_a0 : (κ a0).1 = 4) (h : Hp) : ZQ mX4_play (eI κ n) (κ, n, 0, lim) 67 [(0, .ref (a0))] [] h (fX4_play_b67 κ a0  h) := by
  unfold fX4_play_b67
  refine z_aload_n dX4_play_67 rfl 0 rfl ?_
  refine z_getI dX4_play_68 fl_X4_75 k_a0 ?_
  refine z_iconst (v := 3) dX4_play_71 (by decide) ?_
  refine z_icmp_ne (tgt := 80) dX4_play_72 (by first | decide | omega) (fun _ => ?_) (fun _ => ?_)
  · skip
    refine z_aload_n dX4_play_80 rfl 0 rfl ?_
    refine z_getI dX4_play_81 fl_X4_75 k_a0 ?_
    refine z_iconst (v := 1) dX4_play_84 (by decide) ?_
    refine z_icmp_eq (tgt := 95) dX4_play_85 (by first | decide | omega) (fun _ => ?_) (fun _ => ?_)
    · skip
      refine z_aload_n dX4_play_95 rfl 0 rfl ?_
      refine z_getI dX4_play_96 fl_X4_75 k_a0 ?_
      exact z_iret dX4_play_99 rfl (en0 _ _ _ _) rfl
    · skip
      refine z_aload_n dX4_play_88 rfl 0 rfl ?_
      refine z_getR (kd := 1) dX4_play_89 fl_X4_51 k_a0 (fun r7 kr7 => ?_)
      refine z_cV (as := [.ref (r7)]) (rn_V dX4_play_92 mf_X0_becomeNone in_X0_becomeNone lk_X4_85 ⟨by decide, by decide⟩ cl_0 rfl kr7 rfl (Nat.le_of_ble_eq_true rfl)) (tX0_becomeNone _ _ _ _ _) cz_X0_becomeNone (c00 _) (fun h8 => ?_)
      refine z_aload_n dX4_play_95 rfl 0 rfl ?_
      refine z_getI dX4_play_96 fl_X4_75 k_a0 ?_
      exact z_iret dX4_play_99 rfl (en0 _ _ _ _) rfl
  · skip
    refine z_aload_n dX4_play_75 rfl 0 rfl ?_
    refine z_iconst (v := 2) dX4_play_76 (by decide) ?_
    refine z_putI dX4_play_77 fl_X4_75 (Or.inl rfl) k_a0 (fun h9 => ?_)
    refine z_aload_n dX4_play_80 rfl 0 rfl ?_
    refine z_getI dX4_play_81 fl_X4_75 k_a0 ?_
    refine z_iconst (v := 1) dX4_play_84 (by decide) ?_
    refine z_icmp_eq (tgt := 95) dX4_play_85 (by first | decide | omega) (fun _ => ?_) (fun _ => ?_)
    · skip
      refine z_aload_n dX4_play_95 rfl 0 rfl ?_
      refine z_getI dX4_play_96 fl_X4_75 k_a0 ?_
      exact z_iret dX4_play_99 rfl (en0 _ _ _ _) rfl
    · skip
      refine z_aload_n dX4_play_88 rfl 0 rfl ?_
      refine z_getR (kd := 1) dX4_play_89 fl_X4_51 k_a0 (fun r10 kr10 => ?_)
      refine z_cV (as := [.ref (r10)]) (rn_V dX4_play_92 mf_X0_becomeNone in_X0_becomeNone lk_X4_85 ⟨by decide, by decide⟩ cl_0 rfl kr10 rfl (Nat.le_of_ble_eq_true rfl)) (tX0_becomeNone _ _ _ _ _) cz_X0_becomeNone (c00 _) (fun h11 => ?_)
      refine z_aload_n dX4_play_95 rfl 0 rfl ?_
      refine z_getI dX4_play_96 fl_X4_75 k_a0 ?_
      exact z_iret dX4_play_99 rfl (en0 _ _ _ _) rfl
def fX4_play_b30 (κ : Kd) (a0 : Nat) : Nat → Int32 → Hp → Option (Int32 × Hp)
  | 0, _, _ => none
  | N + 1, l8, h =>
    if (300 : Int32) ≤ l8 then (
      fX4_play_b67 κ a0  h
    ) else (
      if (g_I h a0 10) = (3 : Int32) then (
        to_ κ (g_R h a0 5) 55 fun r12 =>
        a_R κ h r12 ((g_I h a0 8) - (1 : Int32)) 2 fun r13 =>
        (fX4_step κ a0 r13 h).bind fun h14 =>
        fX4_play_b30 κ a0 N (l8 + 1) h14
      ) else (
        fX4_play_b67 κ a0  h
      )
    )
set_option maxRecDepth 100000 in
theorem zX4_play_b30 (κ : Kd) (n lim : Nat) (a0 : Nat) (k_a0 : (κ a0).1 = 4) : ∀ (N : Nat) (l8 : Int32) (h : Hp), ZQ mX4_play (eI κ n) (κ, n, 0, lim) 30 [(0, .ref (a0)), (8, .int (l8))] [] h (fX4_play_b30 κ a0 N l8 h) := by
  intro N
  induction N with
  | zero =>
    intro l8 h
    rw [fX4_play_b30]
    exact z_no
  | succ N ih =>
    intro l8 h
    rw [fX4_play_b30]
    refine z_iload dX4_play_30 1 rfl ?_
    refine z_sipush (v := 300) dX4_play_32 (by decide) ?_
    refine z_icmp_ge (tgt := 67) dX4_play_35 (by first | decide | omega) (fun _ => ?_) (fun _ => ?_)
    · skip
      refine z_sub [0] rfl ?_
      exact zX4_play_b67 _ _ _ a0  k_a0 h
    · skip
      refine z_aload_n dX4_play_38 rfl 0 rfl ?_
      refine z_getI dX4_play_39 fl_X4_75 k_a0 ?_
      refine z_iconst (v := 3) dX4_play_42 (by decide) ?_
      refine z_icmp_ne (tgt := 67) dX4_play_43 (by first | decide | omega) (fun _ => ?_) (fun _ => ?_)
      · skip
        refine z_sub [0] rfl ?_
        exact zX4_play_b67 _ _ _ a0  k_a0 h
      · skip
        refine z_aload_n dX4_play_46 rfl 0 rfl ?_
        refine z_aload_n dX4_play_47 rfl 0 rfl ?_
        refine z_getR (kd := 55) dX4_play_48 fl_X4_40 k_a0 (fun r12 kr12 => ?_)
        refine z_aload_n dX4_play_51 rfl 0 rfl ?_
        refine z_getI dX4_play_52 fl_X4_78 k_a0 ?_
        refine z_iconst (v := 1) dX4_play_55 (by decide) ?_
        refine z_isub dX4_play_56 ?_
        refine z_aald (kd := 2) dX4_play_57 rk_55 kr12 (fun r13 kr13 => ?_)
        refine z_cV (as := [.ref (a0), .ref (r13)]) (rn_V dX4_play_58 mf_X4_step in_X4_step lk_X4_81 ⟨by decide, by decide⟩ cl_3 rfl k_a0 rfl (Nat.le_of_ble_eq_true rfl)) (tX4_step _ _ _ _ _ _) cz_X4_step (c00 _) (fun h14 => ?_)
        refine z_iinc (j := 1) (v := l8 + 1) (L' := [(8, .int (l8 + 1)), (0, .ref (a0))]) dX4_play_61 rfl rfl (by decide) rfl ?_
        refine z_goto (tgt := 30) dX4_play_64 (by decide) ?_
        refine z_sub [1, 0] rfl ?_
        exact ih ((l8 + 1)) h14
def fX4_play (κ : Kd) (a0 : Nat) (l1 : Int32) (a2 : Nat) (l3 : Int64) (l5 : Int64) (h : Hp) : Option (Int32 × Hp) :=
  if (κ a0).1 = 4 then (
  if (κ a2).1 = 6 then (
  (fX4_beginRun κ a0 h).bind fun h1 =>
  b2 (fX4_openFrame κ a0 l1 a2 h1) fun v2 h3 =>
  to_ κ v2 2 fun r4 =>
  (fX1_setLocal κ r4 (0 : Int32) l3 h3).bind fun h5 =>
  (fX1_setLocal κ r4 (1 : Int32) l5 h5).bind fun h6 =>
  fX4_play_b30 κ a0 fu_ (0 : Int32) h6) else none) else none
set_option maxHeartbeats 4000000 in
set_option maxRecDepth 100000 in
theorem tX4_play (κ : Kd) (n lim : Nat) (h : Hp) (a0 : Nat) (l1 : Int32) (a2 : Nat) (l3 : Int64) (l5 : Int64) : Ct_ mX4_play [.ref (a0), .int (l1), .ref (a2), .long (l3), .long (l5)] κ n lim h (eI κ n) (fX4_play κ a0 l1 a2 l3 l5 h) := by
  refine ct_of (by decide) (Nat.le_of_ble_eq_true rfl) ?_
  unfold fX4_play
  refine z_sub (L' := [(0, .ref (a0)), (1, .int (l1)), (2, .ref (a2)), (3, .long (l3)), (5, .long (l5))]) [0, 1, 2, 3, 4] rfl ?_
  refine z_or (fun k_a0 => ?_)
  refine z_or (fun k_a2 => ?_)
  refine z_aload_n dX4_play_0 rfl 0 rfl ?_
  refine z_cV (as := [.ref (a0)]) (rn_V dX4_play_1 mf_X4_beginRun in_X4_beginRun lk_X4_64 ⟨by decide, by decide⟩ cl_3 rfl k_a0 rfl (Nat.le_of_ble_eq_true rfl)) (tX4_beginRun _ _ _ _ _) cz_X4_beginRun (c00 _) (fun h1 => ?_)
  refine z_aload_n dX4_play_4 rfl 0 rfl ?_
  refine z_iload_n dX4_play_5 rfl 1 rfl ?_
  refine z_aload_n dX4_play_6 rfl 2 rfl ?_
  refine z_cQ (as := [.ref (a0), .int (l1), .ref (a2)]) (rn_V dX4_play_7 mf_X4_openFrame in_X4_openFrame lk_X4_67 ⟨by decide, by decide⟩ cl_3 rfl k_a0 rfl (Nat.le_of_ble_eq_true rfl)) (tX4_openFrame _ _ _ _ _ _ _) cz_X4_openFrame (c00 _) (fun v2 h3 => ?_)
  refine z_toC (kd := 2) (fun r4 kr4 => ?_)
  refine z_astore (L' := [(7, .ref (r4)), (0, .ref (a0)), (1, .int (l1)), (2, .ref (a2)), (3, .long (l3)), (5, .long (l5))]) dX4_play_10 (by decide) rfl ?_
  refine z_aload dX4_play_12 0 rfl ?_
  refine z_iconst (v := 0) dX4_play_14 (by decide) ?_
  refine z_lload_n dX4_play_15 rfl 4 rfl ?_
  refine z_cV (as := [.ref (r4), .int ((0 : Int32)), .long (l3)]) (rn_V dX4_play_16 mf_X1_setLocal in_X1_setLocal lk_X4_71 ⟨by decide, by decide⟩ cl_1 rfl kr4 rfl (Nat.le_of_ble_eq_true rfl)) (tX1_setLocal _ _ _ _ _ _ _) cz_X1_setLocal (c00 _) (fun h5 => ?_)
  refine z_aload dX4_play_19 0 rfl ?_
  refine z_iconst (v := 1) dX4_play_21 (by decide) ?_
  refine z_lload dX4_play_22 5 rfl ?_
  refine z_cV (as := [.ref (r4), .int ((1 : Int32)), .long (l5)]) (rn_V dX4_play_24 mf_X1_setLocal in_X1_setLocal lk_X4_71 ⟨by decide, by decide⟩ cl_1 rfl kr4 rfl (Nat.le_of_ble_eq_true rfl)) (tX1_setLocal _ _ _ _ _ _ _) cz_X1_setLocal (c00 _) (fun h6 => ?_)
  refine z_iconst (v := 0) dX4_play_27 (by decide) ?_
  refine z_istore (L' := [(8, .int ((0 : Int32))), (7, .ref (r4)), (0, .ref (a0)), (1, .int (l1)), (2, .ref (a2)), (3, .long (l3)), (5, .long (l5))]) dX4_play_28 (by decide) rfl ?_
  refine z_sub [2, 0] rfl ?_
  exact zX4_play_b30 _ _ _ a0 k_a0 fu_ (0 : Int32) h6
def fX5_leastSame_b2 (κ : Kd) (a0 : Nat) (l1 : Int32) : Nat → Int32 → Hp → Option (Int32)
  | 0, _, _ => none
  | N + 1, l2, h =>
    if l1 ≤ l2 then (
      some (l1)
    ) else (
      to_ κ (g_R h a0 0) 50 fun r1 =>
      a_I κ h r1 l2 fun v2 =>
      to_ κ (g_R h a0 0) 50 fun r3 =>
      a_I κ h r3 l1 fun v4 =>
      if v2 = v4 then (
        some (l2)
      ) else (
        fX5_leastSame_b2 κ a0 l1 N (l2 + 1) h
      )
    )
set_option maxRecDepth 100000 in
theorem zX5_leastSame_b2 (κ : Kd) (n lim : Nat) (a0 : Nat) (l1 : Int32) (k_a0 : (κ a0).1 = 5) : ∀ (N : Nat) (l2 : Int32) (h : Hp), ZQ mX5_leastSame (pI κ n h) (κ, n, 0, lim) 2 [(0, .ref (a0)), (1, .int (l1)), (2, .int (l2))] [] h (fX5_leastSame_b2 κ a0 l1 N l2 h) := by
  intro N
  induction N with
  | zero =>
    intro l2 h
    rw [fX5_leastSame_b2]
    exact z_no
  | succ N ih =>
    intro l2 h
    rw [fX5_leastSame_b2]
    refine z_iload_n dX5_leastSame_2 rfl 2 rfl ?_
    refine z_iload_n dX5_leastSame_3 rfl 1 rfl ?_
    refine z_icmp_ge (tgt := 30) dX5_leastSame_4 (by first | decide | omega) (fun _ => ?_) (fun _ => ?_)
    · skip
      refine z_iload_n dX5_leastSame_30 rfl 1 rfl ?_
      exact z_iret dX5_leastSame_31 rfl (en0 _ _ _ _) rfl
    · skip
      refine z_aload_n dX5_leastSame_7 rfl 0 rfl ?_
      refine z_getR (kd := 50) dX5_leastSame_8 fl_X5_9 k_a0 (fun r1 kr1 => ?_)
      refine z_iload_n dX5_leastSame_11 rfl 2 rfl ?_
      refine z_iald dX5_leastSame_12 kr1 (fun v2 => ?_)
      refine z_aload_n dX5_leastSame_13 rfl 0 rfl ?_
      refine z_getR (kd := 50) dX5_leastSame_14 fl_X5_9 k_a0 (fun r3 kr3 => ?_)
      refine z_iload_n dX5_leastSame_17 rfl 1 rfl ?_
      refine z_iald dX5_leastSame_18 kr3 (fun v4 => ?_)
      refine z_icmp_ne (tgt := 24) dX5_leastSame_19 (by first | decide | omega) (fun _ => ?_) (fun _ => ?_)
      · skip
        refine z_iinc (j := 2) (v := l2 + 1) (L' := [(2, .int (l2 + 1)), (0, .ref (a0)), (1, .int (l1))]) dX5_leastSame_24 rfl rfl (by decide) rfl ?_
        refine z_goto (tgt := 2) dX5_leastSame_27 (by decide) ?_
        refine z_sub [1, 2, 0] rfl ?_
        exact ih ((l2 + 1)) h
      · skip
        refine z_iload_n dX5_leastSame_22 rfl 2 rfl ?_
        exact z_iret dX5_leastSame_23 rfl (en0 _ _ _ _) rfl
def fX5_leastSame (κ : Kd) (a0 : Nat) (l1 : Int32) (h : Hp) : Option (Int32) :=
  if (κ a0).1 = 5 then (
  fX5_leastSame_b2 κ a0 l1 fu_ (0 : Int32) h) else none
set_option maxHeartbeats 4000000 in
set_option maxRecDepth 100000 in
theorem tX5_leastSame (κ : Kd) (n lim : Nat) (h : Hp) (a0 : Nat) (l1 : Int32) : Ct_ mX5_leastSame [.ref (a0), .int (l1)] κ n lim h (pI κ n h) (fX5_leastSame κ a0 l1 h) := by
  refine ct_of (by decide) (Nat.le_of_ble_eq_true rfl) ?_
  unfold fX5_leastSame
  refine z_sub (L' := [(0, .ref (a0)), (1, .int (l1))]) [0, 1] rfl ?_
  refine z_or (fun k_a0 => ?_)
  refine z_iconst (v := 0) dX5_leastSame_0 (by decide) ?_
  refine z_istore_n (L' := [(2, .int ((0 : Int32))), (0, .ref (a0)), (1, .int (l1))]) dX5_leastSame_1 rfl (by decide) rfl ?_
  refine z_sub [1, 2, 0] rfl ?_
  exact zX5_leastSame_b2 _ _ _ a0 l1 k_a0 fu_ (0 : Int32) h
def fX9_isPlace (κ : Kd) (l0 : Int32) (h : Hp) : Option (Int32) :=
  if l0 < 0 then (
    some ((0 : Int32))
  ) else (
    if (30 : Int32) ≤ l0 then (
      some ((0 : Int32))
    ) else (
      some ((1 : Int32))
    )
  )
set_option maxHeartbeats 4000000 in
set_option maxRecDepth 100000 in
theorem tX9_isPlace (κ : Kd) (n lim : Nat) (h : Hp) (l0 : Int32) : Ct_ mX9_isPlace [.int (l0)] κ n lim h (pI κ n h) (fX9_isPlace κ l0 h) := by
  refine ct_of (by decide) (Nat.le_of_ble_eq_true rfl) ?_
  unfold fX9_isPlace
  refine z_sub (L' := [(0, .int (l0))]) [0] rfl ?_
  refine z_iload_n dX9_isPlace_0 rfl 0 rfl ?_
  refine z_if_lt (tgt := 14) dX9_isPlace_1 (by first | decide | omega) (fun _ => ?_) (fun _ => ?_)
  · skip
    refine z_iconst (v := 0) dX9_isPlace_14 (by decide) ?_
    exact z_zret dX9_isPlace_15 rfl rfl (en0 _ _ _ _) rfl
  · skip
    refine z_iload_n dX9_isPlace_4 rfl 0 rfl ?_
    refine z_bipush (v := 30) dX9_isPlace_5 (by decide) ?_
    refine z_icmp_ge (tgt := 14) dX9_isPlace_7 (by first | decide | omega) (fun _ => ?_) (fun _ => ?_)
    · skip
      refine z_iconst (v := 0) dX9_isPlace_14 (by decide) ?_
      exact z_zret dX9_isPlace_15 rfl rfl (en0 _ _ _ _) rfl
    · skip
      refine z_iconst (v := 1) dX9_isPlace_10 (by decide) ?_
      refine z_goto (tgt := 15) dX9_isPlace_11 (by decide) ?_
      exact z_zret dX9_isPlace_15 rfl rfl (en0 _ _ _ _) rfl
def fX9_isRow (κ : Kd) (l0 : Int32) (h : Hp) : Option (Int32) :=
  if l0 < 0 then (
    some ((0 : Int32))
  ) else (
    if (12 : Int32) ≤ l0 then (
      some ((0 : Int32))
    ) else (
      some ((1 : Int32))
    )
  )
set_option maxHeartbeats 4000000 in
set_option maxRecDepth 100000 in
theorem tX9_isRow (κ : Kd) (n lim : Nat) (h : Hp) (l0 : Int32) : Ct_ mX9_isRow [.int (l0)] κ n lim h (pI κ n h) (fX9_isRow κ l0 h) := by
  refine ct_of (by decide) (Nat.le_of_ble_eq_true rfl) ?_
  unfold fX9_isRow
  refine z_sub (L' := [(0, .int (l0))]) [0] rfl ?_
  refine z_iload_n dX9_isRow_0 rfl 0 rfl ?_
  refine z_if_lt (tgt := 14) dX9_isRow_1 (by first | decide | omega) (fun _ => ?_) (fun _ => ?_)
  · skip
    refine z_iconst (v := 0) dX9_isRow_14 (by decide) ?_
    exact z_zret dX9_isRow_15 rfl rfl (en0 _ _ _ _) rfl
  · skip
    refine z_iload_n dX9_isRow_4 rfl 0 rfl ?_
    refine z_bipush (v := 12) dX9_isRow_5 (by decide) ?_
    refine z_icmp_ge (tgt := 14) dX9_isRow_7 (by first | decide | omega) (fun _ => ?_) (fun _ => ?_)
    · skip
      refine z_iconst (v := 0) dX9_isRow_14 (by decide) ?_
      exact z_zret dX9_isRow_15 rfl rfl (en0 _ _ _ _) rfl
    · skip
      refine z_iconst (v := 1) dX9_isRow_10 (by decide) ?_
      refine z_goto (tgt := 15) dX9_isRow_11 (by decide) ?_
      exact z_zret dX9_isRow_15 rfl rfl (en0 _ _ _ _) rfl
def fX9_isLane (κ : Kd) (l0 : Int32) (h : Hp) : Option (Int32) :=
  if l0 < 0 then (
    some ((0 : Int32))
  ) else (
    if (8 : Int32) ≤ l0 then (
      some ((0 : Int32))
    ) else (
      some ((1 : Int32))
    )
  )
set_option maxHeartbeats 4000000 in
set_option maxRecDepth 100000 in
theorem tX9_isLane (κ : Kd) (n lim : Nat) (h : Hp) (l0 : Int32) : Ct_ mX9_isLane [.int (l0)] κ n lim h (pI κ n h) (fX9_isLane κ l0 h) := by
  refine ct_of (by decide) (Nat.le_of_ble_eq_true rfl) ?_
  unfold fX9_isLane
  refine z_sub (L' := [(0, .int (l0))]) [0] rfl ?_
  refine z_iload_n dX9_isLane_0 rfl 0 rfl ?_
  refine z_if_lt (tgt := 14) dX9_isLane_1 (by first | decide | omega) (fun _ => ?_) (fun _ => ?_)
  · skip
    refine z_iconst (v := 0) dX9_isLane_14 (by decide) ?_
    exact z_zret dX9_isLane_15 rfl rfl (en0 _ _ _ _) rfl
  · skip
    refine z_iload_n dX9_isLane_4 rfl 0 rfl ?_
    refine z_bipush (v := 8) dX9_isLane_5 (by decide) ?_
    refine z_icmp_ge (tgt := 14) dX9_isLane_7 (by first | decide | omega) (fun _ => ?_) (fun _ => ?_)
    · skip
      refine z_iconst (v := 0) dX9_isLane_14 (by decide) ?_
      exact z_zret dX9_isLane_15 rfl rfl (en0 _ _ _ _) rfl
    · skip
      refine z_iconst (v := 1) dX9_isLane_10 (by decide) ?_
      refine z_goto (tgt := 15) dX9_isLane_11 (by decide) ?_
      exact z_zret dX9_isLane_15 rfl rfl (en0 _ _ _ _) rfl
def fX7_admits (κ : Kd) (a0 : Nat) (l1 : Int32) (l2 : Int32) (l3 : Int32) (h : Hp) : Option (Int32) :=
  if (κ a0).1 = 6 then (
  if l1 = (1 : Int32) then (
    if l2 < 0 then (
      some ((0 : Int32))
    ) else (
      if (g_I h a0 0) ≤ l2 then (
        some ((0 : Int32))
      ) else (
        some ((1 : Int32))
      )
    )
  ) else
  if l1 = (2 : Int32) then (
    if l2 < 0 then (
      some ((0 : Int32))
    ) else (
      if (g_I h a0 0) ≤ l2 then (
        some ((0 : Int32))
      ) else (
        some ((1 : Int32))
      )
    )
  ) else
  if l1 = (10 : Int32) then (
    (fX9_isPlace κ l2 h).bind fun v5 =>
    if v5 = 0 ∨ v5 = 1 then some (v5) else none
  ) else
  if l1 = (11 : Int32) then (
    (fX9_isPlace κ l2 h).bind fun v8 =>
    if v8 = 0 ∨ v8 = 1 then some (v8) else none
  ) else
  if l1 = (12 : Int32) then (
    (fX9_isRow κ l2 h).bind fun v11 =>
    if v11 = 0 then (
      some ((0 : Int32))
    ) else (
      (fX9_isLane κ l3 h).bind fun v12 =>
      if v12 = 0 then (
        some ((0 : Int32))
      ) else (
        some ((1 : Int32))
      )
    )
  ) else
  if l1 = (13 : Int32) then (
    (fX9_isRow κ l2 h).bind fun v15 =>
    if v15 = 0 then (
      some ((0 : Int32))
    ) else (
      (fX9_isLane κ l3 h).bind fun v16 =>
      if v16 = 0 then (
        some ((0 : Int32))
      ) else (
        some ((1 : Int32))
      )
    )
  ) else
  if l1 = (14 : Int32) then (
    (fX9_isRow κ l2 h).bind fun v19 =>
    if v19 = 0 ∨ v19 = 1 then some (v19) else none
  ) else
  if l1 = (15 : Int32) then (
    (fX9_isRow κ l2 h).bind fun v22 =>
    if v22 = 0 then (
      some ((0 : Int32))
    ) else (
      (fX9_isLane κ l3 h).bind fun v23 =>
      if v23 = 0 then (
        some ((0 : Int32))
      ) else (
        some ((1 : Int32))
      )
    )
  ) else
  if l1 = (16 : Int32) then (
    (fX9_isRow κ l2 h).bind fun v26 =>
    if v26 = 0 ∨ v26 = 1 then some (v26) else none
  ) else
  if l1 = (17 : Int32) then (
    (fX9_isRow κ l2 h).bind fun v29 =>
    if v29 = 0 then (
      some ((0 : Int32))
    ) else (
      (fX9_isLane κ l3 h).bind fun v30 =>
      if v30 = 0 then (
        some ((0 : Int32))
      ) else (
        some ((1 : Int32))
      )
    )
  ) else
  if l1 = (18 : Int32) then (
    (fX9_isRow κ l2 h).bind fun v33 =>
    if v33 = 0 then (
      some ((0 : Int32))
    ) else (
      (fX9_isLane κ l3 h).bind fun v34 =>
      if v34 = 0 then (
        some ((0 : Int32))
      ) else (
        some ((1 : Int32))
      )
    )
  ) else
  if l1 = (19 : Int32) then (
    if l2 < 0 then (
      some ((0 : Int32))
    ) else (
      if (12 : Int32) ≤ l2 then (
        some ((0 : Int32))
      ) else (
        if l3 < 0 then (
          some ((0 : Int32))
        ) else (
          if (6 : Int32) < l3 then (
            some ((0 : Int32))
          ) else (
            some ((1 : Int32))
          )
        )
      )
    )
  ) else
  if l1 = (23 : Int32) then (
    if l2 < 0 then (
      some ((0 : Int32))
    ) else (
      if (9 : Int32) ≤ l2 then (
        some ((0 : Int32))
      ) else (
        some ((1 : Int32))
      )
    )
  ) else
  if l1 = (29 : Int32) then (
    (fX9_isRow κ l2 h).bind fun v41 =>
    if v41 = 0 then (
      some ((0 : Int32))
    ) else (
      (fX9_isRow κ l3 h).bind fun v42 =>
      if v42 = 0 then (
        some ((0 : Int32))
      ) else (
        some ((1 : Int32))
      )
    )
  ) else
  (
    if l1 < 0 then (
      some ((0 : Int32))
    ) else (
      if (29 : Int32) < l1 then (
        some ((0 : Int32))
      ) else (
        some ((1 : Int32))
      )
    )
  )) else none
set_option maxHeartbeats 4000000 in
set_option maxRecDepth 100000 in
theorem tX7_admits (κ : Kd) (n lim : Nat) (h : Hp) (a0 : Nat) (l1 : Int32) (l2 : Int32) (l3 : Int32) : Ct_ mX7_admits [.ref (a0), .int (l1), .int (l2), .int (l3)] κ n lim h (pI κ n h) (fX7_admits κ a0 l1 l2 l3 h) := by
  refine ct_of (by decide) (Nat.le_of_ble_eq_true rfl) ?_
  unfold fX7_admits
  refine z_sub (L' := [(0, .ref (a0)), (1, .int (l1)), (2, .int (l2)), (3, .int (l3))]) [0, 1, 2, 3] rfl ?_
  refine z_or (fun k_a0 => ?_)
  refine z_iload_n dX7_admits_0 rfl 1 rfl ?_
  refine z_ite (fun c2 => ?_) (fun n1 => ?_)
  · refine z_tin (tgt := 132) dX7_admits_1 (1) c2 (by decide) (by decide) rfl (by decide) ?_
    refine z_iload_n dX7_admits_132 rfl 2 rfl ?_
    refine z_if_lt (tgt := 148) dX7_admits_133 (by first | decide | omega) (fun _ => ?_) (fun _ => ?_)
    · skip
      refine z_iconst (v := 0) dX7_admits_148 (by decide) ?_
      exact z_zret dX7_admits_149 rfl rfl (en0 _ _ _ _) rfl
    · skip
      refine z_iload_n dX7_admits_136 rfl 2 rfl ?_
      refine z_aload_n dX7_admits_137 rfl 0 rfl ?_
      refine z_getI dX7_admits_138 fl_X7_37 k_a0 ?_
      refine z_icmp_ge (tgt := 148) dX7_admits_141 (by first | decide | omega) (fun _ => ?_) (fun _ => ?_)
      · skip
        refine z_iconst (v := 0) dX7_admits_148 (by decide) ?_
        exact z_zret dX7_admits_149 rfl rfl (en0 _ _ _ _) rfl
      · skip
        refine z_iconst (v := 1) dX7_admits_144 (by decide) ?_
        refine z_goto (tgt := 149) dX7_admits_145 (by decide) ?_
        exact z_zret dX7_admits_149 rfl rfl (en0 _ _ _ _) rfl
  refine z_ite (fun c4 => ?_) (fun n3 => ?_)
  · refine z_tin (tgt := 132) dX7_admits_1 (2) c4 (by decide) (by decide) rfl (by decide) ?_
    refine z_iload_n dX7_admits_132 rfl 2 rfl ?_
    refine z_if_lt (tgt := 148) dX7_admits_133 (by first | decide | omega) (fun _ => ?_) (fun _ => ?_)
    · skip
      refine z_iconst (v := 0) dX7_admits_148 (by decide) ?_
      exact z_zret dX7_admits_149 rfl rfl (en0 _ _ _ _) rfl
    · skip
      refine z_iload_n dX7_admits_136 rfl 2 rfl ?_
      refine z_aload_n dX7_admits_137 rfl 0 rfl ?_
      refine z_getI dX7_admits_138 fl_X7_37 k_a0 ?_
      refine z_icmp_ge (tgt := 148) dX7_admits_141 (by first | decide | omega) (fun _ => ?_) (fun _ => ?_)
      · skip
        refine z_iconst (v := 0) dX7_admits_148 (by decide) ?_
        exact z_zret dX7_admits_149 rfl rfl (en0 _ _ _ _) rfl
      · skip
        refine z_iconst (v := 1) dX7_admits_144 (by decide) ?_
        refine z_goto (tgt := 149) dX7_admits_145 (by decide) ?_
        exact z_zret dX7_admits_149 rfl rfl (en0 _ _ _ _) rfl
  refine z_ite (fun c7 => ?_) (fun n6 => ?_)
  · refine z_tin (tgt := 150) dX7_admits_1 (10) c7 (by decide) (by decide) rfl (by decide) ?_
    refine z_iload_n dX7_admits_150 rfl 2 rfl ?_
    refine z_pI (as := [.int (l2)]) (rn_S dX7_admits_151 mf_X9_isPlace in_X9_isPlace lk_X7_40 ⟨by decide, by decide⟩ rfl (Nat.le_of_ble_eq_true rfl)) (tX9_isPlace _ _ _ _ _) cz_X9_isPlace (c00 _) (fun v5 => ?_)
    exact z_or (fun hz => z_zret dX7_admits_154 rfl (nb_ hz) (en0 _ _ _ _) rfl)
  refine z_ite (fun c10 => ?_) (fun n9 => ?_)
  · refine z_tin (tgt := 150) dX7_admits_1 (11) c10 (by decide) (by decide) rfl (by decide) ?_
    refine z_iload_n dX7_admits_150 rfl 2 rfl ?_
    refine z_pI (as := [.int (l2)]) (rn_S dX7_admits_151 mf_X9_isPlace in_X9_isPlace lk_X7_40 ⟨by decide, by decide⟩ rfl (Nat.le_of_ble_eq_true rfl)) (tX9_isPlace _ _ _ _ _) cz_X9_isPlace (c00 _) (fun v8 => ?_)
    exact z_or (fun hz => z_zret dX7_admits_154 rfl (nb_ hz) (en0 _ _ _ _) rfl)
  refine z_ite (fun c14 => ?_) (fun n13 => ?_)
  · refine z_tin (tgt := 155) dX7_admits_1 (12) c14 (by decide) (by decide) rfl (by decide) ?_
    refine z_iload_n dX7_admits_155 rfl 2 rfl ?_
    refine z_pI (as := [.int (l2)]) (rn_S dX7_admits_156 mf_X9_isRow in_X9_isRow lk_X7_44 ⟨by decide, by decide⟩ rfl (Nat.le_of_ble_eq_true rfl)) (tX9_isRow _ _ _ _ _) cz_X9_isRow (c00 _) (fun v11 => ?_)
    refine z_if_eq (tgt := 173) dX7_admits_159 (by first | decide | omega) (fun _ => ?_) (fun _ => ?_)
    · skip
      refine z_iconst (v := 0) dX7_admits_173 (by decide) ?_
      exact z_zret dX7_admits_174 rfl rfl (en0 _ _ _ _) rfl
    · skip
      refine z_iload_n dX7_admits_162 rfl 3 rfl ?_
      refine z_pI (as := [.int (l3)]) (rn_S dX7_admits_163 mf_X9_isLane in_X9_isLane lk_X7_47 ⟨by decide, by decide⟩ rfl (Nat.le_of_ble_eq_true rfl)) (tX9_isLane _ _ _ _ _) cz_X9_isLane (c00 _) (fun v12 => ?_)
      refine z_if_eq (tgt := 173) dX7_admits_166 (by first | decide | omega) (fun _ => ?_) (fun _ => ?_)
      · skip
        refine z_iconst (v := 0) dX7_admits_173 (by decide) ?_
        exact z_zret dX7_admits_174 rfl rfl (en0 _ _ _ _) rfl
      · skip
        refine z_iconst (v := 1) dX7_admits_169 (by decide) ?_
        refine z_goto (tgt := 174) dX7_admits_170 (by decide) ?_
        exact z_zret dX7_admits_174 rfl rfl (en0 _ _ _ _) rfl
  refine z_ite (fun c18 => ?_) (fun n17 => ?_)
  · refine z_tin (tgt := 155) dX7_admits_1 (13) c18 (by decide) (by decide) rfl (by decide) ?_
    refine z_iload_n dX7_admits_155 rfl 2 rfl ?_
    refine z_pI (as := [.int (l2)]) (rn_S dX7_admits_156 mf_X9_isRow in_X9_isRow lk_X7_44 ⟨by decide, by decide⟩ rfl (Nat.le_of_ble_eq_true rfl)) (tX9_isRow _ _ _ _ _) cz_X9_isRow (c00 _) (fun v15 => ?_)
    refine z_if_eq (tgt := 173) dX7_admits_159 (by first | decide | omega) (fun _ => ?_) (fun _ => ?_)
    · skip
      refine z_iconst (v := 0) dX7_admits_173 (by decide) ?_
      exact z_zret dX7_admits_174 rfl rfl (en0 _ _ _ _) rfl
    · skip
      refine z_iload_n dX7_admits_162 rfl 3 rfl ?_
      refine z_pI (as := [.int (l3)]) (rn_S dX7_admits_163 mf_X9_isLane in_X9_isLane lk_X7_47 ⟨by decide, by decide⟩ rfl (Nat.le_of_ble_eq_true rfl)) (tX9_isLane _ _ _ _ _) cz_X9_isLane (c00 _) (fun v16 => ?_)
      refine z_if_eq (tgt := 173) dX7_admits_166 (by first | decide | omega) (fun _ => ?_) (fun _ => ?_)
      · skip
        refine z_iconst (v := 0) dX7_admits_173 (by decide) ?_
        exact z_zret dX7_admits_174 rfl rfl (en0 _ _ _ _) rfl
      · skip
        refine z_iconst (v := 1) dX7_admits_169 (by decide) ?_
        refine z_goto (tgt := 174) dX7_admits_170 (by decide) ?_
        exact z_zret dX7_admits_174 rfl rfl (en0 _ _ _ _) rfl
  refine z_ite (fun c21 => ?_) (fun n20 => ?_)
  · refine z_tin (tgt := 175) dX7_admits_1 (14) c21 (by decide) (by decide) rfl (by decide) ?_
    refine z_iload_n dX7_admits_175 rfl 2 rfl ?_
    refine z_pI (as := [.int (l2)]) (rn_S dX7_admits_176 mf_X9_isRow in_X9_isRow lk_X7_44 ⟨by decide, by decide⟩ rfl (Nat.le_of_ble_eq_true rfl)) (tX9_isRow _ _ _ _ _) cz_X9_isRow (c00 _) (fun v19 => ?_)
    exact z_or (fun hz => z_zret dX7_admits_179 rfl (nb_ hz) (en0 _ _ _ _) rfl)
  refine z_ite (fun c25 => ?_) (fun n24 => ?_)
  · refine z_tin (tgt := 155) dX7_admits_1 (15) c25 (by decide) (by decide) rfl (by decide) ?_
    refine z_iload_n dX7_admits_155 rfl 2 rfl ?_
    refine z_pI (as := [.int (l2)]) (rn_S dX7_admits_156 mf_X9_isRow in_X9_isRow lk_X7_44 ⟨by decide, by decide⟩ rfl (Nat.le_of_ble_eq_true rfl)) (tX9_isRow _ _ _ _ _) cz_X9_isRow (c00 _) (fun v22 => ?_)
    refine z_if_eq (tgt := 173) dX7_admits_159 (by first | decide | omega) (fun _ => ?_) (fun _ => ?_)
    · skip
      refine z_iconst (v := 0) dX7_admits_173 (by decide) ?_
      exact z_zret dX7_admits_174 rfl rfl (en0 _ _ _ _) rfl
    · skip
      refine z_iload_n dX7_admits_162 rfl 3 rfl ?_
      refine z_pI (as := [.int (l3)]) (rn_S dX7_admits_163 mf_X9_isLane in_X9_isLane lk_X7_47 ⟨by decide, by decide⟩ rfl (Nat.le_of_ble_eq_true rfl)) (tX9_isLane _ _ _ _ _) cz_X9_isLane (c00 _) (fun v23 => ?_)
      refine z_if_eq (tgt := 173) dX7_admits_166 (by first | decide | omega) (fun _ => ?_) (fun _ => ?_)
      · skip
        refine z_iconst (v := 0) dX7_admits_173 (by decide) ?_
        exact z_zret dX7_admits_174 rfl rfl (en0 _ _ _ _) rfl
      · skip
        refine z_iconst (v := 1) dX7_admits_169 (by decide) ?_
        refine z_goto (tgt := 174) dX7_admits_170 (by decide) ?_
        exact z_zret dX7_admits_174 rfl rfl (en0 _ _ _ _) rfl
  refine z_ite (fun c28 => ?_) (fun n27 => ?_)
  · refine z_tin (tgt := 175) dX7_admits_1 (16) c28 (by decide) (by decide) rfl (by decide) ?_
    refine z_iload_n dX7_admits_175 rfl 2 rfl ?_
    refine z_pI (as := [.int (l2)]) (rn_S dX7_admits_176 mf_X9_isRow in_X9_isRow lk_X7_44 ⟨by decide, by decide⟩ rfl (Nat.le_of_ble_eq_true rfl)) (tX9_isRow _ _ _ _ _) cz_X9_isRow (c00 _) (fun v26 => ?_)
    exact z_or (fun hz => z_zret dX7_admits_179 rfl (nb_ hz) (en0 _ _ _ _) rfl)
  refine z_ite (fun c32 => ?_) (fun n31 => ?_)
  · refine z_tin (tgt := 155) dX7_admits_1 (17) c32 (by decide) (by decide) rfl (by decide) ?_
    refine z_iload_n dX7_admits_155 rfl 2 rfl ?_
    refine z_pI (as := [.int (l2)]) (rn_S dX7_admits_156 mf_X9_isRow in_X9_isRow lk_X7_44 ⟨by decide, by decide⟩ rfl (Nat.le_of_ble_eq_true rfl)) (tX9_isRow _ _ _ _ _) cz_X9_isRow (c00 _) (fun v29 => ?_)
    refine z_if_eq (tgt := 173) dX7_admits_159 (by first | decide | omega) (fun _ => ?_) (fun _ => ?_)
    · skip
      refine z_iconst (v := 0) dX7_admits_173 (by decide) ?_
      exact z_zret dX7_admits_174 rfl rfl (en0 _ _ _ _) rfl
    · skip
      refine z_iload_n dX7_admits_162 rfl 3 rfl ?_
      refine z_pI (as := [.int (l3)]) (rn_S dX7_admits_163 mf_X9_isLane in_X9_isLane lk_X7_47 ⟨by decide, by decide⟩ rfl (Nat.le_of_ble_eq_true rfl)) (tX9_isLane _ _ _ _ _) cz_X9_isLane (c00 _) (fun v30 => ?_)
      refine z_if_eq (tgt := 173) dX7_admits_166 (by first | decide | omega) (fun _ => ?_) (fun _ => ?_)
      · skip
        refine z_iconst (v := 0) dX7_admits_173 (by decide) ?_
        exact z_zret dX7_admits_174 rfl rfl (en0 _ _ _ _) rfl
      · skip
        refine z_iconst (v := 1) dX7_admits_169 (by decide) ?_
        refine z_goto (tgt := 174) dX7_admits_170 (by decide) ?_
        exact z_zret dX7_admits_174 rfl rfl (en0 _ _ _ _) rfl
  refine z_ite (fun c36 => ?_) (fun n35 => ?_)
  · refine z_tin (tgt := 155) dX7_admits_1 (18) c36 (by decide) (by decide) rfl (by decide) ?_
    refine z_iload_n dX7_admits_155 rfl 2 rfl ?_
    refine z_pI (as := [.int (l2)]) (rn_S dX7_admits_156 mf_X9_isRow in_X9_isRow lk_X7_44 ⟨by decide, by decide⟩ rfl (Nat.le_of_ble_eq_true rfl)) (tX9_isRow _ _ _ _ _) cz_X9_isRow (c00 _) (fun v33 => ?_)
    refine z_if_eq (tgt := 173) dX7_admits_159 (by first | decide | omega) (fun _ => ?_) (fun _ => ?_)
    · skip
      refine z_iconst (v := 0) dX7_admits_173 (by decide) ?_
      exact z_zret dX7_admits_174 rfl rfl (en0 _ _ _ _) rfl
    · skip
      refine z_iload_n dX7_admits_162 rfl 3 rfl ?_
      refine z_pI (as := [.int (l3)]) (rn_S dX7_admits_163 mf_X9_isLane in_X9_isLane lk_X7_47 ⟨by decide, by decide⟩ rfl (Nat.le_of_ble_eq_true rfl)) (tX9_isLane _ _ _ _ _) cz_X9_isLane (c00 _) (fun v34 => ?_)
      refine z_if_eq (tgt := 173) dX7_admits_166 (by first | decide | omega) (fun _ => ?_) (fun _ => ?_)
      · skip
        refine z_iconst (v := 0) dX7_admits_173 (by decide) ?_
        exact z_zret dX7_admits_174 rfl rfl (en0 _ _ _ _) rfl
      · skip
        refine z_iconst (v := 1) dX7_admits_169 (by decide) ?_
        refine z_goto (tgt := 174) dX7_admits_170 (by decide) ?_
        exact z_zret dX7_admits_174 rfl rfl (en0 _ _ _ _) rfl
  refine z_ite (fun c38 => ?_) (fun n37 => ?_)
  · refine z_tin (tgt := 200) dX7_admits_1 (19) c38 (by decide) (by decide) rfl (by decide) ?_
    refine z_iload_n dX7_admits_200 rfl 2 rfl ?_
    refine z_if_lt (tgt := 224) dX7_admits_201 (by first | decide | omega) (fun _ => ?_) (fun _ => ?_)
    · skip
      refine z_iconst (v := 0) dX7_admits_224 (by decide) ?_
      exact z_zret dX7_admits_225 rfl rfl (en0 _ _ _ _) rfl
    · skip
      refine z_iload_n dX7_admits_204 rfl 2 rfl ?_
      refine z_bipush (v := 12) dX7_admits_205 (by decide) ?_
      refine z_icmp_ge (tgt := 224) dX7_admits_207 (by first | decide | omega) (fun _ => ?_) (fun _ => ?_)
      · skip
        refine z_iconst (v := 0) dX7_admits_224 (by decide) ?_
        exact z_zret dX7_admits_225 rfl rfl (en0 _ _ _ _) rfl
      · skip
        refine z_iload_n dX7_admits_210 rfl 3 rfl ?_
        refine z_if_lt (tgt := 224) dX7_admits_211 (by first | decide | omega) (fun _ => ?_) (fun _ => ?_)
        · skip
          refine z_iconst (v := 0) dX7_admits_224 (by decide) ?_
          exact z_zret dX7_admits_225 rfl rfl (en0 _ _ _ _) rfl
        · skip
          refine z_iload_n dX7_admits_214 rfl 3 rfl ?_
          refine z_bipush (v := 6) dX7_admits_215 (by decide) ?_
          refine z_icmp_gt (tgt := 224) dX7_admits_217 (by first | decide | omega) (fun _ => ?_) (fun _ => ?_)
          · skip
            refine z_iconst (v := 0) dX7_admits_224 (by decide) ?_
            exact z_zret dX7_admits_225 rfl rfl (en0 _ _ _ _) rfl
          · skip
            refine z_iconst (v := 1) dX7_admits_220 (by decide) ?_
            refine z_goto (tgt := 225) dX7_admits_221 (by decide) ?_
            exact z_zret dX7_admits_225 rfl rfl (en0 _ _ _ _) rfl
  refine z_ite (fun c40 => ?_) (fun n39 => ?_)
  · refine z_tin (tgt := 226) dX7_admits_1 (23) c40 (by decide) (by decide) rfl (by decide) ?_
    refine z_iload_n dX7_admits_226 rfl 2 rfl ?_
    refine z_if_lt (tgt := 240) dX7_admits_227 (by first | decide | omega) (fun _ => ?_) (fun _ => ?_)
    · skip
      refine z_iconst (v := 0) dX7_admits_240 (by decide) ?_
      exact z_zret dX7_admits_241 rfl rfl (en0 _ _ _ _) rfl
    · skip
      refine z_iload_n dX7_admits_230 rfl 2 rfl ?_
      refine z_bipush (v := 9) dX7_admits_231 (by decide) ?_
      refine z_icmp_ge (tgt := 240) dX7_admits_233 (by first | decide | omega) (fun _ => ?_) (fun _ => ?_)
      · skip
        refine z_iconst (v := 0) dX7_admits_240 (by decide) ?_
        exact z_zret dX7_admits_241 rfl rfl (en0 _ _ _ _) rfl
      · skip
        refine z_iconst (v := 1) dX7_admits_236 (by decide) ?_
        refine z_goto (tgt := 241) dX7_admits_237 (by decide) ?_
        exact z_zret dX7_admits_241 rfl rfl (en0 _ _ _ _) rfl
  refine z_ite (fun c44 => ?_) (fun n43 => ?_)
  · refine z_tin (tgt := 180) dX7_admits_1 (29) c44 (by decide) (by decide) rfl (by decide) ?_
    refine z_iload_n dX7_admits_180 rfl 2 rfl ?_
    refine z_pI (as := [.int (l2)]) (rn_S dX7_admits_181 mf_X9_isRow in_X9_isRow lk_X7_44 ⟨by decide, by decide⟩ rfl (Nat.le_of_ble_eq_true rfl)) (tX9_isRow _ _ _ _ _) cz_X9_isRow (c00 _) (fun v41 => ?_)
    refine z_if_eq (tgt := 198) dX7_admits_184 (by first | decide | omega) (fun _ => ?_) (fun _ => ?_)
    · skip
      refine z_iconst (v := 0) dX7_admits_198 (by decide) ?_
      exact z_zret dX7_admits_199 rfl rfl (en0 _ _ _ _) rfl
    · skip
      refine z_iload_n dX7_admits_187 rfl 3 rfl ?_
      refine z_pI (as := [.int (l3)]) (rn_S dX7_admits_188 mf_X9_isRow in_X9_isRow lk_X7_44 ⟨by decide, by decide⟩ rfl (Nat.le_of_ble_eq_true rfl)) (tX9_isRow _ _ _ _ _) cz_X9_isRow (c00 _) (fun v42 => ?_)
      refine z_if_eq (tgt := 198) dX7_admits_191 (by first | decide | omega) (fun _ => ?_) (fun _ => ?_)
      · skip
        refine z_iconst (v := 0) dX7_admits_198 (by decide) ?_
        exact z_zret dX7_admits_199 rfl rfl (en0 _ _ _ _) rfl
      · skip
        refine z_iconst (v := 1) dX7_admits_194 (by decide) ?_
        refine z_goto (tgt := 199) dX7_admits_195 (by decide) ?_
        exact z_zret dX7_admits_199 rfl rfl (en0 _ _ _ _) rfl
  refine z_tdef (tgt := 242) dX7_admits_1 [1, 2, 10, 11, 12, 13, 14, 15, 16, 17, 18, 19, 23, 29] (List.forall_mem_cons.mpr ⟨n1, List.forall_mem_cons.mpr ⟨n3, List.forall_mem_cons.mpr ⟨n6, List.forall_mem_cons.mpr ⟨n9, List.forall_mem_cons.mpr ⟨n13, List.forall_mem_cons.mpr ⟨n17, List.forall_mem_cons.mpr ⟨n20, List.forall_mem_cons.mpr ⟨n24, List.forall_mem_cons.mpr ⟨n27, List.forall_mem_cons.mpr ⟨n31, List.forall_mem_cons.mpr ⟨n35, List.forall_mem_cons.mpr ⟨n37, List.forall_mem_cons.mpr ⟨n39, List.forall_mem_cons.mpr ⟨n43, fun _ h => absurd h List.not_mem_nil⟩⟩⟩⟩⟩⟩⟩⟩⟩⟩⟩⟩⟩⟩) (by decide +kernel) (by decide) ?_
  refine z_iload_n dX7_admits_242 rfl 1 rfl ?_
  refine z_if_lt (tgt := 256) dX7_admits_243 (by first | decide | omega) (fun _ => ?_) (fun _ => ?_)
  · skip
    refine z_iconst (v := 0) dX7_admits_256 (by decide) ?_
    exact z_zret dX7_admits_257 rfl rfl (en0 _ _ _ _) rfl
  · skip
    refine z_iload_n dX7_admits_246 rfl 1 rfl ?_
    refine z_bipush (v := 29) dX7_admits_247 (by decide) ?_
    refine z_icmp_gt (tgt := 256) dX7_admits_249 (by first | decide | omega) (fun _ => ?_) (fun _ => ?_)
    · skip
      refine z_iconst (v := 0) dX7_admits_256 (by decide) ?_
      exact z_zret dX7_admits_257 rfl rfl (en0 _ _ _ _) rfl
    · skip
      refine z_iconst (v := 1) dX7_admits_252 (by decide) ?_
      refine z_goto (tgt := 257) dX7_admits_253 (by decide) ?_
      exact z_zret dX7_admits_257 rfl rfl (en0 _ _ _ _) rfl
