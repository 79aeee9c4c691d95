def fX10_world_b146 (κ : Kd) (a0 : Nat) (l3 : Int64) (l5 : Int64) (s0 : Int32) (h : Hp) : Option (Hp) :=
  if s0 ≤ 0 then (
    to_ κ (g_R h a0 10) 50 fun r16 =>
    a_I κ h r16 (((4 : Int32) * l3.toInt32) + l5.toInt32) fun v17 =>
    (fX10_lays κ a0 v17.toInt64 h).bind fun h18 =>
    some h18
  ) else (
    (fX10_comes κ a0 s0 (0 : Int64) h).bind fun h19 =>
    some h19
  )
set_option maxRecDepth 100000 in
theorem zX10_world_b146 (κ : Kd) (n lim : Nat) (a0 : Nat) (l3 : Int64) (l5 : Int64) (s0 : Int32) (k_a0 : (κ a0).1 = 9) (h : Hp) : ZQ mX10_world (eV κ n) (κ, n, 0, lim) 146 [(0, .ref (a0)), (3, .long (l3)), (5, .long (l5))] [.int (s0)] h (fX10_world_b146 κ a0 l3 l5 s0 h) := by
  unfold fX10_world_b146
  refine z_istore (L' := [(9, .int (s0)), (0, .ref (a0)), (3, .long (l3)), (5, .long (l5))]) dX10_world_146 (by decide) rfl ?_
  refine z_iload dX10_world_148 0 rfl ?_
  refine z_if_le (tgt := 163) dX10_world_150 (by first | decide | omega) (fun _ => ?_) (fun _ => ?_)
  · skip
    refine z_aload_n dX10_world_163 rfl 1 rfl ?_
    refine z_aload_n dX10_world_164 rfl 1 rfl ?_
    refine z_getR (kd := 50) dX10_world_165 fl_X10_39 k_a0 (fun r16 kr16 => ?_)
    refine z_iconst (v := 4) dX10_world_168 (by decide) ?_
    refine z_lload_n dX10_world_169 rfl 2 rfl ?_
    refine z_l2i dX10_world_170 ?_
    refine z_imul dX10_world_171 ?_
    refine z_lload dX10_world_172 3 rfl ?_
    refine z_l2i dX10_world_174 ?_
    refine z_iadd dX10_world_175 ?_
    refine z_iald dX10_world_176 kr16 (fun v17 => ?_)
    refine z_i2l dX10_world_177 ?_
    refine z_cV (as := [.ref (a0), .long (v17.toInt64)]) (rn_V dX10_world_178 mf_X10_lays in_X10_lays lk_X10_304 ⟨by decide, by decide⟩ cl_8 rfl k_a0 rfl (Nat.le_of_ble_eq_true rfl)) (tX10_lays _ _ _ _ _ _) cz_X10_lays (c00 _) (fun h18 => ?_)
    refine z_goto (tgt := 297) dX10_world_181 (by decide) ?_
    exact z_vret dX10_world_297 rfl (en0 _ _ _ _) rfl
  · skip
    refine z_aload_n dX10_world_153 rfl 1 rfl ?_
    refine z_iload dX10_world_154 0 rfl ?_
    refine z_lconst (v := 0) dX10_world_156 (by decide) ?_
    refine z_cV (as := [.ref (a0), .int (s0), .long ((0 : Int64))]) (rn_V dX10_world_157 mf_X10_comes in_X10_comes lk_X10_293 ⟨by decide, by decide⟩ cl_8 rfl k_a0 rfl (Nat.le_of_ble_eq_true rfl)) (tX10_comes _ _ _ _ _ _ _) cz_X10_comes (c00 _) (fun h19 => ?_)
    refine z_goto (tgt := 297) dX10_world_160 (by decide) ?_
    exact z_vret dX10_world_297 rfl (en0 _ _ _ _) rfl
def fX10_world (κ : Kd) (a0 : Nat) (l1 : Int32) (l2 : Int32) (l3 : Int64) (l5 : Int64) (l7 : Int64) (h : Hp) : Option (Hp) :=
  if (κ a0).1 = 9 then (
  if l1 = (23 : Int32) then (
    (fX10_isThing κ a0 l3 h).bind fun v1 =>
    if v1 = 0 then (
      (fX10_comes κ a0 (1 : Int32) (0 : Int64) h).bind fun h5 =>
      some h5
    ) else (
      (fX10_message κ a0 l3.toInt32 l2 l5.toInt32 h).bind fun h2 =>
      if (g_I h2 a0 12) ≤ 0 then (
        (fX10_lays κ a0 ((g_I h2 a0 11).toInt64) h2).bind fun h3 =>
        some h3
      ) else (
        (fX10_comes κ a0 (g_I h2 a0 12) (g_J h2 a0 13) h2).bind fun h4 =>
        some h4
      )
    )
  ) else
  if l1 = (24 : Int32) then (
    (fX10_stand κ a0 l3 l5 l7 h).bind fun h8 =>
    some h8
  ) else
  if l1 = (25 : Int32) then (
    (fX10_isThing κ a0 l3 h).bind fun v11 =>
    if v11 = 0 then (
      fX10_world_b146 κ a0 l3 l5 (1 : Int32) h
    ) else (
      to_ κ (g_R h a0 6) 50 fun r12 =>
      a_I κ h r12 l3.toInt32 fun v13 =>
      (fX10_placesOf κ v13 h).bind fun v14 =>
      (fX10_in κ l5 (0 : Int64) (v14.toInt64 - (1 : Int64)) h).bind fun v15 =>
      if v15 = 0 then (
        fX10_world_b146 κ a0 l3 l5 (2 : Int32) h
      ) else (
        fX10_world_b146 κ a0 l3 l5 (0 : Int32) h
      )
    )
  ) else
  if l1 = (26 : Int32) then (
    if (60 : Int32) ≤ (g_I h a0 41) then (
      (fX10_goesOn κ a0 h).bind fun h22 =>
      some h22
    ) else (
      to_ κ (g_R h a0 40) 51 fun r23 =>
      w_J κ h r23 (g_I h a0 41) l3 fun h24 =>
      lt_ (s_I h24 a0 41 ((g_I h24 a0 41) + (1 : Int32))) fun h25 =>
      (fX10_goesOn κ a0 h25).bind fun h26 =>
      some h26
    )
  ) else
  if l1 = (27 : Int32) then (
    if (g_I h a0 52) = (3 : Int32) then (
      (fX10_comes κ a0 (7 : Int32) (0 : Int64) h).bind fun h29 =>
      some h29
    ) else (
      if (g_I h a0 39) = (6 : Int32) then (
        (fX10_comes κ a0 (7 : Int32) (0 : Int64) h).bind fun h33 =>
        some h33
      ) else (
        lt_ (s_I h a0 39 ((g_I h a0 39) + (1 : Int32))) fun h30 =>
        (fX10_keep κ a0 h30).bind fun h31 =>
        (fX10_lays κ a0 ((g_I h31 a0 52).toInt64) h31).bind fun h32 =>
        some h32
      )
    )
  ) else
  (
    if (g_I h a0 52) = 0 then (
      (fX10_lays κ a0 (0 : Int64) h).bind fun h38 =>
      some h38
    ) else (
      (fX10_bringBack κ a0 h).bind fun h36 =>
      (fX10_lays κ a0 (1 : Int64) h36).bind fun h37 =>
      some h37
    )
  )) else none
set_option maxHeartbeats 4000000 in
set_option maxRecDepth 100000 in
theorem tX10_world (κ : Kd) (n lim : Nat) (h : Hp) (a0 : Nat) (l1 : Int32) (l2 : Int32) (l3 : Int64) (l5 : Int64) (l7 : Int64) : Ct_ mX10_world [.ref (a0), .int (l1), .int (l2), .long (l3), .long (l5), .long (l7)] κ n lim h (eV κ n) (fX10_world κ a0 l1 l2 l3 l5 l7 h) := by
  refine ct_of (by decide) (Nat.le_of_ble_eq_true rfl) ?_
  unfold fX10_world
  refine z_sub (L' := [(0, .ref (a0)), (1, .int (l1)), (2, .int (l2)), (3, .long (l3)), (5, .long (l5)), (7, .long (l7))]) [0, 1, 2, 3, 4, 5] rfl ?_
  refine z_or (fun k_a0 => ?_)
  refine z_iload_n dX10_world_0 rfl 1 rfl ?_
  refine z_ite (fun c7 => ?_) (fun n6 => ?_)
  · refine z_tin (tgt := 36) dX10_world_1 (23) c7 (by decide) (by decide) rfl (by decide) ?_
    refine z_aload_n dX10_world_36 rfl 0 rfl ?_
    refine z_lload_n dX10_world_37 rfl 3 rfl ?_
    refine z_pI (as := [.ref (a0), .long (l3)]) (rn_V dX10_world_38 mf_X10_isThing in_X10_isThing lk_X10_188 ⟨by decide, by decide⟩ cl_8 rfl k_a0 rfl (Nat.le_of_ble_eq_true rfl)) (tX10_isThing _ _ _ _ _ _) cz_X10_isThing (c00 _) (fun v1 => ?_)
    refine z_if_ne (tgt := 51) dX10_world_41 (by first | decide | omega) (fun _ => ?_) (fun _ => ?_)
    · skip
      refine z_aload_n dX10_world_51 rfl 0 rfl ?_
      refine z_lload_n dX10_world_52 rfl 3 rfl ?_
      refine z_l2i dX10_world_53 ?_
      refine z_iload_n dX10_world_54 rfl 2 rfl ?_
      refine z_lload dX10_world_55 4 rfl ?_
      refine z_l2i dX10_world_57 ?_
      refine z_cV (as := [.ref (a0), .int (l3.toInt32), .int (l2), .int (l5.toInt32)]) (rn_V dX10_world_58 mf_X10_message in_X10_message lk_X10_350 ⟨by decide, by decide⟩ cl_8 rfl k_a0 rfl (Nat.le_of_ble_eq_true rfl)) (tX10_message _ _ _ _ _ _ _ _) cz_X10_message (c00 _) (fun h2 => ?_)
      refine z_aload_n dX10_world_61 rfl 0 rfl ?_
      refine z_getI dX10_world_62 fl_X10_198 k_a0 ?_
      refine z_if_le (tgt := 83) dX10_world_65 (by first | decide | omega) (fun _ => ?_) (fun _ => ?_)
      · skip
        refine z_aload_n dX10_world_83 rfl 0 rfl ?_
        refine z_aload_n dX10_world_84 rfl 0 rfl ?_
        refine z_getI dX10_world_85 fl_X10_207 k_a0 ?_
        refine z_i2l dX10_world_88 ?_
        refine z_cV (as := [.ref (a0), .long ((g_I h2 a0 11).toInt64)]) (rn_V dX10_world_89 mf_X10_lays in_X10_lays lk_X10_304 ⟨by decide, by decide⟩ cl_8 rfl k_a0 rfl (Nat.le_of_ble_eq_true rfl)) (tX10_lays _ _ _ _ _ _) cz_X10_lays (c00 _) (fun h3 => ?_)
        refine z_goto (tgt := 297) dX10_world_92 (by decide) ?_
        exact z_vret dX10_world_297 rfl (en0 _ _ _ _) rfl
      · skip
        refine z_aload_n dX10_world_68 rfl 0 rfl ?_
        refine z_aload_n dX10_world_69 rfl 0 rfl ?_
        refine z_getI dX10_world_70 fl_X10_198 k_a0 ?_
        refine z_aload_n dX10_world_73 rfl 0 rfl ?_
        refine z_getJ dX10_world_74 fl_X10_203 k_a0 ?_
        refine z_cV (as := [.ref (a0), .int (g_I h2 a0 12), .long (g_J h2 a0 13)]) (rn_V dX10_world_77 mf_X10_comes in_X10_comes lk_X10_293 ⟨by decide, by decide⟩ cl_8 rfl k_a0 rfl (Nat.le_of_ble_eq_true rfl)) (tX10_comes _ _ _ _ _ _ _) cz_X10_comes (c00 _) (fun h4 => ?_)
        refine z_goto (tgt := 297) dX10_world_80 (by decide) ?_
        exact z_vret dX10_world_297 rfl (en0 _ _ _ _) rfl
    · skip
      refine z_aload_n dX10_world_44 rfl 0 rfl ?_
      refine z_iconst (v := 1) dX10_world_45 (by decide) ?_
      refine z_lconst (v := 0) dX10_world_46 (by decide) ?_
      refine z_cV (as := [.ref (a0), .int ((1 : Int32)), .long ((0 : Int64))]) (rn_V dX10_world_47 mf_X10_comes in_X10_comes lk_X10_293 ⟨by decide, by decide⟩ cl_8 rfl k_a0 rfl (Nat.le_of_ble_eq_true rfl)) (tX10_comes _ _ _ _ _ _ _) cz_X10_comes (c00 _) (fun h5 => ?_)
      exact z_vret dX10_world_50 rfl (en0 _ _ _ _) rfl
  refine z_ite (fun c10 => ?_) (fun n9 => ?_)
  · refine z_tin (tgt := 95) dX10_world_1 (24) c10 (by decide) (by decide) rfl (by decide) ?_
    refine z_aload_n dX10_world_95 rfl 0 rfl ?_
    refine z_lload_n dX10_world_96 rfl 3 rfl ?_
    refine z_lload dX10_world_97 4 rfl ?_
    refine z_lload dX10_world_99 5 rfl ?_
    refine z_cV (as := [.ref (a0), .long (l3), .long (l5), .long (l7)]) (rn_V dX10_world_101 mf_X10_stand in_X10_stand lk_X10_353 ⟨by decide, by decide⟩ cl_8 rfl k_a0 rfl (Nat.le_of_ble_eq_true rfl)) (tX10_stand _ _ _ _ _ _ _ _) cz_X10_stand (c00 _) (fun h8 => ?_)
    refine z_goto (tgt := 297) dX10_world_104 (by decide) ?_
    exact z_vret dX10_world_297 rfl (en0 _ _ _ _) rfl
  refine z_ite (fun c21 => ?_) (fun n20 => ?_)
  · refine z_tin (tgt := 107) dX10_world_1 (25) c21 (by decide) (by decide) rfl (by decide) ?_
    refine z_aload_n dX10_world_107 rfl 0 rfl ?_
    refine z_lload_n dX10_world_108 rfl 3 rfl ?_
    refine z_pI (as := [.ref (a0), .long (l3)]) (rn_V dX10_world_109 mf_X10_isThing in_X10_isThing lk_X10_188 ⟨by decide, by decide⟩ cl_8 rfl k_a0 rfl (Nat.le_of_ble_eq_true rfl)) (tX10_isThing _ _ _ _ _ _) cz_X10_isThing (c00 _) (fun v11 => ?_)
    refine z_if_ne (tgt := 119) dX10_world_112 (by first | decide | omega) (fun _ => ?_) (fun _ => ?_)
    · skip
      refine z_lload dX10_world_119 4 rfl ?_
      refine z_lconst (v := 0) dX10_world_121 (by decide) ?_
      refine z_aload_n dX10_world_122 rfl 0 rfl ?_
      refine z_getR (kd := 50) dX10_world_123 fl_X10_27 k_a0 (fun r12 kr12 => ?_)
      refine z_lload_n dX10_world_126 rfl 3 rfl ?_
      refine z_l2i dX10_world_127 ?_
      refine z_iald dX10_world_128 kr12 (fun v13 => ?_)
      refine z_pI (as := [.int (v13)]) (rn_S dX10_world_129 mf_X10_placesOf in_X10_placesOf lk_X10_192 ⟨by decide, by decide⟩ rfl (Nat.le_of_ble_eq_true rfl)) (tX10_placesOf _ _ _ _ _) cz_X10_placesOf (c00 _) (fun v14 => ?_)
      refine z_i2l dX10_world_132 ?_
      refine z_lconst (v := 1) dX10_world_133 (by decide) ?_
      refine z_lsub dX10_world_134 ?_
      refine z_pI (as := [.long (l5), .long ((0 : Int64)), .long (v14.toInt64 - (1 : Int64))]) (rn_S dX10_world_135 mf_X10_in in_X10_in lk_X10_139 ⟨by decide, by decide⟩ rfl (Nat.le_of_ble_eq_true rfl)) (tX10_in _ _ _ _ _ _ _) cz_X10_in (c00 _) (fun v15 => ?_)
      refine z_if_ne (tgt := 145) dX10_world_138 (by first | decide | omega) (fun _ => ?_) (fun _ => ?_)
      · skip
        refine z_iconst (v := 0) dX10_world_145 (by decide) ?_
        refine z_sub [0, 3, 4] rfl ?_
        exact zX10_world_b146 _ _ _ a0 l3 l5 (0 : Int32) k_a0 h
      · skip
        refine z_iconst (v := 2) dX10_world_141 (by decide) ?_
        refine z_goto (tgt := 146) dX10_world_142 (by decide) ?_
        refine z_sub [0, 3, 4] rfl ?_
        exact zX10_world_b146 _ _ _ a0 l3 l5 (2 : Int32) k_a0 h
    · skip
      refine z_iconst (v := 1) dX10_world_115 (by decide) ?_
      refine z_goto (tgt := 146) dX10_world_116 (by decide) ?_
      refine z_sub [0, 3, 4] rfl ?_
      exact zX10_world_b146 _ _ _ a0 l3 l5 (1 : Int32) k_a0 h
  refine z_ite (fun c28 => ?_) (fun n27 => ?_)
  · refine z_tin (tgt := 184) dX10_world_1 (26) c28 (by decide) (by decide) rfl (by decide) ?_
    refine z_aload_n dX10_world_184 rfl 0 rfl ?_
    refine z_getI dX10_world_185 fl_X10_357 k_a0 ?_
    refine z_bipush (v := 60) dX10_world_188 (by decide) ?_
    refine z_icmp_ge (tgt := 213) dX10_world_190 (by first | decide | omega) (fun _ => ?_) (fun _ => ?_)
    · skip
      refine z_aload_n dX10_world_213 rfl 0 rfl ?_
      refine z_cV (as := [.ref (a0)]) (rn_V dX10_world_214 mf_X10_goesOn in_X10_goesOn lk_X10_328 ⟨by decide, by decide⟩ cl_8 rfl k_a0 rfl (Nat.le_of_ble_eq_true rfl)) (tX10_goesOn _ _ _ _ _) cz_X10_goesOn (c00 _) (fun h22 => ?_)
      refine z_goto (tgt := 297) dX10_world_217 (by decide) ?_
      exact z_vret dX10_world_297 rfl (en0 _ _ _ _) rfl
    · skip
      refine z_aload_n dX10_world_193 rfl 0 rfl ?_
      refine z_getR (kd := 51) dX10_world_194 fl_X10_97 k_a0 (fun r23 kr23 => ?_)
      refine z_aload_n dX10_world_197 rfl 0 rfl ?_
      refine z_getI dX10_world_198 fl_X10_357 k_a0 ?_
      refine z_lload_n dX10_world_201 rfl 3 rfl ?_
      refine z_last dX10_world_202 kr23 (fun h24 => ?_)
      refine z_aload_n dX10_world_203 rfl 0 rfl ?_
      refine z_dup dX10_world_204 rfl ?_
      refine z_getI dX10_world_205 fl_X10_357 k_a0 ?_
      refine z_iconst (v := 1) dX10_world_208 (by decide) ?_
      refine z_iadd dX10_world_209 ?_
      refine z_putI dX10_world_210 fl_X10_357 (Or.inl rfl) k_a0 (fun h25 => ?_)
      refine z_aload_n dX10_world_213 rfl 0 rfl ?_
      refine z_cV (as := [.ref (a0)]) (rn_V dX10_world_214 mf_X10_goesOn in_X10_goesOn lk_X10_328 ⟨by decide, by decide⟩ cl_8 rfl k_a0 rfl (Nat.le_of_ble_eq_true rfl)) (tX10_goesOn _ _ _ _ _) cz_X10_goesOn (c00 _) (fun h26 => ?_)
      refine z_goto (tgt := 297) dX10_world_217 (by decide) ?_
      exact z_vret dX10_world_297 rfl (en0 _ _ _ _) rfl
  refine z_ite (fun c35 => ?_) (fun n34 => ?_)
  · refine z_tin (tgt := 220) dX10_world_1 (27) c35 (by decide) (by decide) rfl (by decide) ?_
    refine z_aload_n dX10_world_220 rfl 0 rfl ?_
    refine z_getI dX10_world_221 fl_X10_360 k_a0 ?_
    refine z_iconst (v := 3) dX10_world_224 (by decide) ?_
    refine z_icmp_eq (tgt := 237) dX10_world_225 (by first | decide | omega) (fun _ => ?_) (fun _ => ?_)
    · skip
      refine z_aload_n dX10_world_237 rfl 0 rfl ?_
      refine z_bipush (v := 7) dX10_world_238 (by decide) ?_
      refine z_lconst (v := 0) dX10_world_240 (by decide) ?_
      refine z_cV (as := [.ref (a0), .int ((7 : Int32)), .long ((0 : Int64))]) (rn_V dX10_world_241 mf_X10_comes in_X10_comes lk_X10_293 ⟨by decide, by decide⟩ cl_8 rfl k_a0 rfl (Nat.le_of_ble_eq_true rfl)) (tX10_comes _ _ _ _ _ _ _) cz_X10_comes (c00 _) (fun h29 => ?_)
      refine z_goto (tgt := 297) dX10_world_244 (by decide) ?_
      exact z_vret dX10_world_297 rfl (en0 _ _ _ _) rfl
    · skip
      refine z_aload_n dX10_world_228 rfl 0 rfl ?_
      refine z_getI dX10_world_229 fl_X10_363 k_a0 ?_
      refine z_bipush (v := 6) dX10_world_232 (by decide) ?_
      refine z_icmp_ne (tgt := 247) dX10_world_234 (by first | decide | omega) (fun _ => ?_) (fun _ => ?_)
      · skip
        refine z_aload_n dX10_world_247 rfl 0 rfl ?_
        refine z_dup dX10_world_248 rfl ?_
        refine z_getI dX10_world_249 fl_X10_363 k_a0 ?_
        refine z_iconst (v := 1) dX10_world_252 (by decide) ?_
        refine z_iadd dX10_world_253 ?_
        refine z_putI dX10_world_254 fl_X10_363 (Or.inl rfl) k_a0 (fun h30 => ?_)
        refine z_aload_n dX10_world_257 rfl 0 rfl ?_
        refine z_cV (as := [.ref (a0)]) (rn_V dX10_world_258 mf_X10_keep in_X10_keep lk_X10_366 ⟨by decide, by decide⟩ cl_8 rfl k_a0 rfl (Nat.le_of_ble_eq_true rfl)) (tX10_keep _ _ _ _ _) cz_X10_keep (c00 _) (fun h31 => ?_)
        refine z_aload_n dX10_world_261 rfl 0 rfl ?_
        refine z_aload_n dX10_world_262 rfl 0 rfl ?_
        refine z_getI dX10_world_263 fl_X10_360 k_a0 ?_
        refine z_i2l dX10_world_266 ?_
        refine z_cV (as := [.ref (a0), .long ((g_I h31 a0 52).toInt64)]) (rn_V dX10_world_267 mf_X10_lays in_X10_lays lk_X10_304 ⟨by decide, by decide⟩ cl_8 rfl k_a0 rfl (Nat.le_of_ble_eq_true rfl)) (tX10_lays _ _ _ _ _ _) cz_X10_lays (c00 _) (fun h32 => ?_)
        refine z_goto (tgt := 297) dX10_world_270 (by decide) ?_
        exact z_vret dX10_world_297 rfl (en0 _ _ _ _) rfl
      · skip
        refine z_aload_n dX10_world_237 rfl 0 rfl ?_
        refine z_bipush (v := 7) dX10_world_238 (by decide) ?_
        refine z_lconst (v := 0) dX10_world_240 (by decide) ?_
        refine z_cV (as := [.ref (a0), .int ((7 : Int32)), .long ((0 : Int64))]) (rn_V dX10_world_241 mf_X10_comes in_X10_comes lk_X10_293 ⟨by decide, by decide⟩ cl_8 rfl k_a0 rfl (Nat.le_of_ble_eq_true rfl)) (tX10_comes _ _ _ _ _ _ _) cz_X10_comes (c00 _) (fun h33 => ?_)
        refine z_goto (tgt := 297) dX10_world_244 (by decide) ?_
        exact z_vret dX10_world_297 rfl (en0 _ _ _ _) rfl
  refine z_tdef (tgt := 273) dX10_world_1 [23, 24, 25, 26, 27] (List.forall_mem_cons.mpr ⟨n6, List.forall_mem_cons.mpr ⟨n9, List.forall_mem_cons.mpr ⟨n20, List.forall_mem_cons.mpr ⟨n27, List.forall_mem_cons.mpr ⟨n34, fun _ h => absurd h List.not_mem_nil⟩⟩⟩⟩⟩) (by decide +kernel) (by decide) ?_
  refine z_aload_n dX10_world_273 rfl 0 rfl ?_
  refine z_getI dX10_world_274 fl_X10_360 k_a0 ?_
  refine z_if_ne (tgt := 288) dX10_world_277 (by first | decide | omega) (fun _ => ?_) (fun _ => ?_)
  · skip
    refine z_aload_n dX10_world_288 rfl 0 rfl ?_
    refine z_cV (as := [.ref (a0)]) (rn_V dX10_world_289 mf_X10_bringBack in_X10_bringBack lk_X10_369 ⟨by decide, by decide⟩ cl_8 rfl k_a0 rfl (Nat.le_of_ble_eq_true rfl)) (tX10_bringBack _ _ _ _ _) cz_X10_bringBack (c00 _) (fun h36 => ?_)
    refine z_aload_n dX10_world_292 rfl 0 rfl ?_
    refine z_lconst (v := 1) dX10_world_293 (by decide) ?_
    refine z_cV (as := [.ref (a0), .long ((1 : Int64))]) (rn_V dX10_world_294 mf_X10_lays in_X10_lays lk_X10_304 ⟨by decide, by decide⟩ cl_8 rfl k_a0 rfl (Nat.le_of_ble_eq_true rfl)) (tX10_lays _ _ _ _ _ _) cz_X10_lays (c00 _) (fun h37 => ?_)
    exact z_vret dX10_world_297 rfl (en0 _ _ _ _) rfl
  · skip
    refine z_aload_n dX10_world_280 rfl 0 rfl ?_
    refine z_lconst (v := 0) dX10_world_281 (by decide) ?_
    refine z_cV (as := [.ref (a0), .long ((0 : Int64))]) (rn_V dX10_world_282 mf_X10_lays in_X10_lays lk_X10_304 ⟨by decide, by decide⟩ cl_8 rfl k_a0 rfl (Nat.le_of_ble_eq_true rfl)) (tX10_lays _ _ _ _ _ _) cz_X10_lays (c00 _) (fun h38 => ?_)
    refine z_goto (tgt := 297) dX10_world_285 (by decide) ?_
    exact z_vret dX10_world_297 rfl (en0 _ _ _ _) rfl
def fX10_step_b137 (κ : Kd) (a0 : Nat) (l3 : Int32) (l4 : Int32) (l5 : Int32) (l6 : Int32) (l7 : Int32) (l8 : Int64) (s0 : Int64) (h : Hp) : Option (Hp) :=
  if (12 : Int32) ≤ l3 then (
    if l3 < (19 : Int32) then (
      (fX10_memory κ a0 l3 l4 l5 l8 s0 h).bind fun h19 =>
      some h19
    ) else (
      if l3 = (29 : Int32) then (
        (fX10_memory κ a0 l3 l4 l5 l8 s0 h).bind fun h25 =>
        some h25
      ) else (
        if (23 : Int32) ≤ l3 then (
          if l6 ≤ (2 : Int32) then (
            (fX10_world κ a0 l3 l4 l8 s0 (0 : Int64) h).bind fun h20 =>
            some h20
          ) else (
            to_ κ (g_R h a0 27) 51 fun r21 =>
            a_J κ h r21 (l7 + (2 : Int32)) fun v22 =>
            (fX10_world κ a0 l3 l4 l8 s0 v22 h).bind fun h23 =>
            some h23
          )
        ) else (
          (fX10_ways κ a0 l3 l4 l5 l8 h).bind fun h24 =>
          some h24
        )
      )
    )
  ) else (
    (fX10_plain κ a0 l3 l4 l8 s0 h).bind fun h26 =>
    some h26
  )
set_option maxRecDepth 100000 in
theorem zX10_step_b137 (κ : Kd) (n lim : Nat) (a0 : Nat) (l3 : Int32) (l4 : Int32) (l5 : Int32) (l6 : Int32) (l7 : Int32) (l8 : Int64) (s0 : Int64) (k_a0 : (κ a0).1 = 9) (h : Hp) : ZQ mX10_step (eV κ n) (κ, n, 0, lim) 137 [(0, .ref (a0)), (3, .int (l3)), (4, .int (l4)), (5, .int (l5)), (6, .int (l6)), (7, .int (l7)), (8, .long (l8))] [.long (s0)] h (fX10_step_b137 κ a0 l3 l4 l5 l6 l7 l8 s0 h) := by
  unfold fX10_step_b137
  refine z_lstore (L' := [(10, .long (s0)), (0, .ref (a0)), (3, .int (l3)), (4, .int (l4)), (5, .int (l5)), (6, .int (l6)), (7, .int (l7)), (8, .long (l8))]) dX10_step_137 (by decide) rfl ?_
  refine z_iload_n dX10_step_139 rfl 2 rfl ?_
  refine z_bipush (v := 12) dX10_step_140 (by decide) ?_
  refine z_icmp_ge (tgt := 159) dX10_step_142 (by first | decide | omega) (fun _ => ?_) (fun _ => ?_)
  · skip
    refine z_iload_n dX10_step_159 rfl 2 rfl ?_
    refine z_bipush (v := 19) dX10_step_160 (by decide) ?_
    refine z_icmp_lt (tgt := 171) dX10_step_162 (by first | decide | omega) (fun _ => ?_) (fun _ => ?_)
    · skip
      refine z_aload_n dX10_step_171 rfl 1 rfl ?_
      refine z_iload_n dX10_step_172 rfl 2 rfl ?_
      refine z_iload dX10_step_173 3 rfl ?_
      refine z_iload dX10_step_175 4 rfl ?_
      refine z_lload dX10_step_177 7 rfl ?_
      refine z_lload dX10_step_179 0 rfl ?_
      refine z_cV (as := [.ref (a0), .int (l3), .int (l4), .int (l5), .long (l8), .long (s0)]) (rn_V dX10_step_181 mf_X10_memory in_X10_memory lk_X10_316 ⟨by decide, by decide⟩ cl_8 rfl k_a0 rfl (Nat.le_of_ble_eq_true rfl)) (tX10_memory _ _ _ _ _ _ _ _ _ _) cz_X10_memory (c00 _) (fun h19 => ?_)
      refine z_goto (tgt := 237) dX10_step_184 (by decide) ?_
      exact z_vret dX10_step_237 rfl (en0 _ _ _ _) rfl
    · skip
      refine z_iload_n dX10_step_165 rfl 2 rfl ?_
      refine z_bipush (v := 29) dX10_step_166 (by decide) ?_
      refine z_icmp_ne (tgt := 187) dX10_step_168 (by first | decide | omega) (fun _ => ?_) (fun _ => ?_)
      · skip
        refine z_iload_n dX10_step_187 rfl 2 rfl ?_
        refine z_bipush (v := 23) dX10_step_188 (by decide) ?_
        refine z_icmp_ge (tgt := 207) dX10_step_190 (by first | decide | omega) (fun _ => ?_) (fun _ => ?_)
        · skip
          refine z_aload_n dX10_step_207 rfl 1 rfl ?_
          refine z_iload_n dX10_step_208 rfl 2 rfl ?_
          refine z_iload dX10_step_209 3 rfl ?_
          refine z_lload dX10_step_211 7 rfl ?_
          refine z_lload dX10_step_213 0 rfl ?_
          refine z_iload dX10_step_215 5 rfl ?_
          refine z_iconst (v := 2) dX10_step_217 (by decide) ?_
          refine z_icmp_le (tgt := 233) dX10_step_218 (by first | decide | omega) (fun _ => ?_) (fun _ => ?_)
          · skip
            refine z_lconst (v := 0) dX10_step_233 (by decide) ?_
            refine z_cV (as := [.ref (a0), .int (l3), .int (l4), .long (l8), .long (s0), .long ((0 : Int64))]) (rn_V dX10_step_234 mf_X10_world in_X10_world lk_X10_324 ⟨by decide, by decide⟩ cl_8 rfl k_a0 rfl (Nat.le_of_ble_eq_true rfl)) (tX10_world _ _ _ _ _ _ _ _ _ _) cz_X10_world (c00 _) (fun h20 => ?_)
            exact z_vret dX10_step_237 rfl (en0 _ _ _ _) rfl
          · skip
            refine z_aload_n dX10_step_221 rfl 1 rfl ?_
            refine z_getR (kd := 51) dX10_step_222 fl_X10_75 k_a0 (fun r21 kr21 => ?_)
            refine z_iload dX10_step_225 6 rfl ?_
            refine z_iconst (v := 2) dX10_step_227 (by decide) ?_
            refine z_iadd dX10_step_228 ?_
            refine z_lald dX10_step_229 kr21 (fun v22 => ?_)
            refine z_goto (tgt := 234) dX10_step_230 (by decide) ?_
            refine z_cV (as := [.ref (a0), .int (l3), .int (l4), .long (l8), .long (s0), .long (v22)]) (rn_V dX10_step_234 mf_X10_world in_X10_world lk_X10_324 ⟨by decide, by decide⟩ cl_8 rfl k_a0 rfl (Nat.le_of_ble_eq_true rfl)) (tX10_world _ _ _ _ _ _ _ _ _ _) cz_X10_world (c00 _) (fun h23 => ?_)
            exact z_vret dX10_step_237 rfl (en0 _ _ _ _) rfl
        · skip
          refine z_aload_n dX10_step_193 rfl 1 rfl ?_
          refine z_iload_n dX10_step_194 rfl 2 rfl ?_
          refine z_iload dX10_step_195 3 rfl ?_
          refine z_iload dX10_step_197 4 rfl ?_
          refine z_lload dX10_step_199 7 rfl ?_
          refine z_cV (as := [.ref (a0), .int (l3), .int (l4), .int (l5), .long (l8)]) (rn_V dX10_step_201 mf_X10_ways in_X10_ways lk_X10_320 ⟨by decide, by decide⟩ cl_8 rfl k_a0 rfl (Nat.le_of_ble_eq_true rfl)) (tX10_ways _ _ _ _ _ _ _ _ _) cz_X10_ways (c00 _) (fun h24 => ?_)
          refine z_goto (tgt := 237) dX10_step_204 (by decide) ?_
          exact z_vret dX10_step_237 rfl (en0 _ _ _ _) rfl
      · skip
        refine z_aload_n dX10_step_171 rfl 1 rfl ?_
        refine z_iload_n dX10_step_172 rfl 2 rfl ?_
        refine z_iload dX10_step_173 3 rfl ?_
        refine z_iload dX10_step_175 4 rfl ?_
        refine z_lload dX10_step_177 7 rfl ?_
        refine z_lload dX10_step_179 0 rfl ?_
        refine z_cV (as := [.ref (a0), .int (l3), .int (l4), .int (l5), .long (l8), .long (s0)]) (rn_V dX10_step_181 mf_X10_memory in_X10_memory lk_X10_316 ⟨by decide, by decide⟩ cl_8 rfl k_a0 rfl (Nat.le_of_ble_eq_true rfl)) (tX10_memory _ _ _ _ _ _ _ _ _ _) cz_X10_memory (c00 _) (fun h25 => ?_)
        refine z_goto (tgt := 237) dX10_step_184 (by decide) ?_
        exact z_vret dX10_step_237 rfl (en0 _ _ _ _) rfl
  · skip
    refine z_aload_n dX10_step_145 rfl 1 rfl ?_
    refine z_iload_n dX10_step_146 rfl 2 rfl ?_
    refine z_iload dX10_step_147 3 rfl ?_
    refine z_lload dX10_step_149 7 rfl ?_
    refine z_lload dX10_step_151 0 rfl ?_
    refine z_cV (as := [.ref (a0), .int (l3), .int (l4), .long (l8), .long (s0)]) (rn_V dX10_step_153 mf_X10_plain in_X10_plain lk_X10_312 ⟨by decide, by decide⟩ cl_8 rfl k_a0 rfl (Nat.le_of_ble_eq_true rfl)) (tX10_plain _ _ _ _ _ _ _ _ _) cz_X10_plain (c00 _) (fun h26 => ?_)
    refine z_goto (tgt := 237) dX10_step_156 (by decide) ?_
    exact z_vret dX10_step_237 rfl (en0 _ _ _ _) rfl
def fX10_step_b116 (κ : Kd) (a0 : Nat) (l3 : Int32) (l4 : Int32) (l5 : Int32) (l6 : Int32) (l7 : Int32) (s0 : Int64) (h : Hp) : Option (Hp) :=
  if l6 ≤ (1 : Int32) then (
    fX10_step_b137 κ a0 l3 l4 l5 l6 l7 s0 (0 : Int64) h
  ) else (
    to_ κ (g_R h a0 27) 51 fun r27 =>
    a_J κ h r27 (l7 + (1 : Int32)) fun v28 =>
    fX10_step_b137 κ a0 l3 l4 l5 l6 l7 s0 v28 h
  )
set_option maxRecDepth 100000 in
theorem zX10_step_b116 (κ : Kd) (n lim : Nat) (a0 : Nat) (l3 : Int32) (l4 : Int32) (l5 : Int32) (l6 : Int32) (l7 : Int32) (s0 : Int64) (k_a0 : (κ a0).1 = 9) (h : Hp) : ZQ mX10_step (eV κ n) (κ, n, 0, lim) 116 [(0, .ref (a0)), (3, .int (l3)), (4, .int (l4)), (5, .int (l5)), (6, .int (l6)), (7, .int (l7))] [.long (s0)] h (fX10_step_b116 κ a0 l3 l4 l5 l6 l7 s0 h) := by
  unfold fX10_step_b116
  refine z_lstore (L' := [(8, .long (s0)), (0, .ref (a0)), (3, .int (l3)), (4, .int (l4)), (5, .int (l5)), (6, .int (l6)), (7, .int (l7))]) dX10_step_116 (by decide) rfl ?_
  refine z_iload dX10_step_118 5 rfl ?_
  refine z_iconst (v := 1) dX10_step_120 (by decide) ?_
  refine z_icmp_le (tgt := 136) dX10_step_121 (by first | decide | omega) (fun _ => ?_) (fun _ => ?_)
  · skip
    refine z_lconst (v := 0) dX10_step_136 (by decide) ?_
    refine z_sub [1, 2, 3, 4, 5, 6, 0] rfl ?_
    exact zX10_step_b137 _ _ _ a0 l3 l4 l5 l6 l7 s0 (0 : Int64) k_a0 h
  · skip
    refine z_aload_n dX10_step_124 rfl 1 rfl ?_
    refine z_getR (kd := 51) dX10_step_125 fl_X10_75 k_a0 (fun r27 kr27 => ?_)
    refine z_iload dX10_step_128 6 rfl ?_
    refine z_iconst (v := 1) dX10_step_130 (by decide) ?_
    refine z_iadd dX10_step_131 ?_
    refine z_lald dX10_step_132 kr27 (fun v28 => ?_)
    refine z_goto (tgt := 137) dX10_step_133 (by decide) ?_
    refine z_sub [1, 2, 3, 4, 5, 6, 0] rfl ?_
    exact zX10_step_b137 _ _ _ a0 l3 l4 l5 l6 l7 s0 v28 k_a0 h
def fX10_step (κ : Kd) (a0 : Nat) (h : Hp) : Option (Hp) :=
  if (κ a0).1 = 9 then (
  to_ κ (g_R h a0 24) 50 fun r1 =>
  a_I κ h r1 ((g_I h a0 23) - (1 : Int32)) fun v2 =>
  to_ κ (g_R h a0 25) 50 fun r3 =>
  a_I κ h r3 ((g_I h a0 23) - (1 : Int32)) fun v4 =>
  to_ κ (g_R h a0 19) 50 fun r5 =>
  a_I κ h r5 (((30 : Int32) * v2) + v4) fun v6 =>
  to_ κ (g_R h a0 20) 50 fun r7 =>
  a_I κ h r7 (((30 : Int32) * v2) + v4) fun v8 =>
  to_ κ (g_R h a0 21) 50 fun r9 =>
  a_I κ h r9 (((30 : Int32) * v2) + v4) fun v10 =>
  (fX10_takes κ v6 v8 v10 h).bind fun v11 =>
  to_ κ (g_R h a0 28) 50 fun r12 =>
  a_I κ h r12 ((g_I h a0 23) - (1 : Int32)) fun v13 =>
  if v11 ≤ v13 then (
    to_ κ (g_R h a0 28) 50 fun r14 =>
    a_I κ h r14 ((g_I h a0 23) - (1 : Int32)) fun v15 =>
    w_I κ h r14 ((g_I h a0 23) - (1 : Int32)) (v15 - v11) fun h16 =>
    to_ κ (g_R h16 a0 28) 50 fun r17 =>
    a_I κ h16 r17 ((g_I h a0 23) - (1 : Int32)) fun v18 =>
    if v11 ≤ 0 then (
      fX10_step_b116 κ a0 v6 v8 v10 v11 (((8 : Int32) * ((g_I h a0 23) - (1 : Int32))) + v18) (0 : Int64) h16
    ) else (
      to_ κ (g_R h16 a0 27) 51 fun r29 =>
      a_J κ h16 r29 (((8 : Int32) * ((g_I h a0 23) - (1 : Int32))) + v18) fun v30 =>
      fX10_step_b116 κ a0 v6 v8 v10 v11 (((8 : Int32) * ((g_I h a0 23) - (1 : Int32))) + v18) v30 h16
    )
  ) else (
    (fX10_comes κ a0 (8 : Int32) (0 : Int64) h).bind fun h31 =>
    some h31
  )) else none
set_option maxHeartbeats 4000000 in
set_option maxRecDepth 100000 in
theorem tX10_step (κ : Kd) (n lim : Nat) (h : Hp) (a0 : Nat) : Ct_ mX10_step [.ref (a0)] κ n lim h (eV κ n) (fX10_step κ a0 h) := by
  refine ct_of (by decide) (Nat.le_of_ble_eq_true rfl) ?_
  unfold fX10_step
  refine z_sub (L' := [(0, .ref (a0))]) [0] rfl ?_
  refine z_or (fun k_a0 => ?_)
  refine z_aload_n dX10_step_0 rfl 0 rfl ?_
  refine z_getI dX10_step_1 fl_X10_239 k_a0 ?_
  refine z_iconst (v := 1) dX10_step_4 (by decide) ?_
  refine z_isub dX10_step_5 ?_
  refine z_istore_n (L' := [(1, .int ((g_I h a0 23) - (1 : Int32))), (0, .ref (a0))]) dX10_step_6 rfl (by decide) rfl ?_
  refine z_bipush (v := 30) dX10_step_7 (by decide) ?_
  refine z_aload_n dX10_step_9 rfl 1 rfl ?_
  refine z_getR (kd := 50) dX10_step_10 fl_X10_66 k_a0 (fun r1 kr1 => ?_)
  refine z_iload_n dX10_step_13 rfl 0 rfl ?_
  refine z_iald dX10_step_14 kr1 (fun v2 => ?_)
  refine z_imul dX10_step_15 ?_
  refine z_aload_n dX10_step_16 rfl 1 rfl ?_
  refine z_getR (kd := 50) dX10_step_17 fl_X10_69 k_a0 (fun r3 kr3 => ?_)
  refine z_iload_n dX10_step_20 rfl 0 rfl ?_
  refine z_iald dX10_step_21 kr3 (fun v4 => ?_)
  refine z_iadd dX10_step_22 ?_
  refine z_istore_n (L' := [(2, .int (((30 : Int32) * v2) + v4)), (1, .int ((g_I h a0 23) - (1 : Int32))), (0, .ref (a0))]) dX10_step_23 rfl (by decide) rfl ?_
  refine z_aload_n dX10_step_24 rfl 2 rfl ?_
  refine z_getR (kd := 50) dX10_step_25 fl_X10_54 k_a0 (fun r5 kr5 => ?_)
  refine z_iload_n dX10_step_28 rfl 0 rfl ?_
  refine z_iald dX10_step_29 kr5 (fun v6 => ?_)
  refine z_istore_n (L' := [(3, .int (v6)), (2, .int (((30 : Int32) * v2) + v4)), (1, .int ((g_I h a0 23) - (1 : Int32))), (0, .ref (a0))]) dX10_step_30 rfl (by decide) rfl ?_
  refine z_aload_n dX10_step_31 rfl 3 rfl ?_
  refine z_getR (kd := 50) dX10_step_32 fl_X10_57 k_a0 (fun r7 kr7 => ?_)
  refine z_iload_n dX10_step_35 rfl 1 rfl ?_
  refine z_iald dX10_step_36 kr7 (fun v8 => ?_)
  refine z_istore (L' := [(4, .int (v8)), (3, .int (v6)), (2, .int (((30 : Int32) * v2) + v4)), (1, .int ((g_I h a0 23) - (1 : Int32))), (0, .ref (a0))]) dX10_step_37 (by decide) rfl ?_
  refine z_aload_n dX10_step_39 rfl 4 rfl ?_
  refine z_getR (kd := 50) dX10_step_40 fl_X10_60 k_a0 (fun r9 kr9 => ?_)
  refine z_iload_n dX10_step_43 rfl 2 rfl ?_
  refine z_iald dX10_step_44 kr9 (fun v10 => ?_)
  refine z_istore (L' := [(5, .int (v10)), (4, .int (v8)), (3, .int (v6)), (2, .int (((30 : Int32) * v2) + v4)), (1, .int ((g_I h a0 23) - (1 : Int32))), (0, .ref (a0))]) dX10_step_45 (by decide) rfl ?_
  refine z_iload_n dX10_step_47 rfl 2 rfl ?_
  refine z_iload dX10_step_48 1 rfl ?_
  refine z_iload dX10_step_50 0 rfl ?_
  refine z_pI (as := [.int (v6), .int (v8), .int (v10)]) (rn_S dX10_step_52 mf_X10_takes in_X10_takes lk_X10_308 ⟨by decide, by decide⟩ rfl (Nat.le_of_ble_eq_true rfl)) (tX10_takes _ _ _ _ _ _ _) cz_X10_takes (c00 _) (fun v11 => ?_)
  refine z_istore (L' := [(6, .int (v11)), (5, .int (v10)), (4, .int (v8)), (3, .int (v6)), (2, .int (((30 : Int32) * v2) + v4)), (1, .int ((g_I h a0 23) - (1 : Int32))), (0, .ref (a0))]) dX10_step_55 (by decide) rfl ?_
  refine z_aload_n dX10_step_57 rfl 6 rfl ?_
  refine z_getR (kd := 50) dX10_step_58 fl_X10_78 k_a0 (fun r12 kr12 => ?_)
  refine z_iload_n dX10_step_61 rfl 5 rfl ?_
  refine z_iald dX10_step_62 kr12 (fun v13 => ?_)
  refine z_iload dX10_step_63 0 rfl ?_
  refine z_icmp_ge (tgt := 76) dX10_step_65 (by first | decide | omega) (fun _ => ?_) (fun _ => ?_)
  · skip
    refine z_aload_n dX10_step_76 rfl 6 rfl ?_
    refine z_getR (kd := 50) dX10_step_77 fl_X10_78 k_a0 (fun r14 kr14 => ?_)
    refine z_iload_n dX10_step_80 rfl 5 rfl ?_
    refine z_dup2 dX10_step_81 rfl rfl ?_
    refine z_iald dX10_step_82 kr14 (fun v15 => ?_)
    refine z_iload dX10_step_83 0 rfl ?_
    refine z_isub dX10_step_85 ?_
    refine z_iast dX10_step_86 kr14 (fun h16 => ?_)
    refine z_bipush (v := 8) dX10_step_87 (by decide) ?_
    refine z_iload_n dX10_step_89 rfl 5 rfl ?_
    refine z_imul dX10_step_90 ?_
    refine z_aload_n dX10_step_91 rfl 6 rfl ?_
    refine z_getR (kd := 50) dX10_step_92 fl_X10_78 k_a0 (fun r17 kr17 => ?_)
    refine z_iload_n dX10_step_95 rfl 5 rfl ?_
    refine z_iald dX10_step_96 kr17 (fun v18 => ?_)
    refine z_iadd dX10_step_97 ?_
    refine z_istore (L' := [(7, .int (((8 : Int32) * ((g_I h a0 23) - (1 : Int32))) + v18)), (6, .int (v11)), (5, .int (v10)), (4, .int (v8)), (3, .int (v6)), (2, .int (((30 : Int32) * v2) + v4)), (1, .int ((g_I h a0 23) - (1 : Int32))), (0, .ref (a0))]) dX10_step_98 (by decide) rfl ?_
    refine z_iload dX10_step_100 1 rfl ?_
    refine z_if_le (tgt := 115) dX10_step_102 (by first | decide | omega) (fun _ => ?_) (fun _ => ?_)
    · skip
      refine z_lconst (v := 0) dX10_step_115 (by decide) ?_
      refine z_sub [7, 4, 3, 2, 1, 0] rfl ?_
      exact zX10_step_b116 _ _ _ a0 v6 v8 v10 v11 (((8 : Int32) * ((g_I h a0 23) - (1 : Int32))) + v18) (0 : Int64) k_a0 h16
    · skip
      refine z_aload_n dX10_step_105 rfl 7 rfl ?_
      refine z_getR (kd := 51) dX10_step_106 fl_X10_75 k_a0 (fun r29 kr29 => ?_)
      refine z_iload dX10_step_109 0 rfl ?_
      refine z_lald dX10_step_111 kr29 (fun v30 => ?_)
      refine z_goto (tgt := 116) dX10_step_112 (by decide) ?_
      refine z_sub [7, 4, 3, 2, 1, 0] rfl ?_
      exact zX10_step_b116 _ _ _ a0 v6 v8 v10 v11 (((8 : Int32) * ((g_I h a0 23) - (1 : Int32))) + v18) v30 k_a0 h16
  · skip
    refine z_aload_n dX10_step_68 rfl 6 rfl ?_
    refine z_bipush (v := 8) dX10_step_69 (by decide) ?_
    refine z_lconst (v := 0) dX10_step_71 (by decide) ?_
    refine z_cV (as := [.ref (a0), .int ((8 : Int32)), .long ((0 : Int64))]) (rn_V dX10_step_72 mf_X10_comes in_X10_comes lk_X10_293 ⟨by decide, by decide⟩ cl_8 rfl k_a0 rfl (Nat.le_of_ble_eq_true rfl)) (tX10_comes _ _ _ _ _ _ _) cz_X10_comes (c00 _) (fun h31 => ?_)
    exact z_vret dX10_step_75 rfl (en0 _ _ _ _) rfl
def fX10_run_b124 (κ : Kd) (a0 : Nat) : Nat → Hp → Option (Int32 × Hp)
  | 0, _ => none
  | N + 1, h =>
    if (g_I h a0 38) = 0 then (
      if (g_I h a0 47) = (300 : Int32) then (
        lt_ (s_I h a0 38 (3 : Int32)) fun h27 =>
        fX10_run_b124 κ a0 N  h27
      ) else (
        lt_ (s_I h a0 47 ((g_I h a0 47) + (1 : Int32))) fun h25 =>
        (fX10_step κ a0 h25).bind fun h26 =>
        fX10_run_b124 κ a0 N  h26
      )
    ) else (
      some ((g_I h a0 38) - (1 : Int32), h)
    )
set_option maxRecDepth 100000 in
theorem zX10_run_b124 (κ : Kd) (n lim : Nat) (a0 : Nat) (k_a0 : (κ a0).1 = 9) : ∀ (N : Nat) (h : Hp), ZQ mX10_run (eI κ n) (κ, n, 0, lim) 124 [(0, .ref (a0))] [] h (fX10_run_b124 κ a0 N  h) := by
  intro N
  induction N with
  | zero =>
    intro  h
    rw [fX10_run_b124]
    exact z_no
  | succ N ih =>
    intro  h
    rw [fX10_run_b124]
    refine z_aload_n dX10_run_124 rfl 0 rfl ?_
    refine z_getI dX10_run_125 fl_X10_278 k_a0 ?_
    refine z_if_ne (tgt := 166) dX10_run_128 (by first | decide | omega) (fun _ => ?_) (fun _ => ?_)
    · skip
      refine z_aload_n dX10_run_166 rfl 0 rfl ?_
      refine z_getI dX10_run_167 fl_X10_278 k_a0 ?_
      refine z_iconst (v := 1) dX10_run_170 (by decide) ?_
      refine z_isub dX10_run_171 ?_
      exact z_iret dX10_run_172 rfl (en0 _ _ _ _) rfl
    · skip
      refine z_aload_n dX10_run_131 rfl 0 rfl ?_
      refine z_getI dX10_run_132 fl_X10_372 k_a0 ?_
      refine z_sipush (v := 300) dX10_run_135 (by decide) ?_
      refine z_icmp_ne (tgt := 149) dX10_run_138 (by first | decide | omega) (fun _ => ?_) (fun _ => ?_)
      · skip
        refine z_aload_n dX10_run_149 rfl 0 rfl ?_
        refine z_dup dX10_run_150 rfl ?_
        refine z_getI dX10_run_151 fl_X10_372 k_a0 ?_
        refine z_iconst (v := 1) dX10_run_154 (by decide) ?_
        refine z_iadd dX10_run_155 ?_
        refine z_putI dX10_run_156 fl_X10_372 (Or.inl rfl) k_a0 (fun h25 => ?_)
        refine z_aload_n dX10_run_159 rfl 0 rfl ?_
        refine z_cV (as := [.ref (a0)]) (rn_V dX10_run_160 mf_X10_step in_X10_step lk_X10_375 ⟨by decide, by decide⟩ cl_8 rfl k_a0 rfl (Nat.le_of_ble_eq_true rfl)) (tX10_step _ _ _ _ _) cz_X10_step (c00 _) (fun h26 => ?_)
        refine z_goto (tgt := 124) dX10_run_163 (by decide) ?_
        refine z_sub [0] rfl ?_
        exact ih  h26
      · skip
        refine z_aload_n dX10_run_141 rfl 0 rfl ?_
        refine z_iconst (v := 3) dX10_run_142 (by decide) ?_
        refine z_putI dX10_run_143 fl_X10_278 (Or.inl rfl) k_a0 (fun h27 => ?_)
        refine z_goto (tgt := 124) dX10_run_146 (by decide) ?_
        refine z_sub [0] rfl ?_
        exact ih  h27
def fX10_run_b123 (κ : Kd) (a0 : Nat) (s0 : Int64) (s1 : Int32) (s2 : Nat) (h : Hp) : Option (Int32 × Hp) :=
  w_J κ h s2 s1 s0 fun h24 =>
  fX10_run_b124 κ a0 fu_  h24
set_option maxRecDepth 100000 in
theorem zX10_run_b123 (κ : Kd) (n lim : Nat) (a0 : Nat) (s0 : Int64) (s1 : Int32) (s2 : Nat) (k_a0 : (κ a0).1 = 9)(k_s2 : (κ s2).1 = 51) (h : Hp) : ZQ mX10_run (eI κ n) (κ, n, 0, lim) 123 [(0, .ref (a0))] [.long (s0), .int (s1), .ref (s2)] h (fX10_run_b123 κ a0 s0 s1 s2 h) := by
  unfold fX10_run_b123
  refine z_last dX10_run_123 k_s2 (fun h24 => ?_)
  refine z_sub [0] rfl ?_
  exact zX10_run_b124 _ _ _ a0 k_a0 fu_  h24
def fX10_run (κ : Kd) (a0 : Nat) (l1 : Int32) (l2 : Int64) (l4 : Int64) (h : Hp) : Option (Int32 × Hp) :=
  if (κ a0).1 = 9 then (
  (fX10_isRoutine κ a0 l1 h).bind fun v1 =>
  if v1 = 0 then (
    some ((-1000000 : Int32), h)
  ) else (
    to_ κ (g_R h a0 16) 50 fun r2 =>
    a_I κ h r2 l1 fun v3 =>
    if v3 = 0 then (
      some ((-1000000 : Int32), h)
    ) else (
      lt_ (s_I h a0 41 (0 : Int32)) fun h4 =>
      lt_ (s_J h4 a0 42 (0 : Int64)) fun h5 =>
      lt_ (s_I h5 a0 43 (0 : Int32)) fun h6 =>
      lt_ (s_J h6 a0 44 (0 : Int64)) fun h7 =>
      lt_ (s_I h7 a0 45 (-1 : Int32)) fun h8 =>
      lt_ (s_I h8 a0 46 (-1 : Int32)) fun h9 =>
      lt_ (s_I h9 a0 47 (0 : Int32)) fun h10 =>
      lt_ (s_I h10 a0 48 (0 : Int32)) fun h11 =>
      lt_ (s_I h11 a0 49 (0 : Int32)) fun h12 =>
      lt_ (s_I h12 a0 50 (0 : Int32)) fun h13 =>
      lt_ (s_I h13 a0 51 (0 : Int32)) fun h14 =>
      lt_ (s_I h14 a0 39 (0 : Int32)) fun h15 =>
      lt_ (s_I h15 a0 23 (0 : Int32)) fun h16 =>
      lt_ (s_I h16 a0 38 (0 : Int32)) fun h17 =>
      (fX10_enter κ a0 l1 h17).bind fun h18 =>
      to_ κ (g_R h18 a0 26) 51 fun r19 =>
      w_J κ h18 r19 (0 : Int32) l2 fun h20 =>
      to_ κ (g_R h20 a0 26) 51 fun r21 =>
      to_ κ (g_R h20 a0 15) 50 fun r22 =>
      a_I κ h20 r22 l1 fun v23 =>
      if v23 ≤ (1 : Int32) then (
        fX10_run_b123 κ a0 (0 : Int64) (1 : Int32) r21 h20
      ) else (
        fX10_run_b123 κ a0 l4 (1 : Int32) r21 h20
      )
    )
  )) else none
set_option maxHeartbeats 4000000 in
set_option maxRecDepth 100000 in
theorem tX10_run (κ : Kd) (n lim : Nat) (h : Hp) (a0 : Nat) (l1 : Int32) (l2 : Int64) (l4 : Int64) : Ct_ mX10_run [.ref (a0), .int (l1), .long (l2), .long (l4)] κ n lim h (eI κ n) (fX10_run κ a0 l1 l2 l4 h) := by
  refine ct_of (by decide) (Nat.le_of_ble_eq_true rfl) ?_
  unfold fX10_run
  refine z_sub (L' := [(0, .ref (a0)), (1, .int (l1)), (2, .long (l2)), (4, .long (l4))]) [0, 1, 2, 3] rfl ?_
  refine z_or (fun k_a0 => ?_)
  refine z_aload_n dX10_run_0 rfl 0 rfl ?_
  refine z_iload_n dX10_run_1 rfl 1 rfl ?_
  refine z_pI (as := [.ref (a0), .int (l1)]) (rn_V dX10_run_2 mf_X10_isRoutine in_X10_isRoutine lk_X10_230 ⟨by decide, by decide⟩ cl_8 rfl k_a0 rfl (Nat.le_of_ble_eq_true rfl)) (tX10_isRoutine _ _ _ _ _ _) cz_X10_isRoutine (c00 _) (fun v1 => ?_)
  refine z_if_eq (tgt := 17) dX10_run_5 (by first | decide | omega) (fun _ => ?_) (fun _ => ?_)
  · skip
    refine z_ldc dX10_run_17 co_X10_163 ?_
    exact z_iret dX10_run_19 rfl (en0 _ _ _ _) rfl
  · skip
    refine z_aload_n dX10_run_8 rfl 0 rfl ?_
    refine z_getR (kd := 50) dX10_run_9 fl_X10_45 k_a0 (fun r2 kr2 => ?_)
    refine z_iload_n dX10_run_12 rfl 1 rfl ?_
    refine z_iald dX10_run_13 kr2 (fun v3 => ?_)
    refine z_if_ne (tgt := 20) dX10_run_14 (by first | decide | omega) (fun _ => ?_) (fun _ => ?_)
    · skip
      refine z_aload_n dX10_run_20 rfl 0 rfl ?_
      refine z_iconst (v := 0) dX10_run_21 (by decide) ?_
      refine z_putI dX10_run_22 fl_X10_357 (Or.inl rfl) k_a0 (fun h4 => ?_)
      refine z_aload_n dX10_run_25 rfl 0 rfl ?_
      refine z_lconst (v := 0) dX10_run_26 (by decide) ?_
      refine z_putJ dX10_run_27 fl_X10_301 (Or.inl rfl) k_a0 (fun h5 => ?_)
      refine z_aload_n dX10_run_30 rfl 0 rfl ?_
      refine z_iconst (v := 0) dX10_run_31 (by decide) ?_
      refine z_putI dX10_run_32 fl_X10_281 (Or.inl rfl) k_a0 (fun h6 => ?_)
      refine z_aload_n dX10_run_35 rfl 0 rfl ?_
      refine z_lconst (v := 0) dX10_run_36 (by decide) ?_
      refine z_putJ dX10_run_37 fl_X10_284 (Or.inl rfl) k_a0 (fun h7 => ?_)
      refine z_aload_n dX10_run_40 rfl 0 rfl ?_
      refine z_iconst (v := -1) dX10_run_41 (by decide) ?_
      refine z_putI dX10_run_42 fl_X10_100 (Or.inl rfl) k_a0 (fun h8 => ?_)
      refine z_aload_n dX10_run_45 rfl 0 rfl ?_
      refine z_iconst (v := -1) dX10_run_46 (by decide) ?_
      refine z_putI dX10_run_47 fl_X10_104 (Or.inl rfl) k_a0 (fun h9 => ?_)
      refine z_aload_n dX10_run_50 rfl 0 rfl ?_
      refine z_iconst (v := 0) dX10_run_51 (by decide) ?_
      refine z_putI dX10_run_52 fl_X10_372 (Or.inl rfl) k_a0 (fun h10 => ?_)
      refine z_aload_n dX10_run_55 rfl 0 rfl ?_
      refine z_iconst (v := 0) dX10_run_56 (by decide) ?_
      refine z_putI dX10_run_57 fl_X10_287 (Or.inl rfl) k_a0 (fun h11 => ?_)
      refine z_aload_n dX10_run_60 rfl 0 rfl ?_
      refine z_iconst (v := 0) dX10_run_61 (by decide) ?_
      refine z_putI dX10_run_62 fl_X10_255 (Or.inl rfl) k_a0 (fun h12 => ?_)
      refine z_aload_n dX10_run_65 rfl 0 rfl ?_
      refine z_iconst (v := 0) dX10_run_66 (by decide) ?_
      refine z_putI dX10_run_67 fl_X10_249 (Or.inl rfl) k_a0 (fun h13 => ?_)
      refine z_aload_n dX10_run_70 rfl 0 rfl ?_
      refine z_iconst (v := 0) dX10_run_71 (by decide) ?_
      refine z_putI dX10_run_72 fl_X10_242 (Or.inl rfl) k_a0 (fun h14 => ?_)
      refine z_aload_n dX10_run_75 rfl 0 rfl ?_
      refine z_iconst (v := 0) dX10_run_76 (by decide) ?_
      refine z_putI dX10_run_77 fl_X10_363 (Or.inl rfl) k_a0 (fun h15 => ?_)
      refine z_aload_n dX10_run_80 rfl 0 rfl ?_
      refine z_iconst (v := 0) dX10_run_81 (by decide) ?_
      refine z_putI dX10_run_82 fl_X10_239 (Or.inl rfl) k_a0 (fun h16 => ?_)
      refine z_aload_n dX10_run_85 rfl 0 rfl ?_
      refine z_iconst (v := 0) dX10_run_86 (by decide) ?_
      refine z_putI dX10_run_87 fl_X10_278 (Or.inl rfl) k_a0 (fun h17 => ?_)
      refine z_aload_n dX10_run_90 rfl 0 rfl ?_
      refine z_iload_n dX10_run_91 rfl 1 rfl ?_
      refine z_cV (as := [.ref (a0), .int (l1)]) (rn_V dX10_run_92 mf_X10_enter in_X10_enter lk_X10_341 ⟨by decide, by decide⟩ cl_8 rfl k_a0 rfl (Nat.le_of_ble_eq_true rfl)) (tX10_enter _ _ _ _ _ _) cz_X10_enter (c00 _) (fun h18 => ?_)
      refine z_aload_n dX10_run_95 rfl 0 rfl ?_
      refine z_getR (kd := 51) dX10_run_96 fl_X10_72 k_a0 (fun r19 kr19 => ?_)
      refine z_iconst (v := 0) dX10_run_99 (by decide) ?_
      refine z_lload_n dX10_run_100 rfl 2 rfl ?_
      refine z_last dX10_run_101 kr19 (fun h20 => ?_)
      refine z_aload_n dX10_run_102 rfl 0 rfl ?_
      refine z_getR (kd := 51) dX10_run_103 fl_X10_72 k_a0 (fun r21 kr21 => ?_)
      refine z_iconst (v := 1) dX10_run_106 (by decide) ?_
      refine z_aload_n dX10_run_107 rfl 0 rfl ?_
      refine z_getR (kd := 50) dX10_run_108 fl_X10_42 k_a0 (fun r22 kr22 => ?_)
      refine z_iload_n dX10_run_111 rfl 1 rfl ?_
      refine z_iald dX10_run_112 kr22 (fun v23 => ?_)
      refine z_iconst (v := 1) dX10_run_113 (by decide) ?_
      refine z_icmp_le (tgt := 122) dX10_run_114 (by first | decide | omega) (fun _ => ?_) (fun _ => ?_)
      · skip
        refine z_lconst (v := 0) dX10_run_122 (by decide) ?_
        refine z_sub [0] rfl ?_
        exact zX10_run_b123 _ _ _ a0 (0 : Int64) (1 : Int32) r21 k_a0 kr21 h20
      · skip
        refine z_lload dX10_run_117 3 rfl ?_
        refine z_goto (tgt := 123) dX10_run_119 (by decide) ?_
        refine z_sub [0] rfl ?_
        exact zX10_run_b123 _ _ _ a0 l4 (1 : Int32) r21 k_a0 kr21 h20
    · skip
      refine z_ldc dX10_run_17 co_X10_163 ?_
      exact z_iret dX10_run_19 rfl (en0 _ _ _ _) rfl
def fX10_result (κ : Kd) (a0 : Nat) (h : Hp) : Option (Int64) :=
  if (κ a0).1 = 9 then (
  some (g_J h a0 42)) else none
set_option maxHeartbeats 4000000 in
set_option maxRecDepth 100000 in
theorem tX10_result (κ : Kd) (n lim : Nat) (h : Hp) (a0 : Nat) : Ct_ mX10_result [.ref (a0)] κ n lim h (pJ κ n h) (fX10_result κ a0 h) := by
  refine ct_of (by decide) (Nat.le_of_ble_eq_true rfl) ?_
  unfold fX10_result
  refine z_sub (L' := [(0, .ref (a0))]) [0] rfl ?_
  refine z_or (fun k_a0 => ?_)
  refine z_aload_n dX10_result_0 rfl 0 rfl ?_
  refine z_getJ dX10_result_1 fl_X10_301 k_a0 ?_
  exact z_lret dX10_result_4 rfl (en0 _ _ _ _) rfl
def fX10_told (κ : Kd) (a0 : Nat) (l1 : Int32) (h : Hp) : Option (Int32) :=
  if (κ a0).1 = 9 then (
  if l1 = (0 : Int32) then (
    some (g_I h a0 43)
  ) else
  if l1 = (1 : Int32) then (
    some (g_I h a0 45)
  ) else
  if l1 = (2 : Int32) then (
    some (g_I h a0 46)
  ) else
  if l1 = (3 : Int32) then (
    some (g_I h a0 47)
  ) else
  if l1 = (4 : Int32) then (
    some (g_I h a0 48)
  ) else
  if l1 = (5 : Int32) then (
    some (g_I h a0 49)
  ) else
  if l1 = (6 : Int32) then (
    some (g_I h a0 50)
  ) else
  if l1 = (7 : Int32) then (
    some (g_I h a0 51)
  ) else
  (
    some ((-1000000 : Int32))
  )) else none
set_option maxHeartbeats 4000000 in
set_option maxRecDepth 100000 in
theorem tX10_told (κ : Kd) (n lim : Nat) (h : Hp) (a0 : Nat) (l1 : Int32) : Ct_ mX10_told [.ref (a0), .int (l1)] κ n lim h (pI κ n h) (fX10_told κ a0 l1 h) := by
  refine ct_of (by decide) (Nat.le_of_ble_eq_true rfl) ?_
  unfold fX10_told
  refine z_sub (L' := [(0, .ref (a0)), (1, .int (l1))]) [0, 1] rfl ?_
  refine z_or (fun k_a0 => ?_)
  refine z_iload_n dX10_told_0 rfl 1 rfl ?_
  refine z_ite (fun c2 => ?_) (fun n1 => ?_)
  · refine z_tin (tgt := 48) dX10_told_1 (0) c2 (by decide) (by decide) rfl (by decide) ?_
    refine z_aload_n dX10_told_48 rfl 0 rfl ?_
    refine z_getI dX10_told_49 fl_X10_281 k_a0 ?_
    exact z_iret dX10_told_52 rfl (en0 _ _ _ _) rfl
  refine z_ite (fun c4 => ?_) (fun n3 => ?_)
  · refine z_tin (tgt := 53) dX10_told_1 (1) c4 (by decide) (by decide) rfl (by decide) ?_
    refine z_aload_n dX10_told_53 rfl 0 rfl ?_
    refine z_getI dX10_told_54 fl_X10_100 k_a0 ?_
    exact z_iret dX10_told_57 rfl (en0 _ _ _ _) rfl
  refine z_ite (fun c6 => ?_) (fun n5 => ?_)
  · refine z_tin (tgt := 58) dX10_told_1 (2) c6 (by decide) (by decide) rfl (by decide) ?_
    refine z_aload_n dX10_told_58 rfl 0 rfl ?_
    refine z_getI dX10_told_59 fl_X10_104 k_a0 ?_
    exact z_iret dX10_told_62 rfl (en0 _ _ _ _) rfl
  refine z_ite (fun c8 => ?_) (fun n7 => ?_)
  · refine z_tin (tgt := 63) dX10_told_1 (3) c8 (by decide) (by decide) rfl (by decide) ?_
    refine z_aload_n dX10_told_63 rfl 0 rfl ?_
    refine z_getI dX10_told_64 fl_X10_372 k_a0 ?_
    exact z_iret dX10_told_67 rfl (en0 _ _ _ _) rfl
  refine z_ite (fun c10 => ?_) (fun n9 => ?_)
  · refine z_tin (tgt := 68) dX10_told_1 (4) c10 (by decide) (by decide) rfl (by decide) ?_
    refine z_aload_n dX10_told_68 rfl 0 rfl ?_
    refine z_getI dX10_told_69 fl_X10_287 k_a0 ?_
    exact z_iret dX10_told_72 rfl (en0 _ _ _ _) rfl
  refine z_ite (fun c12 => ?_) (fun n11 => ?_)
  · refine z_tin (tgt := 73) dX10_told_1 (5) c12 (by decide) (by decide) rfl (by decide) ?_
    refine z_aload_n dX10_told_73 rfl 0 rfl ?_
    refine z_getI dX10_told_74 fl_X10_255 k_a0 ?_
    exact z_iret dX10_told_77 rfl (en0 _ _ _ _) rfl
  refine z_ite (fun c14 => ?_) (fun n13 => ?_)
  · refine z_tin (tgt := 78) dX10_told_1 (6) c14 (by decide) (by decide) rfl (by decide) ?_
    refine z_aload_n dX10_told_78 rfl 0 rfl ?_
    refine z_getI dX10_told_79 fl_X10_249 k_a0 ?_
    exact z_iret dX10_told_82 rfl (en0 _ _ _ _) rfl
  refine z_ite (fun c16 => ?_) (fun n15 => ?_)
  · refine z_tin (tgt := 83) dX10_told_1 (7) c16 (by decide) (by decide) rfl (by decide) ?_
    refine z_aload_n dX10_told_83 rfl 0 rfl ?_
    refine z_getI dX10_told_84 fl_X10_242 k_a0 ?_
    exact z_iret dX10_told_87 rfl (en0 _ _ _ _) rfl
  refine z_tdef (tgt := 88) dX10_told_1 [0, 1, 2, 3, 4, 5, 6, 7] (List.forall_mem_cons.mpr ⟨n1, List.forall_mem_cons.mpr ⟨n3, List.forall_mem_cons.mpr ⟨n5, List.forall_mem_cons.mpr ⟨n7, List.forall_mem_cons.mpr ⟨n9, List.forall_mem_cons.mpr ⟨n11, List.forall_mem_cons.mpr ⟨n13, List.forall_mem_cons.mpr ⟨n15, fun _ h => absurd h List.not_mem_nil⟩⟩⟩⟩⟩⟩⟩⟩) (by decide +kernel) (by decide) ?_
  refine z_ldc dX10_told_88 co_X10_163 ?_
  exact z_iret dX10_told_90 rfl (en0 _ _ _ _) rfl
def fX10_number (κ : Kd) (a0 : Nat) (h : Hp) : Option (Int64) :=
  if (κ a0).1 = 9 then (
  some (g_J h a0 44)) else none
set_option maxHeartbeats 4000000 in
set_option maxRecDepth 100000 in
theorem tX10_number (κ : Kd) (n lim : Nat) (h : Hp) (a0 : Nat) : Ct_ mX10_number [.ref (a0)] κ n lim h (pJ κ n h) (fX10_number κ a0 h) := by
  refine ct_of (by decide) (Nat.le_of_ble_eq_true rfl) ?_
  unfold fX10_number
  refine z_sub (L' := [(0, .ref (a0))]) [0] rfl ?_
  refine z_or (fun k_a0 => ?_)
  refine z_aload_n dX10_number_0 rfl 0 rfl ?_
  refine z_getJ dX10_number_1 fl_X10_284 k_a0 ?_
  exact z_lret dX10_number_4 rfl (en0 _ _ _ _) rfl
def fX10_output (κ : Kd) (a0 : Nat) (l1 : Int32) (h : Hp) : Option (Int64) :=
  if (κ a0).1 = 9 then (
  (fX10_in κ l1.toInt64 (0 : Int64) (((g_I h a0 41) - (1 : Int32)).toInt64) h).bind fun v1 =>
  if v1 = 0 then (
    some ((0 : Int64))
  ) else (
    to_ κ (g_R h a0 40) 51 fun r2 =>
    a_J κ h r2 l1 fun v3 =>
    some (v3)
  )) else none
set_option maxHeartbeats 4000000 in
set_option maxRecDepth 100000 in
theorem tX10_output (κ : Kd) (n lim : Nat) (h : Hp) (a0 : Nat) (l1 : Int32) : Ct_ mX10_output [.ref (a0), .int (l1)] κ n lim h (pJ κ n h) (fX10_output κ a0 l1 h) := by
  refine ct_of (by decide) (Nat.le_of_ble_eq_true rfl) ?_
  unfold fX10_output
  refine z_sub (L' := [(0, .ref (a0)), (1, .int (l1))]) [0, 1] rfl ?_
  refine z_or (fun k_a0 => ?_)
  refine z_iload_n dX10_output_0 rfl 1 rfl ?_
  refine z_i2l dX10_output_1 ?_
  refine z_lconst (v := 0) dX10_output_2 (by decide) ?_
  refine z_aload_n dX10_output_3 rfl 0 rfl ?_
  refine z_getI dX10_output_4 fl_X10_357 k_a0 ?_
  refine z_iconst (v := 1) dX10_output_7 (by decide) ?_
  refine z_isub dX10_output_8 ?_
  refine z_i2l dX10_output_9 ?_
  refine z_pI (as := [.long (l1.toInt64), .long ((0 : Int64)), .long (((g_I h a0 41) - (1 : Int32)).toInt64)]) (rn_S dX10_output_10 mf_X10_in in_X10_in lk_X10_139 ⟨by decide, by decide⟩ rfl (Nat.le_of_ble_eq_true rfl)) (tX10_in _ _ _ _ _ _ _) cz_X10_in (c00 _) (fun v1 => ?_)
  refine z_if_eq (tgt := 25) dX10_output_13 (by first | decide | omega) (fun _ => ?_) (fun _ => ?_)
  · skip
    refine z_lconst (v := 0) dX10_output_25 (by decide) ?_
    exact z_lret dX10_output_26 rfl (en0 _ _ _ _) rfl
  · skip
    refine z_aload_n dX10_output_16 rfl 0 rfl ?_
    refine z_getR (kd := 51) dX10_output_17 fl_X10_97 k_a0 (fun r2 kr2 => ?_)
    refine z_iload_n dX10_output_20 rfl 1 rfl ?_
    refine z_lald dX10_output_21 kr2 (fun v3 => ?_)
    refine z_goto (tgt := 26) dX10_output_22 (by decide) ?_
    exact z_lret dX10_output_26 rfl (en0 _ _ _ _) rfl
def fX10_count (κ : Kd) (a0 : Nat) (l1 : Int32) (l2 : Int32) (h : Hp) : Option (Int32) :=
  if (κ a0).1 = 9 then (
  if l1 = (0 : Int32) then (
    some (g_I h a0 5)
  ) else
  if l1 = (1 : Int32) then (
    some (g_I h a0 14)
  ) else
  if l1 = (2 : Int32) then (
    some (g_I h a0 52)
  ) else
  if l1 = (3 : Int32) then (
    some (g_I h a0 41)
  ) else
  if l1 = (4 : Int32) then (
    (fX10_isRoutine κ a0 l2 h).bind fun v9 =>
    if v9 = 0 then (
      some ((-1000000 : Int32))
    ) else (
      to_ κ (g_R h a0 15) 50 fun r10 =>
      a_I κ h r10 l2 fun v11 =>
      some (v11)
    )
  ) else
  if l1 = (5 : Int32) then (
    (fX10_isRoutine κ a0 l2 h).bind fun v14 =>
    if v14 = 0 then (
      some ((-1000000 : Int32))
    ) else (
      to_ κ (g_R h a0 16) 50 fun r15 =>
      a_I κ h r15 l2 fun v16 =>
      some (v16)
    )
  ) else
  if l1 = (6 : Int32) then (
    (fX10_isRoutine κ a0 l2 h).bind fun v19 =>
    if v19 = 0 then (
      some ((-1000000 : Int32))
    ) else (
      to_ κ (g_R h a0 17) 50 fun r20 =>
      a_I κ h r20 l2 fun v21 =>
      some (v21)
    )
  ) else
  (
    some ((-1000000 : Int32))
  )) else none
set_option maxHeartbeats 4000000 in
set_option maxRecDepth 100000 in
theorem tX10_count (κ : Kd) (n lim : Nat) (h : Hp) (a0 : Nat) (l1 : Int32) (l2 : Int32) : Ct_ mX10_count [.ref (a0), .int (l1), .int (l2)] κ n lim h (pI κ n h) (fX10_count κ a0 l1 l2 h) := by
  refine ct_of (by decide) (Nat.le_of_ble_eq_true rfl) ?_
  unfold fX10_count
  refine z_sub (L' := [(0, .ref (a0)), (1, .int (l1)), (2, .int (l2))]) [0, 1, 2] rfl ?_
  refine z_or (fun k_a0 => ?_)
  refine z_iload_n dX10_count_0 rfl 1 rfl ?_
  refine z_ite (fun c2 => ?_) (fun n1 => ?_)
  · refine z_tin (tgt := 44) dX10_count_1 (0) c2 (by decide) (by decide) rfl (by decide) ?_
    refine z_aload_n dX10_count_44 rfl 0 rfl ?_
    refine z_getI dX10_count_45 fl_X10_182 k_a0 ?_
    exact z_iret dX10_count_48 rfl (en0 _ _ _ _) rfl
  refine z_ite (fun c4 => ?_) (fun n3 => ?_)
  · refine z_tin (tgt := 49) dX10_count_1 (1) c4 (by decide) (by decide) rfl (by decide) ?_
    refine z_aload_n dX10_count_49 rfl 0 rfl ?_
    refine z_getI dX10_count_50 fl_X10_217 k_a0 ?_
    exact z_iret dX10_count_53 rfl (en0 _ _ _ _) rfl
  refine z_ite (fun c6 => ?_) (fun n5 => ?_)
  · refine z_tin (tgt := 54) dX10_count_1 (2) c6 (by decide) (by decide) rfl (by decide) ?_
    refine z_aload_n dX10_count_54 rfl 0 rfl ?_
    refine z_getI dX10_count_55 fl_X10_360 k_a0 ?_
    exact z_iret dX10_count_58 rfl (en0 _ _ _ _) rfl
  refine z_ite (fun c8 => ?_) (fun n7 => ?_)
  · refine z_tin (tgt := 59) dX10_count_1 (3) c8 (by decide) (by decide) rfl (by decide) ?_
    refine z_aload_n dX10_count_59 rfl 0 rfl ?_
    refine z_getI dX10_count_60 fl_X10_357 k_a0 ?_
    exact z_iret dX10_count_63 rfl (en0 _ _ _ _) rfl
  refine z_ite (fun c13 => ?_) (fun n12 => ?_)
  · refine z_tin (tgt := 64) dX10_count_1 (4) c13 (by decide) (by decide) rfl (by decide) ?_
    refine z_aload_n dX10_count_64 rfl 0 rfl ?_
    refine z_iload_n dX10_count_65 rfl 2 rfl ?_
    refine z_pI (as := [.ref (a0), .int (l2)]) (rn_V dX10_count_66 mf_X10_isRoutine in_X10_isRoutine lk_X10_230 ⟨by decide, by decide⟩ cl_8 rfl k_a0 rfl (Nat.le_of_ble_eq_true rfl)) (tX10_isRoutine _ _ _ _ _ _) cz_X10_isRoutine (c00 _) (fun v9 => ?_)
    refine z_if_eq (tgt := 81) dX10_count_69 (by first | decide | omega) (fun _ => ?_) (fun _ => ?_)
    · skip
      refine z_ldc dX10_count_81 co_X10_163 ?_
      exact z_iret dX10_count_83 rfl (en0 _ _ _ _) rfl
    · skip
      refine z_aload_n dX10_count_72 rfl 0 rfl ?_
      refine z_getR (kd := 50) dX10_count_73 fl_X10_42 k_a0 (fun r10 kr10 => ?_)
      refine z_iload_n dX10_count_76 rfl 2 rfl ?_
      refine z_iald dX10_count_77 kr10 (fun v11 => ?_)
      refine z_goto (tgt := 83) dX10_count_78 (by decide) ?_
      exact z_iret dX10_count_83 rfl (en0 _ _ _ _) rfl
  refine z_ite (fun c18 => ?_) (fun n17 => ?_)
  · refine z_tin (tgt := 84) dX10_count_1 (5) c18 (by decide) (by decide) rfl (by decide) ?_
    refine z_aload_n dX10_count_84 rfl 0 rfl ?_
    refine z_iload_n dX10_count_85 rfl 2 rfl ?_
    refine z_pI (as := [.ref (a0), .int (l2)]) (rn_V dX10_count_86 mf_X10_isRoutine in_X10_isRoutine lk_X10_230 ⟨by decide, by decide⟩ cl_8 rfl k_a0 rfl (Nat.le_of_ble_eq_true rfl)) (tX10_isRoutine _ _ _ _ _ _) cz_X10_isRoutine (c00 _) (fun v14 => ?_)
    refine z_if_eq (tgt := 101) dX10_count_89 (by first | decide | omega) (fun _ => ?_) (fun _ => ?_)
    · skip
      refine z_ldc dX10_count_101 co_X10_163 ?_
      exact z_iret dX10_count_103 rfl (en0 _ _ _ _) rfl
    · skip
      refine z_aload_n dX10_count_92 rfl 0 rfl ?_
      refine z_getR (kd := 50) dX10_count_93 fl_X10_45 k_a0 (fun r15 kr15 => ?_)
      refine z_iload_n dX10_count_96 rfl 2 rfl ?_
      refine z_iald dX10_count_97 kr15 (fun v16 => ?_)
      refine z_goto (tgt := 103) dX10_count_98 (by decide) ?_
      exact z_iret dX10_count_103 rfl (en0 _ _ _ _) rfl
  refine z_ite (fun c23 => ?_) (fun n22 => ?_)
  · refine z_tin (tgt := 104) dX10_count_1 (6) c23 (by decide) (by decide) rfl (by decide) ?_
    refine z_aload_n dX10_count_104 rfl 0 rfl ?_
    refine z_iload_n dX10_count_105 rfl 2 rfl ?_
    refine z_pI (as := [.ref (a0), .int (l2)]) (rn_V dX10_count_106 mf_X10_isRoutine in_X10_isRoutine lk_X10_230 ⟨by decide, by decide⟩ cl_8 rfl k_a0 rfl (Nat.le_of_ble_eq_true rfl)) (tX10_isRoutine _ _ _ _ _ _) cz_X10_isRoutine (c00 _) (fun v19 => ?_)
    refine z_if_eq (tgt := 121) dX10_count_109 (by first | decide | omega) (fun _ => ?_) (fun _ => ?_)
    · skip
      refine z_ldc dX10_count_121 co_X10_163 ?_
      exact z_iret dX10_count_123 rfl (en0 _ _ _ _) rfl
    · skip
      refine z_aload_n dX10_count_112 rfl 0 rfl ?_
      refine z_getR (kd := 50) dX10_count_113 fl_X10_48 k_a0 (fun r20 kr20 => ?_)
      refine z_iload_n dX10_count_116 rfl 2 rfl ?_
      refine z_iald dX10_count_117 kr20 (fun v21 => ?_)
      refine z_goto (tgt := 123) dX10_count_118 (by decide) ?_
      exact z_iret dX10_count_123 rfl (en0 _ _ _ _) rfl
  refine z_tdef (tgt := 124) dX10_count_1 [0, 1, 2, 3, 4, 5, 6] (List.forall_mem_cons.mpr ⟨n1, List.forall_mem_cons.mpr ⟨n3, List.forall_mem_cons.mpr ⟨n5, List.forall_mem_cons.mpr ⟨n7, List.forall_mem_cons.mpr ⟨n12, List.forall_mem_cons.mpr ⟨n17, List.forall_mem_cons.mpr ⟨n22, fun _ h => absurd h List.not_mem_nil⟩⟩⟩⟩⟩⟩⟩) (by decide +kernel) (by decide) ?_
  refine z_ldc dX10_count_124 co_X10_163 ?_
  exact z_iret dX10_count_126 rfl (en0 _ _ _ _) rfl
def fX10_forget (κ : Kd) (a0 : Nat) (h : Hp) : Option (Int32 × Hp) :=
  if (κ a0).1 = 9 then (
  lt_ (s_I h a0 52 (0 : Int32)) fun h1 =>
  some (g_I h a0 52, h1)) else none
set_option maxHeartbeats 4000000 in
set_option maxRecDepth 100000 in
theorem tX10_forget (κ : Kd) (n lim : Nat) (h : Hp) (a0 : Nat) : Ct_ mX10_forget [.ref (a0)] κ n lim h (eI κ n) (fX10_forget κ a0 h) := by
  refine ct_of (by decide) (Nat.le_of_ble_eq_true rfl) ?_
  unfold fX10_forget
  refine z_sub (L' := [(0, .ref (a0))]) [0] rfl ?_
  refine z_or (fun k_a0 => ?_)
  refine z_aload_n dX10_forget_0 rfl 0 rfl ?_
  refine z_getI dX10_forget_1 fl_X10_360 k_a0 ?_
  refine z_istore_n (L' := [(1, .int (g_I h a0 52)), (0, .ref (a0))]) dX10_forget_4 rfl (by decide) rfl ?_
  refine z_aload_n dX10_forget_5 rfl 1 rfl ?_
  refine z_iconst (v := 0) dX10_forget_6 (by decide) ?_
  refine z_putI dX10_forget_7 fl_X10_360 (Or.inl rfl) k_a0 (fun h1 => ?_)
  refine z_iload_n dX10_forget_10 rfl 0 rfl ?_
  exact z_iret dX10_forget_11 rfl (en0 _ _ _ _) rfl
