abbrev kX10_init_1 (κ : Kd) (n : Nat) : Kd := up_K κ n (50, 12)
abbrev kX10_init_2 (κ : Kd) (n : Nat) : Kd := up_K (kX10_init_1 κ n) (n + 1) (50, 12)
abbrev kX10_init_3 (κ : Kd) (n : Nat) : Kd := up_K (kX10_init_2 κ n) (n + 2) (50, 12)
abbrev kX10_init_4 (κ : Kd) (n : Nat) : Kd := up_K (kX10_init_3 κ n) (n + 3) (51, 144)
abbrev kX10_init_5 (κ : Kd) (n : Nat) : Kd := up_K (kX10_init_4 κ n) (n + 4) (52, 144)
abbrev kX10_init_6 (κ : Kd) (n : Nat) : Kd := up_K (kX10_init_5 κ n) (n + 5) (50, 12)
abbrev kX10_init_7 (κ : Kd) (n : Nat) : Kd := up_K (kX10_init_6 κ n) (n + 6) (50, 12)
abbrev kX10_init_8 (κ : Kd) (n : Nat) : Kd := up_K (kX10_init_7 κ n) (n + 7) (50, 12)
abbrev kX10_init_9 (κ : Kd) (n : Nat) : Kd := up_K (kX10_init_8 κ n) (n + 8) (50, 12)
abbrev kX10_init_10 (κ : Kd) (n : Nat) : Kd := up_K (kX10_init_9 κ n) (n + 9) (50, 48)
abbrev kX10_init_11 (κ : Kd) (n : Nat) : Kd := up_K (kX10_init_10 κ n) (n + 10) (50, 12)
abbrev kX10_init_12 (κ : Kd) (n : Nat) : Kd := up_K (kX10_init_11 κ n) (n + 11) (50, 12)
abbrev kX10_init_13 (κ : Kd) (n : Nat) : Kd := up_K (kX10_init_12 κ n) (n + 12) (50, 12)
abbrev kX10_init_14 (κ : Kd) (n : Nat) : Kd := up_K (kX10_init_13 κ n) (n + 13) (50, 12)
abbrev kX10_init_15 (κ : Kd) (n : Nat) : Kd := up_K (kX10_init_14 κ n) (n + 14) (50, 360)
abbrev kX10_init_16 (κ : Kd) (n : Nat) : Kd := up_K (kX10_init_15 κ n) (n + 15) (50, 360)
abbrev kX10_init_17 (κ : Kd) (n : Nat) : Kd := up_K (kX10_init_16 κ n) (n + 16) (50, 360)
abbrev kX10_init_18 (κ : Kd) (n : Nat) : Kd := up_K (kX10_init_17 κ n) (n + 17) (50, 192)
abbrev kX10_init_19 (κ : Kd) (n : Nat) : Kd := up_K (kX10_init_18 κ n) (n + 18) (50, 12)
abbrev kX10_init_20 (κ : Kd) (n : Nat) : Kd := up_K (kX10_init_19 κ n) (n + 19) (50, 12)
abbrev kX10_init_21 (κ : Kd) (n : Nat) : Kd := up_K (kX10_init_20 κ n) (n + 20) (51, 72)
abbrev kX10_init_22 (κ : Kd) (n : Nat) : Kd := up_K (kX10_init_21 κ n) (n + 21) (51, 96)
abbrev kX10_init_23 (κ : Kd) (n : Nat) : Kd := up_K (kX10_init_22 κ n) (n + 22) (50, 12)
abbrev kX10_init_24 (κ : Kd) (n : Nat) : Kd := up_K (kX10_init_23 κ n) (n + 23) (53, 12)
abbrev kX10_init_25 (κ : Kd) (n : Nat) : Kd := up_K (kX10_init_24 κ n) (n + 24) (50, 12)
abbrev kX10_init_26 (κ : Kd) (n : Nat) : Kd := up_K (kX10_init_25 κ n) (n + 25) (51, 12)
abbrev kX10_init_27 (κ : Kd) (n : Nat) : Kd := up_K (kX10_init_26 κ n) (n + 26) (50, 12)
abbrev kX10_init_28 (κ : Kd) (n : Nat) : Kd := up_K (kX10_init_27 κ n) (n + 27) (50, 12)
abbrev kX10_init_29 (κ : Kd) (n : Nat) : Kd := up_K (kX10_init_28 κ n) (n + 28) (51, 60)
abbrev kX10_init_30 (κ : Kd) (n : Nat) : Kd := up_K (kX10_init_29 κ n) (n + 29) (50, 36)
abbrev kX10_init_31 (κ : Kd) (n : Nat) : Kd := up_K (kX10_init_30 κ n) (n + 30) (50, 36)
abbrev kX10_init_32 (κ : Kd) (n : Nat) : Kd := up_K (kX10_init_31 κ n) (n + 31) (50, 36)
abbrev kX10_init_33 (κ : Kd) (n : Nat) : Kd := up_K (kX10_init_32 κ n) (n + 32) (51, 432)
abbrev kX10_init_34 (κ : Kd) (n : Nat) : Kd := up_K (kX10_init_33 κ n) (n + 33) (52, 432)
abbrev kX10_init_35 (κ : Kd) (n : Nat) : Kd := up_K (kX10_init_34 κ n) (n + 34) (50, 3)
abbrev kX10_init_36 (κ : Kd) (n : Nat) : Kd := up_K (kX10_init_35 κ n) (n + 35) (50, 36)
abbrev kX10_init_37 (κ : Kd) (n : Nat) : Kd := up_K (kX10_init_36 κ n) (n + 36) (50, 36)
abbrev kX10_init_38 (κ : Kd) (n : Nat) : Kd := up_K (kX10_init_37 κ n) (n + 37) (50, 36)
abbrev kX10_init_39 (κ : Kd) (n : Nat) : Kd := up_K (kX10_init_38 κ n) (n + 38) (50, 144)
abbrev kX10_init (κ : Kd) (n : Nat) : Kd := kX10_init_39 κ n
theorem lvk_X10_init {κ : Kd} {n : Nat} (hv : Lv_ κ n) : Lv_ (kX10_init κ n) (n + 39) := by
  have hv := lv_up (v := (50, 12)) hv
  have hv := lv_up (v := (50, 12)) hv
  have hv := lv_up (v := (50, 12)) hv
  have hv := lv_up (v := (51, 144)) hv
  have hv := lv_up (v := (52, 144)) hv
  have hv := lv_up (v := (50, 12)) hv
  have hv := lv_up (v := (50, 12)) hv
  have hv := lv_up (v := (50, 12)) hv
  have hv := lv_up (v := (50, 12)) hv
  have hv := lv_up (v := (50, 48)) hv
  have hv := lv_up (v := (50, 12)) hv
  have hv := lv_up (v := (50, 12)) hv
  have hv := lv_up (v := (50, 12)) hv
  have hv := lv_up (v := (50, 12)) hv
  have hv := lv_up (v := (50, 360)) hv
  have hv := lv_up (v := (50, 360)) hv
  have hv := lv_up (v := (50, 360)) hv
  have hv := lv_up (v := (50, 192)) hv
  have hv := lv_up (v := (50, 12)) hv
  have hv := lv_up (v := (50, 12)) hv
  have hv := lv_up (v := (51, 72)) hv
  have hv := lv_up (v := (51, 96)) hv
  have hv := lv_up (v := (50, 12)) hv
  have hv := lv_up (v := (53, 12)) hv
  have hv := lv_up (v := (50, 12)) hv
  have hv := lv_up (v := (51, 12)) hv
  have hv := lv_up (v := (50, 12)) hv
  have hv := lv_up (v := (50, 12)) hv
  have hv := lv_up (v := (51, 60)) hv
  have hv := lv_up (v := (50, 36)) hv
  have hv := lv_up (v := (50, 36)) hv
  have hv := lv_up (v := (50, 36)) hv
  have hv := lv_up (v := (51, 432)) hv
  have hv := lv_up (v := (52, 432)) hv
  have hv := lv_up (v := (50, 3)) hv
  have hv := lv_up (v := (50, 36)) hv
  have hv := lv_up (v := (50, 36)) hv
  have hv := lv_up (v := (50, 36)) hv
  have hv := lv_up (v := (50, 144)) hv
  exact hv
theorem kp_X10_init {κ : Kd} {n b x : Nat} (hv : Lv_ κ n) (hb : (κ b).1 = x) (hx : x ≠ 0) : (kX10_init κ n b).1 = x := by
  have hb := up_ne (v := (50, 12)) hv hb hx
  have hv := lv_up (v := (50, 12)) hv
  have hb := up_ne (v := (50, 12)) hv hb hx
  have hv := lv_up (v := (50, 12)) hv
  have hb := up_ne (v := (50, 12)) hv hb hx
  have hv := lv_up (v := (50, 12)) hv
  have hb := up_ne (v := (51, 144)) hv hb hx
  have hv := lv_up (v := (51, 144)) hv
  have hb := up_ne (v := (52, 144)) hv hb hx
  have hv := lv_up (v := (52, 144)) hv
  have hb := up_ne (v := (50, 12)) hv hb hx
  have hv := lv_up (v := (50, 12)) hv
  have hb := up_ne (v := (50, 12)) hv hb hx
  have hv := lv_up (v := (50, 12)) hv
  have hb := up_ne (v := (50, 12)) hv hb hx
  have hv := lv_up (v := (50, 12)) hv
  have hb := up_ne (v := (50, 12)) hv hb hx
  have hv := lv_up (v := (50, 12)) hv
  have hb := up_ne (v := (50, 48)) hv hb hx
  have hv := lv_up (v := (50, 48)) hv
  have hb := up_ne (v := (50, 12)) hv hb hx
  have hv := lv_up (v := (50, 12)) hv
  have hb := up_ne (v := (50, 12)) hv hb hx
  have hv := lv_up (v := (50, 12)) hv
  have hb := up_ne (v := (50, 12)) hv hb hx
  have hv := lv_up (v := (50, 12)) hv
  have hb := up_ne (v := (50, 12)) hv hb hx
  have hv := lv_up (v := (50, 12)) hv
  have hb := up_ne (v := (50, 360)) hv hb hx
  have hv := lv_up (v := (50, 360)) hv
  have hb := up_ne (v := (50, 360)) hv hb hx
  have hv := lv_up (v := (50, 360)) hv
  have hb := up_ne (v := (50, 360)) hv hb hx
  have hv := lv_up (v := (50, 360)) hv
  have hb := up_ne (v := (50, 192)) hv hb hx
  have hv := lv_up (v := (50, 192)) hv
  have hb := up_ne (v := (50, 12)) hv hb hx
  have hv := lv_up (v := (50, 12)) hv
  have hb := up_ne (v := (50, 12)) hv hb hx
  have hv := lv_up (v := (50, 12)) hv
  have hb := up_ne (v := (51, 72)) hv hb hx
  have hv := lv_up (v := (51, 72)) hv
  have hb := up_ne (v := (51, 96)) hv hb hx
  have hv := lv_up (v := (51, 96)) hv
  have hb := up_ne (v := (50, 12)) hv hb hx
  have hv := lv_up (v := (50, 12)) hv
  have hb := up_ne (v := (53, 12)) hv hb hx
  have hv := lv_up (v := (53, 12)) hv
  have hb := up_ne (v := (50, 12)) hv hb hx
  have hv := lv_up (v := (50, 12)) hv
  have hb := up_ne (v := (51, 12)) hv hb hx
  have hv := lv_up (v := (51, 12)) hv
  have hb := up_ne (v := (50, 12)) hv hb hx
  have hv := lv_up (v := (50, 12)) hv
  have hb := up_ne (v := (50, 12)) hv hb hx
  have hv := lv_up (v := (50, 12)) hv
  have hb := up_ne (v := (51, 60)) hv hb hx
  have hv := lv_up (v := (51, 60)) hv
  have hb := up_ne (v := (50, 36)) hv hb hx
  have hv := lv_up (v := (50, 36)) hv
  have hb := up_ne (v := (50, 36)) hv hb hx
  have hv := lv_up (v := (50, 36)) hv
  have hb := up_ne (v := (50, 36)) hv hb hx
  have hv := lv_up (v := (50, 36)) hv
  have hb := up_ne (v := (51, 432)) hv hb hx
  have hv := lv_up (v := (51, 432)) hv
  have hb := up_ne (v := (52, 432)) hv hb hx
  have hv := lv_up (v := (52, 432)) hv
  have hb := up_ne (v := (50, 3)) hv hb hx
  have hv := lv_up (v := (50, 3)) hv
  have hb := up_ne (v := (50, 36)) hv hb hx
  have hv := lv_up (v := (50, 36)) hv
  have hb := up_ne (v := (50, 36)) hv hb hx
  have hv := lv_up (v := (50, 36)) hv
  have hb := up_ne (v := (50, 36)) hv hb hx
  have hv := lv_up (v := (50, 36)) hv
  have hb := up_ne (v := (50, 144)) hv hb hx
  have hv := lv_up (v := (50, 144)) hv
  exact hb
def fX10_init (κ : Kd) (n : Nat) (a0 : Nat) (h : Hp) : Option (Hp) :=
  if (κ a0).1 = 9 then (
  lt_ (nw_ h n) fun h1 =>
  lt_ (s_R h1 a0 0 (some n)) fun h2 =>
  lt_ (nw_ h2 (n + 1)) fun h3 =>
  lt_ (s_R h3 a0 1 (some (n + 1))) fun h4 =>
  lt_ (nw_ h4 (n + 2)) fun h5 =>
  lt_ (s_R h5 a0 2 (some (n + 2))) fun h6 =>
  lt_ (nw_ h6 (n + 3)) fun h7 =>
  lt_ (s_R h7 a0 3 (some (n + 3))) fun h8 =>
  lt_ (nw_ h8 (n + 4)) fun h9 =>
  lt_ (s_R h9 a0 4 (some (n + 4))) fun h10 =>
  lt_ (nw_ h10 (n + 5)) fun h11 =>
  lt_ (s_R h11 a0 6 (some (n + 5))) fun h12 =>
  lt_ (nw_ h12 (n + 6)) fun h13 =>
  lt_ (s_R h13 a0 7 (some (n + 6))) fun h14 =>
  lt_ (nw_ h14 (n + 7)) fun h15 =>
  lt_ (s_R h15 a0 8 (some (n + 7))) fun h16 =>
  lt_ (nw_ h16 (n + 8)) fun h17 =>
  lt_ (s_R h17 a0 9 (some (n + 8))) fun h18 =>
  lt_ (nw_ h18 (n + 9)) fun h19 =>
  lt_ (s_R h19 a0 10 (some (n + 9))) fun h20 =>
  lt_ (nw_ h20 (n + 10)) fun h21 =>
  lt_ (s_R h21 a0 15 (some (n + 10))) fun h22 =>
  lt_ (nw_ h22 (n + 11)) fun h23 =>
  lt_ (s_R h23 a0 16 (some (n + 11))) fun h24 =>
  lt_ (nw_ h24 (n + 12)) fun h25 =>
  lt_ (s_R h25 a0 17 (some (n + 12))) fun h26 =>
  lt_ (nw_ h26 (n + 13)) fun h27 =>
  lt_ (s_R h27 a0 18 (some (n + 13))) fun h28 =>
  lt_ (nw_ h28 (n + 14)) fun h29 =>
  lt_ (s_R h29 a0 19 (some (n + 14))) fun h30 =>
  lt_ (nw_ h30 (n + 15)) fun h31 =>
  lt_ (s_R h31 a0 20 (some (n + 15))) fun h32 =>
  lt_ (nw_ h32 (n + 16)) fun h33 =>
  lt_ (s_R h33 a0 21 (some (n + 16))) fun h34 =>
  lt_ (nw_ h34 (n + 17)) fun h35 =>
  lt_ (s_R h35 a0 22 (some (n + 17))) fun h36 =>
  lt_ (nw_ h36 (n + 18)) fun h37 =>
  lt_ (s_R h37 a0 24 (some (n + 18))) fun h38 =>
  lt_ (nw_ h38 (n + 19)) fun h39 =>
  lt_ (s_R h39 a0 25 (some (n + 19))) fun h40 =>
  lt_ (nw_ h40 (n + 20)) fun h41 =>
  lt_ (s_R h41 a0 26 (some (n + 20))) fun h42 =>
  lt_ (nw_ h42 (n + 21)) fun h43 =>
  lt_ (s_R h43 a0 27 (some (n + 21))) fun h44 =>
  lt_ (nw_ h44 (n + 22)) fun h45 =>
  lt_ (s_R h45 a0 28 (some (n + 22))) fun h46 =>
  lt_ (nw_ h46 (n + 23)) fun h47 =>
  lt_ (s_R h47 a0 29 (some (n + 23))) fun h48 =>
  lt_ (nw_ h48 (n + 24)) fun h49 =>
  lt_ (s_R h49 a0 30 (some (n + 24))) fun h50 =>
  lt_ (nw_ h50 (n + 25)) fun h51 =>
  lt_ (s_R h51 a0 31 (some (n + 25))) fun h52 =>
  lt_ (nw_ h52 (n + 26)) fun h53 =>
  lt_ (s_R h53 a0 32 (some (n + 26))) fun h54 =>
  lt_ (nw_ h54 (n + 27)) fun h55 =>
  lt_ (s_R h55 a0 33 (some (n + 27))) fun h56 =>
  lt_ (nw_ h56 (n + 28)) fun h57 =>
  lt_ (s_R h57 a0 40 (some (n + 28))) fun h58 =>
  lt_ (s_I h58 a0 45 (-1 : Int32)) fun h59 =>
  lt_ (s_I h59 a0 46 (-1 : Int32)) fun h60 =>
  lt_ (nw_ h60 (n + 29)) fun h61 =>
  lt_ (s_R h61 a0 53 (some (n + 29))) fun h62 =>
  lt_ (nw_ h62 (n + 30)) fun h63 =>
  lt_ (s_R h63 a0 54 (some (n + 30))) fun h64 =>
  lt_ (nw_ h64 (n + 31)) fun h65 =>
  lt_ (s_R h65 a0 55 (some (n + 31))) fun h66 =>
  lt_ (nw_ h66 (n + 32)) fun h67 =>
  lt_ (s_R h67 a0 56 (some (n + 32))) fun h68 =>
  lt_ (nw_ h68 (n + 33)) fun h69 =>
  lt_ (s_R h69 a0 57 (some (n + 33))) fun h70 =>
  lt_ (nw_ h70 (n + 34)) fun h71 =>
  lt_ (s_R h71 a0 58 (some (n + 34))) fun h72 =>
  lt_ (nw_ h72 (n + 35)) fun h73 =>
  lt_ (s_R h73 a0 59 (some (n + 35))) fun h74 =>
  lt_ (nw_ h74 (n + 36)) fun h75 =>
  lt_ (s_R h75 a0 60 (some (n + 36))) fun h76 =>
  lt_ (nw_ h76 (n + 37)) fun h77 =>
  lt_ (s_R h77 a0 61 (some (n + 37))) fun h78 =>
  lt_ (nw_ h78 (n + 38)) fun h79 =>
  lt_ (s_R h79 a0 62 (some (n + 38))) fun h80 =>
  to_ (kX10_init_39 κ n) (g_R h80 a0 0) 50 fun r81 =>
  w_I (kX10_init_39 κ n) h80 r81 (0 : Int32) (-1 : Int32) fun h82 =>
  to_ (kX10_init_39 κ n) (g_R h82 a0 0) 50 fun r83 =>
  w_I (kX10_init_39 κ n) h82 r83 (1 : Int32) (-1 : Int32) fun h84 =>
  to_ (kX10_init_39 κ n) (g_R h84 a0 0) 50 fun r85 =>
  w_I (kX10_init_39 κ n) h84 r85 (2 : Int32) (-1 : Int32) fun h86 =>
  to_ (kX10_init_39 κ n) (g_R h86 a0 0) 50 fun r87 =>
  w_I (kX10_init_39 κ n) h86 r87 (3 : Int32) (-1 : Int32) fun h88 =>
  to_ (kX10_init_39 κ n) (g_R h88 a0 0) 50 fun r89 =>
  w_I (kX10_init_39 κ n) h88 r89 (4 : Int32) (-1 : Int32) fun h90 =>
  to_ (kX10_init_39 κ n) (g_R h90 a0 0) 50 fun r91 =>
  w_I (kX10_init_39 κ n) h90 r91 (5 : Int32) (-1 : Int32) fun h92 =>
  to_ (kX10_init_39 κ n) (g_R h92 a0 0) 50 fun r93 =>
  w_I (kX10_init_39 κ n) h92 r93 (6 : Int32) (-1 : Int32) fun h94 =>
  to_ (kX10_init_39 κ n) (g_R h94 a0 0) 50 fun r95 =>
  w_I (kX10_init_39 κ n) h94 r95 (7 : Int32) (-1 : Int32) fun h96 =>
  to_ (kX10_init_39 κ n) (g_R h96 a0 0) 50 fun r97 =>
  w_I (kX10_init_39 κ n) h96 r97 (8 : Int32) (-1 : Int32) fun h98 =>
  to_ (kX10_init_39 κ n) (g_R h98 a0 0) 50 fun r99 =>
  w_I (kX10_init_39 κ n) h98 r99 (9 : Int32) (-1 : Int32) fun h100 =>
  to_ (kX10_init_39 κ n) (g_R h100 a0 0) 50 fun r101 =>
  w_I (kX10_init_39 κ n) h100 r101 (10 : Int32) (-1 : Int32) fun h102 =>
  to_ (kX10_init_39 κ n) (g_R h102 a0 0) 50 fun r103 =>
  w_I (kX10_init_39 κ n) h102 r103 (11 : Int32) (-1 : Int32) fun h104 =>
  some h104) else none
set_option maxHeartbeats 4000000 in
set_option maxRecDepth 100000 in
theorem tX10_init (κ : Kd) (n lim : Nat) (h : Hp) (a0 : Nat) (hv : Lv_ κ n) (hl : n + 39 ≤ lim) : Ct_ mX10_init [.ref (a0)] κ n lim h (eV (kX10_init κ n) (n + 39)) (fX10_init κ n a0 h) := by
  refine ct_of (by decide) (Nat.le_of_ble_eq_true rfl) ?_
  unfold fX10_init
  refine z_sub (L' := [(0, .ref (a0))]) [0] rfl ?_
  refine z_or (fun k_a0 => ?_)
  refine z_aload_n dX10_init_0 rfl 0 rfl ?_
  refine z_oi dX10_init_1 oi_X10_1 ⟨by decide, Nat.le_of_ble_eq_true rfl⟩ ?_
  refine z_aload_n dX10_init_4 rfl 0 rfl ?_
  refine z_bipush (v := 12) dX10_init_5 (by decide) ?_
  refine z_newa (N := 12) dX10_init_7 pk_50 (by decide) (by decide) ⟨by omega, by decide, by decide⟩ (fun h1 => ?_)
  have k_a0 := up_ne (v := (50, 12)) hv k_a0 (by decide)
  have kn1 := up_eq κ n (50, 12)
  have hv := lv_up (v := (50, 12)) hv
  refine z_putR dX10_init_9 fl_X10_7 (Or.inr ⟨rfl, rfl, ff_X10_7⟩) k_a0 (fun h2 => ?_)
  refine z_aload_n dX10_init_12 rfl 0 rfl ?_
  refine z_bipush (v := 12) dX10_init_13 (by decide) ?_
  refine z_newa (N := 12) dX10_init_15 pk_50 (by decide) (by decide) ⟨by omega, by decide, by decide⟩ (fun h3 => ?_)
  have k_a0 := up_ne (v := (50, 12)) hv k_a0 (by decide)
  have kn1 := up_ne (v := (50, 12)) hv kn1 (by decide)
  have kn2 := up_eq (kX10_init_1 κ n) (n + 1) (50, 12)
  have hv := lv_up (v := (50, 12)) hv
  refine z_putR dX10_init_17 fl_X10_13 (Or.inr ⟨rfl, rfl, ff_X10_13⟩) k_a0 (fun h4 => ?_)
  refine z_aload_n dX10_init_20 rfl 0 rfl ?_
  refine z_bipush (v := 12) dX10_init_21 (by decide) ?_
  refine z_newa (N := 12) dX10_init_23 pk_50 (by decide) (by decide) ⟨by omega, by decide, by decide⟩ (fun h5 => ?_)
  have k_a0 := up_ne (v := (50, 12)) hv k_a0 (by decide)
  have kn1 := up_ne (v := (50, 12)) hv kn1 (by decide)
  have kn2 := up_ne (v := (50, 12)) hv kn2 (by decide)
  have kn3 := up_eq (kX10_init_2 κ n) (n + 2) (50, 12)
  have hv := lv_up (v := (50, 12)) hv
  refine z_putR dX10_init_25 fl_X10_16 (Or.inr ⟨rfl, rfl, ff_X10_16⟩) k_a0 (fun h6 => ?_)
  refine z_aload_n dX10_init_28 rfl 0 rfl ?_
  refine z_sipush (v := 144) dX10_init_29 (by decide) ?_
  refine z_newa (N := 144) dX10_init_32 pk_51 (by decide) (by decide) ⟨by omega, by decide, by decide⟩ (fun h7 => ?_)
  have k_a0 := up_ne (v := (51, 144)) hv k_a0 (by decide)
  have kn1 := up_ne (v := (51, 144)) hv kn1 (by decide)
  have kn2 := up_ne (v := (51, 144)) hv kn2 (by decide)
  have kn3 := up_ne (v := (51, 144)) hv kn3 (by decide)
  have kn4 := up_eq (kX10_init_3 κ n) (n + 3) (51, 144)
  have hv := lv_up (v := (51, 144)) hv
  refine z_putR dX10_init_34 fl_X10_19 (Or.inr ⟨rfl, rfl, ff_X10_19⟩) k_a0 (fun h8 => ?_)
  refine z_aload_n dX10_init_37 rfl 0 rfl ?_
  refine z_sipush (v := 144) dX10_init_38 (by decide) ?_
  refine z_newa (N := 144) dX10_init_41 pk_52 (by decide) (by decide) ⟨by omega, by decide, by decide⟩ (fun h9 => ?_)
  have k_a0 := up_ne (v := (52, 144)) hv k_a0 (by decide)
  have kn1 := up_ne (v := (52, 144)) hv kn1 (by decide)
  have kn2 := up_ne (v := (52, 144)) hv kn2 (by decide)
  have kn3 := up_ne (v := (52, 144)) hv kn3 (by decide)
  have kn4 := up_ne (v := (52, 144)) hv kn4 (by decide)
  have kn5 := up_eq (kX10_init_4 κ n) (n + 4) (52, 144)
  have hv := lv_up (v := (52, 144)) hv
  refine z_putR dX10_init_43 fl_X10_23 (Or.inr ⟨rfl, rfl, ff_X10_23⟩) k_a0 (fun h10 => ?_)
  refine z_aload_n dX10_init_46 rfl 0 rfl ?_
  refine z_bipush (v := 12) dX10_init_47 (by decide) ?_
  refine z_newa (N := 12) dX10_init_49 pk_50 (by decide) (by decide) ⟨by omega, by decide, by decide⟩ (fun h11 => ?_)
  have k_a0 := up_ne (v := (50, 12)) hv k_a0 (by decide)
  have kn1 := up_ne (v := (50, 12)) hv kn1 (by decide)
  have kn2 := up_ne (v := (50, 12)) hv kn2 (by decide)
  have kn3 := up_ne (v := (50, 12)) hv kn3 (by decide)
  have kn4 := up_ne (v := (50, 12)) hv kn4 (by decide)
  have kn5 := up_ne (v := (50, 12)) hv kn5 (by decide)
  have kn6 := up_eq (kX10_init_5 κ n) (n + 5) (50, 12)
  have hv := lv_up (v := (50, 12)) hv
  refine z_putR dX10_init_51 fl_X10_27 (Or.inr ⟨rfl, rfl, ff_X10_27⟩) k_a0 (fun h12 => ?_)
  refine z_aload_n dX10_init_54 rfl 0 rfl ?_
  refine z_bipush (v := 12) dX10_init_55 (by decide) ?_
  refine z_newa (N := 12) dX10_init_57 pk_50 (by decide) (by decide) ⟨by omega, by decide, by decide⟩ (fun h13 => ?_)
  have k_a0 := up_ne (v := (50, 12)) hv k_a0 (by decide)
  have kn1 := up_ne (v := (50, 12)) hv kn1 (by decide)
  have kn2 := up_ne (v := (50, 12)) hv kn2 (by decide)
  have kn3 := up_ne (v := (50, 12)) hv kn3 (by decide)
  have kn4 := up_ne (v := (50, 12)) hv kn4 (by decide)
  have kn5 := up_ne (v := (50, 12)) hv kn5 (by decide)
  have kn6 := up_ne (v := (50, 12)) hv kn6 (by decide)
  have kn7 := up_eq (kX10_init_6 κ n) (n + 6) (50, 12)
  have hv := lv_up (v := (50, 12)) hv
  refine z_putR dX10_init_59 fl_X10_30 (Or.inr ⟨rfl, rfl, ff_X10_30⟩) k_a0 (fun h14 => ?_)
  refine z_aload_n dX10_init_62 rfl 0 rfl ?_
  refine z_bipush (v := 12) dX10_init_63 (by decide) ?_
  refine z_newa (N := 12) dX10_init_65 pk_50 (by decide) (by decide) ⟨by omega, by decide, by decide⟩ (fun h15 => ?_)
  have k_a0 := up_ne (v := (50, 12)) hv k_a0 (by decide)
  have kn1 := up_ne (v := (50, 12)) hv kn1 (by decide)
  have kn2 := up_ne (v := (50, 12)) hv kn2 (by decide)
  have kn3 := up_ne (v := (50, 12)) hv kn3 (by decide)
  have kn4 := up_ne (v := (50, 12)) hv kn4 (by decide)
  have kn5 := up_ne (v := (50, 12)) hv kn5 (by decide)
  have kn6 := up_ne (v := (50, 12)) hv kn6 (by decide)
  have kn7 := up_ne (v := (50, 12)) hv kn7 (by decide)
  have kn8 := up_eq (kX10_init_7 κ n) (n + 7) (50, 12)
  have hv := lv_up (v := (50, 12)) hv
  refine z_putR dX10_init_67 fl_X10_33 (Or.inr ⟨rfl, rfl, ff_X10_33⟩) k_a0 (fun h16 => ?_)
  refine z_aload_n dX10_init_70 rfl 0 rfl ?_
  refine z_bipush (v := 12) dX10_init_71 (by decide) ?_
  refine z_newa (N := 12) dX10_init_73 pk_50 (by decide) (by decide) ⟨by omega, by decide, by decide⟩ (fun h17 => ?_)
  have k_a0 := up_ne (v := (50, 12)) hv k_a0 (by decide)
  have kn1 := up_ne (v := (50, 12)) hv kn1 (by decide)
  have kn2 := up_ne (v := (50, 12)) hv kn2 (by decide)
  have kn3 := up_ne (v := (50, 12)) hv kn3 (by decide)
  have kn4 := up_ne (v := (50, 12)) hv kn4 (by decide)
  have kn5 := up_ne (v := (50, 12)) hv kn5 (by decide)
  have kn6 := up_ne (v := (50, 12)) hv kn6 (by decide)
  have kn7 := up_ne (v := (50, 12)) hv kn7 (by decide)
  have kn8 := up_ne (v := (50, 12)) hv kn8 (by decide)
  have kn9 := up_eq (kX10_init_8 κ n) (n + 8) (50, 12)
  have hv := lv_up (v := (50, 12)) hv
  refine z_putR dX10_init_75 fl_X10_36 (Or.inr ⟨rfl, rfl, ff_X10_36⟩) k_a0 (fun h18 => ?_)
  refine z_aload_n dX10_init_78 rfl 0 rfl ?_
  refine z_bipush (v := 48) dX10_init_79 (by decide) ?_
  refine z_newa (N := 48) dX10_init_81 pk_50 (by decide) (by decide) ⟨by omega, by decide, by decide⟩ (fun h19 => ?_)
  have k_a0 := up_ne (v := (50, 48)) hv k_a0 (by decide)
  have kn1 := up_ne (v := (50, 48)) hv kn1 (by decide)
  have kn2 := up_ne (v := (50, 48)) hv kn2 (by decide)
  have kn3 := up_ne (v := (50, 48)) hv kn3 (by decide)
  have kn4 := up_ne (v := (50, 48)) hv kn4 (by decide)
  have kn5 := up_ne (v := (50, 48)) hv kn5 (by decide)
  have kn6 := up_ne (v := (50, 48)) hv kn6 (by decide)
  have kn7 := up_ne (v := (50, 48)) hv kn7 (by decide)
  have kn8 := up_ne (v := (50, 48)) hv kn8 (by decide)
  have kn9 := up_ne (v := (50, 48)) hv kn9 (by decide)
  have kn10 := up_eq (kX10_init_9 κ n) (n + 9) (50, 48)
  have hv := lv_up (v := (50, 48)) hv
  refine z_putR dX10_init_83 fl_X10_39 (Or.inr ⟨rfl, rfl, ff_X10_39⟩) k_a0 (fun h20 => ?_)
  refine z_aload_n dX10_init_86 rfl 0 rfl ?_
  refine z_bipush (v := 12) dX10_init_87 (by decide) ?_
  refine z_newa (N := 12) dX10_init_89 pk_50 (by decide) (by decide) ⟨by omega, by decide, by decide⟩ (fun h21 => ?_)
  have k_a0 := up_ne (v := (50, 12)) hv k_a0 (by decide)
  have kn1 := up_ne (v := (50, 12)) hv kn1 (by decide)
  have kn2 := up_ne (v := (50, 12)) hv kn2 (by decide)
  have kn3 := up_ne (v := (50, 12)) hv kn3 (by decide)
  have kn4 := up_ne (v := (50, 12)) hv kn4 (by decide)
  have kn5 := up_ne (v := (50, 12)) hv kn5 (by decide)
  have kn6 := up_ne (v := (50, 12)) hv kn6 (by decide)
  have kn7 := up_ne (v := (50, 12)) hv kn7 (by decide)
  have kn8 := up_ne (v := (50, 12)) hv kn8 (by decide)
  have kn9 := up_ne (v := (50, 12)) hv kn9 (by decide)
  have kn10 := up_ne (v := (50, 12)) hv kn10 (by decide)
  have kn11 := up_eq (kX10_init_10 κ n) (n + 10) (50, 12)
  have hv := lv_up (v := (50, 12)) hv
  refine z_putR dX10_init_91 fl_X10_42 (Or.inr ⟨rfl, rfl, ff_X10_42⟩) k_a0 (fun h22 => ?_)
  refine z_aload_n dX10_init_94 rfl 0 rfl ?_
  refine z_bipush (v := 12) dX10_init_95 (by decide) ?_
  refine z_newa (N := 12) dX10_init_97 pk_50 (by decide) (by decide) ⟨by omega, by decide, by decide⟩ (fun h23 => ?_)
  have k_a0 := up_ne (v := (50, 12)) hv k_a0 (by decide)
  have kn1 := up_ne (v := (50, 12)) hv kn1 (by decide)
  have kn2 := up_ne (v := (50, 12)) hv kn2 (by decide)
  have kn3 := up_ne (v := (50, 12)) hv kn3 (by decide)
  have kn4 := up_ne (v := (50, 12)) hv kn4 (by decide)
  have kn5 := up_ne (v := (50, 12)) hv kn5 (by decide)
  have kn6 := up_ne (v := (50, 12)) hv kn6 (by decide)
  have kn7 := up_ne (v := (50, 12)) hv kn7 (by decide)
  have kn8 := up_ne (v := (50, 12)) hv kn8 (by decide)
  have kn9 := up_ne (v := (50, 12)) hv kn9 (by decide)
  have kn10 := up_ne (v := (50, 12)) hv kn10 (by decide)
  have kn11 := up_ne (v := (50, 12)) hv kn11 (by decide)
  have kn12 := up_eq (kX10_init_11 κ n) (n + 11) (50, 12)
  have hv := lv_up (v := (50, 12)) hv
  refine z_putR dX10_init_99 fl_X10_45 (Or.inr ⟨rfl, rfl, ff_X10_45⟩) k_a0 (fun h24 => ?_)
  refine z_aload_n dX10_init_102 rfl 0 rfl ?_
  refine z_bipush (v := 12) dX10_init_103 (by decide) ?_
  refine z_newa (N := 12) dX10_init_105 pk_50 (by decide) (by decide) ⟨by omega, by decide, by decide⟩ (fun h25 => ?_)
  have k_a0 := up_ne (v := (50, 12)) hv k_a0 (by decide)
  have kn1 := up_ne (v := (50, 12)) hv kn1 (by decide)
  have kn2 := up_ne (v := (50, 12)) hv kn2 (by decide)
  have kn3 := up_ne (v := (50, 12)) hv kn3 (by decide)
  have kn4 := up_ne (v := (50, 12)) hv kn4 (by decide)
  have kn5 := up_ne (v := (50, 12)) hv kn5 (by decide)
  have kn6 := up_ne (v := (50, 12)) hv kn6 (by decide)
  have kn7 := up_ne (v := (50, 12)) hv kn7 (by decide)
  have kn8 := up_ne (v := (50, 12)) hv kn8 (by decide)
  have kn9 := up_ne (v := (50, 12)) hv kn9 (by decide)
  have kn10 := up_ne (v := (50, 12)) hv kn10 (by decide)
  have kn11 := up_ne (v := (50, 12)) hv kn11 (by decide)
  have kn12 := up_ne (v := (50, 12)) hv kn12 (by decide)
  have kn13 := up_eq (kX10_init_12 κ n) (n + 12) (50, 12)
  have hv := lv_up (v := (50, 12)) hv
  refine z_putR dX10_init_107 fl_X10_48 (Or.inr ⟨rfl, rfl, ff_X10_48⟩) k_a0 (fun h26 => ?_)
  refine z_aload_n dX10_init_110 rfl 0 rfl ?_
  refine z_bipush (v := 12) dX10_init_111 (by decide) ?_
  refine z_newa (N := 12) dX10_init_113 pk_50 (by decide) (by decide) ⟨by omega, by decide, by decide⟩ (fun h27 => ?_)
  have k_a0 := up_ne (v := (50, 12)) hv k_a0 (by decide)
  have kn1 := up_ne (v := (50, 12)) hv kn1 (by decide)
  have kn2 := up_ne (v := (50, 12)) hv kn2 (by decide)
  have kn3 := up_ne (v := (50, 12)) hv kn3 (by decide)
  have kn4 := up_ne (v := (50, 12)) hv kn4 (by decide)
  have kn5 := up_ne (v := (50, 12)) hv kn5 (by decide)
  have kn6 := up_ne (v := (50, 12)) hv kn6 (by decide)
  have kn7 := up_ne (v := (50, 12)) hv kn7 (by decide)
  have kn8 := up_ne (v := (50, 12)) hv kn8 (by decide)
  have kn9 := up_ne (v := (50, 12)) hv kn9 (by decide)
  have kn10 := up_ne (v := (50, 12)) hv kn10 (by decide)
  have kn11 := up_ne (v := (50, 12)) hv kn11 (by decide)
  have kn12 := up_ne (v := (50, 12)) hv kn12 (by decide)
  have kn13 := up_ne (v := (50, 12)) hv kn13 (by decide)
  have kn14 := up_eq (kX10_init_13 κ n) (n + 13) (50, 12)
  have hv := lv_up (v := (50, 12)) hv
  refine z_putR dX10_init_115 fl_X10_51 (Or.inr ⟨rfl, rfl, ff_X10_51⟩) k_a0 (fun h28 => ?_)
  refine z_aload_n dX10_init_118 rfl 0 rfl ?_
  refine z_sipush (v := 360) dX10_init_119 (by decide) ?_
  refine z_newa (N := 360) dX10_init_122 pk_50 (by decide) (by decide) ⟨by omega, by decide, by decide⟩ (fun h29 => ?_)
  have k_a0 := up_ne (v := (50, 360)) hv k_a0 (by decide)
  have kn1 := up_ne (v := (50, 360)) hv kn1 (by decide)
  have kn2 := up_ne (v := (50, 360)) hv kn2 (by decide)
  have kn3 := up_ne (v := (50, 360)) hv kn3 (by decide)
  have kn4 := up_ne (v := (50, 360)) hv kn4 (by decide)
  have kn5 := up_ne (v := (50, 360)) hv kn5 (by decide)
  have kn6 := up_ne (v := (50, 360)) hv kn6 (by decide)
  have kn7 := up_ne (v := (50, 360)) hv kn7 (by decide)
  have kn8 := up_ne (v := (50, 360)) hv kn8 (by decide)
  have kn9 := up_ne (v := (50, 360)) hv kn9 (by decide)
  have kn10 := up_ne (v := (50, 360)) hv kn10 (by decide)
  have kn11 := up_ne (v := (50, 360)) hv kn11 (by decide)
  have kn12 := up_ne (v := (50, 360)) hv kn12 (by decide)
  have kn13 := up_ne (v := (50, 360)) hv kn13 (by decide)
  have kn14 := up_ne (v := (50, 360)) hv kn14 (by decide)
  have kn15 := up_eq (kX10_init_14 κ n) (n + 14) (50, 360)
  have hv := lv_up (v := (50, 360)) hv
  refine z_putR dX10_init_124 fl_X10_54 (Or.inr ⟨rfl, rfl, ff_X10_54⟩) k_a0 (fun h30 => ?_)
  refine z_aload_n dX10_init_127 rfl 0 rfl ?_
  refine z_sipush (v := 360) dX10_init_128 (by decide) ?_
  refine z_newa (N := 360) dX10_init_131 pk_50 (by decide) (by decide) ⟨by omega, by decide, by decide⟩ (fun h31 => ?_)
  have k_a0 := up_ne (v := (50, 360)) hv k_a0 (by decide)
  have kn1 := up_ne (v := (50, 360)) hv kn1 (by decide)
  have kn2 := up_ne (v := (50, 360)) hv kn2 (by decide)
  have kn3 := up_ne (v := (50, 360)) hv kn3 (by decide)
  have kn4 := up_ne (v := (50, 360)) hv kn4 (by decide)
  have kn5 := up_ne (v := (50, 360)) hv kn5 (by decide)
  have kn6 := up_ne (v := (50, 360)) hv kn6 (by decide)
  have kn7 := up_ne (v := (50, 360)) hv kn7 (by decide)
  have kn8 := up_ne (v := (50, 360)) hv kn8 (by decide)
  have kn9 := up_ne (v := (50, 360)) hv kn9 (by decide)
  have kn10 := up_ne (v := (50, 360)) hv kn10 (by decide)
  have kn11 := up_ne (v := (50, 360)) hv kn11 (by decide)
  have kn12 := up_ne (v := (50, 360)) hv kn12 (by decide)
  have kn13 := up_ne (v := (50, 360)) hv kn13 (by decide)
  have kn14 := up_ne (v := (50, 360)) hv kn14 (by decide)
  have kn15 := up_ne (v := (50, 360)) hv kn15 (by decide)
  have kn16 := up_eq (kX10_init_15 κ n) (n + 15) (50, 360)
  have hv := lv_up (v := (50, 360)) hv
  refine z_putR dX10_init_133 fl_X10_57 (Or.inr ⟨rfl, rfl, ff_X10_57⟩) k_a0 (fun h32 => ?_)
  refine z_aload_n dX10_init_136 rfl 0 rfl ?_
  refine z_sipush (v := 360) dX10_init_137 (by decide) ?_
  refine z_newa (N := 360) dX10_init_140 pk_50 (by decide) (by decide) ⟨by omega, by decide, by decide⟩ (fun h33 => ?_)
  have k_a0 := up_ne (v := (50, 360)) hv k_a0 (by decide)
  have kn1 := up_ne (v := (50, 360)) hv kn1 (by decide)
  have kn2 := up_ne (v := (50, 360)) hv kn2 (by decide)
  have kn3 := up_ne (v := (50, 360)) hv kn3 (by decide)
  have kn4 := up_ne (v := (50, 360)) hv kn4 (by decide)
  have kn5 := up_ne (v := (50, 360)) hv kn5 (by decide)
  have kn6 := up_ne (v := (50, 360)) hv kn6 (by decide)
  have kn7 := up_ne (v := (50, 360)) hv kn7 (by decide)
  have kn8 := up_ne (v := (50, 360)) hv kn8 (by decide)
  have kn9 := up_ne (v := (50, 360)) hv kn9 (by decide)
  have kn10 := up_ne (v := (50, 360)) hv kn10 (by decide)
  have kn11 := up_ne (v := (50, 360)) hv kn11 (by decide)
  have kn12 := up_ne (v := (50, 360)) hv kn12 (by decide)
  have kn13 := up_ne (v := (50, 360)) hv kn13 (by decide)
  have kn14 := up_ne (v := (50, 360)) hv kn14 (by decide)
  have kn15 := up_ne (v := (50, 360)) hv kn15 (by decide)
  have kn16 := up_ne (v := (50, 360)) hv kn16 (by decide)
  have kn17 := up_eq (kX10_init_16 κ n) (n + 16) (50, 360)
  have hv := lv_up (v := (50, 360)) hv
  refine z_putR dX10_init_142 fl_X10_60 (Or.inr ⟨rfl, rfl, ff_X10_60⟩) k_a0 (fun h34 => ?_)
  refine z_aload_n dX10_init_145 rfl 0 rfl ?_
  refine z_sipush (v := 192) dX10_init_146 (by decide) ?_
  refine z_newa (N := 192) dX10_init_149 pk_50 (by decide) (by decide) ⟨by omega, by decide, by decide⟩ (fun h35 => ?_)
  have k_a0 := up_ne (v := (50, 192)) hv k_a0 (by decide)
  have kn1 := up_ne (v := (50, 192)) hv kn1 (by decide)
  have kn2 := up_ne (v := (50, 192)) hv kn2 (by decide)
  have kn3 := up_ne (v := (50, 192)) hv kn3 (by decide)
  have kn4 := up_ne (v := (50, 192)) hv kn4 (by decide)
  have kn5 := up_ne (v := (50, 192)) hv kn5 (by decide)
  have kn6 := up_ne (v := (50, 192)) hv kn6 (by decide)
  have kn7 := up_ne (v := (50, 192)) hv kn7 (by decide)
  have kn8 := up_ne (v := (50, 192)) hv kn8 (by decide)
  have kn9 := up_ne (v := (50, 192)) hv kn9 (by decide)
  have kn10 := up_ne (v := (50, 192)) hv kn10 (by decide)
  have kn11 := up_ne (v := (50, 192)) hv kn11 (by decide)
  have kn12 := up_ne (v := (50, 192)) hv kn12 (by decide)
  have kn13 := up_ne (v := (50, 192)) hv kn13 (by decide)
  have kn14 := up_ne (v := (50, 192)) hv kn14 (by decide)
  have kn15 := up_ne (v := (50, 192)) hv kn15 (by decide)
  have kn16 := up_ne (v := (50, 192)) hv kn16 (by decide)
  have kn17 := up_ne (v := (50, 192)) hv kn17 (by decide)
  have kn18 := up_eq (kX10_init_17 κ n) (n + 17) (50, 192)
  have hv := lv_up (v := (50, 192)) hv
  refine z_putR dX10_init_151 fl_X10_63 (Or.inr ⟨rfl, rfl, ff_X10_63⟩) k_a0 (fun h36 => ?_)
  refine z_aload_n dX10_init_154 rfl 0 rfl ?_
  refine z_bipush (v := 12) dX10_init_155 (by decide) ?_
  refine z_newa (N := 12) dX10_init_157 pk_50 (by decide) (by decide) ⟨by omega, by decide, by decide⟩ (fun h37 => ?_)
  have k_a0 := up_ne (v := (50, 12)) hv k_a0 (by decide)
  have kn1 := up_ne (v := (50, 12)) hv kn1 (by decide)
  have kn2 := up_ne (v := (50, 12)) hv kn2 (by decide)
  have kn3 := up_ne (v := (50, 12)) hv kn3 (by decide)
  have kn4 := up_ne (v := (50, 12)) hv kn4 (by decide)
  have kn5 := up_ne (v := (50, 12)) hv kn5 (by decide)
  have kn6 := up_ne (v := (50, 12)) hv kn6 (by decide)
  have kn7 := up_ne (v := (50, 12)) hv kn7 (by decide)
  have kn8 := up_ne (v := (50, 12)) hv kn8 (by decide)
  have kn9 := up_ne (v := (50, 12)) hv kn9 (by decide)
  have kn10 := up_ne (v := (50, 12)) hv kn10 (by decide)
  have kn11 := up_ne (v := (50, 12)) hv kn11 (by decide)
  have kn12 := up_ne (v := (50, 12)) hv kn12 (by decide)
  have kn13 := up_ne (v := (50, 12)) hv kn13 (by decide)
  have kn14 := up_ne (v := (50, 12)) hv kn14 (by decide)
  have kn15 := up_ne (v := (50, 12)) hv kn15 (by decide)
  have kn16 := up_ne (v := (50, 12)) hv kn16 (by decide)
  have kn17 := up_ne (v := (50, 12)) hv kn17 (by decide)
  have kn18 := up_ne (v := (50, 12)) hv kn18 (by decide)
  have kn19 := up_eq (kX10_init_18 κ n) (n + 18) (50, 12)
  have hv := lv_up (v := (50, 12)) hv
  refine z_putR dX10_init_159 fl_X10_66 (Or.inr ⟨rfl, rfl, ff_X10_66⟩) k_a0 (fun h38 => ?_)
  refine z_aload_n dX10_init_162 rfl 0 rfl ?_
  refine z_bipush (v := 12) dX10_init_163 (by decide) ?_
  refine z_newa (N := 12) dX10_init_165 pk_50 (by decide) (by decide) ⟨by omega, by decide, by decide⟩ (fun h39 => ?_)
  have k_a0 := up_ne (v := (50, 12)) hv k_a0 (by decide)
  have kn1 := up_ne (v := (50, 12)) hv kn1 (by decide)
  have kn2 := up_ne (v := (50, 12)) hv kn2 (by decide)
  have kn3 := up_ne (v := (50, 12)) hv kn3 (by decide)
  have kn4 := up_ne (v := (50, 12)) hv kn4 (by decide)
  have kn5 := up_ne (v := (50, 12)) hv kn5 (by decide)
  have kn6 := up_ne (v := (50, 12)) hv kn6 (by decide)
  have kn7 := up_ne (v := (50, 12)) hv kn7 (by decide)
  have kn8 := up_ne (v := (50, 12)) hv kn8 (by decide)
  have kn9 := up_ne (v := (50, 12)) hv kn9 (by decide)
  have kn10 := up_ne (v := (50, 12)) hv kn10 (by decide)
  have kn11 := up_ne (v := (50, 12)) hv kn11 (by decide)
  have kn12 := up_ne (v := (50, 12)) hv kn12 (by decide)
  have kn13 := up_ne (v := (50, 12)) hv kn13 (by decide)
  have kn14 := up_ne (v := (50, 12)) hv kn14 (by decide)
  have kn15 := up_ne (v := (50, 12)) hv kn15 (by decide)
  have kn16 := up_ne (v := (50, 12)) hv kn16 (by decide)
  have kn17 := up_ne (v := (50, 12)) hv kn17 (by decide)
  have kn18 := up_ne (v := (50, 12)) hv kn18 (by decide)
  have kn19 := up_ne (v := (50, 12)) hv kn19 (by decide)
  have kn20 := up_eq (kX10_init_19 κ n) (n + 19) (50, 12)
  have hv := lv_up (v := (50, 12)) hv
  refine z_putR dX10_init_167 fl_X10_69 (Or.inr ⟨rfl, rfl, ff_X10_69⟩) k_a0 (fun h40 => ?_)
  refine z_aload_n dX10_init_170 rfl 0 rfl ?_
  refine z_bipush (v := 72) dX10_init_171 (by decide) ?_
  refine z_newa (N := 72) dX10_init_173 pk_51 (by decide) (by decide) ⟨by omega, by decide, by decide⟩ (fun h41 => ?_)
  have k_a0 := up_ne (v := (51, 72)) hv k_a0 (by decide)
  have kn1 := up_ne (v := (51, 72)) hv kn1 (by decide)
  have kn2 := up_ne (v := (51, 72)) hv kn2 (by decide)
  have kn3 := up_ne (v := (51, 72)) hv kn3 (by decide)
  have kn4 := up_ne (v := (51, 72)) hv kn4 (by decide)
  have kn5 := up_ne (v := (51, 72)) hv kn5 (by decide)
  have kn6 := up_ne (v := (51, 72)) hv kn6 (by decide)
  have kn7 := up_ne (v := (51, 72)) hv kn7 (by decide)
  have kn8 := up_ne (v := (51, 72)) hv kn8 (by decide)
  have kn9 := up_ne (v := (51, 72)) hv kn9 (by decide)
  have kn10 := up_ne (v := (51, 72)) hv kn10 (by decide)
  have kn11 := up_ne (v := (51, 72)) hv kn11 (by decide)
  have kn12 := up_ne (v := (51, 72)) hv kn12 (by decide)
  have kn13 := up_ne (v := (51, 72)) hv kn13 (by decide)
  have kn14 := up_ne (v := (51, 72)) hv kn14 (by decide)
  have kn15 := up_ne (v := (51, 72)) hv kn15 (by decide)
  have kn16 := up_ne (v := (51, 72)) hv kn16 (by decide)
  have kn17 := up_ne (v := (51, 72)) hv kn17 (by decide)
  have kn18 := up_ne (v := (51, 72)) hv kn18 (by decide)
  have kn19 := up_ne (v := (51, 72)) hv kn19 (by decide)
  have kn20 := up_ne (v := (51, 72)) hv kn20 (by decide)
  have kn21 := up_eq (kX10_init_20 κ n) (n + 20) (51, 72)
  have hv := lv_up (v := (51, 72)) hv
  refine z_putR dX10_init_175 fl_X10_72 (Or.inr ⟨rfl, rfl, ff_X10_72⟩) k_a0 (fun h42 => ?_)
  refine z_aload_n dX10_init_178 rfl 0 rfl ?_
  refine z_bipush (v := 96) dX10_init_179 (by decide) ?_
  refine z_newa (N := 96) dX10_init_181 pk_51 (by decide) (by decide) ⟨by omega, by decide, by decide⟩ (fun h43 => ?_)
  have k_a0 := up_ne (v := (51, 96)) hv k_a0 (by decide)
  have kn1 := up_ne (v := (51, 96)) hv kn1 (by decide)
  have kn2 := up_ne (v := (51, 96)) hv kn2 (by decide)
  have kn3 := up_ne (v := (51, 96)) hv kn3 (by decide)
  have kn4 := up_ne (v := (51, 96)) hv kn4 (by decide)
  have kn5 := up_ne (v := (51, 96)) hv kn5 (by decide)
  have kn6 := up_ne (v := (51, 96)) hv kn6 (by decide)
  have kn7 := up_ne (v := (51, 96)) hv kn7 (by decide)
  have kn8 := up_ne (v := (51, 96)) hv kn8 (by decide)
  have kn9 := up_ne (v := (51, 96)) hv kn9 (by decide)
  have kn10 := up_ne (v := (51, 96)) hv kn10 (by decide)
  have kn11 := up_ne (v := (51, 96)) hv kn11 (by decide)
  have kn12 := up_ne (v := (51, 96)) hv kn12 (by decide)
  have kn13 := up_ne (v := (51, 96)) hv kn13 (by decide)
  have kn14 := up_ne (v := (51, 96)) hv kn14 (by decide)
  have kn15 := up_ne (v := (51, 96)) hv kn15 (by decide)
  have kn16 := up_ne (v := (51, 96)) hv kn16 (by decide)
  have kn17 := up_ne (v := (51, 96)) hv kn17 (by decide)
  have kn18 := up_ne (v := (51, 96)) hv kn18 (by decide)
  have kn19 := up_ne (v := (51, 96)) hv kn19 (by decide)
  have kn20 := up_ne (v := (51, 96)) hv kn20 (by decide)
  have kn21 := up_ne (v := (51, 96)) hv kn21 (by decide)
  have kn22 := up_eq (kX10_init_21 κ n) (n + 21) (51, 96)
  have hv := lv_up (v := (51, 96)) hv
  refine z_putR dX10_init_183 fl_X10_75 (Or.inr ⟨rfl, rfl, ff_X10_75⟩) k_a0 (fun h44 => ?_)
  refine z_aload_n dX10_init_186 rfl 0 rfl ?_
  refine z_bipush (v := 12) dX10_init_187 (by decide) ?_
  refine z_newa (N := 12) dX10_init_189 pk_50 (by decide) (by decide) ⟨by omega, by decide, by decide⟩ (fun h45 => ?_)
  have k_a0 := up_ne (v := (50, 12)) hv k_a0 (by decide)
  have kn1 := up_ne (v := (50, 12)) hv kn1 (by decide)
  have kn2 := up_ne (v := (50, 12)) hv kn2 (by decide)
  have kn3 := up_ne (v := (50, 12)) hv kn3 (by decide)
  have kn4 := up_ne (v := (50, 12)) hv kn4 (by decide)
  have kn5 := up_ne (v := (50, 12)) hv kn5 (by decide)
  have kn6 := up_ne (v := (50, 12)) hv kn6 (by decide)
  have kn7 := up_ne (v := (50, 12)) hv kn7 (by decide)
  have kn8 := up_ne (v := (50, 12)) hv kn8 (by decide)
  have kn9 := up_ne (v := (50, 12)) hv kn9 (by decide)
  have kn10 := up_ne (v := (50, 12)) hv kn10 (by decide)
  have kn11 := up_ne (v := (50, 12)) hv kn11 (by decide)
  have kn12 := up_ne (v := (50, 12)) hv kn12 (by decide)
  have kn13 := up_ne (v := (50, 12)) hv kn13 (by decide)
  have kn14 := up_ne (v := (50, 12)) hv kn14 (by decide)
  have kn15 := up_ne (v := (50, 12)) hv kn15 (by decide)
  have kn16 := up_ne (v := (50, 12)) hv kn16 (by decide)
  have kn17 := up_ne (v := (50, 12)) hv kn17 (by decide)
  have kn18 := up_ne (v := (50, 12)) hv kn18 (by decide)
  have kn19 := up_ne (v := (50, 12)) hv kn19 (by decide)
  have kn20 := up_ne (v := (50, 12)) hv kn20 (by decide)
  have kn21 := up_ne (v := (50, 12)) hv kn21 (by decide)
  have kn22 := up_ne (v := (50, 12)) hv kn22 (by decide)
  have kn23 := up_eq (kX10_init_22 κ n) (n + 22) (50, 12)
  have hv := lv_up (v := (50, 12)) hv
  refine z_putR dX10_init_191 fl_X10_78 (Or.inr ⟨rfl, rfl, ff_X10_78⟩) k_a0 (fun h46 => ?_)
  refine z_aload_n dX10_init_194 rfl 0 rfl ?_
  refine z_bipush (v := 12) dX10_init_195 (by decide) ?_
  refine z_newa (N := 12) dX10_init_197 pk_53 (by decide) (by decide) ⟨by omega, by decide, by decide⟩ (fun h47 => ?_)
  have k_a0 := up_ne (v := (53, 12)) hv k_a0 (by decide)
  have kn1 := up_ne (v := (53, 12)) hv kn1 (by decide)
  have kn2 := up_ne (v := (53, 12)) hv kn2 (by decide)
  have kn3 := up_ne (v := (53, 12)) hv kn3 (by decide)
  have kn4 := up_ne (v := (53, 12)) hv kn4 (by decide)
  have kn5 := up_ne (v := (53, 12)) hv kn5 (by decide)
  have kn6 := up_ne (v := (53, 12)) hv kn6 (by decide)
  have kn7 := up_ne (v := (53, 12)) hv kn7 (by decide)
  have kn8 := up_ne (v := (53, 12)) hv kn8 (by decide)
  have kn9 := up_ne (v := (53, 12)) hv kn9 (by decide)
  have kn10 := up_ne (v := (53, 12)) hv kn10 (by decide)
  have kn11 := up_ne (v := (53, 12)) hv kn11 (by decide)
  have kn12 := up_ne (v := (53, 12)) hv kn12 (by decide)
  have kn13 := up_ne (v := (53, 12)) hv kn13 (by decide)
  have kn14 := up_ne (v := (53, 12)) hv kn14 (by decide)
  have kn15 := up_ne (v := (53, 12)) hv kn15 (by decide)
  have kn16 := up_ne (v := (53, 12)) hv kn16 (by decide)
  have kn17 := up_ne (v := (53, 12)) hv kn17 (by decide)
  have kn18 := up_ne (v := (53, 12)) hv kn18 (by decide)
  have kn19 := up_ne (v := (53, 12)) hv kn19 (by decide)
  have kn20 := up_ne (v := (53, 12)) hv kn20 (by decide)
  have kn21 := up_ne (v := (53, 12)) hv kn21 (by decide)
  have kn22 := up_ne (v := (53, 12)) hv kn22 (by decide)
  have kn23 := up_ne (v := (53, 12)) hv kn23 (by decide)
  have kn24 := up_eq (kX10_init_23 κ n) (n + 23) (53, 12)
  have hv := lv_up (v := (53, 12)) hv
  refine z_putR dX10_init_199 fl_X10_81 (Or.inr ⟨rfl, rfl, ff_X10_81⟩) k_a0 (fun h48 => ?_)
  refine z_aload_n dX10_init_202 rfl 0 rfl ?_
  refine z_bipush (v := 12) dX10_init_203 (by decide) ?_
  refine z_newa (N := 12) dX10_init_205 pk_50 (by decide) (by decide) ⟨by omega, by decide, by decide⟩ (fun h49 => ?_)
  have k_a0 := up_ne (v := (50, 12)) hv k_a0 (by decide)
  have kn1 := up_ne (v := (50, 12)) hv kn1 (by decide)
  have kn2 := up_ne (v := (50, 12)) hv kn2 (by decide)
  have kn3 := up_ne (v := (50, 12)) hv kn3 (by decide)
  have kn4 := up_ne (v := (50, 12)) hv kn4 (by decide)
  have kn5 := up_ne (v := (50, 12)) hv kn5 (by decide)
  have kn6 := up_ne (v := (50, 12)) hv kn6 (by decide)
  have kn7 := up_ne (v := (50, 12)) hv kn7 (by decide)
  have kn8 := up_ne (v := (50, 12)) hv kn8 (by decide)
  have kn9 := up_ne (v := (50, 12)) hv kn9 (by decide)
  have kn10 := up_ne (v := (50, 12)) hv kn10 (by decide)
  have kn11 := up_ne (v := (50, 12)) hv kn11 (by decide)
  have kn12 := up_ne (v := (50, 12)) hv kn12 (by decide)
  have kn13 := up_ne (v := (50, 12)) hv kn13 (by decide)
  have kn14 := up_ne (v := (50, 12)) hv kn14 (by decide)
  have kn15 := up_ne (v := (50, 12)) hv kn15 (by decide)
  have kn16 := up_ne (v := (50, 12)) hv kn16 (by decide)
  have kn17 := up_ne (v := (50, 12)) hv kn17 (by decide)
  have kn18 := up_ne (v := (50, 12)) hv kn18 (by decide)
  have kn19 := up_ne (v := (50, 12)) hv kn19 (by decide)
  have kn20 := up_ne (v := (50, 12)) hv kn20 (by decide)
  have kn21 := up_ne (v := (50, 12)) hv kn21 (by decide)
  have kn22 := up_ne (v := (50, 12)) hv kn22 (by decide)
  have kn23 := up_ne (v := (50, 12)) hv kn23 (by decide)
  have kn24 := up_ne (v := (50, 12)) hv kn24 (by decide)
  have kn25 := up_eq (kX10_init_24 κ n) (n + 24) (50, 12)
  have hv := lv_up (v := (50, 12)) hv
  refine z_putR dX10_init_207 fl_X10_85 (Or.inr ⟨rfl, rfl, ff_X10_85⟩) k_a0 (fun h50 => ?_)
  refine z_aload_n dX10_init_210 rfl 0 rfl ?_
  refine z_bipush (v := 12) dX10_init_211 (by decide) ?_
  refine z_newa (N := 12) dX10_init_213 pk_51 (by decide) (by decide) ⟨by omega, by decide, by decide⟩ (fun h51 => ?_)
  have k_a0 := up_ne (v := (51, 12)) hv k_a0 (by decide)
  have kn1 := up_ne (v := (51, 12)) hv kn1 (by decide)
  have kn2 := up_ne (v := (51, 12)) hv kn2 (by decide)
  have kn3 := up_ne (v := (51, 12)) hv kn3 (by decide)
  have kn4 := up_ne (v := (51, 12)) hv kn4 (by decide)
  have kn5 := up_ne (v := (51, 12)) hv kn5 (by decide)
  have kn6 := up_ne (v := (51, 12)) hv kn6 (by decide)
  have kn7 := up_ne (v := (51, 12)) hv kn7 (by decide)
  have kn8 := up_ne (v := (51, 12)) hv kn8 (by decide)
  have kn9 := up_ne (v := (51, 12)) hv kn9 (by decide)
  have kn10 := up_ne (v := (51, 12)) hv kn10 (by decide)
  have kn11 := up_ne (v := (51, 12)) hv kn11 (by decide)
  have kn12 := up_ne (v := (51, 12)) hv kn12 (by decide)
  have kn13 := up_ne (v := (51, 12)) hv kn13 (by decide)
  have kn14 := up_ne (v := (51, 12)) hv kn14 (by decide)
  have kn15 := up_ne (v := (51, 12)) hv kn15 (by decide)
  have kn16 := up_ne (v := (51, 12)) hv kn16 (by decide)
  have kn17 := up_ne (v := (51, 12)) hv kn17 (by decide)
  have kn18 := up_ne (v := (51, 12)) hv kn18 (by decide)
  have kn19 := up_ne (v := (51, 12)) hv kn19 (by decide)
  have kn20 := up_ne (v := (51, 12)) hv kn20 (by decide)
  have kn21 := up_ne (v := (51, 12)) hv kn21 (by decide)
  have kn22 := up_ne (v := (51, 12)) hv kn22 (by decide)
  have kn23 := up_ne (v := (51, 12)) hv kn23 (by decide)
  have kn24 := up_ne (v := (51, 12)) hv kn24 (by decide)
  have kn25 := up_ne (v := (51, 12)) hv kn25 (by decide)
  have kn26 := up_eq (kX10_init_25 κ n) (n + 25) (51, 12)
  have hv := lv_up (v := (51, 12)) hv
  refine z_putR dX10_init_215 fl_X10_88 (Or.inr ⟨rfl, rfl, ff_X10_88⟩) k_a0 (fun h52 => ?_)
  refine z_aload_n dX10_init_218 rfl 0 rfl ?_
  refine z_bipush (v := 12) dX10_init_219 (by decide) ?_
  refine z_newa (N := 12) dX10_init_221 pk_50 (by decide) (by decide) ⟨by omega, by decide, by decide⟩ (fun h53 => ?_)
  have k_a0 := up_ne (v := (50, 12)) hv k_a0 (by decide)
  have kn1 := up_ne (v := (50, 12)) hv kn1 (by decide)
  have kn2 := up_ne (v := (50, 12)) hv kn2 (by decide)
  have kn3 := up_ne (v := (50, 12)) hv kn3 (by decide)
  have kn4 := up_ne (v := (50, 12)) hv kn4 (by decide)
  have kn5 := up_ne (v := (50, 12)) hv kn5 (by decide)
  have kn6 := up_ne (v := (50, 12)) hv kn6 (by decide)
  have kn7 := up_ne (v := (50, 12)) hv kn7 (by decide)
  have kn8 := up_ne (v := (50, 12)) hv kn8 (by decide)
  have kn9 := up_ne (v := (50, 12)) hv kn9 (by decide)
  have kn10 := up_ne (v := (50, 12)) hv kn10 (by decide)
  have kn11 := up_ne (v := (50, 12)) hv kn11 (by decide)
  have kn12 := up_ne (v := (50, 12)) hv kn12 (by decide)
  have kn13 := up_ne (v := (50, 12)) hv kn13 (by decide)
  have kn14 := up_ne (v := (50, 12)) hv kn14 (by decide)
  have kn15 := up_ne (v := (50, 12)) hv kn15 (by decide)
  have kn16 := up_ne (v := (50, 12)) hv kn16 (by decide)
  have kn17 := up_ne (v := (50, 12)) hv kn17 (by decide)
  have kn18 := up_ne (v := (50, 12)) hv kn18 (by decide)
  have kn19 := up_ne (v := (50, 12)) hv kn19 (by decide)
  have kn20 := up_ne (v := (50, 12)) hv kn20 (by decide)
  have kn21 := up_ne (v := (50, 12)) hv kn21 (by decide)
  have kn22 := up_ne (v := (50, 12)) hv kn22 (by decide)
  have kn23 := up_ne (v := (50, 12)) hv kn23 (by decide)
  have kn24 := up_ne (v := (50, 12)) hv kn24 (by decide)
  have kn25 := up_ne (v := (50, 12)) hv kn25 (by decide)
  have kn26 := up_ne (v := (50, 12)) hv kn26 (by decide)
  have kn27 := up_eq (kX10_init_26 κ n) (n + 26) (50, 12)
  have hv := lv_up (v := (50, 12)) hv
  refine z_putR dX10_init_223 fl_X10_91 (Or.inr ⟨rfl, rfl, ff_X10_91⟩) k_a0 (fun h54 => ?_)
  refine z_aload_n dX10_init_226 rfl 0 rfl ?_
  refine z_bipush (v := 12) dX10_init_227 (by decide) ?_
  refine z_newa (N := 12) dX10_init_229 pk_50 (by decide) (by decide) ⟨by omega, by decide, by decide⟩ (fun h55 => ?_)
  have k_a0 := up_ne (v := (50, 12)) hv k_a0 (by decide)
  have kn1 := up_ne (v := (50, 12)) hv kn1 (by decide)
  have kn2 := up_ne (v := (50, 12)) hv kn2 (by decide)
  have kn3 := up_ne (v := (50, 12)) hv kn3 (by decide)
  have kn4 := up_ne (v := (50, 12)) hv kn4 (by decide)
  have kn5 := up_ne (v := (50, 12)) hv kn5 (by decide)
  have kn6 := up_ne (v := (50, 12)) hv kn6 (by decide)
  have kn7 := up_ne (v := (50, 12)) hv kn7 (by decide)
  have kn8 := up_ne (v := (50, 12)) hv kn8 (by decide)
  have kn9 := up_ne (v := (50, 12)) hv kn9 (by decide)
  have kn10 := up_ne (v := (50, 12)) hv kn10 (by decide)
  have kn11 := up_ne (v := (50, 12)) hv kn11 (by decide)
  have kn12 := up_ne (v := (50, 12)) hv kn12 (by decide)
  have kn13 := up_ne (v := (50, 12)) hv kn13 (by decide)
  have kn14 := up_ne (v := (50, 12)) hv kn14 (by decide)
  have kn15 := up_ne (v := (50, 12)) hv kn15 (by decide)
  have kn16 := up_ne (v := (50, 12)) hv kn16 (by decide)
  have kn17 := up_ne (v := (50, 12)) hv kn17 (by decide)
  have kn18 := up_ne (v := (50, 12)) hv kn18 (by decide)
  have kn19 := up_ne (v := (50, 12)) hv kn19 (by decide)
  have kn20 := up_ne (v := (50, 12)) hv kn20 (by decide)
  have kn21 := up_ne (v := (50, 12)) hv kn21 (by decide)
  have kn22 := up_ne (v := (50, 12)) hv kn22 (by decide)
  have kn23 := up_ne (v := (50, 12)) hv kn23 (by decide)
  have kn24 := up_ne (v := (50, 12)) hv kn24 (by decide)
  have kn25 := up_ne (v := (50, 12)) hv kn25 (by decide)
  have kn26 := up_ne (v := (50, 12)) hv kn26 (by decide)
  have kn27 := up_ne (v := (50, 12)) hv kn27 (by decide)
  have kn28 := up_eq (kX10_init_27 κ n) (n + 27) (50, 12)
  have hv := lv_up (v := (50, 12)) hv
  refine z_putR dX10_init_231 fl_X10_94 (Or.inr ⟨rfl, rfl, ff_X10_94⟩) k_a0 (fun h56 => ?_)
  refine z_aload_n dX10_init_234 rfl 0 rfl ?_
  refine z_bipush (v := 60) dX10_init_235 (by decide) ?_
  refine z_newa (N := 60) dX10_init_237 pk_51 (by decide) (by decide) ⟨by omega, by decide, by decide⟩ (fun h57 => ?_)
  have k_a0 := up_ne (v := (51, 60)) hv k_a0 (by decide)
  have kn1 := up_ne (v := (51, 60)) hv kn1 (by decide)
  have kn2 := up_ne (v := (51, 60)) hv kn2 (by decide)
  have kn3 := up_ne (v := (51, 60)) hv kn3 (by decide)
  have kn4 := up_ne (v := (51, 60)) hv kn4 (by decide)
  have kn5 := up_ne (v := (51, 60)) hv kn5 (by decide)
  have kn6 := up_ne (v := (51, 60)) hv kn6 (by decide)
  have kn7 := up_ne (v := (51, 60)) hv kn7 (by decide)
  have kn8 := up_ne (v := (51, 60)) hv kn8 (by decide)
  have kn9 := up_ne (v := (51, 60)) hv kn9 (by decide)
  have kn10 := up_ne (v := (51, 60)) hv kn10 (by decide)
  have kn11 := up_ne (v := (51, 60)) hv kn11 (by decide)
  have kn12 := up_ne (v := (51, 60)) hv kn12 (by decide)
  have kn13 := up_ne (v := (51, 60)) hv kn13 (by decide)
  have kn14 := up_ne (v := (51, 60)) hv kn14 (by decide)
  have kn15 := up_ne (v := (51, 60)) hv kn15 (by decide)
  have kn16 := up_ne (v := (51, 60)) hv kn16 (by decide)
  have kn17 := up_ne (v := (51, 60)) hv kn17 (by decide)
  have kn18 := up_ne (v := (51, 60)) hv kn18 (by decide)
  have kn19 := up_ne (v := (51, 60)) hv kn19 (by decide)
  have kn20 := up_ne (v := (51, 60)) hv kn20 (by decide)
  have kn21 := up_ne (v := (51, 60)) hv kn21 (by decide)
  have kn22 := up_ne (v := (51, 60)) hv kn22 (by decide)
  have kn23 := up_ne (v := (51, 60)) hv kn23 (by decide)
  have kn24 := up_ne (v := (51, 60)) hv kn24 (by decide)
  have kn25 := up_ne (v := (51, 60)) hv kn25 (by decide)
  have kn26 := up_ne (v := (51, 60)) hv kn26 (by decide)
  have kn27 := up_ne (v := (51, 60)) hv kn27 (by decide)
  have kn28 := up_ne (v := (51, 60)) hv kn28 (by decide)
  have kn29 := up_eq (kX10_init_28 κ n) (n + 28) (51, 60)
  have hv := lv_up (v := (51, 60)) hv
  refine z_putR dX10_init_239 fl_X10_97 (Or.inr ⟨rfl, rfl, ff_X10_97⟩) k_a0 (fun h58 => ?_)
  refine z_aload_n dX10_init_242 rfl 0 rfl ?_
  refine z_iconst (v := -1) dX10_init_243 (by decide) ?_
  refine z_putI dX10_init_244 fl_X10_100 (Or.inl rfl) k_a0 (fun h59 => ?_)
  refine z_aload_n dX10_init_247 rfl 0 rfl ?_
  refine z_iconst (v := -1) dX10_init_248 (by decide) ?_
  refine z_putI dX10_init_249 fl_X10_104 (Or.inl rfl) k_a0 (fun h60 => ?_)
  refine z_aload_n dX10_init_252 rfl 0 rfl ?_
  refine z_bipush (v := 36) dX10_init_253 (by decide) ?_
  refine z_newa (N := 36) dX10_init_255 pk_50 (by decide) (by decide) ⟨by omega, by decide, by decide⟩ (fun h61 => ?_)
  have k_a0 := up_ne (v := (50, 36)) hv k_a0 (by decide)
  have kn1 := up_ne (v := (50, 36)) hv kn1 (by decide)
  have kn2 := up_ne (v := (50, 36)) hv kn2 (by decide)
  have kn3 := up_ne (v := (50, 36)) hv kn3 (by decide)
  have kn4 := up_ne (v := (50, 36)) hv kn4 (by decide)
  have kn5 := up_ne (v := (50, 36)) hv kn5 (by decide)
  have kn6 := up_ne (v := (50, 36)) hv kn6 (by decide)
  have kn7 := up_ne (v := (50, 36)) hv kn7 (by decide)
  have kn8 := up_ne (v := (50, 36)) hv kn8 (by decide)
  have kn9 := up_ne (v := (50, 36)) hv kn9 (by decide)
  have kn10 := up_ne (v := (50, 36)) hv kn10 (by decide)
  have kn11 := up_ne (v := (50, 36)) hv kn11 (by decide)
  have kn12 := up_ne (v := (50, 36)) hv kn12 (by decide)
  have kn13 := up_ne (v := (50, 36)) hv kn13 (by decide)
  have kn14 := up_ne (v := (50, 36)) hv kn14 (by decide)
  have kn15 := up_ne (v := (50, 36)) hv kn15 (by decide)
  have kn16 := up_ne (v := (50, 36)) hv kn16 (by decide)
  have kn17 := up_ne (v := (50, 36)) hv kn17 (by decide)
  have kn18 := up_ne (v := (50, 36)) hv kn18 (by decide)
  have kn19 := up_ne (v := (50, 36)) hv kn19 (by decide)
  have kn20 := up_ne (v := (50, 36)) hv kn20 (by decide)
  have kn21 := up_ne (v := (50, 36)) hv kn21 (by decide)
  have kn22 := up_ne (v := (50, 36)) hv kn22 (by decide)
  have kn23 := up_ne (v := (50, 36)) hv kn23 (by decide)
  have kn24 := up_ne (v := (50, 36)) hv kn24 (by decide)
  have kn25 := up_ne (v := (50, 36)) hv kn25 (by decide)
  have kn26 := up_ne (v := (50, 36)) hv kn26 (by decide)
  have kn27 := up_ne (v := (50, 36)) hv kn27 (by decide)
  have kn28 := up_ne (v := (50, 36)) hv kn28 (by decide)
  have kn29 := up_ne (v := (50, 36)) hv kn29 (by decide)
  have kn30 := up_eq (kX10_init_29 κ n) (n + 29) (50, 36)
  have hv := lv_up (v := (50, 36)) hv
  refine z_putR dX10_init_257 fl_X10_107 (Or.inr ⟨rfl, rfl, ff_X10_107⟩) k_a0 (fun h62 => ?_)
  refine z_aload_n dX10_init_260 rfl 0 rfl ?_
  refine z_bipush (v := 36) dX10_init_261 (by decide) ?_
  refine z_newa (N := 36) dX10_init_263 pk_50 (by decide) (by decide) ⟨by omega, by decide, by decide⟩ (fun h63 => ?_)
  have k_a0 := up_ne (v := (50, 36)) hv k_a0 (by decide)
  have kn1 := up_ne (v := (50, 36)) hv kn1 (by decide)
  have kn2 := up_ne (v := (50, 36)) hv kn2 (by decide)
  have kn3 := up_ne (v := (50, 36)) hv kn3 (by decide)
  have kn4 := up_ne (v := (50, 36)) hv kn4 (by decide)
  have kn5 := up_ne (v := (50, 36)) hv kn5 (by decide)
  have kn6 := up_ne (v := (50, 36)) hv kn6 (by decide)
  have kn7 := up_ne (v := (50, 36)) hv kn7 (by decide)
  have kn8 := up_ne (v := (50, 36)) hv kn8 (by decide)
  have kn9 := up_ne (v := (50, 36)) hv kn9 (by decide)
  have kn10 := up_ne (v := (50, 36)) hv kn10 (by decide)
  have kn11 := up_ne (v := (50, 36)) hv kn11 (by decide)
  have kn12 := up_ne (v := (50, 36)) hv kn12 (by decide)
  have kn13 := up_ne (v := (50, 36)) hv kn13 (by decide)
  have kn14 := up_ne (v := (50, 36)) hv kn14 (by decide)
  have kn15 := up_ne (v := (50, 36)) hv kn15 (by decide)
  have kn16 := up_ne (v := (50, 36)) hv kn16 (by decide)
  have kn17 := up_ne (v := (50, 36)) hv kn17 (by decide)
  have kn18 := up_ne (v := (50, 36)) hv kn18 (by decide)
  have kn19 := up_ne (v := (50, 36)) hv kn19 (by decide)
  have kn20 := up_ne (v := (50, 36)) hv kn20 (by decide)
  have kn21 := up_ne (v := (50, 36)) hv kn21 (by decide)
  have kn22 := up_ne (v := (50, 36)) hv kn22 (by decide)
  have kn23 := up_ne (v := (50, 36)) hv kn23 (by decide)
  have kn24 := up_ne (v := (50, 36)) hv kn24 (by decide)
  have kn25 := up_ne (v := (50, 36)) hv kn25 (by decide)
  have kn26 := up_ne (v := (50, 36)) hv kn26 (by decide)
  have kn27 := up_ne (v := (50, 36)) hv kn27 (by decide)
  have kn28 := up_ne (v := (50, 36)) hv kn28 (by decide)
  have kn29 := up_ne (v := (50, 36)) hv kn29 (by decide)
  have kn30 := up_ne (v := (50, 36)) hv kn30 (by decide)
  have kn31 := up_eq (kX10_init_30 κ n) (n + 30) (50, 36)
  have hv := lv_up (v := (50, 36)) hv
  refine z_putR dX10_init_265 fl_X10_110 (Or.inr ⟨rfl, rfl, ff_X10_110⟩) k_a0 (fun h64 => ?_)
  refine z_aload_n dX10_init_268 rfl 0 rfl ?_
  refine z_bipush (v := 36) dX10_init_269 (by decide) ?_
  refine z_newa (N := 36) dX10_init_271 pk_50 (by decide) (by decide) ⟨by omega, by decide, by decide⟩ (fun h65 => ?_)
  have k_a0 := up_ne (v := (50, 36)) hv k_a0 (by decide)
  have kn1 := up_ne (v := (50, 36)) hv kn1 (by decide)
  have kn2 := up_ne (v := (50, 36)) hv kn2 (by decide)
  have kn3 := up_ne (v := (50, 36)) hv kn3 (by decide)
  have kn4 := up_ne (v := (50, 36)) hv kn4 (by decide)
  have kn5 := up_ne (v := (50, 36)) hv kn5 (by decide)
  have kn6 := up_ne (v := (50, 36)) hv kn6 (by decide)
  have kn7 := up_ne (v := (50, 36)) hv kn7 (by decide)
  have kn8 := up_ne (v := (50, 36)) hv kn8 (by decide)
  have kn9 := up_ne (v := (50, 36)) hv kn9 (by decide)
  have kn10 := up_ne (v := (50, 36)) hv kn10 (by decide)
  have kn11 := up_ne (v := (50, 36)) hv kn11 (by decide)
  have kn12 := up_ne (v := (50, 36)) hv kn12 (by decide)
  have kn13 := up_ne (v := (50, 36)) hv kn13 (by decide)
  have kn14 := up_ne (v := (50, 36)) hv kn14 (by decide)
  have kn15 := up_ne (v := (50, 36)) hv kn15 (by decide)
  have kn16 := up_ne (v := (50, 36)) hv kn16 (by decide)
  have kn17 := up_ne (v := (50, 36)) hv kn17 (by decide)
  have kn18 := up_ne (v := (50, 36)) hv kn18 (by decide)
  have kn19 := up_ne (v := (50, 36)) hv kn19 (by decide)
  have kn20 := up_ne (v := (50, 36)) hv kn20 (by decide)
  have kn21 := up_ne (v := (50, 36)) hv kn21 (by decide)
  have kn22 := up_ne (v := (50, 36)) hv kn22 (by decide)
  have kn23 := up_ne (v := (50, 36)) hv kn23 (by decide)
  have kn24 := up_ne (v := (50, 36)) hv kn24 (by decide)
  have kn25 := up_ne (v := (50, 36)) hv kn25 (by decide)
  have kn26 := up_ne (v := (50, 36)) hv kn26 (by decide)
  have kn27 := up_ne (v := (50, 36)) hv kn27 (by decide)
  have kn28 := up_ne (v := (50, 36)) hv kn28 (by decide)
  have kn29 := up_ne (v := (50, 36)) hv kn29 (by decide)
  have kn30 := up_ne (v := (50, 36)) hv kn30 (by decide)
  have kn31 := up_ne (v := (50, 36)) hv kn31 (by decide)
  have kn32 := up_eq (kX10_init_31 κ n) (n + 31) (50, 36)
  have hv := lv_up (v := (50, 36)) hv
  refine z_putR dX10_init_273 fl_X10_113 (Or.inr ⟨rfl, rfl, ff_X10_113⟩) k_a0 (fun h66 => ?_)
  refine z_aload_n dX10_init_276 rfl 0 rfl ?_
  refine z_sipush (v := 432) dX10_init_277 (by decide) ?_
  refine z_newa (N := 432) dX10_init_280 pk_51 (by decide) (by decide) ⟨by omega, by decide, by decide⟩ (fun h67 => ?_)
  have k_a0 := up_ne (v := (51, 432)) hv k_a0 (by decide)
  have kn1 := up_ne (v := (51, 432)) hv kn1 (by decide)
  have kn2 := up_ne (v := (51, 432)) hv kn2 (by decide)
  have kn3 := up_ne (v := (51, 432)) hv kn3 (by decide)
  have kn4 := up_ne (v := (51, 432)) hv kn4 (by decide)
  have kn5 := up_ne (v := (51, 432)) hv kn5 (by decide)
  have kn6 := up_ne (v := (51, 432)) hv kn6 (by decide)
  have kn7 := up_ne (v := (51, 432)) hv kn7 (by decide)
  have kn8 := up_ne (v := (51, 432)) hv kn8 (by decide)
  have kn9 := up_ne (v := (51, 432)) hv kn9 (by decide)
  have kn10 := up_ne (v := (51, 432)) hv kn10 (by decide)
  have kn11 := up_ne (v := (51, 432)) hv kn11 (by decide)
  have kn12 := up_ne (v := (51, 432)) hv kn12 (by decide)
  have kn13 := up_ne (v := (51, 432)) hv kn13 (by decide)
  have kn14 := up_ne (v := (51, 432)) hv kn14 (by decide)
  have kn15 := up_ne (v := (51, 432)) hv kn15 (by decide)
  have kn16 := up_ne (v := (51, 432)) hv kn16 (by decide)
  have kn17 := up_ne (v := (51, 432)) hv kn17 (by decide)
  have kn18 := up_ne (v := (51, 432)) hv kn18 (by decide)
  have kn19 := up_ne (v := (51, 432)) hv kn19 (by decide)
  have kn20 := up_ne (v := (51, 432)) hv kn20 (by decide)
  have kn21 := up_ne (v := (51, 432)) hv kn21 (by decide)
  have kn22 := up_ne (v := (51, 432)) hv kn22 (by decide)
  have kn23 := up_ne (v := (51, 432)) hv kn23 (by decide)
  have kn24 := up_ne (v := (51, 432)) hv kn24 (by decide)
  have kn25 := up_ne (v := (51, 432)) hv kn25 (by decide)
  have kn26 := up_ne (v := (51, 432)) hv kn26 (by decide)
  have kn27 := up_ne (v := (51, 432)) hv kn27 (by decide)
  have kn28 := up_ne (v := (51, 432)) hv kn28 (by decide)
  have kn29 := up_ne (v := (51, 432)) hv kn29 (by decide)
  have kn30 := up_ne (v := (51, 432)) hv kn30 (by decide)
  have kn31 := up_ne (v := (51, 432)) hv kn31 (by decide)
  have kn32 := up_ne (v := (51, 432)) hv kn32 (by decide)
  have kn33 := up_eq (kX10_init_32 κ n) (n + 32) (51, 432)
  have hv := lv_up (v := (51, 432)) hv
  refine z_putR dX10_init_282 fl_X10_116 (Or.inr ⟨rfl, rfl, ff_X10_116⟩) k_a0 (fun h68 => ?_)
  refine z_aload_n dX10_init_285 rfl 0 rfl ?_
  refine z_sipush (v := 432) dX10_init_286 (by decide) ?_
  refine z_newa (N := 432) dX10_init_289 pk_52 (by decide) (by decide) ⟨by omega, by decide, by decide⟩ (fun h69 => ?_)
  have k_a0 := up_ne (v := (52, 432)) hv k_a0 (by decide)
  have kn1 := up_ne (v := (52, 432)) hv kn1 (by decide)
  have kn2 := up_ne (v := (52, 432)) hv kn2 (by decide)
  have kn3 := up_ne (v := (52, 432)) hv kn3 (by decide)
  have kn4 := up_ne (v := (52, 432)) hv kn4 (by decide)
  have kn5 := up_ne (v := (52, 432)) hv kn5 (by decide)
  have kn6 := up_ne (v := (52, 432)) hv kn6 (by decide)
  have kn7 := up_ne (v := (52, 432)) hv kn7 (by decide)
  have kn8 := up_ne (v := (52, 432)) hv kn8 (by decide)
  have kn9 := up_ne (v := (52, 432)) hv kn9 (by decide)
  have kn10 := up_ne (v := (52, 432)) hv kn10 (by decide)
  have kn11 := up_ne (v := (52, 432)) hv kn11 (by decide)
  have kn12 := up_ne (v := (52, 432)) hv kn12 (by decide)
  have kn13 := up_ne (v := (52, 432)) hv kn13 (by decide)
  have kn14 := up_ne (v := (52, 432)) hv kn14 (by decide)
  have kn15 := up_ne (v := (52, 432)) hv kn15 (by decide)
  have kn16 := up_ne (v := (52, 432)) hv kn16 (by decide)
  have kn17 := up_ne (v := (52, 432)) hv kn17 (by decide)
  have kn18 := up_ne (v := (52, 432)) hv kn18 (by decide)
  have kn19 := up_ne (v := (52, 432)) hv kn19 (by decide)
  have kn20 := up_ne (v := (52, 432)) hv kn20 (by decide)
  have kn21 := up_ne (v := (52, 432)) hv kn21 (by decide)
  have kn22 := up_ne (v := (52, 432)) hv kn22 (by decide)
  have kn23 := up_ne (v := (52, 432)) hv kn23 (by decide)
  have kn24 := up_ne (v := (52, 432)) hv kn24 (by decide)
  have kn25 := up_ne (v := (52, 432)) hv kn25 (by decide)
  have kn26 := up_ne (v := (52, 432)) hv kn26 (by decide)
  have kn27 := up_ne (v := (52, 432)) hv kn27 (by decide)
  have kn28 := up_ne (v := (52, 432)) hv kn28 (by decide)
  have kn29 := up_ne (v := (52, 432)) hv kn29 (by decide)
  have kn30 := up_ne (v := (52, 432)) hv kn30 (by decide)
  have kn31 := up_ne (v := (52, 432)) hv kn31 (by decide)
  have kn32 := up_ne (v := (52, 432)) hv kn32 (by decide)
  have kn33 := up_ne (v := (52, 432)) hv kn33 (by decide)
  have kn34 := up_eq (kX10_init_33 κ n) (n + 33) (52, 432)
  have hv := lv_up (v := (52, 432)) hv
  refine z_putR dX10_init_291 fl_X10_119 (Or.inr ⟨rfl, rfl, ff_X10_119⟩) k_a0 (fun h70 => ?_)
  refine z_aload_n dX10_init_294 rfl 0 rfl ?_
  refine z_iconst (v := 3) dX10_init_295 (by decide) ?_
  refine z_newa (N := 3) dX10_init_296 pk_50 (by decide) (by decide) ⟨by omega, by decide, by decide⟩ (fun h71 => ?_)
  have k_a0 := up_ne (v := (50, 3)) hv k_a0 (by decide)
  have kn1 := up_ne (v := (50, 3)) hv kn1 (by decide)
  have kn2 := up_ne (v := (50, 3)) hv kn2 (by decide)
  have kn3 := up_ne (v := (50, 3)) hv kn3 (by decide)
  have kn4 := up_ne (v := (50, 3)) hv kn4 (by decide)
  have kn5 := up_ne (v := (50, 3)) hv kn5 (by decide)
  have kn6 := up_ne (v := (50, 3)) hv kn6 (by decide)
  have kn7 := up_ne (v := (50, 3)) hv kn7 (by decide)
  have kn8 := up_ne (v := (50, 3)) hv kn8 (by decide)
  have kn9 := up_ne (v := (50, 3)) hv kn9 (by decide)
  have kn10 := up_ne (v := (50, 3)) hv kn10 (by decide)
  have kn11 := up_ne (v := (50, 3)) hv kn11 (by decide)
  have kn12 := up_ne (v := (50, 3)) hv kn12 (by decide)
  have kn13 := up_ne (v := (50, 3)) hv kn13 (by decide)
  have kn14 := up_ne (v := (50, 3)) hv kn14 (by decide)
  have kn15 := up_ne (v := (50, 3)) hv kn15 (by decide)
  have kn16 := up_ne (v := (50, 3)) hv kn16 (by decide)
  have kn17 := up_ne (v := (50, 3)) hv kn17 (by decide)
  have kn18 := up_ne (v := (50, 3)) hv kn18 (by decide)
  have kn19 := up_ne (v := (50, 3)) hv kn19 (by decide)
  have kn20 := up_ne (v := (50, 3)) hv kn20 (by decide)
  have kn21 := up_ne (v := (50, 3)) hv kn21 (by decide)
  have kn22 := up_ne (v := (50, 3)) hv kn22 (by decide)
  have kn23 := up_ne (v := (50, 3)) hv kn23 (by decide)
  have kn24 := up_ne (v := (50, 3)) hv kn24 (by decide)
  have kn25 := up_ne (v := (50, 3)) hv kn25 (by decide)
  have kn26 := up_ne (v := (50, 3)) hv kn26 (by decide)
  have kn27 := up_ne (v := (50, 3)) hv kn27 (by decide)
  have kn28 := up_ne (v := (50, 3)) hv kn28 (by decide)
  have kn29 := up_ne (v := (50, 3)) hv kn29 (by decide)
  have kn30 := up_ne (v := (50, 3)) hv kn30 (by decide)
  have kn31 := up_ne (v := (50, 3)) hv kn31 (by decide)
  have kn32 := up_ne (v := (50, 3)) hv kn32 (by decide)
  have kn33 := up_ne (v := (50, 3)) hv kn33 (by decide)
  have kn34 := up_ne (v := (50, 3)) hv kn34 (by decide)
  have kn35 := up_eq (kX10_init_34 κ n) (n + 34) (50, 3)
  have hv := lv_up (v := (50, 3)) hv
  refine z_putR dX10_init_298 fl_X10_122 (Or.inr ⟨rfl, rfl, ff_X10_122⟩) k_a0 (fun h72 => ?_)
  refine z_aload_n dX10_init_301 rfl 0 rfl ?_
  refine z_bipush (v := 36) dX10_init_302 (by decide) ?_
  refine z_newa (N := 36) dX10_init_304 pk_50 (by decide) (by decide) ⟨by omega, by decide, by decide⟩ (fun h73 => ?_)
  have k_a0 := up_ne (v := (50, 36)) hv k_a0 (by decide)
  have kn1 := up_ne (v := (50, 36)) hv kn1 (by decide)
  have kn2 := up_ne (v := (50, 36)) hv kn2 (by decide)
  have kn3 := up_ne (v := (50, 36)) hv kn3 (by decide)
  have kn4 := up_ne (v := (50, 36)) hv kn4 (by decide)
  have kn5 := up_ne (v := (50, 36)) hv kn5 (by decide)
  have kn6 := up_ne (v := (50, 36)) hv kn6 (by decide)
  have kn7 := up_ne (v := (50, 36)) hv kn7 (by decide)
  have kn8 := up_ne (v := (50, 36)) hv kn8 (by decide)
  have kn9 := up_ne (v := (50, 36)) hv kn9 (by decide)
  have kn10 := up_ne (v := (50, 36)) hv kn10 (by decide)
  have kn11 := up_ne (v := (50, 36)) hv kn11 (by decide)
  have kn12 := up_ne (v := (50, 36)) hv kn12 (by decide)
  have kn13 := up_ne (v := (50, 36)) hv kn13 (by decide)
  have kn14 := up_ne (v := (50, 36)) hv kn14 (by decide)
  have kn15 := up_ne (v := (50, 36)) hv kn15 (by decide)
  have kn16 := up_ne (v := (50, 36)) hv kn16 (by decide)
  have kn17 := up_ne (v := (50, 36)) hv kn17 (by decide)
  have kn18 := up_ne (v := (50, 36)) hv kn18 (by decide)
  have kn19 := up_ne (v := (50, 36)) hv kn19 (by decide)
  have kn20 := up_ne (v := (50, 36)) hv kn20 (by decide)
  have kn21 := up_ne (v := (50, 36)) hv kn21 (by decide)
  have kn22 := up_ne (v := (50, 36)) hv kn22 (by decide)
  have kn23 := up_ne (v := (50, 36)) hv kn23 (by decide)
  have kn24 := up_ne (v := (50, 36)) hv kn24 (by decide)
  have kn25 := up_ne (v := (50, 36)) hv kn25 (by decide)
  have kn26 := up_ne (v := (50, 36)) hv kn26 (by decide)
  have kn27 := up_ne (v := (50, 36)) hv kn27 (by decide)
  have kn28 := up_ne (v := (50, 36)) hv kn28 (by decide)
  have kn29 := up_ne (v := (50, 36)) hv kn29 (by decide)
  have kn30 := up_ne (v := (50, 36)) hv kn30 (by decide)
  have kn31 := up_ne (v := (50, 36)) hv kn31 (by decide)
  have kn32 := up_ne (v := (50, 36)) hv kn32 (by decide)
  have kn33 := up_ne (v := (50, 36)) hv kn33 (by decide)
  have kn34 := up_ne (v := (50, 36)) hv kn34 (by decide)
  have kn35 := up_ne (v := (50, 36)) hv kn35 (by decide)
  have kn36 := up_eq (kX10_init_35 κ n) (n + 35) (50, 36)
  have hv := lv_up (v := (50, 36)) hv
  refine z_putR dX10_init_306 fl_X10_125 (Or.inr ⟨rfl, rfl, ff_X10_125⟩) k_a0 (fun h74 => ?_)
  refine z_aload_n dX10_init_309 rfl 0 rfl ?_
  refine z_bipush (v := 36) dX10_init_310 (by decide) ?_
  refine z_newa (N := 36) dX10_init_312 pk_50 (by decide) (by decide) ⟨by omega, by decide, by decide⟩ (fun h75 => ?_)
  have k_a0 := up_ne (v := (50, 36)) hv k_a0 (by decide)
  have kn1 := up_ne (v := (50, 36)) hv kn1 (by decide)
  have kn2 := up_ne (v := (50, 36)) hv kn2 (by decide)
  have kn3 := up_ne (v := (50, 36)) hv kn3 (by decide)
  have kn4 := up_ne (v := (50, 36)) hv kn4 (by decide)
  have kn5 := up_ne (v := (50, 36)) hv kn5 (by decide)
  have kn6 := up_ne (v := (50, 36)) hv kn6 (by decide)
  have kn7 := up_ne (v := (50, 36)) hv kn7 (by decide)
  have kn8 := up_ne (v := (50, 36)) hv kn8 (by decide)
  have kn9 := up_ne (v := (50, 36)) hv kn9 (by decide)
  have kn10 := up_ne (v := (50, 36)) hv kn10 (by decide)
  have kn11 := up_ne (v := (50, 36)) hv kn11 (by decide)
  have kn12 := up_ne (v := (50, 36)) hv kn12 (by decide)
  have kn13 := up_ne (v := (50, 36)) hv kn13 (by decide)
  have kn14 := up_ne (v := (50, 36)) hv kn14 (by decide)
  have kn15 := up_ne (v := (50, 36)) hv kn15 (by decide)
  have kn16 := up_ne (v := (50, 36)) hv kn16 (by decide)
  have kn17 := up_ne (v := (50, 36)) hv kn17 (by decide)
  have kn18 := up_ne (v := (50, 36)) hv kn18 (by decide)
  have kn19 := up_ne (v := (50, 36)) hv kn19 (by decide)
  have kn20 := up_ne (v := (50, 36)) hv kn20 (by decide)
  have kn21 := up_ne (v := (50, 36)) hv kn21 (by decide)
  have kn22 := up_ne (v := (50, 36)) hv kn22 (by decide)
  have kn23 := up_ne (v := (50, 36)) hv kn23 (by decide)
  have kn24 := up_ne (v := (50, 36)) hv kn24 (by decide)
  have kn25 := up_ne (v := (50, 36)) hv kn25 (by decide)
  have kn26 := up_ne (v := (50, 36)) hv kn26 (by decide)
  have kn27 := up_ne (v := (50, 36)) hv kn27 (by decide)
  have kn28 := up_ne (v := (50, 36)) hv kn28 (by decide)
  have kn29 := up_ne (v := (50, 36)) hv kn29 (by decide)
  have kn30 := up_ne (v := (50, 36)) hv kn30 (by decide)
  have kn31 := up_ne (v := (50, 36)) hv kn31 (by decide)
  have kn32 := up_ne (v := (50, 36)) hv kn32 (by decide)
  have kn33 := up_ne (v := (50, 36)) hv kn33 (by decide)
  have kn34 := up_ne (v := (50, 36)) hv kn34 (by decide)
  have kn35 := up_ne (v := (50, 36)) hv kn35 (by decide)
  have kn36 := up_ne (v := (50, 36)) hv kn36 (by decide)
  have kn37 := up_eq (kX10_init_36 κ n) (n + 36) (50, 36)
  have hv := lv_up (v := (50, 36)) hv
  refine z_putR dX10_init_314 fl_X10_128 (Or.inr ⟨rfl, rfl, ff_X10_128⟩) k_a0 (fun h76 => ?_)
  refine z_aload_n dX10_init_317 rfl 0 rfl ?_
  refine z_bipush (v := 36) dX10_init_318 (by decide) ?_
  refine z_newa (N := 36) dX10_init_320 pk_50 (by decide) (by decide) ⟨by omega, by decide, by decide⟩ (fun h77 => ?_)
  have k_a0 := up_ne (v := (50, 36)) hv k_a0 (by decide)
  have kn1 := up_ne (v := (50, 36)) hv kn1 (by decide)
  have kn2 := up_ne (v := (50, 36)) hv kn2 (by decide)
  have kn3 := up_ne (v := (50, 36)) hv kn3 (by decide)
  have kn4 := up_ne (v := (50, 36)) hv kn4 (by decide)
  have kn5 := up_ne (v := (50, 36)) hv kn5 (by decide)
  have kn6 := up_ne (v := (50, 36)) hv kn6 (by decide)
  have kn7 := up_ne (v := (50, 36)) hv kn7 (by decide)
  have kn8 := up_ne (v := (50, 36)) hv kn8 (by decide)
  have kn9 := up_ne (v := (50, 36)) hv kn9 (by decide)
  have kn10 := up_ne (v := (50, 36)) hv kn10 (by decide)
  have kn11 := up_ne (v := (50, 36)) hv kn11 (by decide)
  have kn12 := up_ne (v := (50, 36)) hv kn12 (by decide)
  have kn13 := up_ne (v := (50, 36)) hv kn13 (by decide)
  have kn14 := up_ne (v := (50, 36)) hv kn14 (by decide)
  have kn15 := up_ne (v := (50, 36)) hv kn15 (by decide)
  have kn16 := up_ne (v := (50, 36)) hv kn16 (by decide)
  have kn17 := up_ne (v := (50, 36)) hv kn17 (by decide)
  have kn18 := up_ne (v := (50, 36)) hv kn18 (by decide)
  have kn19 := up_ne (v := (50, 36)) hv kn19 (by decide)
  have kn20 := up_ne (v := (50, 36)) hv kn20 (by decide)
  have kn21 := up_ne (v := (50, 36)) hv kn21 (by decide)
  have kn22 := up_ne (v := (50, 36)) hv kn22 (by decide)
  have kn23 := up_ne (v := (50, 36)) hv kn23 (by decide)
  have kn24 := up_ne (v := (50, 36)) hv kn24 (by decide)
  have kn25 := up_ne (v := (50, 36)) hv kn25 (by decide)
  have kn26 := up_ne (v := (50, 36)) hv kn26 (by decide)
  have kn27 := up_ne (v := (50, 36)) hv kn27 (by decide)
  have kn28 := up_ne (v := (50, 36)) hv kn28 (by decide)
  have kn29 := up_ne (v := (50, 36)) hv kn29 (by decide)
  have kn30 := up_ne (v := (50, 36)) hv kn30 (by decide)
  have kn31 := up_ne (v := (50, 36)) hv kn31 (by decide)
  have kn32 := up_ne (v := (50, 36)) hv kn32 (by decide)
  have kn33 := up_ne (v := (50, 36)) hv kn33 (by decide)
  have kn34 := up_ne (v := (50, 36)) hv kn34 (by decide)
  have kn35 := up_ne (v := (50, 36)) hv kn35 (by decide)
  have kn36 := up_ne (v := (50, 36)) hv kn36 (by decide)
  have kn37 := up_ne (v := (50, 36)) hv kn37 (by decide)
  have kn38 := up_eq (kX10_init_37 κ n) (n + 37) (50, 36)
  have hv := lv_up (v := (50, 36)) hv
  refine z_putR dX10_init_322 fl_X10_131 (Or.inr ⟨rfl, rfl, ff_X10_131⟩) k_a0 (fun h78 => ?_)
  refine z_aload_n dX10_init_325 rfl 0 rfl ?_
  refine z_sipush (v := 144) dX10_init_326 (by decide) ?_
  refine z_newa (N := 144) dX10_init_329 pk_50 (by decide) (by decide) ⟨by omega, by decide, by decide⟩ (fun h79 => ?_)
  have k_a0 := up_ne (v := (50, 144)) hv k_a0 (by decide)
  have kn1 := up_ne (v := (50, 144)) hv kn1 (by decide)
  have kn2 := up_ne (v := (50, 144)) hv kn2 (by decide)
  have kn3 := up_ne (v := (50, 144)) hv kn3 (by decide)
  have kn4 := up_ne (v := (50, 144)) hv kn4 (by decide)
  have kn5 := up_ne (v := (50, 144)) hv kn5 (by decide)
  have kn6 := up_ne (v := (50, 144)) hv kn6 (by decide)
  have kn7 := up_ne (v := (50, 144)) hv kn7 (by decide)
  have kn8 := up_ne (v := (50, 144)) hv kn8 (by decide)
  have kn9 := up_ne (v := (50, 144)) hv kn9 (by decide)
  have kn10 := up_ne (v := (50, 144)) hv kn10 (by decide)
  have kn11 := up_ne (v := (50, 144)) hv kn11 (by decide)
  have kn12 := up_ne (v := (50, 144)) hv kn12 (by decide)
  have kn13 := up_ne (v := (50, 144)) hv kn13 (by decide)
  have kn14 := up_ne (v := (50, 144)) hv kn14 (by decide)
  have kn15 := up_ne (v := (50, 144)) hv kn15 (by decide)
  have kn16 := up_ne (v := (50, 144)) hv kn16 (by decide)
  have kn17 := up_ne (v := (50, 144)) hv kn17 (by decide)
  have kn18 := up_ne (v := (50, 144)) hv kn18 (by decide)
  have kn19 := up_ne (v := (50, 144)) hv kn19 (by decide)
  have kn20 := up_ne (v := (50, 144)) hv kn20 (by decide)
  have kn21 := up_ne (v := (50, 144)) hv kn21 (by decide)
  have kn22 := up_ne (v := (50, 144)) hv kn22 (by decide)
  have kn23 := up_ne (v := (50, 144)) hv kn23 (by decide)
  have kn24 := up_ne (v := (50, 144)) hv kn24 (by decide)
  have kn25 := up_ne (v := (50, 144)) hv kn25 (by decide)
  have kn26 := up_ne (v := (50, 144)) hv kn26 (by decide)
  have kn27 := up_ne (v := (50, 144)) hv kn27 (by decide)
  have kn28 := up_ne (v := (50, 144)) hv kn28 (by decide)
  have kn29 := up_ne (v := (50, 144)) hv kn29 (by decide)
  have kn30 := up_ne (v := (50, 144)) hv kn30 (by decide)
  have kn31 := up_ne (v := (50, 144)) hv kn31 (by decide)
  have kn32 := up_ne (v := (50, 144)) hv kn32 (by decide)
  have kn33 := up_ne (v := (50, 144)) hv kn33 (by decide)
  have kn34 := up_ne (v := (50, 144)) hv kn34 (by decide)
  have kn35 := up_ne (v := (50, 144)) hv kn35 (by decide)
  have kn36 := up_ne (v := (50, 144)) hv kn36 (by decide)
  have kn37 := up_ne (v := (50, 144)) hv kn37 (by decide)
  have kn38 := up_ne (v := (50, 144)) hv kn38 (by decide)
  have kn39 := up_eq (kX10_init_38 κ n) (n + 38) (50, 144)
  have hv := lv_up (v := (50, 144)) hv
  refine z_putR dX10_init_331 fl_X10_134 (Or.inr ⟨rfl, rfl, ff_X10_134⟩) k_a0 (fun h80 => ?_)
  refine z_iconst (v := 0) dX10_init_334 (by decide) ?_
  refine z_istore_n (L' := [(1, .int ((0 : Int32))), (0, .ref (a0))]) dX10_init_335 rfl (by decide) rfl ?_
  refine z_iload_n dX10_init_336 rfl 0 rfl ?_
  refine z_bipush (v := 12) dX10_init_337 (by decide) ?_
  refine z_icmp_geF (tgt := 355) dX10_init_339 (by decide) (by decide) ?_
  refine z_aload_n dX10_init_342 rfl 1 rfl ?_
  refine z_getR (kd := 50) dX10_init_343 fl_X10_7 k_a0 (fun r81 kr81 => ?_)
  refine z_iload_n dX10_init_346 rfl 0 rfl ?_
  refine z_iconst (v := -1) dX10_init_347 (by decide) ?_
  refine z_iast dX10_init_348 kr81 (fun h82 => ?_)
  refine z_iinc (j := 0) (v := (1 : Int32)) (L' := [(1, .int ((1 : Int32))), (0, .ref (a0))]) dX10_init_349 rfl (by decide) (by decide) rfl ?_
  refine z_goto (tgt := 336) dX10_init_352 (by decide) ?_
  refine z_iload_n dX10_init_336 rfl 0 rfl ?_
  refine z_bipush (v := 12) dX10_init_337 (by decide) ?_
  refine z_icmp_geF (tgt := 355) dX10_init_339 (by decide) (by decide) ?_
  refine z_aload_n dX10_init_342 rfl 1 rfl ?_
  refine z_getR (kd := 50) dX10_init_343 fl_X10_7 k_a0 (fun r83 kr83 => ?_)
  refine z_iload_n dX10_init_346 rfl 0 rfl ?_
  refine z_iconst (v := -1) dX10_init_347 (by decide) ?_
  refine z_iast dX10_init_348 kr83 (fun h84 => ?_)
  refine z_iinc (j := 0) (v := (2 : Int32)) (L' := [(1, .int ((2 : Int32))), (0, .ref (a0))]) dX10_init_349 rfl (by decide) (by decide) rfl ?_
  refine z_goto (tgt := 336) dX10_init_352 (by decide) ?_
  refine z_iload_n dX10_init_336 rfl 0 rfl ?_
  refine z_bipush (v := 12) dX10_init_337 (by decide) ?_
  refine z_icmp_geF (tgt := 355) dX10_init_339 (by decide) (by decide) ?_
  refine z_aload_n dX10_init_342 rfl 1 rfl ?_
  refine z_getR (kd := 50) dX10_init_343 fl_X10_7 k_a0 (fun r85 kr85 => ?_)
  refine z_iload_n dX10_init_346 rfl 0 rfl ?_
  refine z_iconst (v := -1) dX10_init_347 (by decide) ?_
  refine z_iast dX10_init_348 kr85 (fun h86 => ?_)
  refine z_iinc (j := 0) (v := (3 : Int32)) (L' := [(1, .int ((3 : Int32))), (0, .ref (a0))]) dX10_init_349 rfl (by decide) (by decide) rfl ?_
  refine z_goto (tgt := 336) dX10_init_352 (by decide) ?_
  refine z_iload_n dX10_init_336 rfl 0 rfl ?_
  refine z_bipush (v := 12) dX10_init_337 (by decide) ?_
  refine z_icmp_geF (tgt := 355) dX10_init_339 (by decide) (by decide) ?_
  refine z_aload_n dX10_init_342 rfl 1 rfl ?_
  refine z_getR (kd := 50) dX10_init_343 fl_X10_7 k_a0 (fun r87 kr87 => ?_)
  refine z_iload_n dX10_init_346 rfl 0 rfl ?_
  refine z_iconst (v := -1) dX10_init_347 (by decide) ?_
  refine z_iast dX10_init_348 kr87 (fun h88 => ?_)
  refine z_iinc (j := 0) (v := (4 : Int32)) (L' := [(1, .int ((4 : Int32))), (0, .ref (a0))]) dX10_init_349 rfl (by decide) (by decide) rfl ?_
  refine z_goto (tgt := 336) dX10_init_352 (by decide) ?_
  refine z_iload_n dX10_init_336 rfl 0 rfl ?_
  refine z_bipush (v := 12) dX10_init_337 (by decide) ?_
  refine z_icmp_geF (tgt := 355) dX10_init_339 (by decide) (by decide) ?_
  refine z_aload_n dX10_init_342 rfl 1 rfl ?_
  refine z_getR (kd := 50) dX10_init_343 fl_X10_7 k_a0 (fun r89 kr89 => ?_)
  refine z_iload_n dX10_init_346 rfl 0 rfl ?_
  refine z_iconst (v := -1) dX10_init_347 (by decide) ?_
  refine z_iast dX10_init_348 kr89 (fun h90 => ?_)
  refine z_iinc (j := 0) (v := (5 : Int32)) (L' := [(1, .int ((5 : Int32))), (0, .ref (a0))]) dX10_init_349 rfl (by decide) (by decide) rfl ?_
  refine z_goto (tgt := 336) dX10_init_352 (by decide) ?_
  refine z_iload_n dX10_init_336 rfl 0 rfl ?_
  refine z_bipush (v := 12) dX10_init_337 (by decide) ?_
  refine z_icmp_geF (tgt := 355) dX10_init_339 (by decide) (by decide) ?_
  refine z_aload_n dX10_init_342 rfl 1 rfl ?_
  refine z_getR (kd := 50) dX10_init_343 fl_X10_7 k_a0 (fun r91 kr91 => ?_)
  refine z_iload_n dX10_init_346 rfl 0 rfl ?_
  refine z_iconst (v := -1) dX10_init_347 (by decide) ?_
  refine z_iast dX10_init_348 kr91 (fun h92 => ?_)
  refine z_iinc (j := 0) (v := (6 : Int32)) (L' := [(1, .int ((6 : Int32))), (0, .ref (a0))]) dX10_init_349 rfl (by decide) (by decide) rfl ?_
  refine z_goto (tgt := 336) dX10_init_352 (by decide) ?_
  refine z_iload_n dX10_init_336 rfl 0 rfl ?_
  refine z_bipush (v := 12) dX10_init_337 (by decide) ?_
  refine z_icmp_geF (tgt := 355) dX10_init_339 (by decide) (by decide) ?_
  refine z_aload_n dX10_init_342 rfl 1 rfl ?_
  refine z_getR (kd := 50) dX10_init_343 fl_X10_7 k_a0 (fun r93 kr93 => ?_)
  refine z_iload_n dX10_init_346 rfl 0 rfl ?_
  refine z_iconst (v := -1) dX10_init_347 (by decide) ?_
  refine z_iast dX10_init_348 kr93 (fun h94 => ?_)
  refine z_iinc (j := 0) (v := (7 : Int32)) (L' := [(1, .int ((7 : Int32))), (0, .ref (a0))]) dX10_init_349 rfl (by decide) (by decide) rfl ?_
  refine z_goto (tgt := 336) dX10_init_352 (by decide) ?_
  refine z_iload_n dX10_init_336 rfl 0 rfl ?_
  refine z_bipush (v := 12) dX10_init_337 (by decide) ?_
  refine z_icmp_geF (tgt := 355) dX10_init_339 (by decide) (by decide) ?_
  refine z_aload_n dX10_init_342 rfl 1 rfl ?_
  refine z_getR (kd := 50) dX10_init_343 fl_X10_7 k_a0 (fun r95 kr95 => ?_)
  refine z_iload_n dX10_init_346 rfl 0 rfl ?_
  refine z_iconst (v := -1) dX10_init_347 (by decide) ?_
  refine z_iast dX10_init_348 kr95 (fun h96 => ?_)
  refine z_iinc (j := 0) (v := (8 : Int32)) (L' := [(1, .int ((8 : Int32))), (0, .ref (a0))]) dX10_init_349 rfl (by decide) (by decide) rfl ?_
  refine z_goto (tgt := 336) dX10_init_352 (by decide) ?_
  refine z_iload_n dX10_init_336 rfl 0 rfl ?_
  refine z_bipush (v := 12) dX10_init_337 (by decide) ?_
  refine z_icmp_geF (tgt := 355) dX10_init_339 (by decide) (by decide) ?_
  refine z_aload_n dX10_init_342 rfl 1 rfl ?_
  refine z_getR (kd := 50) dX10_init_343 fl_X10_7 k_a0 (fun r97 kr97 => ?_)
  refine z_iload_n dX10_init_346 rfl 0 rfl ?_
  refine z_iconst (v := -1) dX10_init_347 (by decide) ?_
  refine z_iast dX10_init_348 kr97 (fun h98 => ?_)
  refine z_iinc (j := 0) (v := (9 : Int32)) (L' := [(1, .int ((9 : Int32))), (0, .ref (a0))]) dX10_init_349 rfl (by decide) (by decide) rfl ?_
  refine z_goto (tgt := 336) dX10_init_352 (by decide) ?_
  refine z_iload_n dX10_init_336 rfl 0 rfl ?_
  refine z_bipush (v := 12) dX10_init_337 (by decide) ?_
  refine z_icmp_geF (tgt := 355) dX10_init_339 (by decide) (by decide) ?_
  refine z_aload_n dX10_init_342 rfl 1 rfl ?_
  refine z_getR (kd := 50) dX10_init_343 fl_X10_7 k_a0 (fun r99 kr99 => ?_)
  refine z_iload_n dX10_init_346 rfl 0 rfl ?_
  refine z_iconst (v := -1) dX10_init_347 (by decide) ?_
  refine z_iast dX10_init_348 kr99 (fun h100 => ?_)
  refine z_iinc (j := 0) (v := (10 : Int32)) (L' := [(1, .int ((10 : Int32))), (0, .ref (a0))]) dX10_init_349 rfl (by decide) (by decide) rfl ?_
  refine z_goto (tgt := 336) dX10_init_352 (by decide) ?_
  refine z_iload_n dX10_init_336 rfl 0 rfl ?_
  refine z_bipush (v := 12) dX10_init_337 (by decide) ?_
  refine z_icmp_geF (tgt := 355) dX10_init_339 (by decide) (by decide) ?_
  refine z_aload_n dX10_init_342 rfl 1 rfl ?_
  refine z_getR (kd := 50) dX10_init_343 fl_X10_7 k_a0 (fun r101 kr101 => ?_)
  refine z_iload_n dX10_init_346 rfl 0 rfl ?_
  refine z_iconst (v := -1) dX10_init_347 (by decide) ?_
  refine z_iast dX10_init_348 kr101 (fun h102 => ?_)
  refine z_iinc (j := 0) (v := (11 : Int32)) (L' := [(1, .int ((11 : Int32))), (0, .ref (a0))]) dX10_init_349 rfl (by decide) (by decide) rfl ?_
  refine z_goto (tgt := 336) dX10_init_352 (by decide) ?_
  refine z_iload_n dX10_init_336 rfl 0 rfl ?_
  refine z_bipush (v := 12) dX10_init_337 (by decide) ?_
  refine z_icmp_geF (tgt := 355) dX10_init_339 (by decide) (by decide) ?_
  refine z_aload_n dX10_init_342 rfl 1 rfl ?_
  refine z_getR (kd := 50) dX10_init_343 fl_X10_7 k_a0 (fun r103 kr103 => ?_)
  refine z_iload_n dX10_init_346 rfl 0 rfl ?_
  refine z_iconst (v := -1) dX10_init_347 (by decide) ?_
  refine z_iast dX10_init_348 kr103 (fun h104 => ?_)
  refine z_iinc (j := 0) (v := (12 : Int32)) (L' := [(1, .int ((12 : Int32))), (0, .ref (a0))]) dX10_init_349 rfl (by decide) (by decide) rfl ?_
  refine z_goto (tgt := 336) dX10_init_352 (by decide) ?_
  refine z_iload_n dX10_init_336 rfl 0 rfl ?_
  refine z_bipush (v := 12) dX10_init_337 (by decide) ?_
  refine z_icmp_geT (tgt := 355) dX10_init_339 (by decide) (by decide) ?_
  exact z_vret dX10_init_355 rfl ⟨Nat.le_of_ble_eq_true rfl, Nat.le_of_ble_eq_true rfl⟩ rfl
