theorem lk_L_9 : Lk_ RL 9 yX9_init := Or.inl (TO_in (List.mem_of_getElem? (i := 79) (by decide +kernel)) (by decide +kernel))
theorem lk_L_12 : Lk_ RL 12 yX10_init := Or.inl (TO_in (List.mem_of_getElem? (i := 826) (by decide +kernel)) (by decide +kernel))
theorem lk_L_13 : Lk_ RL 13 yX9_row := Or.inl (TO_in (List.mem_of_getElem? (i := 328) (by decide +kernel)) (by decide +kernel))
theorem lk_L_17 : Lk_ RL 17 yX10_row := Or.inl (TO_in (List.mem_of_getElem? (i := 1022) (by decide +kernel)) (by decide +kernel))
theorem lk_L_18 : Lk_ RL 18 yX9_miss := Or.inl (TO_in (List.mem_of_getElem? (i := 356) (by decide +kernel)) (by decide +kernel))
theorem lk_L_22 : Lk_ RL 22 yX10_miss := Or.inl (TO_in (List.mem_of_getElem? (i := 1046) (by decide +kernel)) (by decide +kernel))
theorem lk_L_23 : Lk_ RL 23 yX9_share := Or.inl (TO_in (List.mem_of_getElem? (i := 361) (by decide +kernel)) (by decide +kernel))
theorem lk_L_27 : Lk_ RL 27 yX10_share := Or.inl (TO_in (List.mem_of_getElem? (i := 1050) (by decide +kernel)) (by decide +kernel))
theorem lk_L_30 : Lk_ RL 30 yX9_put := Or.inl (TO_in (List.mem_of_getElem? (i := 369) (by decide +kernel)) (by decide +kernel))
theorem lk_L_34 : Lk_ RL 34 yX10_put := Or.inl (TO_in (List.mem_of_getElem? (i := 1054) (by decide +kernel)) (by decide +kernel))
theorem lk_L_35 : Lk_ RL 35 yX9_item := Or.inl (TO_in (List.mem_of_getElem? (i := 385) (by decide +kernel)) (by decide +kernel))
theorem lk_L_39 : Lk_ RL 39 yX10_item := Or.inl (TO_in (List.mem_of_getElem? (i := 1072) (by decide +kernel)) (by decide +kernel))
theorem lk_L_40 : Lk_ RL 40 yX9_about := Or.inl (TO_in (List.mem_of_getElem? (i := 393) (by decide +kernel)) (by decide +kernel))
theorem lk_L_43 : Lk_ RL 43 yX10_about := Or.inl (TO_in (List.mem_of_getElem? (i := 1080) (by decide +kernel)) (by decide +kernel))
theorem lk_L_44 : Lk_ RL 44 yX9_thing := Or.inl (TO_in (List.mem_of_getElem? (i := 409) (by decide +kernel)) (by decide +kernel))
theorem lk_L_47 : Lk_ RL 47 yX10_thing := Or.inl (TO_in (List.mem_of_getElem? (i := 1085) (by decide +kernel)) (by decide +kernel))
theorem lk_L_48 : Lk_ RL 48 yX9_of := Or.inl (TO_in (List.mem_of_getElem? (i := 418) (by decide +kernel)) (by decide +kernel))
theorem lk_L_51 : Lk_ RL 51 yX10_of := Or.inl (TO_in (List.mem_of_getElem? (i := 1091) (by decide +kernel)) (by decide +kernel))
theorem lk_L_52 : Lk_ RL 52 yX9_routine := Or.inl (TO_in (List.mem_of_getElem? (i := 440) (by decide +kernel)) (by decide +kernel))
theorem lk_L_55 : Lk_ RL 55 yX10_routine := Or.inl (TO_in (List.mem_of_getElem? (i := 1102) (by decide +kernel)) (by decide +kernel))
theorem lk_L_56 : Lk_ RL 56 yX9_op := Or.inl (TO_in (List.mem_of_getElem? (i := 498) (by decide +kernel)) (by decide +kernel))
theorem lk_L_60 : Lk_ RL 60 yX10_op := Or.inl (TO_in (List.mem_of_getElem? (i := 1107) (by decide +kernel)) (by decide +kernel))
theorem lk_L_61 : Lk_ RL 61 yX9_guard := Or.inl (TO_in (List.mem_of_getElem? (i := 520) (by decide +kernel)) (by decide +kernel))
theorem lk_L_65 : Lk_ RL 65 yX10_guard := Or.inl (TO_in (List.mem_of_getElem? (i := 1123) (by decide +kernel)) (by decide +kernel))
theorem lk_L_66 : Lk_ RL 66 yX9_last := Or.inl (TO_in (List.mem_of_getElem? (i := 529) (by decide +kernel)) (by decide +kernel))
theorem lk_L_69 : Lk_ RL 69 yX10_last := Or.inl (TO_in (List.mem_of_getElem? (i := 1127) (by decide +kernel)) (by decide +kernel))
theorem lk_L_70 : Lk_ RL 70 yX9_run := Or.inl (TO_in (List.mem_of_getElem? (i := 533) (by decide +kernel)) (by decide +kernel))
theorem lk_L_74 : Lk_ RL 74 yX10_run := Or.inl (TO_in (List.mem_of_getElem? (i := 1132) (by decide +kernel)) (by decide +kernel))
theorem lk_L_75 : Lk_ RL 75 yX9_result := Or.inl (TO_in (List.mem_of_getElem? (i := 793) (by decide +kernel)) (by decide +kernel))
theorem lk_L_79 : Lk_ RL 79 yX10_result := Or.inl (TO_in (List.mem_of_getElem? (i := 1246) (by decide +kernel)) (by decide +kernel))
theorem lk_L_80 : Lk_ RL 80 yX9_told := Or.inl (TO_in (List.mem_of_getElem? (i := 797) (by decide +kernel)) (by decide +kernel))
theorem lk_L_83 : Lk_ RL 83 yX10_told := Or.inl (TO_in (List.mem_of_getElem? (i := 1250) (by decide +kernel)) (by decide +kernel))
theorem lk_L_84 : Lk_ RL 84 yX9_number := Or.inl (TO_in (List.mem_of_getElem? (i := 801) (by decide +kernel)) (by decide +kernel))
theorem lk_L_87 : Lk_ RL 87 yX10_number := Or.inl (TO_in (List.mem_of_getElem? (i := 1254) (by decide +kernel)) (by decide +kernel))
theorem lk_L_88 : Lk_ RL 88 yX9_output := Or.inl (TO_in (List.mem_of_getElem? (i := 805) (by decide +kernel)) (by decide +kernel))
theorem lk_L_92 : Lk_ RL 92 yX10_output := Or.inl (TO_in (List.mem_of_getElem? (i := 1258) (by decide +kernel)) (by decide +kernel))
theorem lk_L_93 : Lk_ RL 93 yX9_count := Or.inl (TO_in (List.mem_of_getElem? (i := 809) (by decide +kernel)) (by decide +kernel))
theorem lk_L_96 : Lk_ RL 96 yX10_count := Or.inl (TO_in (List.mem_of_getElem? (i := 1262) (by decide +kernel)) (by decide +kernel))
theorem lk_L_97 : Lk_ RL 97 yX9_forget := Or.inl (TO_in (List.mem_of_getElem? (i := 816) (by decide +kernel)) (by decide +kernel))
theorem lk_L_101 : Lk_ RL 101 yX10_forget := Or.inl (TO_in (List.mem_of_getElem? (i := 1266) (by decide +kernel)) (by decide +kernel))
theorem nc_L_7 : Cond.classLink RL 7 RX9 ∈ TO_ ∧ Cond.instantiable RX9 1 ∈ TO_ ∧ Cond.initialized RX9 ∈ TO_ := ⟨(TO_in (List.mem_of_getElem? (i := 77) (by decide +kernel)) (by decide +kernel)), (TO_in (List.mem_of_getElem? (i := 78) (by decide +kernel)) (by decide +kernel)), (TO_in (List.mem_of_getElem? (i := 63) (by decide +kernel)) (by decide +kernel))⟩
theorem nc_L_10 : Cond.classLink RL 10 RX10 ∈ TO_ ∧ Cond.instantiable RX10 63 ∈ TO_ ∧ Cond.initialized RX10 ∈ TO_ := ⟨(TO_in (List.mem_of_getElem? (i := 824) (by decide +kernel)) (by decide +kernel)), (TO_in (List.mem_of_getElem? (i := 825) (by decide +kernel)) (by decide +kernel)), (TO_in (List.mem_of_getElem? (i := 71) (by decide +kernel)) (by decide +kernel))⟩
def mLaw (nm : String) : Mi := (⟨RL, nm, ""⟩, code, 4, ret, room_1)
theorem ar_p {s : State} {args : Array Value} {ty : FieldType} (h : (Cond.arrayClass ty).before args s = true) : ∃ cA, ArrOfT s cA ty ∧ s.vm.findClass ("[" ++ ty.toString) = some cA := by
  obtain ⟨cA, kA, comp, h1, h2, h3⟩ := Cond.arrayClass_spec h
  exact ⟨cA, fun n z => ⟨fun k h => (by cases h), kA, h2, comp, h3⟩, h1⟩
theorem ar_o {s : State} {args : Array Value} {C : String} (h : (Cond.arrayOver (.object C)).before args s = true) : ∃ cA, ArrOfT s cA (.object C) ∧ va_RA s cA (.object C) := by
  obtain ⟨comp, cA, kA, h1, h2, h3, h4, h5⟩ := Cond.arrayOver_spec h
  exact ⟨cA, fun n z => ⟨fun k h => (by cases h), kA, h3, comp, h4⟩, kA, comp, h3, h4, h1, h5⟩
theorem lg_K {s : State} {args : Array Value} (hts : ∀ w ∈ lw_tbl, w.before args s = true) : ∃ γ : Gm, va_K γ.1 vwCl (tys_ γ) s := by
  have hto : ∀ w ∈ TO_, w.before args s = true := fun w hw => hts w (List.mem_filter.mp hw).1
  obtain ⟨c0, i0, k0⟩ := u_known (C := RX0) (T := TX0) (N := 4) (n := 4) hto cl_0.2.2.1 (hto _ nc_X4_48.2.1)
  obtain ⟨c1, i1, k1⟩ := u_known (C := RX1) (T := TX1) (N := 11) (n := 11) hto cl_1.2.2.1 (hto _ nc_X4_38.2.1)
  obtain ⟨c2, i2, k2⟩ := u_known (C := RX2) (T := TX2) (N := 3) (n := 3) hto cl_2.2.2.1 (hto _ nc_X4_25.2.1)
  obtain ⟨c3, i3, k3⟩ := u_known (C := RX4) (T := TX4) (N := 19) (n := 19) hto cl_3.2.2.1 (hto _ nc_X9_7.2.1)
  obtain ⟨c4, i4, k4⟩ := u_known (C := RX5) (T := TX5) (N := 5) (n := 5) hto cl_4.2.2.1 (hto _ nc_X4_9.2.1)
  obtain ⟨c5, i5, k5⟩ := u_known (C := RX7) (T := TX7) (N := 11) (n := 11) hto cl_5.2.2.1 (hto _ nc_X4_32.2.1)
  obtain ⟨c6, i6, k6⟩ := u_known (C := RX8) (T := TX8) (N := 7) (n := 7) hto cl_6.2.2.1 (hto _ nc_X4_18.2.1)
  obtain ⟨c7, i7, k7⟩ := u_known (C := RX9) (T := TX9) (N := 1) (n := 1) hto cl_7.2.2.1 (hto _ nc_L_7.2.1)
  obtain ⟨c8, i8, k8⟩ := u_known (C := RX10) (T := TX10) (N := 63) (n := 63) hto cl_8.2.2.1 (hto _ nc_L_10.2.1)
  obtain ⟨a0, x0, y0⟩ := ar_p (ty := .int) (hto _ pk_50.2.2.2.1)
  obtain ⟨a1, x1, y1⟩ := ar_p (ty := .long) (hto _ pk_51.2.2.2.1)
  obtain ⟨a2, x2, y2⟩ := ar_p (ty := .double) (hto _ pk_52.2.2.2.1)
  obtain ⟨a3, x3, y3⟩ := ar_p (ty := .boolean) (hto _ pk_53.2.2.2.1)
  obtain ⟨a4, x4, y4⟩ := ar_o (C := RX1) (hto _ na_X4_38.2)
  obtain ⟨a5, x5, y5⟩ := ar_o (C := RX5) (hto _ na_X4_9.2)
  obtain ⟨a6, x6, y6⟩ := ar_o (C := RX7) (hto _ na_X4_32.2)
  obtain ⟨a7, x7, y7⟩ := ar_o (C := RX8) (hto _ na_X4_18.2)
  refine ⟨((fun k => match k with | 0 => c0 | 1 => c1 | 2 => c2 | 3 => c3 | 4 => c4 | 5 => c5 | 6 => c6 | 7 => c7 | _ => c8, fun k => match k with | 0 => i0 | 1 => i1 | 2 => i2 | 3 => i3 | 4 => i4 | 5 => i5 | 6 => i6 | 7 => i7 | _ => i8), fun t => match t with | 50 => a0 | 51 => a1 | 52 => a2 | 53 => a3 | 55 => a4 | 58 => a5 | 59 => a6 | _ => a7), ?_, ?_⟩
  · intro k q hq
    match k, hq with
    | 0, hq => cases hq; exact k0
    | 1, hq => cases hq; exact k1
    | 2, hq => cases hq; exact k2
    | 3, hq => cases hq; exact k3
    | 4, hq => cases hq; exact k4
    | 5, hq => cases hq; exact k5
    | 6, hq => cases hq; exact k6
    | 7, hq => cases hq; exact k7
    | 8, hq => cases hq; exact k8
    | k + 9, hq => simp [vwCl] at hq
  · intro k q hq
    match k, hq with
    | 0, hq => cases hq; exact ⟨x0, y0⟩
    | 1, hq => cases hq; exact ⟨x1, y1⟩
    | 2, hq => cases hq; exact ⟨x2, y2⟩
    | 3, hq => cases hq; exact ⟨x3, y3⟩
    | 4, hq => cases hq; exact ⟨x4, y4⟩
    | 5, hq => cases hq; exact ⟨x5, y5⟩
    | 6, hq => cases hq; exact ⟨x6, y6⟩
    | 7, hq => cases hq; exact ⟨x7, y7⟩
    | k + 8, hq => simp [tys_] at hq
set_option maxRecDepth 100000 in
theorem lg_T {s : State} {args : Array Value} {A : Nat → Prop} {C n : String} {N : Nat} {f : Nat → Int32} (hN : N < 2 ^ 31) (hl : (Cond.laysStatic C n "[I").before args s = true) (hini : (Cond.initialized C).before args s = true) (ha : (Cond.arrayOf (Term.static C n "[I") .int).before args s = true) (hlen : (Cond.eq (Term.length (Term.static C n "[I")) (Term.int (Int32.ofNat N))).before args s = true)
    (hel : ∀ j : Nat, j < N → (Cond.eq (Term.elem (Term.static C n "[I") (Term.int (Int32.ofNat j))) (Term.int (f j))).before args s = true) (hA : ∀ a : Nat, a < s.heap.size → ¬ A a) : ∃ t : Nat, va_Z C n "[I" (.ref t) A s s.heap ∧ va_T .int t N (fun j => .int (f j)) A s s.heap := by
  obtain ⟨t, ht, hT⟩ := va_Tof (f := fun j => .int (f j)) (A := A) hN ha (va_eqt hlen) (fun j hj => va_eqt (hel j hj)) hA
  exact ⟨t, va_Zref hl hini ht hA, hT⟩

set_option maxRecDepth 100000 in
theorem lg_S0 {s : State} {args : Array Value} {A : Nat → Prop} (hts : ∀ w ∈ lw_tbl, w.before args s = true) (hgv : (Jvm.Cond.and given_1 narrow_1).before args s = true) (hA : ∀ a : Nat, a < s.heap.size → ¬ A a) : ∃ t : Nat, va_Z (st_n 0).1 (st_n 0).2.1 "[I" (.ref t) A s s.heap ∧ va_T .int t (st_n 0).2.2 (fun j => .int ((st_v 0).getD j 0)) A s s.heap := by
  have hs := flat_of_before _ hgv
  refine lg_T (C := "StoryClasses$Things") (n := "PARENTS") (N := 6) (f := fun j => (st_v 0).getD j 0) (by decide) (hts _ (by decide +kernel)) (hts _ (by decide +kernel)) (hs _ (by decide +kernel)) (hs _ (by decide +kernel)) (fun j hj => ?_) hA
  rcases (show j = 0 ∨ j = 1 ∨ j = 2 ∨ j = 3 ∨ j = 4 ∨ j = 5 by omega) with rfl | rfl | rfl | rfl | rfl | rfl
  · exact hs _ (by decide +kernel)
  · exact hs _ (by decide +kernel)
  · exact hs _ (by decide +kernel)
  · exact hs _ (by decide +kernel)
  · exact hs _ (by decide +kernel)
  · exact hs _ (by decide +kernel)

set_option maxRecDepth 100000 in
theorem lg_S1 {s : State} {args : Array Value} {A : Nat → Prop} (hts : ∀ w ∈ lw_tbl, w.before args s = true) (hgv : (Jvm.Cond.and given_1 narrow_1).before args s = true) (hA : ∀ a : Nat, a < s.heap.size → ¬ A a) : ∃ t : Nat, va_Z (st_n 1).1 (st_n 1).2.1 "[I" (.ref t) A s s.heap ∧ va_T .int t (st_n 1).2.2 (fun j => .int ((st_v 1).getD j 0)) A s s.heap := by
  have hs := flat_of_before _ hgv
  refine lg_T (C := "StoryClasses$Things") (n := "PLACES") (N := 6) (f := fun j => (st_v 1).getD j 0) (by decide) (hts _ (by decide +kernel)) (hts _ (by decide +kernel)) (hs _ (by decide +kernel)) (hs _ (by decide +kernel)) (fun j hj => ?_) hA
  rcases (show j = 0 ∨ j = 1 ∨ j = 2 ∨ j = 3 ∨ j = 4 ∨ j = 5 by omega) with rfl | rfl | rfl | rfl | rfl | rfl
  · exact hs _ (by decide +kernel)
  · exact hs _ (by decide +kernel)
  · exact hs _ (by decide +kernel)
  · exact hs _ (by decide +kernel)
  · exact hs _ (by decide +kernel)
  · exact hs _ (by decide +kernel)

set_option maxRecDepth 100000 in
theorem lg_S2 {s : State} {args : Array Value} {A : Nat → Prop} (hts : ∀ w ∈ lw_tbl, w.before args s = true) (hgv : (Jvm.Cond.and given_1 narrow_1).before args s = true) (hA : ∀ a : Nat, a < s.heap.size → ¬ A a) : ∃ t : Nat, va_Z (st_n 2).1 (st_n 2).2.1 "[I" (.ref t) A s s.heap ∧ va_T .int t (st_n 2).2.2 (fun j => .int ((st_v 2).getD j 0)) A s s.heap := by
  have hs := flat_of_before _ hgv
  refine lg_T (C := "StoryClasses$Things") (n := "SHELF_KINDS") (N := 6) (f := fun j => (st_v 2).getD j 0) (by decide) (hts _ (by decide +kernel)) (hts _ (by decide +kernel)) (hs _ (by decide +kernel)) (hs _ (by decide +kernel)) (fun j hj => ?_) hA
  rcases (show j = 0 ∨ j = 1 ∨ j = 2 ∨ j = 3 ∨ j = 4 ∨ j = 5 by omega) with rfl | rfl | rfl | rfl | rfl | rfl
  · exact hs _ (by decide +kernel)
  · exact hs _ (by decide +kernel)
  · exact hs _ (by decide +kernel)
  · exact hs _ (by decide +kernel)
  · exact hs _ (by decide +kernel)
  · exact hs _ (by decide +kernel)

set_option maxRecDepth 100000 in
theorem lg_S3 {s : State} {args : Array Value} {A : Nat → Prop} (hts : ∀ w ∈ lw_tbl, w.before args s = true) (hgv : (Jvm.Cond.and given_1 narrow_1).before args s = true) (hA : ∀ a : Nat, a < s.heap.size → ¬ A a) : ∃ t : Nat, va_Z (st_n 3).1 (st_n 3).2.1 "[I" (.ref t) A s s.heap ∧ va_T .int t (st_n 3).2.2 (fun j => .int ((st_v 3).getD j 0)) A s s.heap := by
  have hs := flat_of_before _ hgv
  refine lg_T (C := "StoryClasses$Ops") (n := "TAKES") (N := 30) (f := fun j => (st_v 3).getD j 0) (by decide) (hts _ (by decide +kernel)) (hts _ (by decide +kernel)) (hs _ (by decide +kernel)) (hs _ (by decide +kernel)) (fun j hj => ?_) hA
  rcases (show j = 0 ∨ j = 1 ∨ j = 2 ∨ j = 3 ∨ j = 4 ∨ j = 5 ∨ j = 6 ∨ j = 7 ∨ j = 8 ∨ j = 9 ∨ j = 10 ∨ j = 11 ∨ j = 12 ∨ j = 13 ∨ j = 14 ∨ j = 15 ∨ j = 16 ∨ j = 17 ∨ j = 18 ∨ j = 19 ∨ j = 20 ∨ j = 21 ∨ j = 22 ∨ j = 23 ∨ j = 24 ∨ j = 25 ∨ j = 26 ∨ j = 27 ∨ j = 28 ∨ j = 29 by omega) with rfl | rfl | rfl | rfl | rfl | rfl | rfl | rfl | rfl | rfl | rfl | rfl | rfl | rfl | rfl | rfl | rfl | rfl | rfl | rfl | rfl | rfl | rfl | rfl | rfl | rfl | rfl | rfl | rfl | rfl
  · exact hs _ (by decide +kernel)
  · exact hs _ (by decide +kernel)
  · exact hs _ (by decide +kernel)
  · exact hs _ (by decide +kernel)
  · exact hs _ (by decide +kernel)
  · exact hs _ (by decide +kernel)
  · exact hs _ (by decide +kernel)
  · exact hs _ (by decide +kernel)
  · exact hs _ (by decide +kernel)
  · exact hs _ (by decide +kernel)
  · exact hs _ (by decide +kernel)
  · exact hs _ (by decide +kernel)
  · exact hs _ (by decide +kernel)
  · exact hs _ (by decide +kernel)
  · exact hs _ (by decide +kernel)
  · exact hs _ (by decide +kernel)
  · exact hs _ (by decide +kernel)
  · exact hs _ (by decide +kernel)
  · exact hs _ (by decide +kernel)
  · exact hs _ (by decide +kernel)
  · exact hs _ (by decide +kernel)
  · exact hs _ (by decide +kernel)
  · exact hs _ (by decide +kernel)
  · exact hs _ (by decide +kernel)
  · exact hs _ (by decide +kernel)
  · exact hs _ (by decide +kernel)
  · exact hs _ (by decide +kernel)
  · exact hs _ (by decide +kernel)
  · exact hs _ (by decide +kernel)
  · exact hs _ (by decide +kernel)

theorem lg_S {s : State} {args : Array Value} {A : Nat → Prop} (hts : ∀ w ∈ lw_tbl, w.before args s = true) (hgv : (Jvm.Cond.and given_1 narrow_1).before args s = true) (hA : ∀ a : Nat, a < s.heap.size → ¬ A a) : ∃ t : Nat → Nat, ∀ i, i < 4 → va_Z (st_n i).1 (st_n i).2.1 "[I" (.ref (t i)) A s s.heap ∧ va_T .int (t i) (st_n i).2.2 (fun j => .int ((st_v i).getD j 0)) A s s.heap := by
  obtain ⟨t0, h0⟩ := lg_S0 hts hgv hA
  obtain ⟨t1, h1⟩ := lg_S1 hts hgv hA
  obtain ⟨t2, h2⟩ := lg_S2 hts hgv hA
  obtain ⟨t3, h3⟩ := lg_S3 hts hgv hA
  refine ⟨fun i => match i with | 0 => t0 | 1 => t1 | 2 => t2 | _ => t3, fun i hi => ?_⟩
  rcases (show i = 0 ∨ i = 1 ∨ i = 2 ∨ i = 3 by omega) with rfl | rfl | rfl | rfl
  · exact h0
  · exact h1
  · exact h2
  · exact h3

