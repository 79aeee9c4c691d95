set_option maxHeartbeats 4000000 in
set_option maxRecDepth 100000 in
theorem whole_start {p : Program} {e : Env} {s : State} {m : MethodId} {below : List Frame} {meth : Method} {c : Code} (l : Launch) {b L : Nat} {xs : Nat → Int32} (hL : L ≤ 3072) (C0 : lw_At p s m meth c b L xs) : W p l e room_1 s m #[Value.ref b] below meth c s.heap [] 0 0 (lw_Z below #[Value.ref b] s) (entryFrame m ([Value.ref b] : List Value).toArray 4) := by
  have C1 := C0
  obtain ⟨hx, hb, hr, hml, hown, hts, hX, hbl, hlocks, hgv⟩ := C0
  obtain ⟨γ, hK⟩ := lg_K hts
  obtain ⟨tS, hSt⟩ := lg_S (A := fun q => s.heap.size ≤ q) hts hgv (fun a h => Nat.not_le.mpr h)
  obtain ⟨adC, hadC⟩ : ∃ ad : Nat → Nat, ad = fun a => if a < 105 then s.heap.size + a else if a < 300 then s.heap.size + 40 + a else tS (a - sb_) := ⟨_, rfl⟩
  obtain ⟨adR, hadR⟩ : ∃ ad : Nat → Nat, ad = fun a => if a < 40 then s.heap.size + 105 + a else tS (a - sb_) := ⟨_, rfl⟩
  have hAD : AD_ s.heap.size adC adR := by
    refine ⟨fun a h => ?_, fun a h h' => ?_, fun a h => ?_⟩
    · rw [hadC]; exact if_pos h
    · rw [hadC]; show (if a < 105 then _ else _) = _
      rw [if_neg (by omega), if_pos h']
    · rw [hadR]; exact if_pos h
  have hsC : ∀ i, i < 4 → adC (sb_ + i) = tS i := by
    intro i hi
    rw [hadC]; show (if sb_ + i < 105 then _ else _) = _
    unfold sb_
    rw [if_neg (by omega), if_neg (by omega), Nat.add_sub_cancel_left]
  have hsR : ∀ i, i < 4 → adR (sb_ + i) = tS i := by
    intro i hi
    rw [hadR]; show (if sb_ + i < 40 then _ else _) = _
    unfold sb_
    rw [if_neg (by omega), Nat.add_sub_cancel_left]
  clear hadC hadR
  have hNst : Nst s := fun w hw hn => ns_any hn (hts w hw)
  have hFC : Fx_ (mLaw meth.name) γ adC (fun q => s.heap.size ≤ q) p s m #[Value.ref b] meth c := ⟨hx, hb, hml, hr, hlocks, rfl, hown, fun w hw _ => hts w hw, hK, fun i hi => by rw [hsC i hi]; exact hSt i hi, fun _ h => h, hNst⟩
  have hFR : Fx_ (mLaw meth.name) γ adR (fun q => s.heap.size ≤ q) p s m #[Value.ref b] meth c := ⟨hx, hb, hml, hr, hlocks, rfl, hown, fun w hw _ => hts w hw, hK, fun i hi => by rw [hsR i hi]; exact hSt i hi, fun _ h => h, hNst⟩
  have hLC : LC_ p s m meth c b L xs γ adC adR := ⟨hx, hb, hown, hts, hX, hbl, hFC, hFR, hAD, hL⟩
  have hS : va_S (fun q : Nat => s.heap.size ≤ q) s.heap s.heap [] := va_S.rf
  have hl := lv_entry ([.ref b]) (n := 4) (Nat.le_of_ble_eq_true rfl)
  rw [lg_entry_eq]
  generalize (lg_sl ([.ref b]) ++ List.replicate (4 - (lg_sl ([.ref b])).length) Slot.unset).toArray = ls at hl ⊢
  have hl : lv_has ls 4 [(0, .ref b)] := hl
  have hW0 : Wd_ γ adC s.heap.size (fun q => s.heap.size ≤ q) k0_ 0 105 zH s.heap := by
    refine ⟨fun k q h => by simp [wl_] at h, ⟨fun i j p q h => by simp [wl_] at h, fun k q h => by simp [wl_] at h⟩, fun a h => absurd rfl h, fun a _ h => hAD.1 a h, rfl⟩
  have hlv : Lv_ (up_K k0_ 0 (8, 0)) 1 := lv_up (fun a h => absurd rfl h)
  have hlvR : Lv_ (up_K k0_ 0 (9, 0)) 1 := lv_up (fun a h => absurd rfl h)
  show W p l e room_1 s m #[Value.ref b] below meth c s.heap [] 0 (450 * 0) (lw_Z below #[Value.ref b] s) (F0 m 0 ls [])
  refine l_new (M := mLaw meth.name) hFC hW0 hS dL_law_0 cl_7 nc_L_7 (Nat.le_of_ble_eq_true rfl) rfl ⟨by omega, by show 0 + 1 ≤ 600000; omega, by show 450 * (0 + 1) ≤ 7302250; omega⟩ (fun H1 hW1 hS1 o1 => ?_)
  refine lv_dup hx hb dL_law_3 rfl ?_
  have hC1 := tX9_init (up_K k0_ 0 (8, 0)) 1 105 (nw_ zH 0) 0 hlv (by omega)
  rw [c0_e] at hC1
  refine l_call (M := mLaw meth.name) (M' := mX9_init) (as := [.ref 0]) (st := [.ref 0]) hFC hW1 hS1 hl.1 (rn_I (i := 9) (np := 0) (As := []) dL_law_4 mf_X9_init rfl in_X9_init lk_L_9 ⟨Nat.le_of_ble_eq_true rfl, Nat.le_of_ble_eq_true rfl⟩ rfl (Nat.le_of_ble_eq_true rfl)) hC1 ⟨by show 0 + 1 + 104 ≤ 600000; omega, by show 450 * (0 + 1) + 46800 ≤ 7302250; omega, rfl⟩ (fun H2 locs2 hW2 hS2 o2 => ?_)
  show W p l e room_1 s m #[Value.ref b] below meth c H2 locs2 105 (450 * 105) (lw_Z below #[Value.ref b] s) (F0 m 7 ls [.ref (adC 0)])
  have hW2 : Wd_ γ adC s.heap.size (fun q => s.heap.size ≤ q) (kC 0) 105 105 c0_ H2 := by
    rw [← kc_e]; exact hW2
  have hz2 : H2.size = s.heap.size + 105 := hW2.2.2.2.2
  refine lv_astore_n (lv' := [(1, .ref (adC 0)), (0, .ref b)]) hx hb dL_law_7 rfl hl (by decide) rfl (fun ls hl => ?_)
  have hW3 : Wd_ γ adR (s.heap.size + 105) (fun q => s.heap.size ≤ q) k0_ 0 40 zH H2 := by
    refine ⟨fun k q h => by simp [wl_] at h, ⟨fun i j p q h => by simp [wl_] at h, fun k q h => by simp [wl_] at h⟩, fun a h => absurd rfl h, fun a _ h => hAD.2.2 a h, hz2⟩
  refine l_new (M := mLaw meth.name) hFR hW3 hS2 dL_law_8 cl_8 nc_L_10 (Nat.le_of_ble_eq_true rfl) rfl ⟨by omega, by show 105 + 1 ≤ 600000; omega, by show 450 * (105 + 1) ≤ 7302250; omega⟩ (fun H3 hW4 hS3 o3 => ?_)
  refine lv_dup hx hb dL_law_11 rfl ?_
  have hC2 := tX10_init (up_K k0_ 0 (9, 0)) 1 40 (nw_ zH 0) 0 hlvR (by omega)
  rw [r0_e] at hC2
  have hz3 : H3.size = s.heap.size + 105 + 1 := hW4.2.2.2.2
  refine l_call (M := mLaw meth.name) (M' := mX10_init) (as := [.ref 0]) (st := [.ref 0]) hFR hW4 hS3 hl.1 (rn_I (i := 12) (np := 0) (As := []) dL_law_12 mf_X10_init rfl in_X10_init lk_L_12 ⟨Nat.le_of_ble_eq_true rfl, Nat.le_of_ble_eq_true rfl⟩ rfl (Nat.le_of_ble_eq_true rfl)) hC2 ⟨by show 105 + 1 + 39 ≤ 600000; omega, by show 450 * (105 + 1) + 17550 ≤ 7302250; omega, rfl⟩ (fun H4 locs4 hW5 hS4 o4 => ?_)
  show W p l e room_1 s m #[Value.ref b] below meth c H4 locs4 145 (450 * 145) (lw_Z below #[Value.ref b] s) (F0 m 15 ls [.ref (adR 0)])
  have hW5 : Wd_ γ adR (s.heap.size + 105) (fun q => s.heap.size ≤ q) kR 40 40 r0_ H4 := by
    rw [← kr_e]; exact hW5
  have hz4 : H4.size = s.heap.size + 105 + 40 := hW5.2.2.2.2
  have hLW : LW_ γ adC adR s.heap.size 0 c0_ r0_ H4 := by
    refine ⟨wd_l hW2 (fun a ha => ?_) (fun a h1 h2 => hAD.2.1 a (by omega) h2) (by omega), hW5⟩
    rw [hAD.1 a ha, o4 _ (by omega) ?_, o3 _ (by omega)]
    rintro (⟨x, hx, ex⟩ | h)
    · rw [hAD.2.2 x (by omega)] at ex; omega
    · omega
  refine lv_astore_n (lv' := [(2, .ref (adR 0)), (1, .ref (adC 0)), (0, .ref b)]) hx hb dL_law_15 rfl hl (by decide) rfl (fun ls hl => ?_)
  refine lv_iconst (v := nI 0) hx hb dL_law_16 (by decide) ?_
  refine lv_istore_n (lv' := [(3, .int (nI 0)), (2, .ref (adR 0)), (1, .ref (adC 0)), (0, .ref b)]) hx hb dL_law_17 rfl hl (by decide) rfl (fun ls hl => ?_)
  exact law_loop C1 hLC (L + 1) 0 0 145 c0_ r0_ H4 locs4 ls (by omega) (by omega) ⟨0, 0, fun _ => none, gg_0, i_7, ro_0⟩ hLW hS4 (lv_sub hl [3, 2, 1, 0] rfl) (by omega)
