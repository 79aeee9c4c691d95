theorem l_new {M : Mi} {γ : Gm} {ad : Nat → Nat} {B n lim pc cells i ci : Nat} {A : Nat → Prop} {κ : Kd} {h : Hp} {p : Program} {l : Launch} {e' : Env} {s : State} {m : MethodId} {args : Array Value} {below : List Frame} {meth : Method} {c0 : Code} {H : Heap} {locs : List Loc} {ls : Array Slot} {Q : State → Prop} {st : List Value} {q0 : vw_C}
    (hF : Fx_ M γ ad A p s m args meth c0) (hW : Wd_ γ ad B A κ n lim h H) (hS : va_S A s.heap H locs) (d : decode (mC M) pc = .ok (.new i, 3)) (hc : Cls_ ci q0) (hw : Cond.classLink (mY M).cls i q0.1 ∈ TO_ ∧ Cond.instantiable q0.1 q0.2.2 ∈ TO_ ∧ Cond.initialized q0.1 ∈ TO_) (hN : q0.2.2 ≤ 450) (h4 : (fts ci).all (fun t => t < 4) = true) (hal : Al_ M cells n lim)
    (k : ∀ H1, Wd_ γ ad B A (up_K κ n (ci + 1, 0)) (n + 1) lim (nw_ h n) H1 → va_S A s.heap H1 locs → (∀ x : Nat, x < H.size → H1[x]? = H[x]?) → W p l e' (mR M) s m args below meth c0 H1 locs (cells + 1) (450 * (cells + 1)) Q (F0 m (pc + 3) ls (.ref (ad n) :: st))) :
    W p l e' (mR M) s m args below meth c0 H locs cells (450 * cells) Q (F0 m pc ls st) := by
  have hsz : H.size = B + n := hW.2.2.2.2
  have hadn : ad n = B + n := hW.2.2.2.1 n (Nat.le_refl n) hal.1
  obtain ⟨C, T, N⟩ := q0
  obtain ⟨hcc, hc9, hin, hnm, ty, hty, hft2, hfl⟩ := hc
  have hts := TO_w hF
  have hKn := hF.2.2.2.2.2.2.2.2.1.1 ci _ hcc
  refine W.newcK hF.1 hF.2.1 hF.2.2.2.2.2.2.1 (hts _ hw.1) (hts _ hw.2.1) (hts _ hw.2.2) rfl d hal.2.1 (by have := hal.2.2; show 450 * cells + N ≤ _; dsimp only at hN; omega) hKn.2.1 rfl fun H1 kC hkC e1 z1 o1 => ?_
  have hce : ce_ γ ad (up_K κ n (ci + 1, 0)) (nw_ h n) n = .inr (ci, fs_ ad (nw_ h n) n 0 (fts ci)) := by
    unfold ce_ up_K
    rw [if_pos rfl]
    exact if_pos (by dsimp only; omega)
  have hwd : Wd_ γ ad B A (up_K κ n (ci + 1, 0)) (n + 1) lim (nw_ h n) H1 := wd_new hW hal.1 (by
    rw [hce]
    refine ⟨(C, T, N), hcc, ?_⟩
    dsimp only
    rw [hadn, ← hsz]
    refine (u_born ty hts hin hKn hkC e1 hty).to (fun j hj => ?_)
    have h1 := fs_get ad (nw_ h n) n (fts ci) 0 j _ (hft2 j hj)
    rw [Nat.zero_add, fv_nw ad h n j (ty j) (by
      have h2 := List.all_eq_true.mp h4 _ (List.mem_of_getElem? (hft2 j hj))
      simpa using h2)] at h1
    simp [vp_V, h1]) z1 o1 (hF.2.2.2.2.2.2.2.2.2.2.1 _ (by rw [hadn, ← hsz]; exact hS.1))
  refine W.widen (k := cells + 1) (n := 450 * (cells + 1)) (Nat.le_refl _) (by show 450 * cells + N ≤ _; dsimp only at hN; omega) ?_
  have hk := k H1 hwd ⟨Nat.le_trans hS.1 (by omega), fun x h1 h2 => (o1 x (Nat.lt_of_lt_of_le h1 hS.1)).trans (hS.2.1 x h1 h2), hS.2.2⟩ o1
  rw [hadn, ← hsz] at hk
  exact hk
theorem wd_l {γ : Gm} {ad : Nat → Nat} {B B' n lim lim' : Nat} {A : Nat → Prop} {κ : Kd} {h : Hp} {H H' : Heap} (hW : Wd_ γ ad B A κ n lim h H) (hk : ∀ a, a < n → H'[ad a]? = H[ad a]?) (hf : ∀ a, n ≤ a → a < lim' → ad a = B' + a) (hz : H'.size = B' + n) : Wd_ γ ad B' A κ n lim' h H' := by
  refine ⟨hW.1.kept (fun k q hq => ?_), hW.2.1, hW.2.2.1, hf, hz⟩
  have hl : k < n := by have := (List.getElem?_eq_some_iff.mp hq).1; rw [wl_len] at this; exact this
  rw [wl_get γ ad κ h hl] at hq
  cases hq
  exact hk k hl
/-- the script's length less six, beside the place read -/
theorem l_len {L i : Nat} (hL : L ≤ 3072) (hi : i ≤ L + 5) : (Int32.ofNat L - 6 < nI i) ↔ L < i + 6 := by
  have e : Int32.ofNat L = nI L := rfl
  rw [e]
  by_cases h6 : 6 ≤ L
  · rw [L6, nI_subn h6, e_lt (by omega) (by omega)]
    omega
  · refine ⟨fun _ => by omega, fun _ => ?_⟩
    have h0 : nI L - 6 < nI 0 := by
      rcases (show L = 0 ∨ L = 1 ∨ L = 2 ∨ L = 3 ∨ L = 4 ∨ L = 5 by omega) with rfl | rfl | rfl | rfl | rfl | rfl <;> decide
    have h1 : nI 0 ≤ nI i := (e_le (by omega) (by omega)).mpr (Nat.zero_le _)
    exact Int32.lt_of_lt_of_le h0 h1
set_option maxHeartbeats 4000000 in
set_option maxRecDepth 100000 in
theorem law_loop {p : Program} {l : Launch} {e : Env} {s : State} {m : MethodId} {below : List Frame} {meth : Method} {cc : Code} {b L : Nat} {xs : Nat → Int32} {γ : Gm} {adC adR : Nat → Nat} (C1 : lw_At p s m meth cc b L xs) (C0 : LC_ p s m meth cc b L xs γ adC adR) :
    ∀ (n i cnt cells : Nat) (c r : Hp) (H : Heap) (locs : List Loc) (ls : Array Slot), i ≤ L + 5 → L + 6 ≤ i + 6 * n → RX_ cnt c r → LW_ γ adC adR s.heap.size cnt c r H → va_S (fun q => s.heap.size ≤ q) s.heap H locs → lv_has ls 4 [(0, .ref b), (1, .ref (adC 0)), (2, .ref (adR 0)), (3, .int (nI i))] → cells ≤ 146 + 2 * i → W p l e room_1 s m #[Value.ref b] below meth cc H locs cells (450 * cells) (lw_Z below #[Value.ref b] s) (F0 m 18 ls []) := by
  obtain ⟨hx, hb, hr, hml, hown, hts, hX, hbl, hlocks, hgv⟩ := C1
  have hbA : ¬ (fun q : Nat => s.heap.size ≤ q) b := Nat.not_le.mpr hbl
  have hL3 : L ≤ 3072 := C0.2.2.2.2.2.2.2.2.2
  intro n
  induction n with
  | zero => intro i cnt cells c r H locs ls h1 h2; exact absurd h2 (by omega)
  | succ n ih =>
    intro i cnt cells c r H locs ls h1 h2 m0 hW hS hl hce
    have next : ∀ (cnt' : Nat) (c' r' : Hp) (H' : Heap) (locs' : List Loc) (cells' : Nat), i + 6 ≤ L → RX_ cnt' c' r' → LW_ γ adC adR s.heap.size cnt' c' r' H' → va_S (fun q => s.heap.size ≤ q) s.heap H' locs' → cells' ≤ cells + 8 → W p l e room_1 s m #[Value.ref b] below meth cc H' locs' cells' (450 * cells') (lw_Z below #[Value.ref b] s) (F0 m 815 ls []) := by
      intro cnt' c' r' H' locs' cells' hi6 m1 hW1 hS1 hc1
      refine lv_iinc (v := nI (i + 6)) (lv' := [(3, .int (nI (i + 6))), (0, .ref b), (1, .ref (adC 0)), (2, .ref (adR 0))]) hx hb dL_law_815 hl (k := 3) rfl (by rw [show Int32.ofInt 6 = nI 6 from rfl, nI_add]) (by decide) rfl (fun ls hl => ?_)
      refine lv_goto (tgt := 18) hx hb dL_law_818 (by decide) ?_
      exact ih (i + 6) cnt' cells' c' r' H' locs' ls (by omega) (by omega) m1 hW1 hS1 (lv_sub hl [1, 2, 3, 0] rfl) (by omega)
    refine lv_iload_n hx hb dL_law_18 rfl (lv_at hl 3 rfl) ?_
    refine lv_aload_n hx hb dL_law_19 rfl (lv_at hl 0 rfl) ?_
    refine va_slen hx hb hX hbl hbA hS dL_law_20 ?_
    refine lv_bipush (v := 6) hx hb dL_law_21 (by decide) ?_
    refine lv_isub hx hb dL_law_23 ?_
    refine lv_icmp_gt (tgt := 821) hx hb dL_law_24 (by decide) (fun hgt => ?_) (fun hgt => ?_)
    · refine lv_iconst (v := 1) hx hb dL_law_821 (by decide) ?_
      refine va_forget (fun q hq => hS.2.2 q hq) ?_
      refine W.widen (k := 600000) (n := 7302250) (by omega) (by omega) ?_
      exact lw_ret (d0 := s.drawn) (Drawn.sameBut.refl s.drawn lw_cs) hx hb hr hlocks dL_law_822
    · rw [l_len hL3 h1] at hgt
      have hi6 : i + 6 ≤ L := by omega
      have kk : LK_ p l e s m below meth cc b γ adC adR cells ls (lw_Z below #[Value.ref b] s) := fun cnt' c' r' H' locs' cells' m1 hW1 hS1 hc1 => next cnt' c' r' H' locs' cells' hi6 m1 hW1 hS1 hc1
      refine lv_aload_n hx hb dL_law_27 rfl (lv_at hl 0 rfl) ?_
      refine lv_iload_n hx hb dL_law_28 rfl (lv_at hl 3 rfl) ?_
      refine va_sld hx hb hX hbl hbA hS (vp_in_nI (show i < L by omega) (by omega)) dL_law_29 ?_
      refine lv_bipush (v := 31) hx hb dL_law_30 (by decide) ?_
      refine lv_iand hx hb dL_law_32 ?_
      refine lv_topi (fun y ey0 => ?_)
      rcases rng_i y 19 (by omega) with ⟨j, hj, ey⟩ | ey | ⟨j, hj, hj2, ey⟩
      · rcases (show j = 0 ∨ j = 1 ∨ j = 2 ∨ j = 3 ∨ j = 4 ∨ j = 5 ∨ j = 6 ∨ j = 7 ∨ j = 8 ∨ j = 9 ∨ j = 10 ∨ j = 11 ∨ j = 12 ∨ j = 13 ∨ j = 14 ∨ j = 15 ∨ j = 16 ∨ j = 17 ∨ j = 18 by omega) with rfl | rfl | rfl | rfl | rfl | rfl | rfl | rfl | rfl | rfl | rfl | rfl | rfl | rfl | rfl | rfl | rfl | rfl | rfl
        · refine lv_tableIn (off := 91) (tgt := 124) hx hb dL_law_33 (by rw [ey, tI_nI (by omega)]; omega) (by rw [ey, tI_nI (by omega)]; omega) (by rw [ey]; rfl) (by decide) ?_
          exact cs_row C0 hi6 m0 hW hS hl (by omega) kk
        · refine lv_tableIn (off := 134) (tgt := 167) hx hb dL_law_33 (by rw [ey, tI_nI (by omega)]; omega) (by rw [ey, tI_nI (by omega)]; omega) (by rw [ey]; rfl) (by decide) ?_
          exact cs_miss C0 hi6 m0 hW hS hl (by omega) kk
        · refine lv_tableIn (off := 157) (tgt := 190) hx hb dL_law_33 (by rw [ey, tI_nI (by omega)]; omega) (by rw [ey, tI_nI (by omega)]; omega) (by rw [ey]; rfl) (by decide) ?_
          exact cs_share C0 hi6 m0 hW hS hl (by omega) kk
        · refine lv_tableIn (off := 190) (tgt := 223) hx hb dL_law_33 (by rw [ey, tI_nI (by omega)]; omega) (by rw [ey, tI_nI (by omega)]; omega) (by rw [ey]; rfl) (by decide) ?_
          exact cs_put C0 hi6 m0 hW hS hl (by omega) kk
        · refine lv_tableIn (off := 263) (tgt := 296) hx hb dL_law_33 (by rw [ey, tI_nI (by omega)]; omega) (by rw [ey, tI_nI (by omega)]; omega) (by rw [ey]; rfl) (by decide) ?_
          exact cs_item C0 hi6 m0 hW hS hl (by omega) kk
        · refine lv_tableIn (off := 297) (tgt := 330) hx hb dL_law_33 (by rw [ey, tI_nI (by omega)]; omega) (by rw [ey, tI_nI (by omega)]; omega) (by rw [ey]; rfl) (by decide) ?_
          exact cs_about C0 hi6 m0 hW hS hl (by omega) kk
        · refine lv_tableIn (off := 330) (tgt := 363) hx hb dL_law_33 (by rw [ey, tI_nI (by omega)]; omega) (by rw [ey, tI_nI (by omega)]; omega) (by rw [ey]; rfl) (by decide) ?_
          exact cs_thing C0 hi6 m0 hW hS hl (by omega) kk
        · refine lv_tableIn (off := 353) (tgt := 386) hx hb dL_law_33 (by rw [ey, tI_nI (by omega)]; omega) (by rw [ey, tI_nI (by omega)]; omega) (by rw [ey]; rfl) (by decide) ?_
          exact cs_of C0 hi6 m0 hW hS hl (by omega) kk
        · refine lv_tableIn (off := 386) (tgt := 419) hx hb dL_law_33 (by rw [ey, tI_nI (by omega)]; omega) (by rw [ey, tI_nI (by omega)]; omega) (by rw [ey]; rfl) (by decide) ?_
          exact cs_routine C0 hi6 m0 hW hS hl (by omega) kk
        · refine lv_tableIn (off := 409) (tgt := 442) hx hb dL_law_33 (by rw [ey, tI_nI (by omega)]; omega) (by rw [ey, tI_nI (by omega)]; omega) (by rw [ey]; rfl) (by decide) ?_
          exact cs_op C0 hi6 m0 hW hS hl (by omega) kk
        · refine lv_tableIn (off := 462) (tgt := 495) hx hb dL_law_33 (by rw [ey, tI_nI (by omega)]; omega) (by rw [ey, tI_nI (by omega)]; omega) (by rw [ey]; rfl) (by decide) ?_
          exact cs_guard C0 hi6 m0 hW hS hl (by omega) kk
        · refine lv_tableIn (off := 525) (tgt := 558) hx hb dL_law_33 (by rw [ey, tI_nI (by omega)]; omega) (by rw [ey, tI_nI (by omega)]; omega) (by rw [ey]; rfl) (by decide) ?_
          exact cs_last C0 hi6 m0 hW hS hl (by omega) kk
        · refine lv_tableIn (off := 558) (tgt := 591) hx hb dL_law_33 (by rw [ey, tI_nI (by omega)]; omega) (by rw [ey, tI_nI (by omega)]; omega) (by rw [ey]; rfl) (by decide) ?_
          exact cs_run C0 hi6 m0 hW hS hl (by omega) kk
        · refine lv_tableIn (off := 661) (tgt := 694) hx hb dL_law_33 (by rw [ey, tI_nI (by omega)]; omega) (by rw [ey, tI_nI (by omega)]; omega) (by rw [ey]; rfl) (by decide) ?_
          exact cs_result C0 hi6 m0 hW hS hl (by omega) kk
        · refine lv_tableIn (off := 675) (tgt := 708) hx hb dL_law_33 (by rw [ey, tI_nI (by omega)]; omega) (by rw [ey, tI_nI (by omega)]; omega) (by rw [ey]; rfl) (by decide) ?_
          exact cs_told C0 hi6 m0 hW hS hl (by omega) kk
        · refine lv_tableIn (off := 698) (tgt := 731) hx hb dL_law_33 (by rw [ey, tI_nI (by omega)]; omega) (by rw [ey, tI_nI (by omega)]; omega) (by rw [ey]; rfl) (by decide) ?_
          exact cs_number C0 hi6 m0 hW hS hl (by omega) kk
        · refine lv_tableIn (off := 712) (tgt := 745) hx hb dL_law_33 (by rw [ey, tI_nI (by omega)]; omega) (by rw [ey, tI_nI (by omega)]; omega) (by rw [ey]; rfl) (by decide) ?_
          exact cs_output C0 hi6 m0 hW hS hl (by omega) kk
        · refine lv_tableIn (off := 736) (tgt := 769) hx hb dL_law_33 (by rw [ey, tI_nI (by omega)]; omega) (by rw [ey, tI_nI (by omega)]; omega) (by rw [ey]; rfl) (by decide) ?_
          exact cs_count C0 hi6 m0 hW hS hl (by omega) kk
        · refine lv_tableIn (off := 769) (tgt := 802) hx hb dL_law_33 (by rw [ey, tI_nI (by omega)]; omega) (by rw [ey, tI_nI (by omega)]; omega) (by rw [ey]; rfl) (by decide) ?_
          exact cs_forget C0 hi6 m0 hW hS hl (by omega) kk
      · refine lv_tableOut (tgt := 815) hx hb dL_law_33 (Or.inl (by rw [Int32.lt_iff_toInt_lt, tI_nI (by omega)] at ey; exact ey)) (by decide) ?_
        exact next cnt c r H locs cells hi6 m0 hW hS (by omega)
      · refine lv_tableOut (tgt := 815) hx hb dL_law_33 (Or.inr (by rw [ey, tI_nI hj2]; omega)) (by decide) ?_
        exact next cnt c r H locs cells hi6 m0 hW hS (by omega)
