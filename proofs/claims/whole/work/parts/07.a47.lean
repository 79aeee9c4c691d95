section LD
variable {p : Program} {l : Launch} {e : Env} {s : State} {m : MethodId} {below : List Frame} {meth : Method} {cc : Code} {b L : Nat} {xs : Nat → Int32} {γ : Gm} {adC adR : Nat → Nat} {i cnt cells : Nat} {c r : Hp} {H : Heap} {locs : List Loc} {ls : Array Slot} {Q : State → Prop}
theorem cs_put (C0 : LC_ p s m meth cc b L xs γ adC adR) (hi : i + 6 ≤ L) (m0 : RX_ cnt c r) (hL : LW_ γ adC adR s.heap.size cnt c r H) (hS : va_S (fun q => s.heap.size ≤ q) s.heap H locs) (hl : lv_has ls 4 [(0, .ref b), (1, .ref (adC 0)), (2, .ref (adR 0)), (3, .int (nI i))]) (hce : cells ≤ 16000) (k : LK_ p l e s m below meth cc b γ adC adR cells ls Q) : W p l e room_1 s m #[Value.ref b] below meth cc H locs cells (450 * cells) Q (F0 m 223 ls []) := by
  obtain ⟨hx, hb, hown, hts, hX, hbl, hFC, hFR, hAD, hL3⟩ := C0
  have hbA : ¬ (fun q : Nat => s.heap.size ≤ q) b := Nat.not_le.mpr hbl
  have hcnt : cnt ≤ 12 := by obtain ⟨K, N, rf, gg, _⟩ := m0; exact gg.2.2.2.2.2.1
  have h1 : vp_in (nI i + 1) L := by rw [L1, nI_add]; exact vp_in_nI (by omega) (by omega)
  have h2 : vp_in (nI i + 2) L := by rw [L2, nI_add]; exact vp_in_nI (by omega) (by omega)
  have h3 : vp_in (nI i + 3) L := by rw [L3, nI_add]; exact vp_in_nI (by omega) (by omega)
  have h4 : vp_in (nI i + 4) L := by rw [L4, nI_add]; exact vp_in_nI (by omega) (by omega)
  have h5 : vp_in (nI i + 5) L := by rw [L5, nI_add]; exact vp_in_nI (by omega) (by omega)
  refine lv_aload_n hx hb dL_law_223 rfl (lv_at hl 1 rfl) ?_
  refine lv_aload_n hx hb dL_law_224 rfl (lv_at hl 0 rfl) ?_
  refine lv_iload_n hx hb dL_law_225 rfl (lv_at hl 3 rfl) ?_
  refine lv_iconst (v := 1) hx hb dL_law_226 (by decide) ?_
  refine lv_iadd hx hb dL_law_227 ?_
  refine va_sld hx hb hX hbl hbA hS h1 dL_law_228 ?_
  refine lv_aload_n hx hb dL_law_229 rfl (lv_at hl 0 rfl) ?_
  refine lv_iload_n hx hb dL_law_230 rfl (lv_at hl 3 rfl) ?_
  refine lv_iconst (v := 2) hx hb dL_law_231 (by decide) ?_
  refine lv_iadd hx hb dL_law_232 ?_
  refine va_sld hx hb hX hbl hbA hS h2 dL_law_233 ?_
  refine lv_aload_n hx hb dL_law_234 rfl (lv_at hl 0 rfl) ?_
  refine lv_iload_n hx hb dL_law_235 rfl (lv_at hl 3 rfl) ?_
  refine lv_iconst (v := 3) hx hb dL_law_236 (by decide) ?_
  refine lv_iadd hx hb dL_law_237 ?_
  refine va_sld hx hb hX hbl hbA hS h3 dL_law_238 ?_
  refine lv_i2l hx hb dL_law_239 rfl ?_
  refine lv_bipush (v := 32) hx hb dL_law_240 (by decide) ?_
  refine lv_lshl hx hb dL_law_242 rfl ?_
  refine lv_aload_n hx hb dL_law_243 rfl (lv_at hl 0 rfl) ?_
  refine lv_iload_n hx hb dL_law_244 rfl (lv_at hl 3 rfl) ?_
  refine lv_iconst (v := 4) hx hb dL_law_245 (by decide) ?_
  refine lv_iadd hx hb dL_law_246 ?_
  refine va_sld hx hb hX hbl hbA hS h4 dL_law_247 ?_
  refine lv_i2l hx hb dL_law_248 rfl ?_
  refine lv_ldc2 hx hb hown (hts _ co_L_28) dL_law_249 ?_
  refine lv_land hx hb dL_law_252 ?_
  refine lv_lor hx hb dL_law_253 ?_
  obtain ⟨v, c', r', x1, x2, m1⟩ := X_put m0 ((xs (((nI i) + 1)).toNatClampNeg)) ((xs (((nI i) + 2)).toNatClampNeg)) (((((xs (((nI i) + 3)).toNatClampNeg).toInt64) <<< ((32 : Int32).toInt64 &&& 63)) ||| (((xs (((nI i) + 4)).toNatClampNeg).toInt64) &&& 4294967295)))
  have hC := tX9_put (kC cnt) (105 + 8 * cnt) 300 c 0 ((xs (((nI i) + 1)).toNatClampNeg)) ((xs (((nI i) + 2)).toNatClampNeg)) (((((xs (((nI i) + 3)).toNatClampNeg).toInt64) <<< ((32 : Int32).toInt64 &&& 63)) ||| (((xs (((nI i) + 4)).toNatClampNeg).toInt64) &&& 4294967295)))
  rw [x1] at hC
  refine l_C (M := mLaw meth.name) (M' := mX9_put) (as := [.ref 0, .int (xs (((nI i) + 1)).toNatClampNeg), .int (xs (((nI i) + 2)).toNatClampNeg), .long ((((xs (((nI i) + 3)).toNatClampNeg).toInt64) <<< ((32 : Int32).toInt64 &&& 63)) ||| (((xs (((nI i) + 4)).toNatClampNeg).toInt64) &&& 4294967295))]) (st := []) (cnt' := cnt) hAD hFC hcnt hL hS hl.1 (rn_V (i := 30) (np := 3) dL_law_254 mf_X9_put in_X9_put lk_L_30 ⟨Nat.le_of_ble_eq_true rfl, Nat.le_of_ble_eq_true rfl⟩ cl_7 rfl rfl rfl (Nat.le_of_ble_eq_true rfl)) hC ⟨rfl, rfl⟩ ⟨by show cells + 0 ≤ 600000; omega, by show 450 * cells + 0 ≤ 7302250; omega, rfl⟩ (fun H1 locs1 hL1 hS1 => ?_)
  show W p l e room_1 s m #[Value.ref b] below meth cc H1 locs1 (cells) (450 * (cells)) Q (F0 m 257 ls [.int v])
  clear hL hS
  have hS := hS1
  refine lv_aload_n hx hb dL_law_257 rfl (lv_at hl 2 rfl) ?_
  refine lv_aload_n hx hb dL_law_258 rfl (lv_at hl 0 rfl) ?_
  refine lv_iload_n hx hb dL_law_259 rfl (lv_at hl 3 rfl) ?_
  refine lv_iconst (v := 1) hx hb dL_law_260 (by decide) ?_
  refine lv_iadd hx hb dL_law_261 ?_
  refine va_sld hx hb hX hbl hbA hS h1 dL_law_262 ?_
  refine lv_aload_n hx hb dL_law_263 rfl (lv_at hl 0 rfl) ?_
  refine lv_iload_n hx hb dL_law_264 rfl (lv_at hl 3 rfl) ?_
  refine lv_iconst (v := 2) hx hb dL_law_265 (by decide) ?_
  refine lv_iadd hx hb dL_law_266 ?_
  refine va_sld hx hb hX hbl hbA hS h2 dL_law_267 ?_
  refine lv_aload_n hx hb dL_law_268 rfl (lv_at hl 0 rfl) ?_
  refine lv_iload_n hx hb dL_law_269 rfl (lv_at hl 3 rfl) ?_
  refine lv_iconst (v := 3) hx hb dL_law_270 (by decide) ?_
  refine lv_iadd hx hb dL_law_271 ?_
  refine va_sld hx hb hX hbl hbA hS h3 dL_law_272 ?_
  refine lv_i2l hx hb dL_law_273 rfl ?_
  refine lv_bipush (v := 32) hx hb dL_law_274 (by decide) ?_
  refine lv_lshl hx hb dL_law_276 rfl ?_
  refine lv_aload_n hx hb dL_law_277 rfl (lv_at hl 0 rfl) ?_
  refine lv_iload_n hx hb dL_law_278 rfl (lv_at hl 3 rfl) ?_
  refine lv_iconst (v := 4) hx hb dL_law_279 (by decide) ?_
  refine lv_iadd hx hb dL_law_280 ?_
  refine va_sld hx hb hX hbl hbA hS h4 dL_law_281 ?_
  refine lv_i2l hx hb dL_law_282 rfl ?_
  refine lv_ldc2 hx hb hown (hts _ co_L_28) dL_law_283 ?_
  refine lv_land hx hb dL_law_286 ?_
  refine lv_lor hx hb dL_law_287 ?_
  have hC2 := tX10_put kR 40 40 r 0 ((xs (((nI i) + 1)).toNatClampNeg)) ((xs (((nI i) + 2)).toNatClampNeg)) (((((xs (((nI i) + 3)).toNatClampNeg).toInt64) <<< ((32 : Int32).toInt64 &&& 63)) ||| (((xs (((nI i) + 4)).toNatClampNeg).toInt64) &&& 4294967295)))
  rw [x2] at hC2
  refine l_R (M := mLaw meth.name) (M' := mX10_put) (as := [.ref 0, .int (xs (((nI i) + 1)).toNatClampNeg), .int (xs (((nI i) + 2)).toNatClampNeg), .long ((((xs (((nI i) + 3)).toNatClampNeg).toInt64) <<< ((32 : Int32).toInt64 &&& 63)) ||| (((xs (((nI i) + 4)).toNatClampNeg).toInt64) &&& 4294967295))]) (st := [.int v]) hAD hFR hcnt hL1 hS hl.1 (rn_V (i := 34) (np := 3) dL_law_288 mf_X10_put in_X10_put lk_L_34 ⟨Nat.le_of_ble_eq_true rfl, Nat.le_of_ble_eq_true rfl⟩ cl_8 rfl rfl rfl (Nat.le_of_ble_eq_true rfl)) hC2 ⟨rfl, rfl⟩ ⟨by show cells + 0 ≤ 600000; omega, by show 450 * (cells) + 0 ≤ 7302250; omega, rfl⟩ (fun H2 locs2 hL2 hS2 => ?_)
  show W p l e room_1 s m #[Value.ref b] below meth cc H2 locs2 (cells) (450 * (cells)) Q (F0 m 291 ls [.int v, .int v])
  refine lv_icmp_eq (tgt := 815) hx hb dL_law_291 (by decide) (fun _ => ?_) (fun hne => absurd rfl hne)
  exact k cnt c' r' H2 locs2 _ m1 hL2 hS2 (by omega)
theorem cs_item (C0 : LC_ p s m meth cc b L xs γ adC adR) (hi : i + 6 ≤ L) (m0 : RX_ cnt c r) (hL : LW_ γ adC adR s.heap.size cnt c r H) (hS : va_S (fun q => s.heap.size ≤ q) s.heap H locs) (hl : lv_has ls 4 [(0, .ref b), (1, .ref (adC 0)), (2, .ref (adR 0)), (3, .int (nI i))]) (hce : cells ≤ 16000) (k : LK_ p l e s m below meth cc b γ adC adR cells ls Q) : W p l e room_1 s m #[Value.ref b] below meth cc H locs cells (450 * cells) Q (F0 m 296 ls []) := by
  obtain ⟨hx, hb, hown, hts, hX, hbl, hFC, hFR, hAD, hL3⟩ := C0
  have hbA : ¬ (fun q : Nat => s.heap.size ≤ q) b := Nat.not_le.mpr hbl
  have hcnt : cnt ≤ 12 := by obtain ⟨K, N, rf, gg, _⟩ := m0; exact gg.2.2.2.2.2.1
  have h1 : vp_in (nI i + 1) L := by rw [L1, nI_add]; exact vp_in_nI (by omega) (by omega)
  have h2 : vp_in (nI i + 2) L := by rw [L2, nI_add]; exact vp_in_nI (by omega) (by omega)
  have h3 : vp_in (nI i + 3) L := by rw [L3, nI_add]; exact vp_in_nI (by omega) (by omega)
  have h4 : vp_in (nI i + 4) L := by rw [L4, nI_add]; exact vp_in_nI (by omega) (by omega)
  have h5 : vp_in (nI i + 5) L := by rw [L5, nI_add]; exact vp_in_nI (by omega) (by omega)
  refine lv_aload_n hx hb dL_law_296 rfl (lv_at hl 1 rfl) ?_
  refine lv_aload_n hx hb dL_law_297 rfl (lv_at hl 0 rfl) ?_
  refine lv_iload_n hx hb dL_law_298 rfl (lv_at hl 3 rfl) ?_
  refine lv_iconst (v := 1) hx hb dL_law_299 (by decide) ?_
  refine lv_iadd hx hb dL_law_300 ?_
  refine va_sld hx hb hX hbl hbA hS h1 dL_law_301 ?_
  refine lv_aload_n hx hb dL_law_302 rfl (lv_at hl 0 rfl) ?_
  refine lv_iload_n hx hb dL_law_303 rfl (lv_at hl 3 rfl) ?_
  refine lv_iconst (v := 2) hx hb dL_law_304 (by decide) ?_
  refine lv_iadd hx hb dL_law_305 ?_
  refine va_sld hx hb hX hbl hbA hS h2 dL_law_306 ?_
  obtain ⟨v, x1, x2⟩ := X_item m0 ((xs (((nI i) + 1)).toNatClampNeg)) ((xs (((nI i) + 2)).toNatClampNeg))
  have hC := tX9_item (kC cnt) (105 + 8 * cnt) 300 c 0 ((xs (((nI i) + 1)).toNatClampNeg)) ((xs (((nI i) + 2)).toNatClampNeg))
  rw [x1] at hC
  refine l_C (M := mLaw meth.name) (M' := mX9_item) (as := [.ref 0, .int (xs (((nI i) + 1)).toNatClampNeg), .int (xs (((nI i) + 2)).toNatClampNeg)]) (st := []) (cnt' := cnt) hAD hFC hcnt hL hS hl.1 (rn_V (i := 35) (np := 2) dL_law_307 mf_X9_item in_X9_item lk_L_35 ⟨Nat.le_of_ble_eq_true rfl, Nat.le_of_ble_eq_true rfl⟩ cl_7 rfl rfl rfl (Nat.le_of_ble_eq_true rfl)) hC ⟨rfl, rfl⟩ ⟨by show cells + 0 ≤ 600000; omega, by show 450 * cells + 0 ≤ 7302250; omega, rfl⟩ (fun H1 locs1 hL1 hS1 => ?_)
  show W p l e room_1 s m #[Value.ref b] below meth cc H1 locs1 (cells) (450 * (cells)) Q (F0 m 310 ls [.long v])
  clear hL hS
  have hS := hS1
  refine lv_aload_n hx hb dL_law_310 rfl (lv_at hl 2 rfl) ?_
  refine lv_aload_n hx hb dL_law_311 rfl (lv_at hl 0 rfl) ?_
  refine lv_iload_n hx hb dL_law_312 rfl (lv_at hl 3 rfl) ?_
  refine lv_iconst (v := 1) hx hb dL_law_313 (by decide) ?_
  refine lv_iadd hx hb dL_law_314 ?_
  refine va_sld hx hb hX hbl hbA hS h1 dL_law_315 ?_
  refine lv_aload_n hx hb dL_law_316 rfl (lv_at hl 0 rfl) ?_
  refine lv_iload_n hx hb dL_law_317 rfl (lv_at hl 3 rfl) ?_
  refine lv_iconst (v := 2) hx hb dL_law_318 (by decide) ?_
  refine lv_iadd hx hb dL_law_319 ?_
  refine va_sld hx hb hX hbl hbA hS h2 dL_law_320 ?_
  have hC2 := tX10_item kR 40 40 r 0 ((xs (((nI i) + 1)).toNatClampNeg)) ((xs (((nI i) + 2)).toNatClampNeg))
  rw [x2] at hC2
  refine l_R (M := mLaw meth.name) (M' := mX10_item) (as := [.ref 0, .int (xs (((nI i) + 1)).toNatClampNeg), .int (xs (((nI i) + 2)).toNatClampNeg)]) (st := [.long v]) hAD hFR hcnt hL1 hS hl.1 (rn_V (i := 39) (np := 2) dL_law_321 mf_X10_item in_X10_item lk_L_39 ⟨Nat.le_of_ble_eq_true rfl, Nat.le_of_ble_eq_true rfl⟩ cl_8 rfl rfl rfl (Nat.le_of_ble_eq_true rfl)) hC2 ⟨rfl, rfl⟩ ⟨by show cells + 0 ≤ 600000; omega, by show 450 * (cells) + 0 ≤ 7302250; omega, rfl⟩ (fun H2 locs2 hL2 hS2 => ?_)
  show W p l e room_1 s m #[Value.ref b] below meth cc H2 locs2 (cells) (450 * (cells)) Q (F0 m 324 ls [.long v, .long v])
  refine W.lcmp hx hb dL_law_324 ?_
  refine lv_if_eq (tgt := 815) hx hb dL_law_325 (by decide) (fun _ => ?_) (fun hne => absurd (lg_cmp_s v) hne)
  exact k cnt c r H2 locs2 _ m0 hL2 hS2 (by omega)
theorem cs_about (C0 : LC_ p s m meth cc b L xs γ adC adR) (hi : i + 6 ≤ L) (m0 : RX_ cnt c r) (hL : LW_ γ adC adR s.heap.size cnt c r H) (hS : va_S (fun q => s.heap.size ≤ q) s.heap H locs) (hl : lv_has ls 4 [(0, .ref b), (1, .ref (adC 0)), (2, .ref (adR 0)), (3, .int (nI i))]) (hce : cells ≤ 16000) (k : LK_ p l e s m below meth cc b γ adC adR cells ls Q) : W p l e room_1 s m #[Value.ref b] below meth cc H locs cells (450 * cells) Q (F0 m 330 ls []) := by
  obtain ⟨hx, hb, hown, hts, hX, hbl, hFC, hFR, hAD, hL3⟩ := C0
  have hbA : ¬ (fun q : Nat => s.heap.size ≤ q) b := Nat.not_le.mpr hbl
  have hcnt : cnt ≤ 12 := by obtain ⟨K, N, rf, gg, _⟩ := m0; exact gg.2.2.2.2.2.1
  have h1 : vp_in (nI i + 1) L := by rw [L1, nI_add]; exact vp_in_nI (by omega) (by omega)
  have h2 : vp_in (nI i + 2) L := by rw [L2, nI_add]; exact vp_in_nI (by omega) (by omega)
  have h3 : vp_in (nI i + 3) L := by rw [L3, nI_add]; exact vp_in_nI (by omega) (by omega)
  have h4 : vp_in (nI i + 4) L := by rw [L4, nI_add]; exact vp_in_nI (by omega) (by omega)
  have h5 : vp_in (nI i + 5) L := by rw [L5, nI_add]; exact vp_in_nI (by omega) (by omega)
  refine lv_aload_n hx hb dL_law_330 rfl (lv_at hl 1 rfl) ?_
  refine lv_aload_n hx hb dL_law_331 rfl (lv_at hl 0 rfl) ?_
  refine lv_iload_n hx hb dL_law_332 rfl (lv_at hl 3 rfl) ?_
  refine lv_iconst (v := 1) hx hb dL_law_333 (by decide) ?_
  refine lv_iadd hx hb dL_law_334 ?_
  refine va_sld hx hb hX hbl hbA hS h1 dL_law_335 ?_
  refine lv_aload_n hx hb dL_law_336 rfl (lv_at hl 0 rfl) ?_
  refine lv_iload_n hx hb dL_law_337 rfl (lv_at hl 3 rfl) ?_
  refine lv_iconst (v := 2) hx hb dL_law_338 (by decide) ?_
  refine lv_iadd hx hb dL_law_339 ?_
  refine va_sld hx hb hX hbl hbA hS h2 dL_law_340 ?_
  obtain ⟨v, x1, x2⟩ := X_about m0 ((xs (((nI i) + 1)).toNatClampNeg)) ((xs (((nI i) + 2)).toNatClampNeg))
  have hC := tX9_about (kC cnt) (105 + 8 * cnt) 300 c 0 ((xs (((nI i) + 1)).toNatClampNeg)) ((xs (((nI i) + 2)).toNatClampNeg))
  rw [x1] at hC
  refine l_C (M := mLaw meth.name) (M' := mX9_about) (as := [.ref 0, .int (xs (((nI i) + 1)).toNatClampNeg), .int (xs (((nI i) + 2)).toNatClampNeg)]) (st := []) (cnt' := cnt) hAD hFC hcnt hL hS hl.1 (rn_V (i := 40) (np := 2) dL_law_341 mf_X9_about in_X9_about lk_L_40 ⟨Nat.le_of_ble_eq_true rfl, Nat.le_of_ble_eq_true rfl⟩ cl_7 rfl rfl rfl (Nat.le_of_ble_eq_true rfl)) hC ⟨rfl, rfl⟩ ⟨by show cells + 0 ≤ 600000; omega, by show 450 * cells + 0 ≤ 7302250; omega, rfl⟩ (fun H1 locs1 hL1 hS1 => ?_)
  show W p l e room_1 s m #[Value.ref b] below meth cc H1 locs1 (cells) (450 * (cells)) Q (F0 m 344 ls [.int v])
  clear hL hS
  have hS := hS1
  refine lv_aload_n hx hb dL_law_344 rfl (lv_at hl 2 rfl) ?_
  refine lv_aload_n hx hb dL_law_345 rfl (lv_at hl 0 rfl) ?_
  refine lv_iload_n hx hb dL_law_346 rfl (lv_at hl 3 rfl) ?_
  refine lv_iconst (v := 1) hx hb dL_law_347 (by decide) ?_
  refine lv_iadd hx hb dL_law_348 ?_
  refine va_sld hx hb hX hbl hbA hS h1 dL_law_349 ?_
  refine lv_aload_n hx hb dL_law_350 rfl (lv_at hl 0 rfl) ?_
  refine lv_iload_n hx hb dL_law_351 rfl (lv_at hl 3 rfl) ?_
  refine lv_iconst (v := 2) hx hb dL_law_352 (by decide) ?_
  refine lv_iadd hx hb dL_law_353 ?_
  refine va_sld hx hb hX hbl hbA hS h2 dL_law_354 ?_
  have hC2 := tX10_about kR 40 40 r 0 ((xs (((nI i) + 1)).toNatClampNeg)) ((xs (((nI i) + 2)).toNatClampNeg))
  rw [x2] at hC2
  refine l_R (M := mLaw meth.name) (M' := mX10_about) (as := [.ref 0, .int (xs (((nI i) + 1)).toNatClampNeg), .int (xs (((nI i) + 2)).toNatClampNeg)]) (st := [.int v]) hAD hFR hcnt hL1 hS hl.1 (rn_V (i := 43) (np := 2) dL_law_355 mf_X10_about in_X10_about lk_L_43 ⟨Nat.le_of_ble_eq_true rfl, Nat.le_of_ble_eq_true rfl⟩ cl_8 rfl rfl rfl (Nat.le_of_ble_eq_true rfl)) hC2 ⟨rfl, rfl⟩ ⟨by show cells + 0 ≤ 600000; omega, by show 450 * (cells) + 0 ≤ 7302250; omega, rfl⟩ (fun H2 locs2 hL2 hS2 => ?_)
  show W p l e room_1 s m #[Value.ref b] below meth cc H2 locs2 (cells) (450 * (cells)) Q (F0 m 358 ls [.int v, .int v])
  refine lv_icmp_eq (tgt := 815) hx hb dL_law_358 (by decide) (fun _ => ?_) (fun hne => absurd rfl hne)
  exact k cnt c r H2 locs2 _ m0 hL2 hS2 (by omega)
theorem cs_thing (C0 : LC_ p s m meth cc b L xs γ adC adR) (hi : i + 6 ≤ L) (m0 : RX_ cnt c r) (hL : LW_ γ adC adR s.heap.size cnt c r H) (hS : va_S (fun q => s.heap.size ≤ q) s.heap H locs) (hl : lv_has ls 4 [(0, .ref b), (1, .ref (adC 0)), (2, .ref (adR 0)), (3, .int (nI i))]) (hce : cells ≤ 16000) (k : LK_ p l e s m below meth cc b γ adC adR cells ls Q) : W p l e room_1 s m #[Value.ref b] below meth cc H locs cells (450 * cells) Q (F0 m 363 ls []) := by
  obtain ⟨hx, hb, hown, hts, hX, hbl, hFC, hFR, hAD, hL3⟩ := C0
  have hbA : ¬ (fun q : Nat => s.heap.size ≤ q) b := Nat.not_le.mpr hbl
  have hcnt : cnt ≤ 12 := by obtain ⟨K, N, rf, gg, _⟩ := m0; exact gg.2.2.2.2.2.1
  have h1 : vp_in (nI i + 1) L := by rw [L1, nI_add]; exact vp_in_nI (by omega) (by omega)
  have h2 : vp_in (nI i + 2) L := by rw [L2, nI_add]; exact vp_in_nI (by omega) (by omega)
  have h3 : vp_in (nI i + 3) L := by rw [L3, nI_add]; exact vp_in_nI (by omega) (by omega)
  have h4 : vp_in (nI i + 4) L := by rw [L4, nI_add]; exact vp_in_nI (by omega) (by omega)
  have h5 : vp_in (nI i + 5) L := by rw [L5, nI_add]; exact vp_in_nI (by omega) (by omega)
  refine lv_aload_n hx hb dL_law_363 rfl (lv_at hl 1 rfl) ?_
  refine lv_aload_n hx hb dL_law_364 rfl (lv_at hl 0 rfl) ?_
  refine lv_iload_n hx hb dL_law_365 rfl (lv_at hl 3 rfl) ?_
  refine lv_iconst (v := 1) hx hb dL_law_366 (by decide) ?_
  refine lv_iadd hx hb dL_law_367 ?_
  refine va_sld hx hb hX hbl hbA hS h1 dL_law_368 ?_
  obtain ⟨v, c', r', x1, x2, m1⟩ := X_thing m0 ((xs (((nI i) + 1)).toNatClampNeg))
  have hC := tX9_thing (kC cnt) (105 + 8 * cnt) 300 c 0 ((xs (((nI i) + 1)).toNatClampNeg))
  rw [x1] at hC
  refine l_C (M := mLaw meth.name) (M' := mX9_thing) (as := [.ref 0, .int (xs (((nI i) + 1)).toNatClampNeg)]) (st := []) (cnt' := cnt) hAD hFC hcnt hL hS hl.1 (rn_V (i := 44) (np := 1) dL_law_369 mf_X9_thing in_X9_thing lk_L_44 ⟨Nat.le_of_ble_eq_true rfl, Nat.le_of_ble_eq_true rfl⟩ cl_7 rfl rfl rfl (Nat.le_of_ble_eq_true rfl)) hC ⟨rfl, rfl⟩ ⟨by show cells + 0 ≤ 600000; omega, by show 450 * cells + 0 ≤ 7302250; omega, rfl⟩ (fun H1 locs1 hL1 hS1 => ?_)
  show W p l e room_1 s m #[Value.ref b] below meth cc H1 locs1 (cells) (450 * (cells)) Q (F0 m 372 ls [.int v])
  clear hL hS
  have hS := hS1
  refine lv_aload_n hx hb dL_law_372 rfl (lv_at hl 2 rfl) ?_
  refine lv_aload_n hx hb dL_law_373 rfl (lv_at hl 0 rfl) ?_
  refine lv_iload_n hx hb dL_law_374 rfl (lv_at hl 3 rfl) ?_
  refine lv_iconst (v := 1) hx hb dL_law_375 (by decide) ?_
  refine lv_iadd hx hb dL_law_376 ?_
  refine va_sld hx hb hX hbl hbA hS h1 dL_law_377 ?_
  have hC2 := tX10_thing kR 40 40 r 0 ((xs (((nI i) + 1)).toNatClampNeg))
  rw [x2] at hC2
  refine l_R (M := mLaw meth.name) (M' := mX10_thing) (as := [.ref 0, .int (xs (((nI i) + 1)).toNatClampNeg)]) (st := [.int v]) hAD hFR hcnt hL1 hS hl.1 (rn_V (i := 47) (np := 1) dL_law_378 mf_X10_thing in_X10_thing lk_L_47 ⟨Nat.le_of_ble_eq_true rfl, Nat.le_of_ble_eq_true rfl⟩ cl_8 rfl rfl rfl (Nat.le_of_ble_eq_true rfl)) hC2 ⟨rfl, rfl⟩ ⟨by show cells + 0 ≤ 600000; omega, by show 450 * (cells) + 0 ≤ 7302250; omega, rfl⟩ (fun H2 locs2 hL2 hS2 => ?_)
  show W p l e room_1 s m #[Value.ref b] below meth cc H2 locs2 (cells) (450 * (cells)) Q (F0 m 381 ls [.int v, .int v])
  refine lv_icmp_eq (tgt := 815) hx hb dL_law_381 (by decide) (fun _ => ?_) (fun hne => absurd rfl hne)
  exact k cnt c' r' H2 locs2 _ m1 hL2 hS2 (by omega)
theorem cs_of (C0 : LC_ p s m meth cc b L xs γ adC adR) (hi : i + 6 ≤ L) (m0 : RX_ cnt c r) (hL : LW_ γ adC adR s.heap.size cnt c r H) (hS : va_S (fun q => s.heap.size ≤ q) s.heap H locs) (hl : lv_has ls 4 [(0, .ref b), (1, .ref (adC 0)), (2, .ref (adR 0)), (3, .int (nI i))]) (hce : cells ≤ 16000) (k : LK_ p l e s m below meth cc b γ adC adR cells ls Q) : W p l e room_1 s m #[Value.ref b] below meth cc H locs cells (450 * cells) Q (F0 m 386 ls []) := by
  obtain ⟨hx, hb, hown, hts, hX, hbl, hFC, hFR, hAD, hL3⟩ := C0
  have hbA : ¬ (fun q : Nat => s.heap.size ≤ q) b := Nat.not_le.mpr hbl
  have hcnt : cnt ≤ 12 := by obtain ⟨K, N, rf, gg, _⟩ := m0; exact gg.2.2.2.2.2.1
  have h1 : vp_in (nI i + 1) L := by rw [L1, nI_add]; exact vp_in_nI (by omega) (by omega)
  have h2 : vp_in (nI i + 2) L := by rw [L2, nI_add]; exact vp_in_nI (by omega) (by omega)
  have h3 : vp_in (nI i + 3) L := by rw [L3, nI_add]; exact vp_in_nI (by omega) (by omega)
  have h4 : vp_in (nI i + 4) L := by rw [L4, nI_add]; exact vp_in_nI (by omega) (by omega)
  have h5 : vp_in (nI i + 5) L := by rw [L5, nI_add]; exact vp_in_nI (by omega) (by omega)
  refine lv_aload_n hx hb dL_law_386 rfl (lv_at hl 1 rfl) ?_
  refine lv_aload_n hx hb dL_law_387 rfl (lv_at hl 0 rfl) ?_
  refine lv_iload_n hx hb dL_law_388 rfl (lv_at hl 3 rfl) ?_
  refine lv_iconst (v := 1) hx hb dL_law_389 (by decide) ?_
  refine lv_iadd hx hb dL_law_390 ?_
  refine va_sld hx hb hX hbl hbA hS h1 dL_law_391 ?_
  refine lv_aload_n hx hb dL_law_392 rfl (lv_at hl 0 rfl) ?_
  refine lv_iload_n hx hb dL_law_393 rfl (lv_at hl 3 rfl) ?_
  refine lv_iconst (v := 2) hx hb dL_law_394 (by decide) ?_
  refine lv_iadd hx hb dL_law_395 ?_
  refine va_sld hx hb hX hbl hbA hS h2 dL_law_396 ?_
  obtain ⟨v, x1, x2⟩ := X_of m0 ((xs (((nI i) + 1)).toNatClampNeg)) ((xs (((nI i) + 2)).toNatClampNeg))
  have hC := tX9_of (kC cnt) (105 + 8 * cnt) 300 c 0 ((xs (((nI i) + 1)).toNatClampNeg)) ((xs (((nI i) + 2)).toNatClampNeg))
  rw [x1] at hC
  refine l_C (M := mLaw meth.name) (M' := mX9_of) (as := [.ref 0, .int (xs (((nI i) + 1)).toNatClampNeg), .int (xs (((nI i) + 2)).toNatClampNeg)]) (st := []) (cnt' := cnt) hAD hFC hcnt hL hS hl.1 (rn_V (i := 48) (np := 2) dL_law_397 mf_X9_of in_X9_of lk_L_48 ⟨Nat.le_of_ble_eq_true rfl, Nat.le_of_ble_eq_true rfl⟩ cl_7 rfl rfl rfl (Nat.le_of_ble_eq_true rfl)) hC ⟨rfl, rfl⟩ ⟨by show cells + 0 ≤ 600000; omega, by show 450 * cells + 0 ≤ 7302250; omega, rfl⟩ (fun H1 locs1 hL1 hS1 => ?_)
  show W p l e room_1 s m #[Value.ref b] below meth cc H1 locs1 (cells) (450 * (cells)) Q (F0 m 400 ls [.int v])
  clear hL hS
  have hS := hS1
  refine lv_aload_n hx hb dL_law_400 rfl (lv_at hl 2 rfl) ?_
  refine lv_aload_n hx hb dL_law_401 rfl (lv_at hl 0 rfl) ?_
  refine lv_iload_n hx hb dL_law_402 rfl (lv_at hl 3 rfl) ?_
  refine lv_iconst (v := 1) hx hb dL_law_403 (by decide) ?_
  refine lv_iadd hx hb dL_law_404 ?_
  refine va_sld hx hb hX hbl hbA hS h1 dL_law_405 ?_
  refine lv_aload_n hx hb dL_law_406 rfl (lv_at hl 0 rfl) ?_
  refine lv_iload_n hx hb dL_law_407 rfl (lv_at hl 3 rfl) ?_
  refine lv_iconst (v := 2) hx hb dL_law_408 (by decide) ?_
  refine lv_iadd hx hb dL_law_409 ?_
  refine va_sld hx hb hX hbl hbA hS h2 dL_law_410 ?_
  have hC2 := tX10_of kR 40 40 r 0 ((xs (((nI i) + 1)).toNatClampNeg)) ((xs (((nI i) + 2)).toNatClampNeg))
  rw [x2] at hC2
  refine l_R (M := mLaw meth.name) (M' := mX10_of) (as := [.ref 0, .int (xs (((nI i) + 1)).toNatClampNeg), .int (xs (((nI i) + 2)).toNatClampNeg)]) (st := [.int v]) hAD hFR hcnt hL1 hS hl.1 (rn_V (i := 51) (np := 2) dL_law_411 mf_X10_of in_X10_of lk_L_51 ⟨Nat.le_of_ble_eq_true rfl, Nat.le_of_ble_eq_true rfl⟩ cl_8 rfl rfl rfl (Nat.le_of_ble_eq_true rfl)) hC2 ⟨rfl, rfl⟩ ⟨by show cells + 0 ≤ 600000; omega, by show 450 * (cells) + 0 ≤ 7302250; omega, rfl⟩ (fun H2 locs2 hL2 hS2 => ?_)
  show W p l e room_1 s m #[Value.ref b] below meth cc H2 locs2 (cells) (450 * (cells)) Q (F0 m 414 ls [.int v, .int v])
  refine lv_icmp_eq (tgt := 815) hx hb dL_law_414 (by decide) (fun _ => ?_) (fun hne => absurd rfl hne)
  exact k cnt c r H2 locs2 _ m0 hL2 hS2 (by omega)
theorem cs_routine (C0 : LC_ p s m meth cc b L xs γ adC adR) (hi : i + 6 ≤ L) (m0 : RX_ cnt c r) (hL : LW_ γ adC adR s.heap.size cnt c r H) (hS : va_S (fun q => s.heap.size ≤ q) s.heap H locs) (hl : lv_has ls 4 [(0, .ref b), (1, .ref (adC 0)), (2, .ref (adR 0)), (3, .int (nI i))]) (hce : cells ≤ 16000) (k : LK_ p l e s m below meth cc b γ adC adR cells ls Q) : W p l e room_1 s m #[Value.ref b] below meth cc H locs cells (450 * cells) Q (F0 m 419 ls []) := by
  obtain ⟨hx, hb, hown, hts, hX, hbl, hFC, hFR, hAD, hL3⟩ := C0
  have hbA : ¬ (fun q : Nat => s.heap.size ≤ q) b := Nat.not_le.mpr hbl
  have hcnt : cnt ≤ 12 := by obtain ⟨K, N, rf, gg, _⟩ := m0; exact gg.2.2.2.2.2.1
  have h1 : vp_in (nI i + 1) L := by rw [L1, nI_add]; exact vp_in_nI (by omega) (by omega)
  have h2 : vp_in (nI i + 2) L := by rw [L2, nI_add]; exact vp_in_nI (by omega) (by omega)
  have h3 : vp_in (nI i + 3) L := by rw [L3, nI_add]; exact vp_in_nI (by omega) (by omega)
  have h4 : vp_in (nI i + 4) L := by rw [L4, nI_add]; exact vp_in_nI (by omega) (by omega)
  have h5 : vp_in (nI i + 5) L := by rw [L5, nI_add]; exact vp_in_nI (by omega) (by omega)
  have hlv := hL.1.2.2.1
  refine lv_aload_n hx hb dL_law_419 rfl (lv_at hl 1 rfl) ?_
  refine lv_aload_n hx hb dL_law_420 rfl (lv_at hl 0 rfl) ?_
  refine lv_iload_n hx hb dL_law_421 rfl (lv_at hl 3 rfl) ?_
  refine lv_iconst (v := 1) hx hb dL_law_422 (by decide) ?_
  refine lv_iadd hx hb dL_law_423 ?_
  refine va_sld hx hb hX hbl hbA hS h1 dL_law_424 ?_
  obtain ⟨v, c', r', cnt', x1, x2, m1⟩ := X_routine m0 ((xs (((nI i) + 1)).toNatClampNeg))
  have hcnt2 : cnt' ≤ 12 := by obtain ⟨K, N, rf, gg, _⟩ := m1; exact gg.2.2.2.2.2.1
  have hC := tX9_routine (kC cnt) (105 + 8 * cnt) 300 c 0 ((xs (((nI i) + 1)).toNatClampNeg)) hlv (by omega)
  rw [x1] at hC
  refine l_C (M := mLaw meth.name) (M' := mX9_routine) (as := [.ref 0, .int (xs (((nI i) + 1)).toNatClampNeg)]) (st := []) (cnt' := cnt') hAD hFC hcnt hL hS hl.1 (rn_V (i := 52) (np := 1) dL_law_425 mf_X9_routine in_X9_routine lk_L_52 ⟨Nat.le_of_ble_eq_true rfl, Nat.le_of_ble_eq_true rfl⟩ cl_7 rfl rfl rfl (Nat.le_of_ble_eq_true rfl)) hC ⟨rfl, rfl⟩ ⟨by show cells + 8 ≤ 600000; omega, by show 450 * cells + 3600 ≤ 7302250; omega, rfl⟩ (fun H1 locs1 hL1 hS1 => ?_)
  show W p l e room_1 s m #[Value.ref b] below meth cc H1 locs1 (cells + 8) (450 * (cells + 8)) Q (F0 m 428 ls [.int v])
  clear hL hS
  have hS := hS1
  refine lv_aload_n hx hb dL_law_428 rfl (lv_at hl 2 rfl) ?_
  refine lv_aload_n hx hb dL_law_429 rfl (lv_at hl 0 rfl) ?_
  refine lv_iload_n hx hb dL_law_430 rfl (lv_at hl 3 rfl) ?_
  refine lv_iconst (v := 1) hx hb dL_law_431 (by decide) ?_
  refine lv_iadd hx hb dL_law_432 ?_
  refine va_sld hx hb hX hbl hbA hS h1 dL_law_433 ?_
  have hC2 := tX10_routine kR 40 40 r 0 ((xs (((nI i) + 1)).toNatClampNeg))
  rw [x2] at hC2
  refine l_R (M := mLaw meth.name) (M' := mX10_routine) (as := [.ref 0, .int (xs (((nI i) + 1)).toNatClampNeg)]) (st := [.int v]) hAD hFR hcnt2 hL1 hS hl.1 (rn_V (i := 55) (np := 1) dL_law_434 mf_X10_routine in_X10_routine lk_L_55 ⟨Nat.le_of_ble_eq_true rfl, Nat.le_of_ble_eq_true rfl⟩ cl_8 rfl rfl rfl (Nat.le_of_ble_eq_true rfl)) hC2 ⟨rfl, rfl⟩ ⟨by show cells + 8 + 0 ≤ 600000; omega, by show 450 * (cells + 8) + 0 ≤ 7302250; omega, rfl⟩ (fun H2 locs2 hL2 hS2 => ?_)
  show W p l e room_1 s m #[Value.ref b] below meth cc H2 locs2 (cells + 8) (450 * (cells + 8)) Q (F0 m 437 ls [.int v, .int v])
  refine lv_icmp_eq (tgt := 815) hx hb dL_law_437 (by decide) (fun _ => ?_) (fun hne => absurd rfl hne)
  exact k cnt' c' r' H2 locs2 _ m1 hL2 hS2 (by omega)
theorem cs_op (C0 : LC_ p s m meth cc b L xs γ adC adR) (hi : i + 6 ≤ L) (m0 : RX_ cnt c r) (hL : LW_ γ adC adR s.heap.size cnt c r H) (hS : va_S (fun q => s.heap.size ≤ q) s.heap H locs) (hl : lv_has ls 4 [(0, .ref b), (1, .ref (adC 0)), (2, .ref (adR 0)), (3, .int (nI i))]) (hce : cells ≤ 16000) (k : LK_ p l e s m below meth cc b γ adC adR cells ls Q) : W p l e room_1 s m #[Value.ref b] below meth cc H locs cells (450 * cells) Q (F0 m 442 ls []) := by
  obtain ⟨hx, hb, hown, hts, hX, hbl, hFC, hFR, hAD, hL3⟩ := C0
  have hbA : ¬ (fun q : Nat => s.heap.size ≤ q) b := Nat.not_le.mpr hbl
  have hcnt : cnt ≤ 12 := by obtain ⟨K, N, rf, gg, _⟩ := m0; exact gg.2.2.2.2.2.1
  have h1 : vp_in (nI i + 1) L := by rw [L1, nI_add]; exact vp_in_nI (by omega) (by omega)
  have h2 : vp_in (nI i + 2) L := by rw [L2, nI_add]; exact vp_in_nI (by omega) (by omega)
  have h3 : vp_in (nI i + 3) L := by rw [L3, nI_add]; exact vp_in_nI (by omega) (by omega)
  have h4 : vp_in (nI i + 4) L := by rw [L4, nI_add]; exact vp_in_nI (by omega) (by omega)
  have h5 : vp_in (nI i + 5) L := by rw [L5, nI_add]; exact vp_in_nI (by omega) (by omega)
  refine lv_aload_n hx hb dL_law_442 rfl (lv_at hl 1 rfl) ?_
  refine lv_aload_n hx hb dL_law_443 rfl (lv_at hl 0 rfl) ?_
  refine lv_iload_n hx hb dL_law_444 rfl (lv_at hl 3 rfl) ?_
  refine lv_iconst (v := 1) hx hb dL_law_445 (by decide) ?_
  refine lv_iadd hx hb dL_law_446 ?_
  refine va_sld hx hb hX hbl hbA hS h1 dL_law_447 ?_
  refine lv_aload_n hx hb dL_law_448 rfl (lv_at hl 0 rfl) ?_
  refine lv_iload_n hx hb dL_law_449 rfl (lv_at hl 3 rfl) ?_
  refine lv_iconst (v := 2) hx hb dL_law_450 (by decide) ?_
  refine lv_iadd hx hb dL_law_451 ?_
  refine va_sld hx hb hX hbl hbA hS h2 dL_law_452 ?_
  refine lv_aload_n hx hb dL_law_453 rfl (lv_at hl 0 rfl) ?_
  refine lv_iload_n hx hb dL_law_454 rfl (lv_at hl 3 rfl) ?_
  refine lv_iconst (v := 3) hx hb dL_law_455 (by decide) ?_
  refine lv_iadd hx hb dL_law_456 ?_
  refine va_sld hx hb hX hbl hbA hS h3 dL_law_457 ?_
  refine lv_aload_n hx hb dL_law_458 rfl (lv_at hl 0 rfl) ?_
  refine lv_iload_n hx hb dL_law_459 rfl (lv_at hl 3 rfl) ?_
  refine lv_iconst (v := 4) hx hb dL_law_460 (by decide) ?_
  refine lv_iadd hx hb dL_law_461 ?_
  refine va_sld hx hb hX hbl hbA hS h4 dL_law_462 ?_
  obtain ⟨v, c', r', x1, x2, m1⟩ := X_op m0 ((xs (((nI i) + 1)).toNatClampNeg)) ((xs (((nI i) + 2)).toNatClampNeg)) ((xs (((nI i) + 3)).toNatClampNeg)) ((xs (((nI i) + 4)).toNatClampNeg))
  have hC := tX9_op (kC cnt) (105 + 8 * cnt) 300 c 0 ((xs (((nI i) + 1)).toNatClampNeg)) ((xs (((nI i) + 2)).toNatClampNeg)) ((xs (((nI i) + 3)).toNatClampNeg)) ((xs (((nI i) + 4)).toNatClampNeg))
  rw [x1] at hC
  refine l_C (M := mLaw meth.name) (M' := mX9_op) (as := [.ref 0, .int (xs (((nI i) + 1)).toNatClampNeg), .int (xs (((nI i) + 2)).toNatClampNeg), .int (xs (((nI i) + 3)).toNatClampNeg), .int (xs (((nI i) + 4)).toNatClampNeg)]) (st := []) (cnt' := cnt) hAD hFC hcnt hL hS hl.1 (rn_V (i := 56) (np := 4) dL_law_463 mf_X9_op in_X9_op lk_L_56 ⟨Nat.le_of_ble_eq_true rfl, Nat.le_of_ble_eq_true rfl⟩ cl_7 rfl rfl rfl (Nat.le_of_ble_eq_true rfl)) hC ⟨rfl, rfl⟩ ⟨by show cells + 0 ≤ 600000; omega, by show 450 * cells + 0 ≤ 7302250; omega, rfl⟩ (fun H1 locs1 hL1 hS1 => ?_)
  show W p l e room_1 s m #[Value.ref b] below meth cc H1 locs1 (cells) (450 * (cells)) Q (F0 m 466 ls [.int v])
  clear hL hS
  have hS := hS1
  refine lv_aload_n hx hb dL_law_466 rfl (lv_at hl 2 rfl) ?_
  refine lv_aload_n hx hb dL_law_467 rfl (lv_at hl 0 rfl) ?_
  refine lv_iload_n hx hb dL_law_468 rfl (lv_at hl 3 rfl) ?_
  refine lv_iconst (v := 1) hx hb dL_law_469 (by decide) ?_
  refine lv_iadd hx hb dL_law_470 ?_
  refine va_sld hx hb hX hbl hbA hS h1 dL_law_471 ?_
  refine lv_aload_n hx hb dL_law_472 rfl (lv_at hl 0 rfl) ?_
  refine lv_iload_n hx hb dL_law_473 rfl (lv_at hl 3 rfl) ?_
  refine lv_iconst (v := 2) hx hb dL_law_474 (by decide) ?_
  refine lv_iadd hx hb dL_law_475 ?_
  refine va_sld hx hb hX hbl hbA hS h2 dL_law_476 ?_
  refine lv_aload_n hx hb dL_law_477 rfl (lv_at hl 0 rfl) ?_
  refine lv_iload_n hx hb dL_law_478 rfl (lv_at hl 3 rfl) ?_
  refine lv_iconst (v := 3) hx hb dL_law_479 (by decide) ?_
  refine lv_iadd hx hb dL_law_480 ?_
  refine va_sld hx hb hX hbl hbA hS h3 dL_law_481 ?_
  refine lv_aload_n hx hb dL_law_482 rfl (lv_at hl 0 rfl) ?_
  refine lv_iload_n hx hb dL_law_483 rfl (lv_at hl 3 rfl) ?_
  refine lv_iconst (v := 4) hx hb dL_law_484 (by decide) ?_
  refine lv_iadd hx hb dL_law_485 ?_
  refine va_sld hx hb hX hbl hbA hS h4 dL_law_486 ?_
  have hC2 := tX10_op kR 40 40 r 0 ((xs (((nI i) + 1)).toNatClampNeg)) ((xs (((nI i) + 2)).toNatClampNeg)) ((xs (((nI i) + 3)).toNatClampNeg)) ((xs (((nI i) + 4)).toNatClampNeg))
  rw [x2] at hC2
  refine l_R (M := mLaw meth.name) (M' := mX10_op) (as := [.ref 0, .int (xs (((nI i) + 1)).toNatClampNeg), .int (xs (((nI i) + 2)).toNatClampNeg), .int (xs (((nI i) + 3)).toNatClampNeg), .int (xs (((nI i) + 4)).toNatClampNeg)]) (st := [.int v]) hAD hFR hcnt hL1 hS hl.1 (rn_V (i := 60) (np := 4) dL_law_487 mf_X10_op in_X10_op lk_L_60 ⟨Nat.le_of_ble_eq_true rfl, Nat.le_of_ble_eq_true rfl⟩ cl_8 rfl rfl rfl (Nat.le_of_ble_eq_true rfl)) hC2 ⟨rfl, rfl⟩ ⟨by show cells + 0 ≤ 600000; omega, by show 450 * (cells) + 0 ≤ 7302250; omega, rfl⟩ (fun H2 locs2 hL2 hS2 => ?_)
  show W p l e room_1 s m #[Value.ref b] below meth cc H2 locs2 (cells) (450 * (cells)) Q (F0 m 490 ls [.int v, .int v])
  refine lv_icmp_eq (tgt := 815) hx hb dL_law_490 (by decide) (fun _ => ?_) (fun hne => absurd rfl hne)
  exact k cnt c' r' H2 locs2 _ m1 hL2 hS2 (by omega)
theorem cs_guard (C0 : LC_ p s m meth cc b L xs γ adC adR) (hi : i + 6 ≤ L) (m0 : RX_ cnt c r) (hL : LW_ γ adC adR s.heap.size cnt c r H) (hS : va_S (fun q => s.heap.size ≤ q) s.heap H locs) (hl : lv_has ls 4 [(0, .ref b), (1, .ref (adC 0)), (2, .ref (adR 0)), (3, .int (nI i))]) (hce : cells ≤ 16000) (k : LK_ p l e s m below meth cc b γ adC adR cells ls Q) : W p l e room_1 s m #[Value.ref b] below meth cc H locs cells (450 * cells) Q (F0 m 495 ls []) := by
  obtain ⟨hx, hb, hown, hts, hX, hbl, hFC, hFR, hAD, hL3⟩ := C0
  have hbA : ¬ (fun q : Nat => s.heap.size ≤ q) b := Nat.not_le.mpr hbl
  have hcnt : cnt ≤ 12 := by obtain ⟨K, N, rf, gg, _⟩ := m0; exact gg.2.2.2.2.2.1
  have h1 : vp_in (nI i + 1) L := by rw [L1, nI_add]; exact vp_in_nI (by omega) (by omega)
  have h2 : vp_in (nI i + 2) L := by rw [L2, nI_add]; exact vp_in_nI (by omega) (by omega)
  have h3 : vp_in (nI i + 3) L := by rw [L3, nI_add]; exact vp_in_nI (by omega) (by omega)
  have h4 : vp_in (nI i + 4) L := by rw [L4, nI_add]; exact vp_in_nI (by omega) (by omega)
  have h5 : vp_in (nI i + 5) L := by rw [L5, nI_add]; exact vp_in_nI (by omega) (by omega)
  refine lv_aload_n hx hb dL_law_495 rfl (lv_at hl 1 rfl) ?_
  refine lv_aload_n hx hb dL_law_496 rfl (lv_at hl 0 rfl) ?_
  refine lv_iload_n hx hb dL_law_497 rfl (lv_at hl 3 rfl) ?_
  refine lv_iconst (v := 1) hx hb dL_law_498 (by decide) ?_
  refine lv_iadd hx hb dL_law_499 ?_
  refine va_sld hx hb hX hbl hbA hS h1 dL_law_500 ?_
  refine lv_aload_n hx hb dL_law_501 rfl (lv_at hl 0 rfl) ?_
  refine lv_iload_n hx hb dL_law_502 rfl (lv_at hl 3 rfl) ?_
  refine lv_iconst (v := 2) hx hb dL_law_503 (by decide) ?_
  refine lv_iadd hx hb dL_law_504 ?_
  refine va_sld hx hb hX hbl hbA hS h2 dL_law_505 ?_
  refine lv_aload_n hx hb dL_law_506 rfl (lv_at hl 0 rfl) ?_
  refine lv_iload_n hx hb dL_law_507 rfl (lv_at hl 3 rfl) ?_
  refine lv_iconst (v := 3) hx hb dL_law_508 (by decide) ?_
  refine lv_iadd hx hb dL_law_509 ?_
  refine va_sld hx hb hX hbl hbA hS h3 dL_law_510 ?_
  refine lv_aload_n hx hb dL_law_511 rfl (lv_at hl 0 rfl) ?_
  refine lv_iload_n hx hb dL_law_512 rfl (lv_at hl 3 rfl) ?_
  refine lv_iconst (v := 4) hx hb dL_law_513 (by decide) ?_
  refine lv_iadd hx hb dL_law_514 ?_
  refine va_sld hx hb hX hbl hbA hS h4 dL_law_515 ?_
  refine lv_aload_n hx hb dL_law_516 rfl (lv_at hl 0 rfl) ?_
  refine lv_iload_n hx hb dL_law_517 rfl (lv_at hl 3 rfl) ?_
  refine lv_iconst (v := 5) hx hb dL_law_518 (by decide) ?_
  refine lv_iadd hx hb dL_law_519 ?_
  refine va_sld hx hb hX hbl hbA hS h5 dL_law_520 ?_
  obtain ⟨v, c', r', x1, x2, m1⟩ := X_guard m0 ((xs (((nI i) + 1)).toNatClampNeg)) ((xs (((nI i) + 2)).toNatClampNeg)) ((xs (((nI i) + 3)).toNatClampNeg)) ((xs (((nI i) + 4)).toNatClampNeg)) ((xs (((nI i) + 5)).toNatClampNeg))
  have hC := tX9_guard (kC cnt) (105 + 8 * cnt) 300 c 0 ((xs (((nI i) + 1)).toNatClampNeg)) ((xs (((nI i) + 2)).toNatClampNeg)) ((xs (((nI i) + 3)).toNatClampNeg)) ((xs (((nI i) + 4)).toNatClampNeg)) ((xs (((nI i) + 5)).toNatClampNeg))
  rw [x1] at hC
  refine l_C (M := mLaw meth.name) (M' := mX9_guard) (as := [.ref 0, .int (xs (((nI i) + 1)).toNatClampNeg), .int (xs (((nI i) + 2)).toNatClampNeg), .int (xs (((nI i) + 3)).toNatClampNeg), .int (xs (((nI i) + 4)).toNatClampNeg), .int (xs (((nI i) + 5)).toNatClampNeg)]) (st := []) (cnt' := cnt) hAD hFC hcnt hL hS hl.1 (rn_V (i := 61) (np := 5) dL_law_521 mf_X9_guard in_X9_guard lk_L_61 ⟨Nat.le_of_ble_eq_true rfl, Nat.le_of_ble_eq_true rfl⟩ cl_7 rfl rfl rfl (Nat.le_of_ble_eq_true rfl)) hC ⟨rfl, rfl⟩ ⟨by show cells + 0 ≤ 600000; omega, by show 450 * cells + 0 ≤ 7302250; omega, rfl⟩ (fun H1 locs1 hL1 hS1 => ?_)
  show W p l e room_1 s m #[Value.ref b] below meth cc H1 locs1 (cells) (450 * (cells)) Q (F0 m 524 ls [.int v])
  clear hL hS
  have hS := hS1
  refine lv_aload_n hx hb dL_law_524 rfl (lv_at hl 2 rfl) ?_
  refine lv_aload_n hx hb dL_law_525 rfl (lv_at hl 0 rfl) ?_
  refine lv_iload_n hx hb dL_law_526 rfl (lv_at hl 3 rfl) ?_
  refine lv_iconst (v := 1) hx hb dL_law_527 (by decide) ?_
  refine lv_iadd hx hb dL_law_528 ?_
  refine va_sld hx hb hX hbl hbA hS h1 dL_law_529 ?_
  refine lv_aload_n hx hb dL_law_530 rfl (lv_at hl 0 rfl) ?_
  refine lv_iload_n hx hb dL_law_531 rfl (lv_at hl 3 rfl) ?_
  refine lv_iconst (v := 2) hx hb dL_law_532 (by decide) ?_
  refine lv_iadd hx hb dL_law_533 ?_
  refine va_sld hx hb hX hbl hbA hS h2 dL_law_534 ?_
  refine lv_aload_n hx hb dL_law_535 rfl (lv_at hl 0 rfl) ?_
  refine lv_iload_n hx hb dL_law_536 rfl (lv_at hl 3 rfl) ?_
  refine lv_iconst (v := 3) hx hb dL_law_537 (by decide) ?_
  refine lv_iadd hx hb dL_law_538 ?_
  refine va_sld hx hb hX hbl hbA hS h3 dL_law_539 ?_
  refine lv_aload_n hx hb dL_law_540 rfl (lv_at hl 0 rfl) ?_
  refine lv_iload_n hx hb dL_law_541 rfl (lv_at hl 3 rfl) ?_
  refine lv_iconst (v := 4) hx hb dL_law_542 (by decide) ?_
  refine lv_iadd hx hb dL_law_543 ?_
  refine va_sld hx hb hX hbl hbA hS h4 dL_law_544 ?_
  refine lv_aload_n hx hb dL_law_545 rfl (lv_at hl 0 rfl) ?_
  refine lv_iload_n hx hb dL_law_546 rfl (lv_at hl 3 rfl) ?_
  refine lv_iconst (v := 5) hx hb dL_law_547 (by decide) ?_
  refine lv_iadd hx hb dL_law_548 ?_
  refine va_sld hx hb hX hbl hbA hS h5 dL_law_549 ?_
  have hC2 := tX10_guard kR 40 40 r 0 ((xs (((nI i) + 1)).toNatClampNeg)) ((xs (((nI i) + 2)).toNatClampNeg)) ((xs (((nI i) + 3)).toNatClampNeg)) ((xs (((nI i) + 4)).toNatClampNeg)) ((xs (((nI i) + 5)).toNatClampNeg))
  rw [x2] at hC2
  refine l_R (M := mLaw meth.name) (M' := mX10_guard) (as := [.ref 0, .int (xs (((nI i) + 1)).toNatClampNeg), .int (xs (((nI i) + 2)).toNatClampNeg), .int (xs (((nI i) + 3)).toNatClampNeg), .int (xs (((nI i) + 4)).toNatClampNeg), .int (xs (((nI i) + 5)).toNatClampNeg)]) (st := [.int v]) hAD hFR hcnt hL1 hS hl.1 (rn_V (i := 65) (np := 5) dL_law_550 mf_X10_guard in_X10_guard lk_L_65 ⟨Nat.le_of_ble_eq_true rfl, Nat.le_of_ble_eq_true rfl⟩ cl_8 rfl rfl rfl (Nat.le_of_ble_eq_true rfl)) hC2 ⟨rfl, rfl⟩ ⟨by show cells + 0 ≤ 600000; omega, by show 450 * (cells) + 0 ≤ 7302250; omega, rfl⟩ (fun H2 locs2 hL2 hS2 => ?_)
  show W p l e room_1 s m #[Value.ref b] below meth cc H2 locs2 (cells) (450 * (cells)) Q (F0 m 553 ls [.int v, .int v])
  refine lv_icmp_eq (tgt := 815) hx hb dL_law_553 (by decide) (fun _ => ?_) (fun hne => absurd rfl hne)
  exact k cnt c' r' H2 locs2 _ m1 hL2 hS2 (by omega)
theorem cs_last (C0 : LC_ p s m meth cc b L xs γ adC adR) (hi : i + 6 ≤ L) (m0 : RX_ cnt c r) (hL : LW_ γ adC adR s.heap.size cnt c r H) (hS : va_S (fun q => s.heap.size ≤ q) s.heap H locs) (hl : lv_has ls 4 [(0, .ref b), (1, .ref (adC 0)), (2, .ref (adR 0)), (3, .int (nI i))]) (hce : cells ≤ 16000) (k : LK_ p l e s m below meth cc b γ adC adR cells ls Q) : W p l e room_1 s m #[Value.ref b] below meth cc H locs cells (450 * cells) Q (F0 m 558 ls []) := by
  obtain ⟨hx, hb, hown, hts, hX, hbl, hFC, hFR, hAD, hL3⟩ := C0
  have hbA : ¬ (fun q : Nat => s.heap.size ≤ q) b := Nat.not_le.mpr hbl
  have hcnt : cnt ≤ 12 := by obtain ⟨K, N, rf, gg, _⟩ := m0; exact gg.2.2.2.2.2.1
  have h1 : vp_in (nI i + 1) L := by rw [L1, nI_add]; exact vp_in_nI (by omega) (by omega)
  have h2 : vp_in (nI i + 2) L := by rw [L2, nI_add]; exact vp_in_nI (by omega) (by omega)
  have h3 : vp_in (nI i + 3) L := by rw [L3, nI_add]; exact vp_in_nI (by omega) (by omega)
  have h4 : vp_in (nI i + 4) L := by rw [L4, nI_add]; exact vp_in_nI (by omega) (by omega)
  have h5 : vp_in (nI i + 5) L := by rw [L5, nI_add]; exact vp_in_nI (by omega) (by omega)
  refine lv_aload_n hx hb dL_law_558 rfl (lv_at hl 1 rfl) ?_
  refine lv_aload_n hx hb dL_law_559 rfl (lv_at hl 0 rfl) ?_
  refine lv_iload_n hx hb dL_law_560 rfl (lv_at hl 3 rfl) ?_
  refine lv_iconst (v := 1) hx hb dL_law_561 (by decide) ?_
  refine lv_iadd hx hb dL_law_562 ?_
  refine va_sld hx hb hX hbl hbA hS h1 dL_law_563 ?_
  refine lv_aload_n hx hb dL_law_564 rfl (lv_at hl 0 rfl) ?_
  refine lv_iload_n hx hb dL_law_565 rfl (lv_at hl 3 rfl) ?_
  refine lv_iconst (v := 2) hx hb dL_law_566 (by decide) ?_
  refine lv_iadd hx hb dL_law_567 ?_
  refine va_sld hx hb hX hbl hbA hS h2 dL_law_568 ?_
  obtain ⟨v, c', r', x1, x2, m1⟩ := X_last m0 ((xs (((nI i) + 1)).toNatClampNeg)) ((xs (((nI i) + 2)).toNatClampNeg))
  have hC := tX9_last (kC cnt) (105 + 8 * cnt) 300 c 0 ((xs (((nI i) + 1)).toNatClampNeg)) ((xs (((nI i) + 2)).toNatClampNeg))
  rw [x1] at hC
  refine l_C (M := mLaw meth.name) (M' := mX9_last) (as := [.ref 0, .int (xs (((nI i) + 1)).toNatClampNeg), .int (xs (((nI i) + 2)).toNatClampNeg)]) (st := []) (cnt' := cnt) hAD hFC hcnt hL hS hl.1 (rn_V (i := 66) (np := 2) dL_law_569 mf_X9_last in_X9_last lk_L_66 ⟨Nat.le_of_ble_eq_true rfl, Nat.le_of_ble_eq_true rfl⟩ cl_7 rfl rfl rfl (Nat.le_of_ble_eq_true rfl)) hC ⟨rfl, rfl⟩ ⟨by show cells + 0 ≤ 600000; omega, by show 450 * cells + 0 ≤ 7302250; omega, rfl⟩ (fun H1 locs1 hL1 hS1 => ?_)
  show W p l e room_1 s m #[Value.ref b] below meth cc H1 locs1 (cells) (450 * (cells)) Q (F0 m 572 ls [.int v])
  clear hL hS
  have hS := hS1
  refine lv_aload_n hx hb dL_law_572 rfl (lv_at hl 2 rfl) ?_
  refine lv_aload_n hx hb dL_law_573 rfl (lv_at hl 0 rfl) ?_
  refine lv_iload_n hx hb dL_law_574 rfl (lv_at hl 3 rfl) ?_
  refine lv_iconst (v := 1) hx hb dL_law_575 (by decide) ?_
  refine lv_iadd hx hb dL_law_576 ?_
  refine va_sld hx hb hX hbl hbA hS h1 dL_law_577 ?_
  refine lv_aload_n hx hb dL_law_578 rfl (lv_at hl 0 rfl) ?_
  refine lv_iload_n hx hb dL_law_579 rfl (lv_at hl 3 rfl) ?_
  refine lv_iconst (v := 2) hx hb dL_law_580 (by decide) ?_
  refine lv_iadd hx hb dL_law_581 ?_
  refine va_sld hx hb hX hbl hbA hS h2 dL_law_582 ?_
  have hC2 := tX10_last kR 40 40 r 0 ((xs (((nI i) + 1)).toNatClampNeg)) ((xs (((nI i) + 2)).toNatClampNeg))
  rw [x2] at hC2
  refine l_R (M := mLaw meth.name) (M' := mX10_last) (as := [.ref 0, .int (xs (((nI i) + 1)).toNatClampNeg), .int (xs (((nI i) + 2)).toNatClampNeg)]) (st := [.int v]) hAD hFR hcnt hL1 hS hl.1 (rn_V (i := 69) (np := 2) dL_law_583 mf_X10_last in_X10_last lk_L_69 ⟨Nat.le_of_ble_eq_true rfl, Nat.le_of_ble_eq_true rfl⟩ cl_8 rfl rfl rfl (Nat.le_of_ble_eq_true rfl)) hC2 ⟨rfl, rfl⟩ ⟨by show cells + 0 ≤ 600000; omega, by show 450 * (cells) + 0 ≤ 7302250; omega, rfl⟩ (fun H2 locs2 hL2 hS2 => ?_)
  show W p l e room_1 s m #[Value.ref b] below meth cc H2 locs2 (cells) (450 * (cells)) Q (F0 m 586 ls [.int v, .int v])
  refine lv_icmp_eq (tgt := 815) hx hb dL_law_586 (by decide) (fun _ => ?_) (fun hne => absurd rfl hne)
  exact k cnt c' r' H2 locs2 _ m1 hL2 hS2 (by omega)
theorem cs_run (C0 : LC_ p s m meth cc b L xs γ adC adR) (hi : i + 6 ≤ L) (m0 : RX_ cnt c r) (hL : LW_ γ adC adR s.heap.size cnt c r H) (hS : va_S (fun q => s.heap.size ≤ q) s.heap H locs) (hl : lv_has ls 4 [(0, .ref b), (1, .ref (adC 0)), (2, .ref (adR 0)), (3, .int (nI i))]) (hce : cells ≤ 16000) (k : LK_ p l e s m below meth cc b γ adC adR cells ls Q) : W p l e room_1 s m #[Value.ref b] below meth cc H locs cells (450 * cells) Q (F0 m 591 ls []) := by
  obtain ⟨hx, hb, hown, hts, hX, hbl, hFC, hFR, hAD, hL3⟩ := C0
  have hbA : ¬ (fun q : Nat => s.heap.size ≤ q) b := Nat.not_le.mpr hbl
  have hcnt : cnt ≤ 12 := by obtain ⟨K, N, rf, gg, _⟩ := m0; exact gg.2.2.2.2.2.1
  have h1 : vp_in (nI i + 1) L := by rw [L1, nI_add]; exact vp_in_nI (by omega) (by omega)
  have h2 : vp_in (nI i + 2) L := by rw [L2, nI_add]; exact vp_in_nI (by omega) (by omega)
  have h3 : vp_in (nI i + 3) L := by rw [L3, nI_add]; exact vp_in_nI (by omega) (by omega)
  have h4 : vp_in (nI i + 4) L := by rw [L4, nI_add]; exact vp_in_nI (by omega) (by omega)
  have h5 : vp_in (nI i + 5) L := by rw [L5, nI_add]; exact vp_in_nI (by omega) (by omega)
  refine lv_aload_n hx hb dL_law_591 rfl (lv_at hl 1 rfl) ?_
  refine lv_aload_n hx hb dL_law_592 rfl (lv_at hl 0 rfl) ?_
  refine lv_iload_n hx hb dL_law_593 rfl (lv_at hl 3 rfl) ?_
  refine lv_iconst (v := 1) hx hb dL_law_594 (by decide) ?_
  refine lv_iadd hx hb dL_law_595 ?_
  refine va_sld hx hb hX hbl hbA hS h1 dL_law_596 ?_
  refine lv_aload_n hx hb dL_law_597 rfl (lv_at hl 0 rfl) ?_
  refine lv_iload_n hx hb dL_law_598 rfl (lv_at hl 3 rfl) ?_
  refine lv_iconst (v := 2) hx hb dL_law_599 (by decide) ?_
  refine lv_iadd hx hb dL_law_600 ?_
  refine va_sld hx hb hX hbl hbA hS h2 dL_law_601 ?_
  refine lv_i2l hx hb dL_law_602 rfl ?_
  refine lv_bipush (v := 32) hx hb dL_law_603 (by decide) ?_
  refine lv_lshl hx hb dL_law_605 rfl ?_
  refine lv_aload_n hx hb dL_law_606 rfl (lv_at hl 0 rfl) ?_
  refine lv_iload_n hx hb dL_law_607 rfl (lv_at hl 3 rfl) ?_
  refine lv_iconst (v := 3) hx hb dL_law_608 (by decide) ?_
  refine lv_iadd hx hb dL_law_609 ?_
  refine va_sld hx hb hX hbl hbA hS h3 dL_law_610 ?_
  refine lv_i2l hx hb dL_law_611 rfl ?_
  refine lv_ldc2 hx hb hown (hts _ co_L_28) dL_law_612 ?_
  refine lv_land hx hb dL_law_615 ?_
  refine lv_lor hx hb dL_law_616 ?_
  refine lv_aload_n hx hb dL_law_617 rfl (lv_at hl 0 rfl) ?_
  refine lv_iload_n hx hb dL_law_618 rfl (lv_at hl 3 rfl) ?_
  refine lv_iconst (v := 4) hx hb dL_law_619 (by decide) ?_
  refine lv_iadd hx hb dL_law_620 ?_
  refine va_sld hx hb hX hbl hbA hS h4 dL_law_621 ?_
  refine lv_i2l hx hb dL_law_622 rfl ?_
  refine lv_bipush (v := 32) hx hb dL_law_623 (by decide) ?_
  refine lv_lshl hx hb dL_law_625 rfl ?_
  refine lv_aload_n hx hb dL_law_626 rfl (lv_at hl 0 rfl) ?_
  refine lv_iload_n hx hb dL_law_627 rfl (lv_at hl 3 rfl) ?_
  refine lv_iconst (v := 5) hx hb dL_law_628 (by decide) ?_
  refine lv_iadd hx hb dL_law_629 ?_
  refine va_sld hx hb hX hbl hbA hS h5 dL_law_630 ?_
  refine lv_i2l hx hb dL_law_631 rfl ?_
  refine lv_ldc2 hx hb hown (hts _ co_L_28) dL_law_632 ?_
  refine lv_land hx hb dL_law_635 ?_
  refine lv_lor hx hb dL_law_636 ?_
  obtain ⟨v, c', r', x1, x2, m1⟩ := X_run m0 ((xs (((nI i) + 1)).toNatClampNeg)) (((((xs (((nI i) + 2)).toNatClampNeg).toInt64) <<< ((32 : Int32).toInt64 &&& 63)) ||| (((xs (((nI i) + 3)).toNatClampNeg).toInt64) &&& 4294967295))) (((((xs (((nI i) + 4)).toNatClampNeg).toInt64) <<< ((32 : Int32).toInt64 &&& 63)) ||| (((xs (((nI i) + 5)).toNatClampNeg).toInt64) &&& 4294967295)))
  have hC := tX9_run (kC cnt) (105 + 8 * cnt) 300 c 0 ((xs (((nI i) + 1)).toNatClampNeg)) (((((xs (((nI i) + 2)).toNatClampNeg).toInt64) <<< ((32 : Int32).toInt64 &&& 63)) ||| (((xs (((nI i) + 3)).toNatClampNeg).toInt64) &&& 4294967295))) (((((xs (((nI i) + 4)).toNatClampNeg).toInt64) <<< ((32 : Int32).toInt64 &&& 63)) ||| (((xs (((nI i) + 5)).toNatClampNeg).toInt64) &&& 4294967295)))
  rw [x1] at hC
  refine l_C (M := mLaw meth.name) (M' := mX9_run) (as := [.ref 0, .int (xs (((nI i) + 1)).toNatClampNeg), .long ((((xs (((nI i) + 2)).toNatClampNeg).toInt64) <<< ((32 : Int32).toInt64 &&& 63)) ||| (((xs (((nI i) + 3)).toNatClampNeg).toInt64) &&& 4294967295)), .long ((((xs (((nI i) + 4)).toNatClampNeg).toInt64) <<< ((32 : Int32).toInt64 &&& 63)) ||| (((xs (((nI i) + 5)).toNatClampNeg).toInt64) &&& 4294967295))]) (st := []) (cnt' := cnt) hAD hFC hcnt hL hS hl.1 (rn_V (i := 70) (np := 3) dL_law_637 mf_X9_run in_X9_run lk_L_70 ⟨Nat.le_of_ble_eq_true rfl, Nat.le_of_ble_eq_true rfl⟩ cl_7 rfl rfl rfl (Nat.le_of_ble_eq_true rfl)) hC ⟨rfl, rfl⟩ ⟨by show cells + 0 ≤ 600000; omega, by show 450 * cells + 0 ≤ 7302250; omega, rfl⟩ (fun H1 locs1 hL1 hS1 => ?_)
  show W p l e room_1 s m #[Value.ref b] below meth cc H1 locs1 (cells) (450 * (cells)) Q (F0 m 640 ls [.int v])
  clear hL hS
  have hS := hS1
  refine lv_aload_n hx hb dL_law_640 rfl (lv_at hl 2 rfl) ?_
  refine lv_aload_n hx hb dL_law_641 rfl (lv_at hl 0 rfl) ?_
  refine lv_iload_n hx hb dL_law_642 rfl (lv_at hl 3 rfl) ?_
  refine lv_iconst (v := 1) hx hb dL_law_643 (by decide) ?_
  refine lv_iadd hx hb dL_law_644 ?_
  refine va_sld hx hb hX hbl hbA hS h1 dL_law_645 ?_
  refine lv_aload_n hx hb dL_law_646 rfl (lv_at hl 0 rfl) ?_
  refine lv_iload_n hx hb dL_law_647 rfl (lv_at hl 3 rfl) ?_
  refine lv_iconst (v := 2) hx hb dL_law_648 (by decide) ?_
  refine lv_iadd hx hb dL_law_649 ?_
  refine va_sld hx hb hX hbl hbA hS h2 dL_law_650 ?_
  refine lv_i2l hx hb dL_law_651 rfl ?_
  refine lv_bipush (v := 32) hx hb dL_law_652 (by decide) ?_
  refine lv_lshl hx hb dL_law_654 rfl ?_
  refine lv_aload_n hx hb dL_law_655 rfl (lv_at hl 0 rfl) ?_
  refine lv_iload_n hx hb dL_law_656 rfl (lv_at hl 3 rfl) ?_
  refine lv_iconst (v := 3) hx hb dL_law_657 (by decide) ?_
  refine lv_iadd hx hb dL_law_658 ?_
  refine va_sld hx hb hX hbl hbA hS h3 dL_law_659 ?_
  refine lv_i2l hx hb dL_law_660 rfl ?_
  refine lv_ldc2 hx hb hown (hts _ co_L_28) dL_law_661 ?_
  refine lv_land hx hb dL_law_664 ?_
  refine lv_lor hx hb dL_law_665 ?_
  refine lv_aload_n hx hb dL_law_666 rfl (lv_at hl 0 rfl) ?_
  refine lv_iload_n hx hb dL_law_667 rfl (lv_at hl 3 rfl) ?_
  refine lv_iconst (v := 4) hx hb dL_law_668 (by decide) ?_
  refine lv_iadd hx hb dL_law_669 ?_
  refine va_sld hx hb hX hbl hbA hS h4 dL_law_670 ?_
  refine lv_i2l hx hb dL_law_671 rfl ?_
  refine lv_bipush (v := 32) hx hb dL_law_672 (by decide) ?_
  refine lv_lshl hx hb dL_law_674 rfl ?_
  refine lv_aload_n hx hb dL_law_675 rfl (lv_at hl 0 rfl) ?_
  refine lv_iload_n hx hb dL_law_676 rfl (lv_at hl 3 rfl) ?_
  refine lv_iconst (v := 5) hx hb dL_law_677 (by decide) ?_
  refine lv_iadd hx hb dL_law_678 ?_
  refine va_sld hx hb hX hbl hbA hS h5 dL_law_679 ?_
  refine lv_i2l hx hb dL_law_680 rfl ?_
  refine lv_ldc2 hx hb hown (hts _ co_L_28) dL_law_681 ?_
  refine lv_land hx hb dL_law_684 ?_
  refine lv_lor hx hb dL_law_685 ?_
  have hC2 := tX10_run kR 40 40 r 0 ((xs (((nI i) + 1)).toNatClampNeg)) (((((xs (((nI i) + 2)).toNatClampNeg).toInt64) <<< ((32 : Int32).toInt64 &&& 63)) ||| (((xs (((nI i) + 3)).toNatClampNeg).toInt64) &&& 4294967295))) (((((xs (((nI i) + 4)).toNatClampNeg).toInt64) <<< ((32 : Int32).toInt64 &&& 63)) ||| (((xs (((nI i) + 5)).toNatClampNeg).toInt64) &&& 4294967295)))
  rw [x2] at hC2
  refine l_R (M := mLaw meth.name) (M' := mX10_run) (as := [.ref 0, .int (xs (((nI i) + 1)).toNatClampNeg), .long ((((xs (((nI i) + 2)).toNatClampNeg).toInt64) <<< ((32 : Int32).toInt64 &&& 63)) ||| (((xs (((nI i) + 3)).toNatClampNeg).toInt64) &&& 4294967295)), .long ((((xs (((nI i) + 4)).toNatClampNeg).toInt64) <<< ((32 : Int32).toInt64 &&& 63)) ||| (((xs (((nI i) + 5)).toNatClampNeg).toInt64) &&& 4294967295))]) (st := [.int v]) hAD hFR hcnt hL1 hS hl.1 (rn_V (i := 74) (np := 3) dL_law_686 mf_X10_run in_X10_run lk_L_74 ⟨Nat.le_of_ble_eq_true rfl, Nat.le_of_ble_eq_true rfl⟩ cl_8 rfl rfl rfl (Nat.le_of_ble_eq_true rfl)) hC2 ⟨rfl, rfl⟩ ⟨by show cells + 0 ≤ 600000; omega, by show 450 * (cells) + 0 ≤ 7302250; omega, rfl⟩ (fun H2 locs2 hL2 hS2 => ?_)
  show W p l e room_1 s m #[Value.ref b] below meth cc H2 locs2 (cells) (450 * (cells)) Q (F0 m 689 ls [.int v, .int v])
  refine lv_icmp_eq (tgt := 815) hx hb dL_law_689 (by decide) (fun _ => ?_) (fun hne => absurd rfl hne)
  exact k cnt c' r' H2 locs2 _ m1 hL2 hS2 (by omega)
theorem cs_result (C0 : LC_ p s m meth cc b L xs γ adC adR) (hi : i + 6 ≤ L) (m0 : RX_ cnt c r) (hL : LW_ γ adC adR s.heap.size cnt c r H) (hS : va_S (fun q => s.heap.size ≤ q) s.heap H locs) (hl : lv_has ls 4 [(0, .ref b), (1, .ref (adC 0)), (2, .ref (adR 0)), (3, .int (nI i))]) (hce : cells ≤ 16000) (k : LK_ p l e s m below meth cc b γ adC adR cells ls Q) : W p l e room_1 s m #[Value.ref b] below meth cc H locs cells (450 * cells) Q (F0 m 694 ls []) := by
  obtain ⟨hx, hb, hown, hts, hX, hbl, hFC, hFR, hAD, hL3⟩ := C0
  have hbA : ¬ (fun q : Nat => s.heap.size ≤ q) b := Nat.not_le.mpr hbl
  have hcnt : cnt ≤ 12 := by obtain ⟨K, N, rf, gg, _⟩ := m0; exact gg.2.2.2.2.2.1
  have h1 : vp_in (nI i + 1) L := by rw [L1, nI_add]; exact vp_in_nI (by omega) (by omega)
  have h2 : vp_in (nI i + 2) L := by rw [L2, nI_add]; exact vp_in_nI (by omega) (by omega)
  have h3 : vp_in (nI i + 3) L := by rw [L3, nI_add]; exact vp_in_nI (by omega) (by omega)
  have h4 : vp_in (nI i + 4) L := by rw [L4, nI_add]; exact vp_in_nI (by omega) (by omega)
  have h5 : vp_in (nI i + 5) L := by rw [L5, nI_add]; exact vp_in_nI (by omega) (by omega)
  refine lv_aload_n hx hb dL_law_694 rfl (lv_at hl 1 rfl) ?_
  obtain ⟨v, x1, x2⟩ := X_result m0 
  have hC := tX9_result (kC cnt) (105 + 8 * cnt) 300 c 0 
  rw [x1] at hC
  refine l_C (M := mLaw meth.name) (M' := mX9_result) (as := [.ref 0]) (st := []) (cnt' := cnt) hAD hFC hcnt hL hS hl.1 (rn_V (i := 75) (np := 0) dL_law_695 mf_X9_result in_X9_result lk_L_75 ⟨Nat.le_of_ble_eq_true rfl, Nat.le_of_ble_eq_true rfl⟩ cl_7 rfl rfl rfl (Nat.le_of_ble_eq_true rfl)) hC ⟨rfl, rfl⟩ ⟨by show cells + 0 ≤ 600000; omega, by show 450 * cells + 0 ≤ 7302250; omega, rfl⟩ (fun H1 locs1 hL1 hS1 => ?_)
  show W p l e room_1 s m #[Value.ref b] below meth cc H1 locs1 (cells) (450 * (cells)) Q (F0 m 698 ls [.long v])
  clear hL hS
  have hS := hS1
  refine lv_aload_n hx hb dL_law_698 rfl (lv_at hl 2 rfl) ?_
  have hC2 := tX10_result kR 40 40 r 0 
  rw [x2] at hC2
  refine l_R (M := mLaw meth.name) (M' := mX10_result) (as := [.ref 0]) (st := [.long v]) hAD hFR hcnt hL1 hS hl.1 (rn_V (i := 79) (np := 0) dL_law_699 mf_X10_result in_X10_result lk_L_79 ⟨Nat.le_of_ble_eq_true rfl, Nat.le_of_ble_eq_true rfl⟩ cl_8 rfl rfl rfl (Nat.le_of_ble_eq_true rfl)) hC2 ⟨rfl, rfl⟩ ⟨by show cells + 0 ≤ 600000; omega, by show 450 * (cells) + 0 ≤ 7302250; omega, rfl⟩ (fun H2 locs2 hL2 hS2 => ?_)
  show W p l e room_1 s m #[Value.ref b] below meth cc H2 locs2 (cells) (450 * (cells)) Q (F0 m 702 ls [.long v, .long v])
  refine W.lcmp hx hb dL_law_702 ?_
  refine lv_if_eq (tgt := 815) hx hb dL_law_703 (by decide) (fun _ => ?_) (fun hne => absurd (lg_cmp_s v) hne)
  exact k cnt c r H2 locs2 _ m0 hL2 hS2 (by omega)
theorem cs_told (C0 : LC_ p s m meth cc b L xs γ adC adR) (hi : i + 6 ≤ L) (m0 : RX_ cnt c r) (hL : LW_ γ adC adR s.heap.size cnt c r H) (hS : va_S (fun q => s.heap.size ≤ q) s.heap H locs) (hl : lv_has ls 4 [(0, .ref b), (1, .ref (adC 0)), (2, .ref (adR 0)), (3, .int (nI i))]) (hce : cells ≤ 16000) (k : LK_ p l e s m below meth cc b γ adC adR cells ls Q) : W p l e room_1 s m #[Value.ref b] below meth cc H locs cells (450 * cells) Q (F0 m 708 ls []) := by
  obtain ⟨hx, hb, hown, hts, hX, hbl, hFC, hFR, hAD, hL3⟩ := C0
  have hbA : ¬ (fun q : Nat => s.heap.size ≤ q) b := Nat.not_le.mpr hbl
  have hcnt : cnt ≤ 12 := by obtain ⟨K, N, rf, gg, _⟩ := m0; exact gg.2.2.2.2.2.1
  have h1 : vp_in (nI i + 1) L := by rw [L1, nI_add]; exact vp_in_nI (by omega) (by omega)
  have h2 : vp_in (nI i + 2) L := by rw [L2, nI_add]; exact vp_in_nI (by omega) (by omega)
  have h3 : vp_in (nI i + 3) L := by rw [L3, nI_add]; exact vp_in_nI (by omega) (by omega)
  have h4 : vp_in (nI i + 4) L := by rw [L4, nI_add]; exact vp_in_nI (by omega) (by omega)
  have h5 : vp_in (nI i + 5) L := by rw [L5, nI_add]; exact vp_in_nI (by omega) (by omega)
  refine lv_aload_n hx hb dL_law_708 rfl (lv_at hl 1 rfl) ?_
  refine lv_aload_n hx hb dL_law_709 rfl (lv_at hl 0 rfl) ?_
  refine lv_iload_n hx hb dL_law_710 rfl (lv_at hl 3 rfl) ?_
  refine lv_iconst (v := 1) hx hb dL_law_711 (by decide) ?_
  refine lv_iadd hx hb dL_law_712 ?_
  refine va_sld hx hb hX hbl hbA hS h1 dL_law_713 ?_
  obtain ⟨v, x1, x2⟩ := X_told m0 ((xs (((nI i) + 1)).toNatClampNeg))
  have hC := tX9_told (kC cnt) (105 + 8 * cnt) 300 c 0 ((xs (((nI i) + 1)).toNatClampNeg))
  rw [x1] at hC
  refine l_C (M := mLaw meth.name) (M' := mX9_told) (as := [.ref 0, .int (xs (((nI i) + 1)).toNatClampNeg)]) (st := []) (cnt' := cnt) hAD hFC hcnt hL hS hl.1 (rn_V (i := 80) (np := 1) dL_law_714 mf_X9_told in_X9_told lk_L_80 ⟨Nat.le_of_ble_eq_true rfl, Nat.le_of_ble_eq_true rfl⟩ cl_7 rfl rfl rfl (Nat.le_of_ble_eq_true rfl)) hC ⟨rfl, rfl⟩ ⟨by show cells + 0 ≤ 600000; omega, by show 450 * cells + 0 ≤ 7302250; omega, rfl⟩ (fun H1 locs1 hL1 hS1 => ?_)
  show W p l e room_1 s m #[Value.ref b] below meth cc H1 locs1 (cells) (450 * (cells)) Q (F0 m 717 ls [.int v])
  clear hL hS
  have hS := hS1
  refine lv_aload_n hx hb dL_law_717 rfl (lv_at hl 2 rfl) ?_
  refine lv_aload_n hx hb dL_law_718 rfl (lv_at hl 0 rfl) ?_
  refine lv_iload_n hx hb dL_law_719 rfl (lv_at hl 3 rfl) ?_
  refine lv_iconst (v := 1) hx hb dL_law_720 (by decide) ?_
  refine lv_iadd hx hb dL_law_721 ?_
  refine va_sld hx hb hX hbl hbA hS h1 dL_law_722 ?_
  have hC2 := tX10_told kR 40 40 r 0 ((xs (((nI i) + 1)).toNatClampNeg))
  rw [x2] at hC2
  refine l_R (M := mLaw meth.name) (M' := mX10_told) (as := [.ref 0, .int (xs (((nI i) + 1)).toNatClampNeg)]) (st := [.int v]) hAD hFR hcnt hL1 hS hl.1 (rn_V (i := 83) (np := 1) dL_law_723 mf_X10_told in_X10_told lk_L_83 ⟨Nat.le_of_ble_eq_true rfl, Nat.le_of_ble_eq_true rfl⟩ cl_8 rfl rfl rfl (Nat.le_of_ble_eq_true rfl)) hC2 ⟨rfl, rfl⟩ ⟨by show cells + 0 ≤ 600000; omega, by show 450 * (cells) + 0 ≤ 7302250; omega, rfl⟩ (fun H2 locs2 hL2 hS2 => ?_)
  show W p l e room_1 s m #[Value.ref b] below meth cc H2 locs2 (cells) (450 * (cells)) Q (F0 m 726 ls [.int v, .int v])
  refine lv_icmp_eq (tgt := 815) hx hb dL_law_726 (by decide) (fun _ => ?_) (fun hne => absurd rfl hne)
  exact k cnt c r H2 locs2 _ m0 hL2 hS2 (by omega)
theorem cs_number (C0 : LC_ p s m meth cc b L xs γ adC adR) (hi : i + 6 ≤ L) (m0 : RX_ cnt c r) (hL : LW_ γ adC adR s.heap.size cnt c r H) (hS : va_S (fun q => s.heap.size ≤ q) s.heap H locs) (hl : lv_has ls 4 [(0, .ref b), (1, .ref (adC 0)), (2, .ref (adR 0)), (3, .int (nI i))]) (hce : cells ≤ 16000) (k : LK_ p l e s m below meth cc b γ adC adR cells ls Q) : W p l e room_1 s m #[Value.ref b] below meth cc H locs cells (450 * cells) Q (F0 m 731 ls []) := by
  obtain ⟨hx, hb, hown, hts, hX, hbl, hFC, hFR, hAD, hL3⟩ := C0
  have hbA : ¬ (fun q : Nat => s.heap.size ≤ q) b := Nat.not_le.mpr hbl
  have hcnt : cnt ≤ 12 := by obtain ⟨K, N, rf, gg, _⟩ := m0; exact gg.2.2.2.2.2.1
  have h1 : vp_in (nI i + 1) L := by rw [L1, nI_add]; exact vp_in_nI (by omega) (by omega)
  have h2 : vp_in (nI i + 2) L := by rw [L2, nI_add]; exact vp_in_nI (by omega) (by omega)
  have h3 : vp_in (nI i + 3) L := by rw [L3, nI_add]; exact vp_in_nI (by omega) (by omega)
  have h4 : vp_in (nI i + 4) L := by rw [L4, nI_add]; exact vp_in_nI (by omega) (by omega)
  have h5 : vp_in (nI i + 5) L := by rw [L5, nI_add]; exact vp_in_nI (by omega) (by omega)
  refine lv_aload_n hx hb dL_law_731 rfl (lv_at hl 1 rfl) ?_
  obtain ⟨v, x1, x2⟩ := X_number m0 
  have hC := tX9_number (kC cnt) (105 + 8 * cnt) 300 c 0 
  rw [x1] at hC
  refine l_C (M := mLaw meth.name) (M' := mX9_number) (as := [.ref 0]) (st := []) (cnt' := cnt) hAD hFC hcnt hL hS hl.1 (rn_V (i := 84) (np := 0) dL_law_732 mf_X9_number in_X9_number lk_L_84 ⟨Nat.le_of_ble_eq_true rfl, Nat.le_of_ble_eq_true rfl⟩ cl_7 rfl rfl rfl (Nat.le_of_ble_eq_true rfl)) hC ⟨rfl, rfl⟩ ⟨by show cells + 0 ≤ 600000; omega, by show 450 * cells + 0 ≤ 7302250; omega, rfl⟩ (fun H1 locs1 hL1 hS1 => ?_)
  show W p l e room_1 s m #[Value.ref b] below meth cc H1 locs1 (cells) (450 * (cells)) Q (F0 m 735 ls [.long v])
  clear hL hS
  have hS := hS1
  refine lv_aload_n hx hb dL_law_735 rfl (lv_at hl 2 rfl) ?_
  have hC2 := tX10_number kR 40 40 r 0 
  rw [x2] at hC2
  refine l_R (M := mLaw meth.name) (M' := mX10_number) (as := [.ref 0]) (st := [.long v]) hAD hFR hcnt hL1 hS hl.1 (rn_V (i := 87) (np := 0) dL_law_736 mf_X10_number in_X10_number lk_L_87 ⟨Nat.le_of_ble_eq_true rfl, Nat.le_of_ble_eq_true rfl⟩ cl_8 rfl rfl rfl (Nat.le_of_ble_eq_true rfl)) hC2 ⟨rfl, rfl⟩ ⟨by show cells + 0 ≤ 600000; omega, by show 450 * (cells) + 0 ≤ 7302250; omega, rfl⟩ (fun H2 locs2 hL2 hS2 => ?_)
  show W p l e room_1 s m #[Value.ref b] below meth cc H2 locs2 (cells) (450 * (cells)) Q (F0 m 739 ls [.long v, .long v])
  refine W.lcmp hx hb dL_law_739 ?_
  refine lv_if_eq (tgt := 815) hx hb dL_law_740 (by decide) (fun _ => ?_) (fun hne => absurd (lg_cmp_s v) hne)
  exact k cnt c r H2 locs2 _ m0 hL2 hS2 (by omega)
theorem cs_output (C0 : LC_ p s m meth cc b L xs γ adC adR) (hi : i + 6 ≤ L) (m0 : RX_ cnt c r) (hL : LW_ γ adC adR s.heap.size cnt c r H) (hS : va_S (fun q => s.heap.size ≤ q) s.heap H locs) (hl : lv_has ls 4 [(0, .ref b), (1, .ref (adC 0)), (2, .ref (adR 0)), (3, .int (nI i))]) (hce : cells ≤ 16000) (k : LK_ p l e s m below meth cc b γ adC adR cells ls Q) : W p l e room_1 s m #[Value.ref b] below meth cc H locs cells (450 * cells) Q (F0 m 745 ls []) := by
  obtain ⟨hx, hb, hown, hts, hX, hbl, hFC, hFR, hAD, hL3⟩ := C0
  have hbA : ¬ (fun q : Nat => s.heap.size ≤ q) b := Nat.not_le.mpr hbl
  have hcnt : cnt ≤ 12 := by obtain ⟨K, N, rf, gg, _⟩ := m0; exact gg.2.2.2.2.2.1
  have h1 : vp_in (nI i + 1) L := by rw [L1, nI_add]; exact vp_in_nI (by omega) (by omega)
  have h2 : vp_in (nI i + 2) L := by rw [L2, nI_add]; exact vp_in_nI (by omega) (by omega)
  have h3 : vp_in (nI i + 3) L := by rw [L3, nI_add]; exact vp_in_nI (by omega) (by omega)
  have h4 : vp_in (nI i + 4) L := by rw [L4, nI_add]; exact vp_in_nI (by omega) (by omega)
  have h5 : vp_in (nI i + 5) L := by rw [L5, nI_add]; exact vp_in_nI (by omega) (by omega)
  refine lv_aload_n hx hb dL_law_745 rfl (lv_at hl 1 rfl) ?_
  refine lv_aload_n hx hb dL_law_746 rfl (lv_at hl 0 rfl) ?_
  refine lv_iload_n hx hb dL_law_747 rfl (lv_at hl 3 rfl) ?_
  refine lv_iconst (v := 1) hx hb dL_law_748 (by decide) ?_
  refine lv_iadd hx hb dL_law_749 ?_
  refine va_sld hx hb hX hbl hbA hS h1 dL_law_750 ?_
  obtain ⟨v, x1, x2⟩ := X_output m0 ((xs (((nI i) + 1)).toNatClampNeg))
  have hC := tX9_output (kC cnt) (105 + 8 * cnt) 300 c 0 ((xs (((nI i) + 1)).toNatClampNeg))
  rw [x1] at hC
  refine l_C (M := mLaw meth.name) (M' := mX9_output) (as := [.ref 0, .int (xs (((nI i) + 1)).toNatClampNeg)]) (st := []) (cnt' := cnt) hAD hFC hcnt hL hS hl.1 (rn_V (i := 88) (np := 1) dL_law_751 mf_X9_output in_X9_output lk_L_88 ⟨Nat.le_of_ble_eq_true rfl, Nat.le_of_ble_eq_true rfl⟩ cl_7 rfl rfl rfl (Nat.le_of_ble_eq_true rfl)) hC ⟨rfl, rfl⟩ ⟨by show cells + 0 ≤ 600000; omega, by show 450 * cells + 0 ≤ 7302250; omega, rfl⟩ (fun H1 locs1 hL1 hS1 => ?_)
  show W p l e room_1 s m #[Value.ref b] below meth cc H1 locs1 (cells) (450 * (cells)) Q (F0 m 754 ls [.long v])
  clear hL hS
  have hS := hS1
  refine lv_aload_n hx hb dL_law_754 rfl (lv_at hl 2 rfl) ?_
  refine lv_aload_n hx hb dL_law_755 rfl (lv_at hl 0 rfl) ?_
  refine lv_iload_n hx hb dL_law_756 rfl (lv_at hl 3 rfl) ?_
  refine lv_iconst (v := 1) hx hb dL_law_757 (by decide) ?_
  refine lv_iadd hx hb dL_law_758 ?_
  refine va_sld hx hb hX hbl hbA hS h1 dL_law_759 ?_
  have hC2 := tX10_output kR 40 40 r 0 ((xs (((nI i) + 1)).toNatClampNeg))
  rw [x2] at hC2
  refine l_R (M := mLaw meth.name) (M' := mX10_output) (as := [.ref 0, .int (xs (((nI i) + 1)).toNatClampNeg)]) (st := [.long v]) hAD hFR hcnt hL1 hS hl.1 (rn_V (i := 92) (np := 1) dL_law_760 mf_X10_output in_X10_output lk_L_92 ⟨Nat.le_of_ble_eq_true rfl, Nat.le_of_ble_eq_true rfl⟩ cl_8 rfl rfl rfl (Nat.le_of_ble_eq_true rfl)) hC2 ⟨rfl, rfl⟩ ⟨by show cells + 0 ≤ 600000; omega, by show 450 * (cells) + 0 ≤ 7302250; omega, rfl⟩ (fun H2 locs2 hL2 hS2 => ?_)
  show W p l e room_1 s m #[Value.ref b] below meth cc H2 locs2 (cells) (450 * (cells)) Q (F0 m 763 ls [.long v, .long v])
  refine W.lcmp hx hb dL_law_763 ?_
  refine lv_if_eq (tgt := 815) hx hb dL_law_764 (by decide) (fun _ => ?_) (fun hne => absurd (lg_cmp_s v) hne)
  exact k cnt c r H2 locs2 _ m0 hL2 hS2 (by omega)
theorem cs_count (C0 : LC_ p s m meth cc b L xs γ adC adR) (hi : i + 6 ≤ L) (m0 : RX_ cnt c r) (hL : LW_ γ adC adR s.heap.size cnt c r H) (hS : va_S (fun q => s.heap.size ≤ q) s.heap H locs) (hl : lv_has ls 4 [(0, .ref b), (1, .ref (adC 0)), (2, .ref (adR 0)), (3, .int (nI i))]) (hce : cells ≤ 16000) (k : LK_ p l e s m below meth cc b γ adC adR cells ls Q) : W p l e room_1 s m #[Value.ref b] below meth cc H locs cells (450 * cells) Q (F0 m 769 ls []) := by
  obtain ⟨hx, hb, hown, hts, hX, hbl, hFC, hFR, hAD, hL3⟩ := C0
  have hbA : ¬ (fun q : Nat => s.heap.size ≤ q) b := Nat.not_le.mpr hbl
  have hcnt : cnt ≤ 12 := by obtain ⟨K, N, rf, gg, _⟩ := m0; exact gg.2.2.2.2.2.1
  have h1 : vp_in (nI i + 1) L := by rw [L1, nI_add]; exact vp_in_nI (by omega) (by omega)
  have h2 : vp_in (nI i + 2) L := by rw [L2, nI_add]; exact vp_in_nI (by omega) (by omega)
  have h3 : vp_in (nI i + 3) L := by rw [L3, nI_add]; exact vp_in_nI (by omega) (by omega)
  have h4 : vp_in (nI i + 4) L := by rw [L4, nI_add]; exact vp_in_nI (by omega) (by omega)
  have h5 : vp_in (nI i + 5) L := by rw [L5, nI_add]; exact vp_in_nI (by omega) (by omega)
  refine lv_aload_n hx hb dL_law_769 rfl (lv_at hl 1 rfl) ?_
  refine lv_aload_n hx hb dL_law_770 rfl (lv_at hl 0 rfl) ?_
  refine lv_iload_n hx hb dL_law_771 rfl (lv_at hl 3 rfl) ?_
  refine lv_iconst (v := 1) hx hb dL_law_772 (by decide) ?_
  refine lv_iadd hx hb dL_law_773 ?_
  refine va_sld hx hb hX hbl hbA hS h1 dL_law_774 ?_
  refine lv_aload_n hx hb dL_law_775 rfl (lv_at hl 0 rfl) ?_
  refine lv_iload_n hx hb dL_law_776 rfl (lv_at hl 3 rfl) ?_
  refine lv_iconst (v := 2) hx hb dL_law_777 (by decide) ?_
  refine lv_iadd hx hb dL_law_778 ?_
  refine va_sld hx hb hX hbl hbA hS h2 dL_law_779 ?_
  obtain ⟨v, x1, x2⟩ := X_count m0 ((xs (((nI i) + 1)).toNatClampNeg)) ((xs (((nI i) + 2)).toNatClampNeg))
  have hC := tX9_count (kC cnt) (105 + 8 * cnt) 300 c 0 ((xs (((nI i) + 1)).toNatClampNeg)) ((xs (((nI i) + 2)).toNatClampNeg))
  rw [x1] at hC
  refine l_C (M := mLaw meth.name) (M' := mX9_count) (as := [.ref 0, .int (xs (((nI i) + 1)).toNatClampNeg), .int (xs (((nI i) + 2)).toNatClampNeg)]) (st := []) (cnt' := cnt) hAD hFC hcnt hL hS hl.1 (rn_V (i := 93) (np := 2) dL_law_780 mf_X9_count in_X9_count lk_L_93 ⟨Nat.le_of_ble_eq_true rfl, Nat.le_of_ble_eq_true rfl⟩ cl_7 rfl rfl rfl (Nat.le_of_ble_eq_true rfl)) hC ⟨rfl, rfl⟩ ⟨by show cells + 0 ≤ 600000; omega, by show 450 * cells + 0 ≤ 7302250; omega, rfl⟩ (fun H1 locs1 hL1 hS1 => ?_)
  show W p l e room_1 s m #[Value.ref b] below meth cc H1 locs1 (cells) (450 * (cells)) Q (F0 m 783 ls [.int v])
  clear hL hS
  have hS := hS1
  refine lv_aload_n hx hb dL_law_783 rfl (lv_at hl 2 rfl) ?_
  refine lv_aload_n hx hb dL_law_784 rfl (lv_at hl 0 rfl) ?_
  refine lv_iload_n hx hb dL_law_785 rfl (lv_at hl 3 rfl) ?_
  refine lv_iconst (v := 1) hx hb dL_law_786 (by decide) ?_
  refine lv_iadd hx hb dL_law_787 ?_
  refine va_sld hx hb hX hbl hbA hS h1 dL_law_788 ?_
  refine lv_aload_n hx hb dL_law_789 rfl (lv_at hl 0 rfl) ?_
  refine lv_iload_n hx hb dL_law_790 rfl (lv_at hl 3 rfl) ?_
  refine lv_iconst (v := 2) hx hb dL_law_791 (by decide) ?_
  refine lv_iadd hx hb dL_law_792 ?_
  refine va_sld hx hb hX hbl hbA hS h2 dL_law_793 ?_
  have hC2 := tX10_count kR 40 40 r 0 ((xs (((nI i) + 1)).toNatClampNeg)) ((xs (((nI i) + 2)).toNatClampNeg))
  rw [x2] at hC2
  refine l_R (M := mLaw meth.name) (M' := mX10_count) (as := [.ref 0, .int (xs (((nI i) + 1)).toNatClampNeg), .int (xs (((nI i) + 2)).toNatClampNeg)]) (st := [.int v]) hAD hFR hcnt hL1 hS hl.1 (rn_V (i := 96) (np := 2) dL_law_794 mf_X10_count in_X10_count lk_L_96 ⟨Nat.le_of_ble_eq_true rfl, Nat.le_of_ble_eq_true rfl⟩ cl_8 rfl rfl rfl (Nat.le_of_ble_eq_true rfl)) hC2 ⟨rfl, rfl⟩ ⟨by show cells + 0 ≤ 600000; omega, by show 450 * (cells) + 0 ≤ 7302250; omega, rfl⟩ (fun H2 locs2 hL2 hS2 => ?_)
  show W p l e room_1 s m #[Value.ref b] below meth cc H2 locs2 (cells) (450 * (cells)) Q (F0 m 797 ls [.int v, .int v])
  refine lv_icmp_eq (tgt := 815) hx hb dL_law_797 (by decide) (fun _ => ?_) (fun hne => absurd rfl hne)
  exact k cnt c r H2 locs2 _ m0 hL2 hS2 (by omega)
theorem cs_forget (C0 : LC_ p s m meth cc b L xs γ adC adR) (hi : i + 6 ≤ L) (m0 : RX_ cnt c r) (hL : LW_ γ adC adR s.heap.size cnt c r H) (hS : va_S (fun q => s.heap.size ≤ q) s.heap H locs) (hl : lv_has ls 4 [(0, .ref b), (1, .ref (adC 0)), (2, .ref (adR 0)), (3, .int (nI i))]) (hce : cells ≤ 16000) (k : LK_ p l e s m below meth cc b γ adC adR cells ls Q) : W p l e room_1 s m #[Value.ref b] below meth cc H locs cells (450 * cells) Q (F0 m 802 ls []) := by
  obtain ⟨hx, hb, hown, hts, hX, hbl, hFC, hFR, hAD, hL3⟩ := C0
  have hbA : ¬ (fun q : Nat => s.heap.size ≤ q) b := Nat.not_le.mpr hbl
  have hcnt : cnt ≤ 12 := by obtain ⟨K, N, rf, gg, _⟩ := m0; exact gg.2.2.2.2.2.1
  have h1 : vp_in (nI i + 1) L := by rw [L1, nI_add]; exact vp_in_nI (by omega) (by omega)
  have h2 : vp_in (nI i + 2) L := by rw [L2, nI_add]; exact vp_in_nI (by omega) (by omega)
  have h3 : vp_in (nI i + 3) L := by rw [L3, nI_add]; exact vp_in_nI (by omega) (by omega)
  have h4 : vp_in (nI i + 4) L := by rw [L4, nI_add]; exact vp_in_nI (by omega) (by omega)
  have h5 : vp_in (nI i + 5) L := by rw [L5, nI_add]; exact vp_in_nI (by omega) (by omega)
  refine lv_aload_n hx hb dL_law_802 rfl (lv_at hl 1 rfl) ?_
  obtain ⟨v, c', r', x1, x2, m1⟩ := X_forget m0 
  have hC := tX9_forget (kC cnt) (105 + 8 * cnt) 300 c 0 
  rw [x1] at hC
  refine l_C (M := mLaw meth.name) (M' := mX9_forget) (as := [.ref 0]) (st := []) (cnt' := cnt) hAD hFC hcnt hL hS hl.1 (rn_V (i := 97) (np := 0) dL_law_803 mf_X9_forget in_X9_forget lk_L_97 ⟨Nat.le_of_ble_eq_true rfl, Nat.le_of_ble_eq_true rfl⟩ cl_7 rfl rfl rfl (Nat.le_of_ble_eq_true rfl)) hC ⟨rfl, rfl⟩ ⟨by show cells + 0 ≤ 600000; omega, by show 450 * cells + 0 ≤ 7302250; omega, rfl⟩ (fun H1 locs1 hL1 hS1 => ?_)
  show W p l e room_1 s m #[Value.ref b] below meth cc H1 locs1 (cells) (450 * (cells)) Q (F0 m 806 ls [.int v])
  clear hL hS
  have hS := hS1
  refine lv_aload_n hx hb dL_law_806 rfl (lv_at hl 2 rfl) ?_
  have hC2 := tX10_forget kR 40 40 r 0 
  rw [x2] at hC2
  refine l_R (M := mLaw meth.name) (M' := mX10_forget) (as := [.ref 0]) (st := [.int v]) hAD hFR hcnt hL1 hS hl.1 (rn_V (i := 101) (np := 0) dL_law_807 mf_X10_forget in_X10_forget lk_L_101 ⟨Nat.le_of_ble_eq_true rfl, Nat.le_of_ble_eq_true rfl⟩ cl_8 rfl rfl rfl (Nat.le_of_ble_eq_true rfl)) hC2 ⟨rfl, rfl⟩ ⟨by show cells + 0 ≤ 600000; omega, by show 450 * (cells) + 0 ≤ 7302250; omega, rfl⟩ (fun H2 locs2 hL2 hS2 => ?_)
  show W p l e room_1 s m #[Value.ref b] below meth cc H2 locs2 (cells) (450 * (cells)) Q (F0 m 810 ls [.int v, .int v])
  refine lv_icmp_eq (tgt := 815) hx hb dL_law_810 (by decide) (fun _ => ?_) (fun hne => absurd rfl hne)
  exact k cnt c' r' H2 locs2 _ m1 hL2 hS2 (by omega)
end LD
