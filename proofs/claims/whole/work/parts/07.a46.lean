section LD
variable {p : Program} {l : Launch} {e : Env} {s : State} {m : MethodId} {below : List Frame} {meth : Method} {cc : Code} {b L : Nat} {xs : Nat → Int32} {γ : Gm} {adC adR : Nat → Nat} {i cnt cells : Nat} {c r : Hp} {H : Heap} {locs : List Loc} {ls : Array Slot} {Q : State → Prop}
def LC_ (p : Program) (s : State) (m : MethodId) (meth : Method) (cc : Code) (b L : Nat) (xs : Nat → Int32) (γ : Gm) (adC adR : Nat → Nat) : Prop := p.tables.exec = Jvm.exec ∧ cc.code = code ∧ s.vm.findClass RL = some m.cls ∧ (∀ w ∈ lw_tbl, w.before #[Value.ref b] s = true) ∧ va_X b L xs s s.heap ∧ b < s.heap.size ∧ Fx_ (mLaw meth.name) γ adC (fun q => s.heap.size ≤ q) p s m #[Value.ref b] meth cc ∧ Fx_ (mLaw meth.name) γ adR (fun q => s.heap.size ≤ q) p s m #[Value.ref b] meth cc ∧ AD_ s.heap.size adC adR ∧ L ≤ 3072
/-- behind a case: the two answer alike, and the loop goes on -/
def LK_ (p : Program) (l : Launch) (e : Env) (s : State) (m : MethodId) (below : List Frame) (meth : Method) (cc : Code) (b : Nat) (γ : Gm) (adC adR : Nat → Nat) (cells : Nat) (ls : Array Slot) (Q : State → Prop) : Prop := ∀ (cnt' : Nat) (c' r' : Hp) (H' : Heap) (locs' : List Loc) (cells' : Nat), RX_ cnt' c' r' → LW_ γ adC adR s.heap.size cnt' c' r' H' → va_S (fun q => s.heap.size ≤ q) s.heap H' locs' → cells' ≤ cells + 8 → W p l e room_1 s m #[Value.ref b] below meth cc H' locs' cells' (450 * cells') Q (F0 m 815 ls [])
theorem lg_cmp_s (v : Int64) : lg_cmp v v = 0 := by simp [lg_cmp]
theorem cs_row (C0 : LC_ p s m meth cc b L xs γ adC adR) (hi : i + 6 ≤ L) (m0 : RX_ cnt c r) (hL : LW_ γ adC adR s.heap.size cnt c r H) (hS : va_S (fun q => s.heap.size ≤ q) s.heap H locs) (hl : lv_has ls 4 [(0, .ref b), (1, .ref (adC 0)), (2, .ref (adR 0)), (3, .int (nI i))]) (hce : cells ≤ 16000) (k : LK_ p l e s m below meth cc b γ adC adR cells ls Q) : W p l e room_1 s m #[Value.ref b] below meth cc H locs cells (450 * cells) Q (F0 m 124 ls []) := by
  obtain ⟨hx, hb, hown, hts, hX, hbl, hFC, hFR, hAD, hL3⟩ := C0
  have hbA : ¬ (fun q : Nat => s.heap.size ≤ q) b := Nat.not_le.mpr hbl
  have hcnt : cnt ≤ 12 := by obtain ⟨K, N, rf, gg, _⟩ := m0; exact gg.2.2.2.2.2.1
  have h1 : vp_in (nI i + 1) L := by rw [L1, nI_add]; exact vp_in_nI (by omega) (by omega)
  have h2 : vp_in (nI i + 2) L := by rw [L2, nI_add]; exact vp_in_nI (by omega) (by omega)
  have h3 : vp_in (nI i + 3) L := by rw [L3, nI_add]; exact vp_in_nI (by omega) (by omega)
  have h4 : vp_in (nI i + 4) L := by rw [L4, nI_add]; exact vp_in_nI (by omega) (by omega)
  have h5 : vp_in (nI i + 5) L := by rw [L5, nI_add]; exact vp_in_nI (by omega) (by omega)
  refine lv_aload_n hx hb dL_law_124 rfl (lv_at hl 1 rfl) ?_
  refine lv_aload_n hx hb dL_law_125 rfl (lv_at hl 0 rfl) ?_
  refine lv_iload_n hx hb dL_law_126 rfl (lv_at hl 3 rfl) ?_
  refine lv_iconst (v := 1) hx hb dL_law_127 (by decide) ?_
  refine lv_iadd hx hb dL_law_128 ?_
  refine va_sld hx hb hX hbl hbA hS h1 dL_law_129 ?_
  refine lv_aload_n hx hb dL_law_130 rfl (lv_at hl 0 rfl) ?_
  refine lv_iload_n hx hb dL_law_131 rfl (lv_at hl 3 rfl) ?_
  refine lv_iconst (v := 2) hx hb dL_law_132 (by decide) ?_
  refine lv_iadd hx hb dL_law_133 ?_
  refine va_sld hx hb hX hbl hbA hS h2 dL_law_134 ?_
  refine lv_aload_n hx hb dL_law_135 rfl (lv_at hl 0 rfl) ?_
  refine lv_iload_n hx hb dL_law_136 rfl (lv_at hl 3 rfl) ?_
  refine lv_iconst (v := 3) hx hb dL_law_137 (by decide) ?_
  refine lv_iadd hx hb dL_law_138 ?_
  refine va_sld hx hb hX hbl hbA hS h3 dL_law_139 ?_
  obtain ⟨v, c', r', x1, x2, m1⟩ := X_row m0 ((xs (((nI i) + 1)).toNatClampNeg)) ((xs (((nI i) + 2)).toNatClampNeg)) ((xs (((nI i) + 3)).toNatClampNeg))
  have hC := tX9_row (kC cnt) (105 + 8 * cnt) 300 c 0 ((xs (((nI i) + 1)).toNatClampNeg)) ((xs (((nI i) + 2)).toNatClampNeg)) ((xs (((nI i) + 3)).toNatClampNeg))
  rw [x1] at hC
  refine l_C (M := mLaw meth.name) (M' := mX9_row) (as := [.ref 0, .int (xs (((nI i) + 1)).toNatClampNeg), .int (xs (((nI i) + 2)).toNatClampNeg), .int (xs (((nI i) + 3)).toNatClampNeg)]) (st := []) (cnt' := cnt) hAD hFC hcnt hL hS hl.1 (rn_V (i := 13) (np := 3) dL_law_140 mf_X9_row in_X9_row lk_L_13 ⟨Nat.le_of_ble_eq_true rfl, Nat.le_of_ble_eq_true rfl⟩ cl_7 rfl rfl rfl (Nat.le_of_ble_eq_true rfl)) hC ⟨rfl, rfl⟩ ⟨by show cells + 0 ≤ 600000; omega, by show 450 * cells + 0 ≤ 7302250; omega, rfl⟩ (fun H1 locs1 hL1 hS1 => ?_)
  show W p l e room_1 s m #[Value.ref b] below meth cc H1 locs1 (cells) (450 * (cells)) Q (F0 m 143 ls [.int v])
  clear hL hS
  have hS := hS1
  refine lv_aload_n hx hb dL_law_143 rfl (lv_at hl 2 rfl) ?_
  refine lv_aload_n hx hb dL_law_144 rfl (lv_at hl 0 rfl) ?_
  refine lv_iload_n hx hb dL_law_145 rfl (lv_at hl 3 rfl) ?_
  refine lv_iconst (v := 1) hx hb dL_law_146 (by decide) ?_
  refine lv_iadd hx hb dL_law_147 ?_
  refine va_sld hx hb hX hbl hbA hS h1 dL_law_148 ?_
  refine lv_aload_n hx hb dL_law_149 rfl (lv_at hl 0 rfl) ?_
  refine lv_iload_n hx hb dL_law_150 rfl (lv_at hl 3 rfl) ?_
  refine lv_iconst (v := 2) hx hb dL_law_151 (by decide) ?_
  refine lv_iadd hx hb dL_law_152 ?_
  refine va_sld hx hb hX hbl hbA hS h2 dL_law_153 ?_
  refine lv_aload_n hx hb dL_law_154 rfl (lv_at hl 0 rfl) ?_
  refine lv_iload_n hx hb dL_law_155 rfl (lv_at hl 3 rfl) ?_
  refine lv_iconst (v := 3) hx hb dL_law_156 (by decide) ?_
  refine lv_iadd hx hb dL_law_157 ?_
  refine va_sld hx hb hX hbl hbA hS h3 dL_law_158 ?_
  have hC2 := tX10_row kR 40 40 r 0 ((xs (((nI i) + 1)).toNatClampNeg)) ((xs (((nI i) + 2)).toNatClampNeg)) ((xs (((nI i) + 3)).toNatClampNeg))
  rw [x2] at hC2
  refine l_R (M := mLaw meth.name) (M' := mX10_row) (as := [.ref 0, .int (xs (((nI i) + 1)).toNatClampNeg), .int (xs (((nI i) + 2)).toNatClampNeg), .int (xs (((nI i) + 3)).toNatClampNeg)]) (st := [.int v]) hAD hFR hcnt hL1 hS hl.1 (rn_V (i := 17) (np := 3) dL_law_159 mf_X10_row in_X10_row lk_L_17 ⟨Nat.le_of_ble_eq_true rfl, Nat.le_of_ble_eq_true rfl⟩ cl_8 rfl rfl rfl (Nat.le_of_ble_eq_true rfl)) hC2 ⟨rfl, rfl⟩ ⟨by show cells + 0 ≤ 600000; omega, by show 450 * (cells) + 0 ≤ 7302250; omega, rfl⟩ (fun H2 locs2 hL2 hS2 => ?_)
  show W p l e room_1 s m #[Value.ref b] below meth cc H2 locs2 (cells) (450 * (cells)) Q (F0 m 162 ls [.int v, .int v])
  refine lv_icmp_eq (tgt := 815) hx hb dL_law_162 (by decide) (fun _ => ?_) (fun hne => absurd rfl hne)
  exact k cnt c' r' H2 locs2 _ m1 hL2 hS2 (by omega)
theorem cs_miss (C0 : LC_ p s m meth cc b L xs γ adC adR) (hi : i + 6 ≤ L) (m0 : RX_ cnt c r) (hL : LW_ γ adC adR s.heap.size cnt c r H) (hS : va_S (fun q => s.heap.size ≤ q) s.heap H locs) (hl : lv_has ls 4 [(0, .ref b), (1, .ref (adC 0)), (2, .ref (adR 0)), (3, .int (nI i))]) (hce : cells ≤ 16000) (k : LK_ p l e s m below meth cc b γ adC adR cells ls Q) : W p l e room_1 s m #[Value.ref b] below meth cc H locs cells (450 * cells) Q (F0 m 167 ls []) := by
  obtain ⟨hx, hb, hown, hts, hX, hbl, hFC, hFR, hAD, hL3⟩ := C0
  have hbA : ¬ (fun q : Nat => s.heap.size ≤ q) b := Nat.not_le.mpr hbl
  have hcnt : cnt ≤ 12 := by obtain ⟨K, N, rf, gg, _⟩ := m0; exact gg.2.2.2.2.2.1
  have h1 : vp_in (nI i + 1) L := by rw [L1, nI_add]; exact vp_in_nI (by omega) (by omega)
  have h2 : vp_in (nI i + 2) L := by rw [L2, nI_add]; exact vp_in_nI (by omega) (by omega)
  have h3 : vp_in (nI i + 3) L := by rw [L3, nI_add]; exact vp_in_nI (by omega) (by omega)
  have h4 : vp_in (nI i + 4) L := by rw [L4, nI_add]; exact vp_in_nI (by omega) (by omega)
  have h5 : vp_in (nI i + 5) L := by rw [L5, nI_add]; exact vp_in_nI (by omega) (by omega)
  refine lv_aload_n hx hb dL_law_167 rfl (lv_at hl 1 rfl) ?_
  refine lv_aload_n hx hb dL_law_168 rfl (lv_at hl 0 rfl) ?_
  refine lv_iload_n hx hb dL_law_169 rfl (lv_at hl 3 rfl) ?_
  refine lv_iconst (v := 1) hx hb dL_law_170 (by decide) ?_
  refine lv_iadd hx hb dL_law_171 ?_
  refine va_sld hx hb hX hbl hbA hS h1 dL_law_172 ?_
  obtain ⟨v, c', r', x1, x2, m1⟩ := X_miss m0 ((xs (((nI i) + 1)).toNatClampNeg))
  have hC := tX9_miss (kC cnt) (105 + 8 * cnt) 300 c 0 ((xs (((nI i) + 1)).toNatClampNeg))
  rw [x1] at hC
  refine l_C (M := mLaw meth.name) (M' := mX9_miss) (as := [.ref 0, .int (xs (((nI i) + 1)).toNatClampNeg)]) (st := []) (cnt' := cnt) hAD hFC hcnt hL hS hl.1 (rn_V (i := 18) (np := 1) dL_law_173 mf_X9_miss in_X9_miss lk_L_18 ⟨Nat.le_of_ble_eq_true rfl, Nat.le_of_ble_eq_true rfl⟩ cl_7 rfl rfl rfl (Nat.le_of_ble_eq_true rfl)) hC ⟨rfl, rfl⟩ ⟨by show cells + 0 ≤ 600000; omega, by show 450 * cells + 0 ≤ 7302250; omega, rfl⟩ (fun H1 locs1 hL1 hS1 => ?_)
  show W p l e room_1 s m #[Value.ref b] below meth cc H1 locs1 (cells) (450 * (cells)) Q (F0 m 176 ls [.int v])
  clear hL hS
  have hS := hS1
  refine lv_aload_n hx hb dL_law_176 rfl (lv_at hl 2 rfl) ?_
  refine lv_aload_n hx hb dL_law_177 rfl (lv_at hl 0 rfl) ?_
  refine lv_iload_n hx hb dL_law_178 rfl (lv_at hl 3 rfl) ?_
  refine lv_iconst (v := 1) hx hb dL_law_179 (by decide) ?_
  refine lv_iadd hx hb dL_law_180 ?_
  refine va_sld hx hb hX hbl hbA hS h1 dL_law_181 ?_
  have hC2 := tX10_miss kR 40 40 r 0 ((xs (((nI i) + 1)).toNatClampNeg))
  rw [x2] at hC2
  refine l_R (M := mLaw meth.name) (M' := mX10_miss) (as := [.ref 0, .int (xs (((nI i) + 1)).toNatClampNeg)]) (st := [.int v]) hAD hFR hcnt hL1 hS hl.1 (rn_V (i := 22) (np := 1) dL_law_182 mf_X10_miss in_X10_miss lk_L_22 ⟨Nat.le_of_ble_eq_true rfl, Nat.le_of_ble_eq_true rfl⟩ cl_8 rfl rfl rfl (Nat.le_of_ble_eq_true rfl)) hC2 ⟨rfl, rfl⟩ ⟨by show cells + 0 ≤ 600000; omega, by show 450 * (cells) + 0 ≤ 7302250; omega, rfl⟩ (fun H2 locs2 hL2 hS2 => ?_)
  show W p l e room_1 s m #[Value.ref b] below meth cc H2 locs2 (cells) (450 * (cells)) Q (F0 m 185 ls [.int v, .int v])
  refine lv_icmp_eq (tgt := 815) hx hb dL_law_185 (by decide) (fun _ => ?_) (fun hne => absurd rfl hne)
  exact k cnt c' r' H2 locs2 _ m1 hL2 hS2 (by omega)
theorem cs_share (C0 : LC_ p s m meth cc b L xs γ adC adR) (hi : i + 6 ≤ L) (m0 : RX_ cnt c r) (hL : LW_ γ adC adR s.heap.size cnt c r H) (hS : va_S (fun q => s.heap.size ≤ q) s.heap H locs) (hl : lv_has ls 4 [(0, .ref b), (1, .ref (adC 0)), (2, .ref (adR 0)), (3, .int (nI i))]) (hce : cells ≤ 16000) (k : LK_ p l e s m below meth cc b γ adC adR cells ls Q) : W p l e room_1 s m #[Value.ref b] below meth cc H locs cells (450 * cells) Q (F0 m 190 ls []) := by
  obtain ⟨hx, hb, hown, hts, hX, hbl, hFC, hFR, hAD, hL3⟩ := C0
  have hbA : ¬ (fun q : Nat => s.heap.size ≤ q) b := Nat.not_le.mpr hbl
  have hcnt : cnt ≤ 12 := by obtain ⟨K, N, rf, gg, _⟩ := m0; exact gg.2.2.2.2.2.1
  have h1 : vp_in (nI i + 1) L := by rw [L1, nI_add]; exact vp_in_nI (by omega) (by omega)
  have h2 : vp_in (nI i + 2) L := by rw [L2, nI_add]; exact vp_in_nI (by omega) (by omega)
  have h3 : vp_in (nI i + 3) L := by rw [L3, nI_add]; exact vp_in_nI (by omega) (by omega)
  have h4 : vp_in (nI i + 4) L := by rw [L4, nI_add]; exact vp_in_nI (by omega) (by omega)
  have h5 : vp_in (nI i + 5) L := by rw [L5, nI_add]; exact vp_in_nI (by omega) (by omega)
  refine lv_aload_n hx hb dL_law_190 rfl (lv_at hl 1 rfl) ?_
  refine lv_aload_n hx hb dL_law_191 rfl (lv_at hl 0 rfl) ?_
  refine lv_iload_n hx hb dL_law_192 rfl (lv_at hl 3 rfl) ?_
  refine lv_iconst (v := 1) hx hb dL_law_193 (by decide) ?_
  refine lv_iadd hx hb dL_law_194 ?_
  refine va_sld hx hb hX hbl hbA hS h1 dL_law_195 ?_
  refine lv_aload_n hx hb dL_law_196 rfl (lv_at hl 0 rfl) ?_
  refine lv_iload_n hx hb dL_law_197 rfl (lv_at hl 3 rfl) ?_
  refine lv_iconst (v := 2) hx hb dL_law_198 (by decide) ?_
  refine lv_iadd hx hb dL_law_199 ?_
  refine va_sld hx hb hX hbl hbA hS h2 dL_law_200 ?_
  obtain ⟨v, c', r', x1, x2, m1⟩ := X_share m0 ((xs (((nI i) + 1)).toNatClampNeg)) ((xs (((nI i) + 2)).toNatClampNeg))
  have hC := tX9_share (kC cnt) (105 + 8 * cnt) 300 c 0 ((xs (((nI i) + 1)).toNatClampNeg)) ((xs (((nI i) + 2)).toNatClampNeg))
  rw [x1] at hC
  refine l_C (M := mLaw meth.name) (M' := mX9_share) (as := [.ref 0, .int (xs (((nI i) + 1)).toNatClampNeg), .int (xs (((nI i) + 2)).toNatClampNeg)]) (st := []) (cnt' := cnt) hAD hFC hcnt hL hS hl.1 (rn_V (i := 23) (np := 2) dL_law_201 mf_X9_share in_X9_share lk_L_23 ⟨Nat.le_of_ble_eq_true rfl, Nat.le_of_ble_eq_true rfl⟩ cl_7 rfl rfl rfl (Nat.le_of_ble_eq_true rfl)) hC ⟨rfl, rfl⟩ ⟨by show cells + 0 ≤ 600000; omega, by show 450 * cells + 0 ≤ 7302250; omega, rfl⟩ (fun H1 locs1 hL1 hS1 => ?_)
  show W p l e room_1 s m #[Value.ref b] below meth cc H1 locs1 (cells) (450 * (cells)) Q (F0 m 204 ls [.int v])
  clear hL hS
  have hS := hS1
  refine lv_aload_n hx hb dL_law_204 rfl (lv_at hl 2 rfl) ?_
  refine lv_aload_n hx hb dL_law_205 rfl (lv_at hl 0 rfl) ?_
  refine lv_iload_n hx hb dL_law_206 rfl (lv_at hl 3 rfl) ?_
  refine lv_iconst (v := 1) hx hb dL_law_207 (by decide) ?_
  refine lv_iadd hx hb dL_law_208 ?_
  refine va_sld hx hb hX hbl hbA hS h1 dL_law_209 ?_
  refine lv_aload_n hx hb dL_law_210 rfl (lv_at hl 0 rfl) ?_
  refine lv_iload_n hx hb dL_law_211 rfl (lv_at hl 3 rfl) ?_
  refine lv_iconst (v := 2) hx hb dL_law_212 (by decide) ?_
  refine lv_iadd hx hb dL_law_213 ?_
  refine va_sld hx hb hX hbl hbA hS h2 dL_law_214 ?_
  have hC2 := tX10_share kR 40 40 r 0 ((xs (((nI i) + 1)).toNatClampNeg)) ((xs (((nI i) + 2)).toNatClampNeg))
  rw [x2] at hC2
  refine l_R (M := mLaw meth.name) (M' := mX10_share) (as := [.ref 0, .int (xs (((nI i) + 1)).toNatClampNeg), .int (xs (((nI i) + 2)).toNatClampNeg)]) (st := [.int v]) hAD hFR hcnt hL1 hS hl.1 (rn_V (i := 27) (np := 2) dL_law_215 mf_X10_share in_X10_share lk_L_27 ⟨Nat.le_of_ble_eq_true rfl, Nat.le_of_ble_eq_true rfl⟩ cl_8 rfl rfl rfl (Nat.le_of_ble_eq_true rfl)) hC2 ⟨rfl, rfl⟩ ⟨by show cells + 0 ≤ 600000; omega, by show 450 * (cells) + 0 ≤ 7302250; omega, rfl⟩ (fun H2 locs2 hL2 hS2 => ?_)
  show W p l e room_1 s m #[Value.ref b] below meth cc H2 locs2 (cells) (450 * (cells)) Q (F0 m 218 ls [.int v, .int v])
  refine lv_icmp_eq (tgt := 815) hx hb dL_law_218 (by decide) (fun _ => ?_) (fun hne => absurd rfl hne)
  exact k cnt c' r' H2 locs2 _ m1 hL2 hS2 (by omega)
end LD
