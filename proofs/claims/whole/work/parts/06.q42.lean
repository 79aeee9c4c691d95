section PRp
theorem i_1 : ∀ k, k < 12 → (g_I c0_ 5 k = nI 0 ∧ g_I r0_ 2 k = nI 0) ∧ (g_I c0_ 6 k = nI 0 ∧ g_I r0_ 3 k = nI 0) := by decide +kernel
theorem i_2 : ∀ k, k < 144 → g_J c0_ 7 k = lN 0 ∧ g_J r0_ 4 k = lN 0 ∧ g_D r0_ 5 k = 0 := by decide +kernel
theorem i_3 : ∀ k, k < 12 → g_I c0_ 10 k = nI 0 ∧ g_I c0_ 11 k = nI 0 ∧ g_I c0_ 12 k = nI 0 := by decide +kernel
theorem i_4 : ∀ k, k < 48 → g_I c0_ 13 k = mO := by decide +kernel
theorem i_5 : (g_I c0_ 8 5 = nI 0 ∧ g_I r0_ 0 5 = nI 0) ∧ (g_I c0_ 14 2 = nI 0 ∧ g_I r0_ 0 52 = nI 0) ∧ (g_I c0_ 1 4 = nI 0 ∧ g_I r0_ 0 14 = nI 0) ∧ (g_I c0_ 1 9 = nI 0 ∧ g_I r0_ 0 41 = nI 0) := by decide +kernel
theorem i_6 : (g_J c0_ 1 17 = g_J r0_ 0 42) ∧ (g_I c0_ 56 0 = g_I r0_ 0 43 ∧ g_J c0_ 56 1 = g_J r0_ 0 44 ∧ g_I c0_ 56 2 = g_I r0_ 0 45 ∧ g_I c0_ 56 3 = g_I r0_ 0 46) ∧ (g_I c0_ 1 12 = g_I r0_ 0 47 ∧ g_I c0_ 1 13 = g_I r0_ 0 48 ∧ g_I c0_ 1 14 = g_I r0_ 0 49 ∧ g_I c0_ 1 15 = g_I r0_ 0 50 ∧ g_I c0_ 1 16 = g_I r0_ 0 51) := by decide +kernel
theorem i_7 : ∀ d, d < 12 → ∀ k, k < 8 → g_J c0_ (57 + 4 * d + 2) k = g_J r0_ 22 (8 * d + k) := by decide +kernel
theorem i_8 : ∀ k, k < 63 → g_R r0_ 0 k = wt_R.getD k none := by decide +kernel
def Za_ (m : Nat) (κ : Kd) : Prop := ∀ a, m ≤ a → κ a = (0, 0)
theorem Za_u {m n : Nat} {κ : Kd} {v : Nat × Nat} (h : Za_ m κ) (hn : n < m) : Za_ m (up_K κ n v) := fun a ha => by
  show (if a = n then v else κ a) = _
  rw [if_neg (by omega)]; exact h a ha
theorem Za_0 (m : Nat) : Za_ m k0_ := fun _ _ => rfl
theorem kc_1 : ∀ a, a < 105 → kX9_init (up_K k0_ 0 (8, 0)) 1 a = kC 0 a := by decide +kernel
theorem kr_1 : ∀ a, a < 40 → kX10_init (up_K k0_ 0 (9, 0)) 1 a = kR a := by decide +kernel
theorem kc_2 : Za_ 105 (kX9_init (up_K k0_ 0 (8, 0)) 1) := by
  repeat (first | exact Za_0 _ | refine Za_u ?_ (by omega))
theorem kr_2 : Za_ 40 (kX10_init (up_K k0_ 0 (9, 0)) 1) := by
  repeat (first | exact Za_0 _ | refine Za_u ?_ (by omega))
theorem kc_e : kX9_init (up_K k0_ 0 (8, 0)) 1 = kC 0 := by
  funext a
  by_cases h : a < 105
  · exact kc_1 a h
  · rw [kc_2 a (by omega)]
    unfold kC
    rw [if_neg (by omega), if_neg (by omega), if_neg (by omega)]
theorem kr_e : kX10_init (up_K k0_ 0 (9, 0)) 1 = kR := by
  funext a
  by_cases h : a < 40
  · exact kr_1 a h
  · rw [kr_2 a (by omega)]
    unfold kR
    rw [List.getD_eq_getElem?_getD, List.getElem?_eq_none (by show 40 ≤ a; omega)]
    rfl
/-- the two at their beginning -/
theorem gg_0 : GG_ 0 0 0 (fun _ => none) c0_ r0_ := by
  refine ⟨fun a k ha hk => c0_R a (by omega) k hk, i_8, ?_, ?_, ?_, ?_⟩
  · refine ⟨fun k hk => ?_, fun k hk => ?_, fun k hk => ?_, fun k hk => Or.inl (c0_3 k hk).2.1, fun k hk => ⟨0, by omega, (i_1 k hk).1.2⟩, fun k hk => ⟨0, by omega, (i_1 k hk).2.2⟩, fun k hk => ?_, fun k hk i hi => ?_⟩
    · rw [(c0_3 k hk).1, (c0_3 k hk).2.1]
    · rw [(i_1 k hk).1.1, (i_1 k hk).1.2]
    · rw [(i_1 k hk).2.1, (i_1 k hk).2.2]
    · rw [(c0_3 k hk).2.2, (cu_none 12).mpr (fun q hq e => by rw [(c0_3 q hq).2.1, mO_nI (by omega)] at e; exact e)]
    · have h := i_2 (12 * k + i) (by omega)
      rw [(i_1 k hk).1.2, h.1, h.2.1, h.2.2]
      exact Itm_0 (by omega)
  · refine ⟨i_5.1.1, i_5.1.2, by omega, fun t ht => by omega, fun t ht => by omega, fun t ht => by omega, fun t ht => by omega, fun t ht => by omega, fun t ht => by omega, fun t _ ht => i_3 t ht, fun t _ ht i hi => i_4 _ (by omega)⟩
  · exact ⟨by omega, i_5.2.1.1, i_5.2.1.2, fun q hq => by omega⟩
  · exact ⟨by omega, i_5.2.2.1.1, i_5.2.2.1.2, fun q hq => by omega⟩
theorem ro_0 : Ro c0_ r0_ := ⟨i_6.1, i_6.2.1, i_6.2.2, 0, by omega, i_5.2.2.2.1, i_5.2.2.2.2, fun i hi => by omega⟩
end PRp
