theorem fp_A {f : FP.Core.Fmt} (hf : FP.Core.Good f) (hw : FP.Core.Wide f) {v : Int} (hv : v.natAbs ≤ 2 ^ 63) (h0 : v ≠ 0)
    (hfin : ∃ s c q, FP.Core.round f (FP.Core.ofInt v) = .fin s c q) (hp : f.p ≤ 63) :
    ∃ i : Int, i ≠ 0 ∧ i.natAbs ≤ 2 ^ 63 ∧ FP.Core.Whole i (FP.Core.round f (FP.Core.ofInt v)) := by
  by_cases hs : v.natAbs ≤ 2 ^ f.p
  · exact ⟨v, h0, hv, FP.Core.whole_round hf hw hs (FP.Core.whole_ofInt v)⟩
  · obtain ⟨s, c, q, hr⟩ := hfin
    have hr2 := hr
    have hA : 0 < v.natAbs := by omega
    simp only [FP.Core.ofInt, FP.Core.round, FP.Core.roundRatio] at hr
    rw [if_neg (by omega)] at hr
    have hq := FP.Core.quantum_below (f := f) (A := v.natAbs) (B := 1) hA (by decide) 0
    have hnb := FP.Core.quantum_not_below (f := f) (A := v.natAbs) (B := 1) hA (by decide) 0
    have hm := FP.Core.nearest_units_le (f := f) (A := v.natAbs) (B := 1) hA (by decide) 0
    generalize FP.Core.quantum f v.natAbs 1 0 = r at *
    rw [← FP.Core.units_below] at hq
    have hr1 : 1 ≤ r := by
      refine Int.not_lt.mp fun hlt => hs ?_
      unfold FP.Core.unitsNum FP.Core.unitsDen at hq
      rw [show (r - 0).toNat = 0 by omega] at hq
      have := Nat.two_pow_pos (0 - r).toNat
      have := Nat.le_mul_of_pos_right v.natAbs this
      omega
    have hqm : f.qmin < 1 := by
      have := FP.Core.emax_pos hf
      have := hf.2
      unfold FP.Core.Fmt.qmin; omega
    have hnb2 : ¬ FP.Core.Below v.natAbs 1 (r - 0 + ((f.p : Int) - 1)) := by
      rcases hnb with h | h
      · omega
      · exact h
    rw [show (f.p : Int) - 1 = ((f.p - 1 : Nat) : Int) by have := hf.2; omega, ← FP.Core.units_below] at hnb2
    unfold FP.Core.unitsNum FP.Core.unitsDen at hnb2 hm
    unfold FP.Core.roundAt FP.Core.unitsNum FP.Core.unitsDen at hr
    rw [show (0 - r).toNat = 0 by omega, show (r - 0).toNat = r.toNat by omega, Nat.pow_zero, Nat.mul_one, Nat.one_mul] at hnb2 hm hr
    have hle : 2 ^ (f.p - 1 + r.toNat) ≤ 2 ^ 63 := by rw [Nat.pow_add]; omega
    have hle2 := (Nat.pow_le_pow_iff_right (by decide : 1 < 2)).mp hle
    have hup : FP.Core.nearest v.natAbs (2 ^ r.toNat) ≤ 2 ^ (63 - r.toNat) := by
      refine FP.Core.nearest_le (Nat.two_pow_pos _) ?_
      rw [← Nat.pow_add, show 63 - r.toNat + r.toNat = 63 by omega]; exact hv
    have hlo : 1 ≤ FP.Core.nearest v.natAbs (2 ^ r.toNat) := by
      refine FP.Core.nearest_ge (Nat.two_pow_pos _) ?_
      rw [Nat.one_mul]
      have := Nat.two_pow_pos (f.p - 1)
      have := Nat.le_mul_of_pos_left (2 ^ r.toNat) this
      omega
    obtain ⟨ht, hval⟩ := FP.Core.settle_value hf (e0 := 0) hm hr (by omega)
    have hqge : r ≤ q := by
      unfold FP.Core.settle FP.Core.bound at hr
      split at hr <;> split at hr <;> first | (cases hr; omega) | cases hr
    unfold FP.Core.inUnits at hval
    rw [show (q - 0).toNat = q.toNat by omega, show (r - 0).toNat = r.toNat by omega] at hval
    refine ⟨FP.Core.signed s (c * 2 ^ q.toNat), ?_, ?_, ?_⟩
    · rw [Ne, FP.Core.signed_eq_zero, hval]
      have := Nat.mul_pos hlo (Nat.two_pow_pos r.toNat)
      omega
    · rw [FP.Core.natAbs_signed, hval]
      calc _ ≤ 2 ^ (63 - r.toNat) * 2 ^ r.toNat := Nat.mul_le_mul_right _ hup
        _ = 2 ^ 63 := by rw [← Nat.pow_add]; congr 1; omega
    · rw [hr2]
      show FP.Core.signed s (c * 2 ^ q.toNat) = FP.Core.signed s (c * 2 ^ q.toNat) * _
      rw [show (-q).toNat = 0 by omega]; simp

theorem fp_L (v : Int64) : v.toInt.natAbs ≤ 2 ^ 63 := by
  have := v.toInt_lt; have := v.le_toInt; omega

theorem fp_0 {v : Int64} (h : v ≠ 0) : v.toInt ≠ 0 := fun e => h (by
  rw [← Int64.ofInt_toInt v, e]; rfl)

theorem fp_D {v : Int64} (h : v ≠ 0) : ∃ i : Int, i ≠ 0 ∧ i.natAbs ≤ 2 ^ 63 ∧ FP.Core.Whole i (FP.Core.val64 (FP.Core.l2d v)) := by
  have := FP.Core.l2d_fin v
  unfold FP.Core.DFin at this
  rw [FP.Core.val64_l2d] at this ⊢
  exact fp_A FP.Core.good_b64 FP.Core.wide_b64 (fp_L v) (fp_0 h) this (by decide)

theorem fp_F {v : Int64} (h : v ≠ 0) : ∃ i : Int, i ≠ 0 ∧ i.natAbs ≤ 2 ^ 63 ∧ FP.Core.Whole i (FP.Core.val32 (FP.Core.l2f v)) := by
  have := FP.Core.l2f_fin v
  unfold FP.Core.FFin at this
  rw [FP.Core.val32_l2f] at this ⊢
  exact fp_A FP.Core.good_b32 FP.Core.wide_b32 (fp_L v) (fp_0 h) this (by decide)

/-- widening is exact -/
theorem fp_W {i : Int} {a : UInt32} (h : FP.Core.Whole i (FP.Core.val32 a)) : FP.Core.Whole i (FP.Core.val64 (FP.Core.f2d a)) := by
  rw [FP.Core.val64_f2d]
  have hft := FP.Core.val32_fits a
  cases hd : FP.Core.val32 a with
  | nan => rw [hd] at h; exact h.elim
  | inf => rw [hd] at h; exact h.elim
  | fin s c q =>
    rw [hd] at h hft
    obtain ⟨c', q', hfit, hz, hv⟩ := FP.Core.within_fit FP.Core.good_b64 (by unfold FP.Core.Within; decide) hft
    have h1 : FP.Core.round FP.Core.b64 (.fin s c q) = .fin s c' q' := FP.Core.roundRatio_exact FP.Core.good_b64 (by decide) hfit hv
    rw [h1]
    show FP.Core.signed s (c' * 2 ^ q'.toNat) = i * _
    have hw : FP.Core.signed s (c * 2 ^ q.toNat) = i * ((2 ^ (-q).toNat : Nat) : Int) := h
    rw [Nat.mul_one] at hv
    have hk : (q - q').toNat + (-q).toNat + q'.toNat = (q' - q).toNat + (-q').toNat + q.toNat := by omega
    have p1 : (0 : Int) < ((2 ^ ((q' - q).toNat + (-q).toNat) : Nat) : Int) := by
      have := Nat.two_pow_pos ((q' - q).toNat + (-q).toNat); omega
    refine (Int.mul_eq_mul_right_iff (Int.ne_of_gt p1)).mp ?_
    rw [← FP.Core.signed_mul]
    have e1 : c' * 2 ^ q'.toNat * 2 ^ ((q' - q).toNat + (-q).toNat) = c * 2 ^ q.toNat * 2 ^ ((q - q').toNat + (-q).toNat + q'.toNat - q.toNat) := by
      rw [Nat.pow_add]
      calc _ = c' * 2 ^ (q' - q).toNat * (2 ^ q'.toNat * 2 ^ (-q).toNat) := by ac_rfl
        _ = c * 2 ^ (q - q').toNat * (2 ^ q'.toNat * 2 ^ (-q).toNat) := by rw [hv]
        _ = c * 2 ^ ((q - q').toNat + (-q).toNat + q'.toNat) := by simp only [Nat.pow_add]; ac_rfl
        _ = c * 2 ^ (q.toNat + ((q - q').toNat + (-q).toNat + q'.toNat - q.toNat)) := by congr 2; omega
        _ = _ := by rw [Nat.pow_add]; ac_rfl
    rw [e1, FP.Core.signed_mul, hw, Int.mul_assoc, Int.mul_assoc, ← Int.natCast_mul, ← Int.natCast_mul, ← Nat.pow_add, ← Nat.pow_add,
      show (-q).toNat + ((q - q').toNat + (-q).toNat + q'.toNat - q.toNat) = (-q').toNat + ((q' - q).toNat + (-q).toNat) by omega]

def fp_c (i : Int) : Int := if i = 2 ^ 63 then 2 ^ 63 - 1 else i

theorem fp_T {i : Int} (hi : i.natAbs ≤ 2 ^ 63) {d : FP.Core.Datum} (h : FP.Core.Whole i d) : FP.Core.toInt (-2 ^ 63) (2 ^ 63 - 1) d = fp_c i := by
  cases d with
  | nan => exact h.elim
  | inf => exact h.elim
  | fin s c q =>
    show max _ (min _ (FP.Core.truncate s c q)) = _
    rw [FP.Core.truncate_whole h]
    unfold fp_c
    split <;> omega

theorem fp_d {i : Int} (hi : i.natAbs ≤ 2 ^ 63) {a : UInt64} (h : FP.Core.Whole i (FP.Core.val64 a)) : FP.Core.d2l a = .ofInt (fp_c i) := by
  show Int64.ofInt (FP.Core.toInt _ _ (FP.Core.val64 a)) = _
  rw [fp_T hi h]

theorem fp_f {i : Int} (hi : i.natAbs ≤ 2 ^ 63) {a : UInt32} (h : FP.Core.Whole i (FP.Core.val32 a)) : FP.Core.f2l a = .ofInt (fp_c i) := by
  show Int64.ofInt (FP.Core.toInt _ _ (FP.Core.val32 a)) = _
  rw [fp_T hi h]

theorem fp_ct {i : Int} (hi : i.natAbs ≤ 2 ^ 63) : (Int64.ofInt (fp_c i)).toInt = fp_c i := by
  refine Int64.toInt_ofInt_of_le ?_ ?_ <;> (unfold fp_c; split <;> omega)

theorem fp_b64 : FP.Core.val64 (FP.Core.l2d 9223372036854775807) = .fin false (2^52) 11 := by decide +kernel
theorem fp_b32 : FP.Core.val32 (FP.Core.l2f 9223372036854775807) = .fin false (2^23) 40 := by decide +kernel

theorem fp_Dw {i : Int} (hi : i.natAbs ≤ 2 ^ 63) (h0 : i ≠ 0) {a : UInt64} (h : FP.Core.Whole i (FP.Core.val64 a)) : FP.Core.l2d (.ofInt (fp_c i)) = a := by
  refine (FP.Core.val64_inj ?_ ?_).symm
  · intro e; rw [e] at h; exact h
  · by_cases hb : i = 2 ^ 63
    · subst hb
      rw [show Int64.ofInt (fp_c (2 ^ 63)) = 9223372036854775807 from rfl]
      refine FP.Core.whole_unique FP.Core.good_b64 (by decide) h ?_ (FP.Core.val64_fits _) (FP.Core.val64_fits _)
      rw [fp_b64]; exact (rfl : FP.Core.signed false (2 ^ 52 * 2 ^ 11) = 2 ^ 63 * 1)
    · rw [FP.Core.val64_l2d, fp_ct hi, show fp_c i = i by unfold fp_c; rw [if_neg hb]]
      cases hd : FP.Core.val64 a with
      | nan => rw [hd] at h; exact h.elim
      | inf => rw [hd] at h; exact h.elim
      | fin s c q =>
        have hft := FP.Core.val64_fits a
        rw [hd] at h hft
        rw [← FP.Core.round_of_fits FP.Core.good_b64 hft, FP.Core.round_whole h]
        show _ = FP.Core.round FP.Core.b64 (.fin _ _ _)
        rw [FP.Core.round_whole (FP.Core.whole_ofInt i), FP.Core.whole_sign h h0]

theorem fp_Fw {i : Int} (hi : i.natAbs ≤ 2 ^ 63) (h0 : i ≠ 0) {a : UInt32} (h : FP.Core.Whole i (FP.Core.val32 a)) : FP.Core.l2f (.ofInt (fp_c i)) = a := by
  refine (FP.Core.val32_inj ?_ ?_).symm
  · intro e; rw [e] at h; exact h
  · by_cases hb : i = 2 ^ 63
    · subst hb
      rw [show Int64.ofInt (fp_c (2 ^ 63)) = 9223372036854775807 from rfl]
      refine FP.Core.whole_unique FP.Core.good_b32 (by decide) h ?_ (FP.Core.val32_fits _) (FP.Core.val32_fits _)
      rw [fp_b32]; exact (rfl : FP.Core.signed false (2 ^ 23 * 2 ^ 40) = 2 ^ 63 * 1)
    · rw [FP.Core.val32_l2f, fp_ct hi, show fp_c i = i by unfold fp_c; rw [if_neg hb]]
      cases hd : FP.Core.val32 a with
      | nan => rw [hd] at h; exact h.elim
      | inf => rw [hd] at h; exact h.elim
      | fin s c q =>
        have hft := FP.Core.val32_fits a
        rw [hd] at h hft
        rw [← FP.Core.round_of_fits FP.Core.good_b32 hft, FP.Core.round_whole h]
        show _ = FP.Core.round FP.Core.b32 (.fin _ _ _)
        rw [FP.Core.round_whole (FP.Core.whole_ofInt i), FP.Core.whole_sign h h0]

theorem fp_g (v : Int64) : FP.f2d (FP.Core.l2f v) = FP.Core.f2d (FP.Core.l2f v) := by
  unfold FP.f2d
  rw [if_neg]
  rw [(FP.Core.l2f_fin v).notNaN]; decide

theorem fp_1 (v : Int64) : FP.Core.l2d (FP.Core.d2l (FP.Core.l2d v)) = FP.Core.l2d v := by
  by_cases h : v = 0
  · subst h; decide +kernel
  · obtain ⟨i, h0, hi, hw⟩ := fp_D h
    rw [fp_d hi hw]; exact fp_Dw hi h0 hw

theorem fp_2 (v : Int64) : FP.Core.l2f (FP.Core.d2l (FP.f2d (FP.Core.l2f v))) = FP.Core.l2f v := by
  by_cases h : v = 0
  · subst h; decide +kernel
  · obtain ⟨i, h0, hi, hw⟩ := fp_F h
    rw [fp_g, fp_d hi (fp_W hw)]; exact fp_Fw hi h0 hw

theorem fp_3 (v : Int64) : FP.Core.l2d (FP.Core.d2l (FP.f2d (FP.Core.l2f v))) = FP.f2d (FP.Core.l2f v) := by
  by_cases h : v = 0
  · subst h; decide +kernel
  · obtain ⟨i, h0, hi, hw⟩ := fp_F h
    rw [fp_g, fp_d hi (fp_W hw)]; exact fp_Dw hi h0 (fp_W hw)

theorem fp_4 (v : Int64) : FP.Core.f2l (FP.Core.l2f v) = FP.Core.d2l (FP.f2d (FP.Core.l2f v)) := by
  by_cases h : v = 0
  · subst h; decide +kernel
  · obtain ⟨i, h0, hi, hw⟩ := fp_F h
    rw [fp_g, fp_d hi (fp_W hw), fp_f hi hw]

theorem fp_n (v : Int64) : FP.Core.dIsNaN (FP.f2d (FP.Core.l2f v)) = false := by
  rw [fp_g, FP.Core.f2d_nan]; exact (FP.Core.l2f_fin v).notNaN
