section PRo
def zH : Hp := (fun _ _ => 0, fun _ _ => 0, fun _ _ => 0, fun _ _ => none)
def k0_ : Kd := fun _ => (0, 0)
def cI_ : Option Hp := fX9_init (up_K k0_ 0 (8, 0)) 1 0 (nw_ zH 0)
def rI_ : Option Hp := fX10_init (up_K k0_ 0 (9, 0)) 1 0 (nw_ zH 0)
theorem cI_s : cI_.isSome = true := by decide +kernel
theorem rI_s_ : rI_.isSome = true := by decide +kernel
def c0_ : Hp := cI_.getD zH
def r0_ : Hp := rI_.getD zH
theorem c0_e : fX9_init (up_K k0_ 0 (8, 0)) 1 0 (nw_ zH 0) = some c0_ := by
  have h := cI_s
  unfold c0_
  unfold cI_ at h ⊢
  revert h
  generalize fX9_init (up_K k0_ 0 (8, 0)) 1 0 (nw_ zH 0) = o
  intro h
  cases o with
  | none => cases h
  | some x => rfl
theorem r0_e : fX10_init (up_K k0_ 0 (9, 0)) 1 0 (nw_ zH 0) = some r0_ := by
  have h := rI_s_
  unfold r0_
  unfold rI_ at h ⊢
  revert h
  generalize fX10_init (up_K k0_ 0 (9, 0)) 1 0 (nw_ zH 0) = o
  intro h
  cases o with
  | none => cases h
  | some x => rfl
theorem c0_R : ∀ a, a < 105 → ∀ k, k < 20 → g_R c0_ a k = wC 0 (fun _ => none) a k := by decide +kernel
theorem c0_3 : ∀ k, k < 12 → g_I c0_ 3 k = mO ∧ g_I r0_ 1 k = mO ∧ g_I c0_ 4 k = nI 0 := by decide +kernel
end PRo
