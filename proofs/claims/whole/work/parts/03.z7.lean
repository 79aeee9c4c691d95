/-! fewer locals, one order of them; the loops' measure; an answer that is a truth -/
section ZS
variable {ρ : Type} {M : Mi} {e : ρ → Rs} {ω : Ws} {pc : Nat} {L : List (Nat × Value)} {st : List Value} {h : Hp} {o : Option ρ}
theorem pick_cL (ad : Nat → Nat) (L : List (Nat × Value)) : ∀ ks : List Nat, lv_pick (cL_ ad L) ks = cL_ ad (lv_pick L ks)
  | [] => rfl
  | a :: t => by
    have ih := pick_cL ad L t
    unfold lv_pick at ih ⊢
    unfold cL_ at ih ⊢
    simp only [List.filterMap_cons, List.getElem?_map] at ih ⊢
    cases hx : L[a]? with
    | none => simpa using ih
    | some y => simpa using ih
theorem z_sub {L' : List (Nat × Value)} (ks : List Nat) (hl : lv_pick L ks = L') (k : ZQ M e ω pc L' st h o) : ZQ M e ω pc L st h o := by
  subst hl
  intro q hq l γ ad B A p e' s m args below meth c hF H locs ls hW hS hl0
  exact k q hq l γ ad B A p e' s m args below meth c hF H locs ls hW hS (lv_sub hl0 ks (pick_cL ad L ks))
end ZS
def fu_ : Nat := 1000
/-! a contract of a method that makes cells, at a call -/
section ZF
variable {ρ : Type} {M M' : Mi} {e : ρ → Rs} {κ : Kd} {n c lim pc : Nat} {L : List (Nat × Value)} {st as : List Value} {h : Hp}
theorem z_aV {κ' : Kd} {n' m : Nat} {o' : Option Hp} {K : Hp → Option ρ} (hR : Rn_ M M' pc κ as st) (hC : Ct_ M' as κ n lim h (eV κ' n') o') (hm : (mR M').cells = m) (hx : c + m ≤ (mR M).cells ∧ 450 * c + 450 * m ≤ (mR M).slots ∧ (mR M').slots = 450 * m) (k : ∀ h1, ZQ M e (κ', n', c + m, lim) (pc + 3) L st h1 (K h1)) : ZQ M e (κ, n, c, lim) pc L (as.reverse ++ st) h (o'.bind K) := by
  subst hm
  exact z_call (ω := (κ, n, c, lim)) hR hC ⟨hx.1, by rw [hx.2.2]; exact hx.2.1, hx.2.2⟩ (fun q' => k q')
/-- an answer with the world's new shape -/
def eA : Int32 × Hp × Kd × Nat → Rs := fun q => (some (.int q.1), q.2.1, q.2.2.1, q.2.2.2)
theorem z_aI {m : Nat} {o' : Option (Int32 × Hp × Kd × Nat)} {K : Int32 × Hp × Kd × Nat → Option ρ} (hR : Rn_ M M' pc κ as st) (hC : Ct_ M' as κ n lim h eA o') (hm : (mR M').cells = m) (hx : c + m ≤ (mR M).cells ∧ 450 * c + 450 * m ≤ (mR M).slots ∧ (mR M').slots = 450 * m) (k : ∀ q : Int32 × Hp × Kd × Nat, ZQ M e (q.2.2.1, q.2.2.2, c + m, lim) (pc + 3) L (.int q.1 :: st) q.2.1 (K q)) : ZQ M e (κ, n, c, lim) pc L (as.reverse ++ st) h (o'.bind K) := by
  subst hm
  exact z_call (ω := (κ, n, c, lim)) hR hC ⟨hx.1, by rw [hx.2.2]; exact hx.2.1, hx.2.2⟩ (fun q' => k q')
end ZF
def mt_ {ρ : Type} (r : Option Nat) (o1 : Option ρ) (o2 : Nat → Option ρ) : Option ρ := match r with
  | none => o1
  | some a => o2 a
section ZX
variable {ρ : Type} {M : Mi} {e : ρ → Rs} {κ : Kd} {n c lim pc : Nat} {L : List (Nat × Value)} {st : List Value} {h : Hp} {o : Option ρ}
theorem z_max {i : Nat} {x y : Int32} (d : decode (mC M) pc = .ok (.invokestatic i, 3)) (hw : Cond.methodLink (mY M).cls i Lib.Math.max.name ∈ TO_ ∧ Cond.static Lib.Math.max.name ∈ TO_ ∧ Cond.initialized "java/lang/Math" ∈ TO_ ∧ Cond.code Lib.Math.max.name Lib.Math.max.code 2 (some .int) ∈ TO_) (hr : 1 ≤ (mR M).frames ∧ (st.map fun v => v.category).sum + 13 ≤ (mR M).locals) (k : ZQ M e (κ, n, 0, lim) (pc + 3) L (.int (if x < y then y else x) :: st) h o) : ZQ M e (κ, n, 0, lim) pc L (.int y :: .int x :: st) h o := by
  intro q hq l γ ad B A p e' s mm args below meth c0 hF H locs ls hW hS hl
  exact va_mmax hF.1 hF.2.1 (by rw [hF.2.2.1]; exact hl.1.symm) hF.2.2.2.2.2.2.1 (TO_w hF _ hw.1) (TO_w hF _ hw.2.1) (TO_w hF _ hw.2.2.1) (TO_w hF _ hw.2.2.2) hr.1 (by rw [cat_sum]; exact hr.2) (Nat.zero_le _) (by show 450 * 0 ≤ _; simp) d (k q hq l γ ad B A p e' s mm args below meth c0 hF H locs ls hW hS hl)
theorem z_ifnullM {r : Option Nat} {off : Int} {tgt : Nat} {o1 : Option ρ} {o2 : Nat → Option ρ} (d : decode (mC M) pc = .ok (.ifnull off, 3)) (ht : (pc : Int) + off = (tgt : Int)) (k1 : r = none → ZQ M e (κ, n, c, lim) tgt L st h o1) (k2 : ∀ a, r = some a → ZQ M e (κ, n, c, lim) (pc + 3) L st h (o2 a)) : ZQ M e (κ, n, c, lim) pc L (va_rf r :: st) h (mt_ r o1 o2) := by
  cases r with
  | none => exact z_ifnull d ht k1 k2
  | some a => exact z_ifnull d ht k1 k2
theorem z_ifnonnullM {r : Option Nat} {off : Int} {tgt : Nat} {o1 : Option ρ} {o2 : Nat → Option ρ} (d : decode (mC M) pc = .ok (.ifnonnull off, 3)) (ht : (pc : Int) + off = (tgt : Int)) (k1 : r = none → ZQ M e (κ, n, c, lim) (pc + 3) L st h o1) (k2 : ∀ a, r = some a → ZQ M e (κ, n, c, lim) tgt L st h (o2 a)) : ZQ M e (κ, n, c, lim) pc L (va_rf r :: st) h (mt_ r o1 o2) := by
  cases r with
  | none => exact z_ifnonnull d ht k1 k2
  | some a => exact z_ifnonnull d ht k1 k2
theorem mx_X4_117 : Cond.methodLink RX4 117 Lib.Math.max.name ∈ TO_ ∧ Cond.static Lib.Math.max.name ∈ TO_ ∧ Cond.initialized "java/lang/Math" ∈ TO_ ∧ Cond.code Lib.Math.max.name Lib.Math.max.code 2 (some .int) ∈ TO_ := ⟨(TO_in (List.mem_of_getElem? (i := 556) (by decide +kernel)) (by decide +kernel)), (TO_in (List.mem_of_getElem? (i := 557) (by decide +kernel)) (by decide +kernel)), (TO_in (List.mem_of_getElem? (i := 74) (by decide +kernel)) (by decide +kernel)), (TO_in (List.mem_of_getElem? (i := 558) (by decide +kernel)) (by decide +kernel))⟩

end ZX
