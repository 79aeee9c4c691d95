/-! ===== the law's calls: two worlds side by side ===== -/
theorem l_call {ρ' : Type} {M M' : Mi} {e2 : ρ' → Rs} {κ : Kd} {n lim pc cells B : Nat} {as st : List Value} {h : Hp} {q' : ρ'} {γ : Gm} {ad : Nat → Nat} {A : Nat → Prop} {p : Program} {l : Launch} {e' : Env} {s : State} {m : MethodId} {args : Array Value} {below : List Frame} {meth : Method} {c : Code} {H : Heap} {locs : List Loc} {ls : Array Slot} {Q : State → Prop}
    (hF : Fx_ M γ ad A p s m args meth c) (hW : Wd_ γ ad B A κ n lim h H) (hS : va_S A s.heap H locs) (hl : ls.size = mL M) (hR : Rn_ M M' pc κ as st) (hC : Ct_ M' as κ n lim h e2 (some q'))
    (hx : cells + (mR M').cells ≤ (mR M).cells ∧ 450 * cells + (mR M').slots ≤ (mR M).slots ∧ (mR M').slots = 450 * (mR M').cells)
    (k : ∀ H' locs', Wd_ γ ad B A (e2 q').2.2.1 (e2 q').2.2.2 lim (e2 q').2.1 H' → va_S A s.heap H' locs' → (∀ x : Nat, x < H.size → ¬ Aw_ ad B n x → H'[x]? = H[x]?) → W p l e' (mR M) s m args below meth c H' locs' (cells + (mR M').cells) (450 * (cells + (mR M').cells)) Q (F0 m (pc + 3) ls (((e2 q').1.toList ++ st).map (cv ad)))) :
    W p l e' (mR M) s m args below meth c H locs cells (450 * cells) Q (F0 m pc ls ((as.reverse ++ st).map (cv ad))) := by
  have hA1 := aw_in hF.2.2.2.2.2.2.2.2.2.2.1 hW hS
  have hrun := hR l γ ad B A p e' s m args below meth c H locs ls cells n lim h _ hF hW hS hl hx.1 hx.2.1 (hC q' rfl l γ ad B)
  intro T hT X
  obtain ⟨v, st₀, t, T', L', h0, X', hL', e1, e3, ⟨hv, hW', hFr⟩, hst⟩ := hrun T hT X
  have hS' : va_S A s.heap T'.heap (locs ++ L') := by
    rw [e1]
    refine ⟨Nat.le_trans hS.1 (by rw [← h0]; exact hFr.1), fun x h1 h2 => ?_, fun x hx => ?_⟩
    · rw [hFr.2 x (by rw [h0]; exact Nat.lt_of_lt_of_le h1 hS.1) (fun z => h2 (hA1 x z)), h0]
      exact hS.2.1 x h1 h2
    · rcases List.mem_append.mp hx with h3 | h3
      · exact hS.2.2 x h3
      · exact hA1 _ (hL' x h3)
  have hW2 : Wd_ γ ad B A (e2 q').2.2.1 (e2 q').2.2.2 lim (e2 q').2.1 T'.heap := by
    rw [e1]
    exact ⟨hW'.1, hW'.2.1.weaken (fun k x _ h2 => hA1 x.1 h2), hW'.2.2⟩
  have hk := k T'.heap (locs ++ L') hW2 hS' (fun x h1 h2 => by rw [e1, hFr.2 x (by rw [h0]; exact h1) h2, h0])
  rw [show 450 * (cells + (mR M').cells) = 450 * cells + (mR M').slots by rw [Nat.mul_add, hx.2.2]] at hk
  obtain ⟨t2, a1, b1⟩ := hk T' rfl X'
  refine ⟨t2, hst t2 ?_, b1⟩
  have hv2 : v = (e2 q').1.map (cv ad) := by injection hv
  rw [show (((e2 q').1.toList ++ st).map (cv ad)) = v.toList ++ st.map (cv ad) by rw [hv2, List.map_append]; cases (e2 q').1 <;> rfl] at a1
  exact a1
theorem wd_k {γ : Gm} {ad : Nat → Nat} {B B' n lim : Nat} {A : Nat → Prop} {κ : Kd} {h : Hp} {H H' : Heap} (hW : Wd_ γ ad B A κ n lim h H) (hk : ∀ a, a < n → H'[ad a]? = H[ad a]?) (hf : ∀ a, n ≤ a → a < lim → ad a = B' + a) (hz : H'.size = B' + n) : Wd_ γ ad B' A κ n lim h H' := by
  refine ⟨hW.1.kept (fun k q hq => ?_), hW.2.1, hW.2.2.1, hf, hz⟩
  have hl : k < n := by have := (List.getElem?_eq_some_iff.mp hq).1; rw [wl_len] at this; exact this
  rw [wl_get γ ad κ h hl] at hq
  cases hq
  exact hk k hl
def LW_ (γ : Gm) (adC adR : Nat → Nat) (S0 cnt : Nat) (c r : Hp) (H : Heap) : Prop := Wd_ γ adC (S0 + 40) (fun q => S0 ≤ q) (kC cnt) (105 + 8 * cnt) 300 c H ∧ Wd_ γ adR (S0 + 105 + 8 * cnt) (fun q => S0 ≤ q) kR 40 40 r H
def AD_ (S0 : Nat) (adC adR : Nat → Nat) : Prop := (∀ a, a < 105 → adC a = S0 + a) ∧ (∀ a, 105 ≤ a → a < 300 → adC a = S0 + 40 + a) ∧ (∀ a, a < 40 → adR a = S0 + 105 + a)
section LB
variable {ρ' : Type} {M M' : Mi} {e2 : ρ' → Rs} {pc cells cnt cnt' S0 : Nat} {as st : List Value} {c r : Hp} {q' : ρ'} {γ : Gm} {adC adR : Nat → Nat} {p : Program} {l : Launch} {e' : Env} {s : State} {m : MethodId} {args : Array Value} {below : List Frame} {meth : Method} {c0 : Code} {H : Heap} {locs : List Loc} {ls : Array Slot} {Q : State → Prop}
theorem l_C (hAD : AD_ S0 adC adR) (hF : Fx_ M γ adC (fun q => S0 ≤ q) p s m args meth c0) (hcnt : cnt ≤ 12) (hL : LW_ γ adC adR S0 cnt c r H) (hS : va_S (fun q => S0 ≤ q) s.heap H locs) (hl : ls.size = mL M) (hR : Rn_ M M' pc (kC cnt) as st) (hC : Ct_ M' as (kC cnt) (105 + 8 * cnt) 300 c e2 (some q')) (he : (e2 q').2.2.1 = kC cnt' ∧ (e2 q').2.2.2 = 105 + 8 * cnt')
    (hx : cells + (mR M').cells ≤ (mR M).cells ∧ 450 * cells + (mR M').slots ≤ (mR M).slots ∧ (mR M').slots = 450 * (mR M').cells)
    (k : ∀ H' locs', LW_ γ adC adR S0 cnt' (e2 q').2.1 r H' → va_S (fun q => S0 ≤ q) s.heap H' locs' → W p l e' (mR M) s m args below meth c0 H' locs' (cells + (mR M').cells) (450 * (cells + (mR M').cells)) Q (F0 m (pc + 3) ls (((e2 q').1.toList ++ st).map (cv adC)))) :
    W p l e' (mR M) s m args below meth c0 H locs cells (450 * cells) Q (F0 m pc ls ((as.reverse ++ st).map (cv adC))) := by
  refine l_call hF hL.1 hS hl hR hC hx (fun H' locs' hW' hS' hk => k H' locs' ⟨?_, ?_⟩ hS')
  · rw [he.1, he.2] at hW'; exact hW'
  · have hz := hW'.2.2.2.2
    rw [he.2] at hz
    have hz0 := hL.1.2.2.2.2
    refine wd_k hL.2 (fun a ha => hk _ ?_ ?_) (fun a h1 h2 => by omega) (by omega)
    · rw [hAD.2.2 a ha, hz0]; omega
    · rw [hAD.2.2 a ha]
      rintro (⟨x, hx, e⟩ | h)
      · by_cases hx1 : x < 105
        · rw [hAD.1 x hx1] at e; omega
        · rw [hAD.2.1 x (by omega) (by omega)] at e; omega
      · omega
theorem l_R (hAD : AD_ S0 adC adR) (hF : Fx_ M γ adR (fun q => S0 ≤ q) p s m args meth c0) (hcnt : cnt ≤ 12) (hL : LW_ γ adC adR S0 cnt c r H) (hS : va_S (fun q => S0 ≤ q) s.heap H locs) (hl : ls.size = mL M) (hR : Rn_ M M' pc kR as st) (hC : Ct_ M' as kR 40 40 r e2 (some q')) (he : (e2 q').2.2.1 = kR ∧ (e2 q').2.2.2 = 40)
    (hx : cells + (mR M').cells ≤ (mR M).cells ∧ 450 * cells + (mR M').slots ≤ (mR M).slots ∧ (mR M').slots = 450 * (mR M').cells)
    (k : ∀ H' locs', LW_ γ adC adR S0 cnt c (e2 q').2.1 H' → va_S (fun q => S0 ≤ q) s.heap H' locs' → W p l e' (mR M) s m args below meth c0 H' locs' (cells + (mR M').cells) (450 * (cells + (mR M').cells)) Q (F0 m (pc + 3) ls (((e2 q').1.toList ++ st).map (cv adR)))) :
    W p l e' (mR M) s m args below meth c0 H locs cells (450 * cells) Q (F0 m pc ls ((as.reverse ++ st).map (cv adR))) := by
  refine l_call hF hL.2 hS hl hR hC hx (fun H' locs' hW' hS' hk => k H' locs' ⟨?_, ?_⟩ hS')
  · have hz := hW'.2.2.2.2
    rw [he.2] at hz
    have hz0 := hL.1.2.2.2.2
    refine wd_k hL.1 (fun a ha => hk _ ?_ ?_) hL.1.2.2.2.1 (by omega)
    · by_cases hx1 : a < 105
      · rw [hAD.1 a hx1, hz0]; omega
      · rw [hAD.2.1 a (by omega) (by omega), hz0]; omega
    · rintro (⟨x, hx, e⟩ | h)
      · rw [hAD.2.2 x hx] at e
        by_cases hx1 : a < 105
        · rw [hAD.1 a hx1] at e; omega
        · rw [hAD.2.1 a (by omega) (by omega)] at e; omega
      · by_cases hx1 : a < 105
        · rw [hAD.1 a hx1] at h; omega
        · rw [hAD.2.1 a (by omega) (by omega)] at h; omega
  · rw [he.1, he.2] at hW'; exact hW'
end LB
