section PSb
theorem nwI (h : Hp) (a b j : Nat) : g_I (nw_ h a) b j = if b = a then 0 else g_I h b j := rfl
theorem nwJ (h : Hp) (a b j : Nat) : g_J (nw_ h a) b j = if b = a then 0 else g_J h b j := rfl
theorem nwD (h : Hp) (a b j : Nat) : g_D (nw_ h a) b j = if b = a then 0 else g_D h b j := rfl
theorem nwR (h : Hp) (a b j : Nat) : g_R (nw_ h a) b j = if b = a then none else g_R h b j := rfl
theorem sRR (h : Hp) (a k b j : Nat) (v : Option Nat) : g_R (s_R h a k v) b j = if b = a ∧ j = k then v else g_R h b j := by
  by_cases e : b = a
  · subst e
    by_cases e2 : j = k
    · subst e2; rw [rR_s, if_pos ⟨rfl, rfl⟩]
    · rw [rR_k _ _ _ _ e2, if_neg (fun h => e2 h.2)]
  · rw [rR_a _ _ _ _ e, if_neg (fun h => e h.1)]
/-- the heap with a new routine, in steps -/
def rtS (c : Hp) (n : Nat) : Nat → Hp
  | 0 => nw_ c n
  | j + 1 => s_R (nw_ (rtS c n j) (n + (j + 1))) n (j + 1) (some (n + (j + 1)))
theorem rtS_I {c : Hp} {n a j : Nat} (h : a < n ∨ n + 8 ≤ a) : ∀ m, m < 8 → g_I (rtS c n m) a j = g_I c a j
  | 0, _ => by rw [rtS, nwI, if_neg (by omega)]
  | m + 1, hm => by rw [rtS, rIR, nwI, if_neg (by omega), rtS_I h m (by omega)]
theorem rtS_J {c : Hp} {n a j : Nat} (h : a < n ∨ n + 8 ≤ a) : ∀ m, m < 8 → g_J (rtS c n m) a j = g_J c a j
  | 0, _ => by rw [rtS, nwJ, if_neg (by omega)]
  | m + 1, hm => by rw [rtS, rJR, nwJ, if_neg (by omega), rtS_J h m (by omega)]
theorem rtS_D {c : Hp} {n a j : Nat} (h : a < n ∨ n + 8 ≤ a) : ∀ m, m < 8 → g_D (rtS c n m) a j = g_D c a j
  | 0, _ => by rw [rtS, nwD, if_neg (by omega)]
  | m + 1, hm => by rw [rtS, rDR, nwD, if_neg (by omega), rtS_D h m (by omega)]
theorem rtS_R {c : Hp} {n a j : Nat} (h : a < n) : ∀ m, g_R (rtS c n m) a j = g_R c a j
  | 0 => by rw [rtS, nwR, if_neg (by omega)]
  | m + 1 => by rw [rtS, sRR, if_neg (by omega), nwR, if_neg (by omega), rtS_R h m]
theorem rtS_0 {c : Hp} {n j : Nat} : ∀ m, g_R (rtS c n m) n j = if 1 ≤ j ∧ j ≤ m then some (n + j) else none
  | 0 => by rw [rtS, nwR, if_pos rfl, if_neg (by omega)]
  | m + 1 => by
    rw [rtS, sRR]
    by_cases e : j = m + 1
    · subst e; rw [if_pos ⟨rfl, rfl⟩, if_pos (by omega)]
    · rw [if_neg (fun h => e h.2), nwR, if_neg (by omega), rtS_0 m]
      by_cases h : 1 ≤ j ∧ j ≤ m
      · rw [if_pos h, if_pos (by omega)]
      · rw [if_neg h, if_neg (by omega)]
theorem rtS_1 {c : Hp} {n i j : Nat} (h1 : 1 ≤ i) : ∀ m, i ≤ m → g_R (rtS c n m) (n + i) j = none
  | 0, h => by omega
  | m + 1, h => by
    rw [rtS, sRR, if_neg (by omega), nwR]
    by_cases e : i = m + 1
    · subst e; rw [if_pos rfl]
    · rw [if_neg (by omega), rtS_1 h1 m (by omega)]
theorem rtS_z {c : Hp} {n j : Nat} {i : Nat} : ∀ m, i ≤ m → g_I (rtS c n m) (n + i) j = 0
  | 0, h => by rw [rtS, nwI, if_pos (by omega)]
  | m + 1, h => by
    rw [rtS, rIR, nwI]
    by_cases e : i = m + 1
    · subst e; rw [if_pos rfl]
    · rw [if_neg (by omega), rtS_z m (by omega)]
end PSb
