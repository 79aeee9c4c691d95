/-! ===== puts, arrays, statics, ends ===== -/
def lt_ {α β : Type} (x : α) (f : α → β) : β := f x
section ZA
variable {ρ : Type} {M : Mi} {e : ρ → Rs} {ω : Ws} {pc : Nat} {L : List (Nat × Value)} {st : List Value} {h : Hp} {o : Option ρ}
variable {γ : Gm} {ad : Nat → Nat} {B n lim : Nat} {A : Nat → Prop} {κ : Kd} {H H1 : Heap}
/-- a final field in its own class's constructor -/
def Fin_ (M : Mi) (i c f : Nat) (fin : Bool) : Prop := fin = false ∨ fin = true ∧ (mY M).name = "<init>" ∧ ∃ q, vwCl[c]? = some q ∧ q.1 = (mY M).cls ∧ Cond.fieldLink (mY M).cls i q.1 (q.2.1 f).2.1 (q.2.1 f).2.2.1 ∈ TO_
theorem tc_0 {ty : FieldType} (ht : tc_ ty = 0) : ty = .int := by cases ty <;> simp [tc_] at ht ⊢
theorem tc_1 {ty : FieldType} (ht : tc_ ty = 1) : ty = .long := by cases ty <;> simp [tc_] at ht ⊢
theorem tc_3 {ty : FieldType} (ht : tc_ ty = 3) : ty = .boolean := by cases ty <;> simp [tc_] at ht ⊢
theorem tc_2 {ty : FieldType} (ht : tc_ ty = 2) : (∃ C, ty = .object C) ∨ ∃ t, ty = .array t := by cases ty <;> simp [tc_] at ht ⊢
theorem z_putI {i c f a : Nat} {x : Int32} {fin : Bool} {F : Hp → Option ρ} (d : decode (mC M) pc = .ok (.putfield i, 3)) (hL : FL (mY M).cls i c f 0 fin) (hfi : Fin_ M i c f fin) (hk : (ω.1 a).1 = c + 1) (k : ∀ h1, ZQ M e ω (pc + 3) L st h1 (F h1)) : ZQ M e ω pc L (.int x :: .ref a :: st) h (lt_ (s_I h a f x) F) :=
  z_put d hL hfi hk (fun ad ty ht => by rw [tc_0 ht]; exact ⟨rfl, rfl⟩) (fun ad => by simp [fv_, s_I, g_I, up2]; rfl) (fun ad j u hj => fv_sI ad h a f x a j u (Or.inr (Or.inl hj))) (fun γ ad κ b hb => ce_sI γ ad κ h a f x hb) (k (s_I h a f x))
theorem z_putZ {i c f a : Nat} {x : Int32} {fin : Bool} {F : Hp → Option ρ} (d : decode (mC M) pc = .ok (.putfield i, 3)) (hL : FL (mY M).cls i c f 3 fin) (hfi : Fin_ M i c f fin) (hx : narrow .boolean (.int x) = .int x ∧ fits .boolean (.int x) = true) (hk : (ω.1 a).1 = c + 1) (k : ∀ h1, ZQ M e ω (pc + 3) L st h1 (F h1)) : ZQ M e ω pc L (.int x :: .ref a :: st) h (lt_ (s_I h a f x) F) :=
  z_put d hL hfi hk (fun ad ty ht => by rw [tc_3 ht]; exact hx) (fun ad => by simp [fv_, s_I, g_I, up2]; rfl) (fun ad j u hj => fv_sI ad h a f x a j u (Or.inr (Or.inl hj))) (fun γ ad κ b hb => ce_sI γ ad κ h a f x hb) (k (s_I h a f x))
theorem z_putJ {i c f a : Nat} {x : Int64} {fin : Bool} {F : Hp → Option ρ} (d : decode (mC M) pc = .ok (.putfield i, 3)) (hL : FL (mY M).cls i c f 1 fin) (hfi : Fin_ M i c f fin) (hk : (ω.1 a).1 = c + 1) (k : ∀ h1, ZQ M e ω (pc + 3) L st h1 (F h1)) : ZQ M e ω pc L (.long x :: .ref a :: st) h (lt_ (s_J h a f x) F) :=
  z_put d hL hfi hk (fun ad ty ht => by rw [tc_1 ht]; exact ⟨rfl, rfl⟩) (fun ad => by simp [fv_, s_J, g_J, up2]; rfl) (fun ad j u hj => fv_sJ ad h a f x a j u (Or.inr (Or.inl hj))) (fun γ ad κ b hb => ce_sJ γ ad κ h a f x hb) (k (s_J h a f x))
theorem z_putR {i c f a b : Nat} {fin : Bool} {F : Hp → Option ρ} (d : decode (mC M) pc = .ok (.putfield i, 3)) (hL : FL (mY M).cls i c f 2 fin) (hfi : Fin_ M i c f fin) (hk : (ω.1 a).1 = c + 1) (k : ∀ h1, ZQ M e ω (pc + 3) L st h1 (F h1)) : ZQ M e ω pc L (.ref b :: .ref a :: st) h (lt_ (s_R h a f (some b)) F) :=
  z_put d hL hfi hk (fun ad ty ht => by rcases tc_2 ht with ⟨C, rfl⟩ | ⟨t, rfl⟩ <;> exact ⟨rfl, rfl⟩) (fun ad => by simp [fv_, s_R, g_R, up2, va_rf]; rfl) (fun ad j u hj => fv_sR ad h a f (some b) a j u (Or.inr (Or.inl hj))) (fun γ ad κ b' hb => ce_sR γ ad κ h a f (some b) hb) (k (s_R h a f (some b)))
theorem cl_n (i : Int32) : i.toNatClampNeg = i.toInt.toNat := rfl
theorem in_of {i : Int32} {n : Nat} (hi : 0 ≤ i.toInt ∧ i.toInt < (n : Int)) : vp_in i n := vp_in_iff.mpr hi
def a_I (κ : Kd) (h : Hp) (b : Nat) (i : Int32) (f : Int32 → Option ρ) : Option ρ := if 0 ≤ i.toInt ∧ i.toInt < ((κ b).2 : Int) then f (g_I h b i.toInt.toNat) else none
def a_J (κ : Kd) (h : Hp) (b : Nat) (i : Int32) (f : Int64 → Option ρ) : Option ρ := if 0 ≤ i.toInt ∧ i.toInt < ((κ b).2 : Int) then f (g_J h b i.toInt.toNat) else none
def a_D (κ : Kd) (h : Hp) (b : Nat) (i : Int32) (f : UInt64 → Option ρ) : Option ρ := if 0 ≤ i.toInt ∧ i.toInt < ((κ b).2 : Int) then f (g_D h b i.toInt.toNat) else none
def a_R (κ : Kd) (h : Hp) (b : Nat) (i : Int32) (kd : Nat) (f : Nat → Option ρ) : Option ρ := if 0 ≤ i.toInt ∧ i.toInt < ((κ b).2 : Int) then to_ κ (g_R h b i.toInt.toNat) kd f else none
def w_I (κ : Kd) (h : Hp) (b : Nat) (i : Int32) (x : Int32) (f : Hp → Option ρ) : Option ρ := if 0 ≤ i.toInt ∧ i.toInt < ((κ b).2 : Int) then f (s_I h b i.toInt.toNat x) else none
def w_J (κ : Kd) (h : Hp) (b : Nat) (i : Int32) (x : Int64) (f : Hp → Option ρ) : Option ρ := if 0 ≤ i.toInt ∧ i.toInt < ((κ b).2 : Int) then f (s_J h b i.toInt.toNat x) else none
def w_D (κ : Kd) (h : Hp) (b : Nat) (i : Int32) (x : UInt64) (f : Hp → Option ρ) : Option ρ := if 0 ≤ i.toInt ∧ i.toInt < ((κ b).2 : Int) then f (s_D h b i.toInt.toNat x) else none
def w_R (κ : Kd) (h : Hp) (b : Nat) (i : Int32) (x : Nat) (f : Hp → Option ρ) : Option ρ := if 0 ≤ i.toInt ∧ i.toInt < ((κ b).2 : Int) then f (s_R h b i.toInt.toNat (some x)) else none
theorem z_iald {b : Nat} {i : Int32} {F : Int32 → Option ρ} (d : decode (mC M) pc = .ok (.iaload, 1)) (hk : (ω.1 b).1 = 50) (k : ∀ v, ZQ M e ω (pc + 1) L (.int v :: st) h (F v)) : ZQ M e ω pc L (.int i :: .ref b :: st) h (a_I ω.1 h b i F) := by
  refine z_or (fun P => ?_)
  intro q hq l γ ad B A p e' s m args below meth c hF H locs ls hW hS hl
  obtain ⟨hb, he⟩ := wd_ar hW (Nat.le_refl 50) hk
  exact va_iald hF.1 hF.2.1 hF.2.2.2.2.2.2.2.2.1 hW.1 b 0 he rfl (in_of P) d (k _ q hq l γ ad B A p e' s m args below meth c hF H locs ls hW hS hl)
theorem z_zald {b : Nat} {i : Int32} {F : Int32 → Option ρ} (d : decode (mC M) pc = .ok (.baload, 1)) (hk : (ω.1 b).1 = 53) (k : ∀ v, ZQ M e ω (pc + 1) L (.int v :: st) h (F v)) : ZQ M e ω pc L (.int i :: .ref b :: st) h (a_I ω.1 h b i F) := by
  refine z_or (fun P => ?_)
  intro q hq l γ ad B A p e' s m args below meth c hF H locs ls hW hS hl
  obtain ⟨hb, he⟩ := wd_ar hW (show 50 ≤ 53 by decide) hk
  exact va_zald hF.1 hF.2.1 hF.2.2.2.2.2.2.2.2.1 hW.1 b 3 he rfl (in_of P) d (k _ q hq l γ ad B A p e' s m args below meth c hF H locs ls hW hS hl)
theorem z_lald {b : Nat} {i : Int32} {F : Int64 → Option ρ} (d : decode (mC M) pc = .ok (.laload, 1)) (hk : (ω.1 b).1 = 51) (k : ∀ v, ZQ M e ω (pc + 1) L (.long v :: st) h (F v)) : ZQ M e ω pc L (.int i :: .ref b :: st) h (a_J ω.1 h b i F) := by
  refine z_or (fun P => ?_)
  intro q hq l γ ad B A p e' s m args below meth c hF H locs ls hW hS hl
  obtain ⟨hb, he⟩ := wd_ar hW (show 50 ≤ 51 by decide) hk
  exact va_lald hF.1 hF.2.1 hF.2.2.2.2.2.2.2.2.1 hW.1 b 1 he rfl (in_of P) d (k _ q hq l γ ad B A p e' s m args below meth c hF H locs ls hW hS hl)
theorem z_dald {b : Nat} {i : Int32} {F : UInt64 → Option ρ} (d : decode (mC M) pc = .ok (.daload, 1)) (hk : (ω.1 b).1 = 52) (k : ∀ v, ZQ M e ω (pc + 1) L (.double v :: st) h (F v)) : ZQ M e ω pc L (.int i :: .ref b :: st) h (a_D ω.1 h b i F) := by
  refine z_or (fun P => ?_)
  intro q hq l γ ad B A p e' s m args below meth c hF H locs ls hW hS hl
  obtain ⟨hb, he⟩ := wd_ar hW (show 50 ≤ 52 by decide) hk
  exact va_dald hF.1 hF.2.1 hF.2.2.2.2.2.2.2.2.1 hW.1 b 2 he rfl (in_of P) d (k _ q hq l γ ad B A p e' s m args below meth c hF H locs ls hW hS hl)
/-- rows of references: the class's number and the place of its array class in tys_ -/
def RK (t : Nat) (j : Nat) (C : String) : Prop := 54 ≤ t ∧ ∀ γ : Gm, (tys_ γ)[j]? = some (γ.2 t, .object C)
theorem z_aald {t j kd b : Nat} {C : String} {i : Int32} {F : Nat → Option ρ} (d : decode (mC M) pc = .ok (.aaload, 1)) (hr : RK t j C) (hk : (ω.1 b).1 = t) (k : ∀ v, (ω.1 v).1 = kd → ZQ M e ω (pc + 1) L (.ref v :: st) h (F v)) : ZQ M e ω pc L (.int i :: .ref b :: st) h (a_R ω.1 h b i kd F) := by
  refine z_or (fun P => ?_)
  have k2 : ZQ M e ω (pc + 1) L (va_rf (g_R h b i.toInt.toNat) :: st) h (to_ ω.1 (g_R h b i.toInt.toNat) kd F) := z_toC k
  intro q hq l γ ad B A p e' s m args below meth c hF H locs ls hW hS hl
  obtain ⟨hb, he⟩ := wd_ar hW (Nat.le_trans (by decide) hr.1) hk
  have h1 : ar_ ad h b t (ω.1 b).2 = ((ω.1 b).2, .inr (.inr (.inr (.inr (fun k => (g_R h b k).map ad))))) := by
    have := hr.1
    unfold ar_
    rw [if_neg (by omega), if_neg (by omega), if_neg (by omega)]
  rw [h1] at he
  have k3 := k2 q hq l γ ad B A p e' s m args below meth c hF H locs ls hW hS hl
  rw [List.map_cons, cv_rf] at k3
  exact va_aldq hF.1 hF.2.1 hF.2.2.2.2.2.2.2.2.1 hW.1 b j he (hr.2 γ) (in_of P) d k3
theorem ar_at {a t N : Nat} {f f' : Nat → Value} (hb : ∀ cA, vp_cell cA (ar_ ad h a t N) = arrV cA N f) {cA : ClassId} {j : Nat} {x : Value} {h' : Hp} (hf : ∀ cA, vp_cell cA (ar_ ad h' a t N) = arrV cA N f') (hu : ∀ k, f' k = updV f j x k) (e1 : H1[ad a]? = some ((vp_cell cA (ar_ ad h a t N)).setSlot j x)) : H1[ad a]? = some (vp_cell cA (ar_ ad h' a t N)) := by
  rw [e1, hb, hf, arrV_store]
  congr 2
  funext k
  exact (hu k).symm
theorem z_ast_core {a t : Nat} (ht : 50 ≤ t) (hk : (ω.1 a).1 = t) {h' : Hp} (hW : Wd_ γ ad B A ω.1 ω.2.1 ω.2.2.2 h H) (he : H1[ad a]? = some (vp_cell (γ.2 t) (ar_ ad h' a t (ω.1 a).2))) (ho : ∀ b, b ≠ a → ce_ γ ad ω.1 h' b = ce_ γ ad ω.1 h b) (z : H1.size = H.size) (oq : ∀ q : Nat, q ≠ ad a → H1[q]? = H[q]?) : Wd_ γ ad B A ω.1 ω.2.1 ω.2.2.2 h' H1 := by
  refine wd_put hW (hW.2.2.1 a (by omega)) ?_ ho z oq
  unfold ce_
  rw [if_neg (by omega), hk]
  exact he
theorem z_iast {b : Nat} {i x : Int32} {F : Hp → Option ρ} (d : decode (mC M) pc = .ok (.iastore, 1)) (hk : (ω.1 b).1 = 50) (k : ∀ h1, ZQ M e ω (pc + 1) L st h1 (F h1)) : ZQ M e ω pc L (.int x :: .int i :: .ref b :: st) h (w_I ω.1 h b i x F) := by
  refine z_or (fun P => ?_)
  intro q hq l γ ad B A p e' s m args below meth c hF H locs ls hW hS hl
  obtain ⟨hb, he⟩ := wd_ar hW (Nat.le_refl 50) hk
  refine W.iast hF.1 hF.2.1 (hW.1 b _ he) ((hF.2.2.2.2.2.2.2.2.1.2 0 _ rfl).1 _ (fun j => .int (g_I h b j))) (fun q => by cases q) (by show ¬ (i < 0 ∨ (arrV _ _ _).slots.size ≤ _); rw [arrV_size]; exact in_of P) rfl rfl d fun H1 e1 z oq => ?_
  refine k _ q hq l γ ad B A p e' s m args below meth c hF H1 _ ls (z_ast_core (Nat.le_refl 50) hk hW (ar_at (f := fun j => .int (g_I h b j)) (f' := fun j => .int (g_I (s_I h b i.toInt.toNat x) b j)) (fun _ => rfl) (fun _ => rfl) (fun j => ?_) e1) (fun b' hb' => ce_sI γ ad ω.1 h b _ x hb') z oq) (hS.put z oq (wd_mem hW hb)) hl
  simp only [s_I, g_I, up2, updV, cl_n]
  by_cases hj : j = i.toNatClampNeg <;> simp [hj]
theorem z_zast {b : Nat} {i x : Int32} {F : Hp → Option ρ} (d : decode (mC M) pc = .ok (.bastore, 1)) (hx : narrow .boolean (.int x) = .int x) (hk : (ω.1 b).1 = 53) (k : ∀ h1, ZQ M e ω (pc + 1) L st h1 (F h1)) : ZQ M e ω pc L (.int x :: .int i :: .ref b :: st) h (w_I ω.1 h b i x F) := by
  refine z_or (fun P => ?_)
  intro q hq l γ ad B A p e' s m args below meth c hF H locs ls hW hS hl
  obtain ⟨hb, he⟩ := wd_ar hW (show 50 ≤ 53 by decide) hk
  refine W.zast hF.1 hF.2.1 (hW.1 b _ he) ((hF.2.2.2.2.2.2.2.2.1.2 3 _ rfl).1 _ (fun j => .int (g_I h b j))) (fun q => by cases q) (by show ¬ (i < 0 ∨ (arrV _ _ _).slots.size ≤ _); rw [arrV_size]; exact in_of P) rfl rfl d fun H1 e1 z oq => ?_
  rw [hx] at e1
  refine k _ q hq l γ ad B A p e' s m args below meth c hF H1 _ ls (z_ast_core (show 50 ≤ 53 by decide) hk hW (ar_at (f := fun j => .int (g_I h b j)) (f' := fun j => .int (g_I (s_I h b i.toInt.toNat x) b j)) (fun _ => rfl) (fun _ => rfl) (fun j => ?_) e1) (fun b' hb' => ce_sI γ ad ω.1 h b _ x hb') z oq) (hS.put z oq (wd_mem hW hb)) hl
  simp only [s_I, g_I, up2, updV, cl_n]
  by_cases hj : j = i.toNatClampNeg <;> simp [hj]
theorem z_last {b : Nat} {i : Int32} {x : Int64} {F : Hp → Option ρ} (d : decode (mC M) pc = .ok (.lastore, 1)) (hk : (ω.1 b).1 = 51) (k : ∀ h1, ZQ M e ω (pc + 1) L st h1 (F h1)) : ZQ M e ω pc L (.long x :: .int i :: .ref b :: st) h (w_J ω.1 h b i x F) := by
  refine z_or (fun P => ?_)
  intro q hq l γ ad B A p e' s m args below meth c hF H locs ls hW hS hl
  obtain ⟨hb, he⟩ := wd_ar hW (show 50 ≤ 51 by decide) hk
  refine W.last hF.1 hF.2.1 (hW.1 b _ he) ((hF.2.2.2.2.2.2.2.2.1.2 1 _ rfl).1 _ (fun j => .long (g_J h b j))) (fun q => by cases q) (by show ¬ (i < 0 ∨ (arrV _ _ _).slots.size ≤ _); rw [arrV_size]; exact in_of P) rfl rfl d fun H1 e1 z oq => ?_
  refine k _ q hq l γ ad B A p e' s m args below meth c hF H1 _ ls (z_ast_core (show 50 ≤ 51 by decide) hk hW (ar_at (f := fun j => .long (g_J h b j)) (f' := fun j => .long (g_J (s_J h b i.toInt.toNat x) b j)) (fun _ => rfl) (fun _ => rfl) (fun j => ?_) e1) (fun b' hb' => ce_sJ γ ad ω.1 h b _ x hb') z oq) (hS.put z oq (wd_mem hW hb)) hl
  simp only [s_J, g_J, up2, updV, cl_n]
  by_cases hj : j = i.toNatClampNeg <;> simp [hj]
theorem z_dast {b : Nat} {i : Int32} {x : UInt64} {F : Hp → Option ρ} (d : decode (mC M) pc = .ok (.dastore, 1)) (hk : (ω.1 b).1 = 52) (k : ∀ h1, ZQ M e ω (pc + 1) L st h1 (F h1)) : ZQ M e ω pc L (.double x :: .int i :: .ref b :: st) h (w_D ω.1 h b i x F) := by
  refine z_or (fun P => ?_)
  intro q hq l γ ad B A p e' s m args below meth c hF H locs ls hW hS hl
  obtain ⟨hb, he⟩ := wd_ar hW (show 50 ≤ 52 by decide) hk
  refine W.dast hF.1 hF.2.1 (hW.1 b _ he) ((hF.2.2.2.2.2.2.2.2.1.2 2 _ rfl).1 _ (fun j => .double (g_D h b j))) (fun q => by cases q) (by show ¬ (i < 0 ∨ (arrV _ _ _).slots.size ≤ _); rw [arrV_size]; exact in_of P) rfl rfl d fun H1 e1 z oq => ?_
  refine k _ q hq l γ ad B A p e' s m args below meth c hF H1 _ ls (z_ast_core (show 50 ≤ 52 by decide) hk hW (ar_at (f := fun j => .double (g_D h b j)) (f' := fun j => .double (g_D (s_D h b i.toInt.toNat x) b j)) (fun _ => rfl) (fun _ => rfl) (fun j => ?_) e1) (fun b' hb' => ce_sD γ ad ω.1 h b _ x hb') z oq) (hS.put z oq (wd_mem hW hb)) hl
  simp only [s_D, g_D, up2, updV, cl_n]
  by_cases hj : j = i.toNatClampNeg <;> simp [hj]
theorem z_aast {t j b v ci : Nat} {C : String} {q0 : vw_C} {i : Int32} {F : Hp → Option ρ} (d : decode (mC M) pc = .ok (.aastore, 1)) (hr : RK t j C) (hci : Cls_ ci q0) (hC : q0.1 = C) (hk : (ω.1 b).1 = t) (hv : (ω.1 v).1 = ci + 1) (k : ∀ h1, ZQ M e ω (pc + 1) L st h1 (F h1)) : ZQ M e ω pc L (.ref v :: .int i :: .ref b :: st) h (w_R ω.1 h b i v F) := by
  refine z_or (fun P => ?_)
  intro q hq l γ ad B A p e' s m args below meth c hF H locs ls hW hS hl
  obtain ⟨hb, he⟩ := wd_ar hW (Nat.le_trans (by decide) hr.1) hk
  have har : ∀ h0 : Hp, ar_ ad h0 b t (ω.1 b).2 = ((ω.1 b).2, .inr (.inr (.inr (.inr (fun k => (g_R h0 b k).map ad))))) := by
    intro h0
    have := hr.1
    unfold ar_
    rw [if_neg (by omega), if_neg (by omega), if_neg (by omega)]
  have hK := hF.2.2.2.2.2.2.2.2.1
  obtain ⟨hvn, hve⟩ := wd_ob hW hci.2.1 hv
  obtain ⟨r', hr', cellV, g1, g2, g3, -⟩ := hW.1 v _ hve
  have hcls := (hK.1 ci q0 hci.1).2
  rw [hC] at hcls
  obtain ⟨kA, comp, k1, k2, k3, -⟩ := (hK.2 j _ (hr.2 γ)).2
  have hcomp : comp = γ.1.1 ci := Option.some.inj (k3.symm.trans hcls.1)
  subst hcomp
  obtain ⟨kC, hkC, -⟩ := hcls.2
  have hN : (vp_cell (γ.2 t) (ar_ ad h b t (ω.1 b).2)).slots.size = (ω.1 b).2 := by rw [har h]; show (arrV _ _ _).slots.size = _; rw [arrV_size]
  have hcel : (vp_cell (γ.2 t) (ar_ ad h b t (ω.1 b).2)).cls = γ.2 t ∧ (vp_cell (γ.2 t) (ar_ ad h b t (ω.1 b).2)).vm = .none := by rw [har h]; exact ⟨rfl, rfl⟩
  refine W.aast hF.1 hF.2.1 (hW.1 b _ he) (fun q h => by rw [hcel.2] at h; cases h) (fun h => by rw [hcel.2] at h; cases h) (by rw [hcel.1]; exact k1) k2 rfl hkC ⟨fun z => (in_of P) (Or.inl z), by rw [hN]; exact Nat.not_le.mp fun z => (in_of P) (Or.inr z)⟩ g1 (fun q h => by rw [g3] at h; cases h) (by rw [g2]; exact hkC) (by rw [g2]; exact va_assign hcls) rfl rfl d fun H1 e1 z oq => ?_
  refine k _ q hq l γ ad B A p e' s m args below meth c hF H1 _ ls (z_ast_core (Nat.le_trans (by decide) hr.1) hk hW (ar_at (t := t) (f := fun k => va_rf ((g_R h b k).map ad)) (f' := fun k => va_rf ((g_R (s_R h b i.toInt.toNat (some v)) b k).map ad)) (fun cA => by rw [har h]; rfl) (fun cA => by rw [har _]; rfl) (fun j => ?_) e1) (fun b' hb' => ce_sR γ ad ω.1 h b _ (some v) hb') z oq) (hS.put z oq (wd_mem hW hb)) hl
  simp only [s_R, g_R, up2, updV, cl_n]
  by_cases hj : j = i.toNatClampNeg <;> simp [hj, va_rf]
theorem z_alen {b t j : Nat} {ty : FieldType} (d : decode (mC M) pc = .ok (.arraylength, 1)) (ht : 50 ≤ t) (hty : ∀ γ : Gm, (tys_ γ)[j]? = some (γ.2 t, ty)) (hk : (ω.1 b).1 = t) (k : ZQ M e ω (pc + 1) L (.int (Int32.ofNat (ω.1 b).2) :: st) h o) : ZQ M e ω pc L (.ref b :: st) h o := by
  intro q hq l γ ad B A p e' s m args below meth c hF H locs ls hW hS hl
  obtain ⟨hb, he⟩ := wd_ar hW ht hk
  exact va_alen hF.1 hF.2.1 hF.2.2.2.2.2.2.2.2.1 hW.1 b j he (hty γ) rfl d (k q hq l γ ad B A p e' s m args below meth c hF H locs ls hW hS hl)
/-- the static rows -/
def s_ld (n : Nat) (i : Int32) (f : Int32 → Option ρ) : Option ρ := if 0 ≤ i.toInt ∧ i.toInt < ((st_n n).2.2 : Int) then f ((st_v n).getD i.toInt.toNat 0) else none
def SL (own : String) (i n : Nat) : Prop := n < 4 ∧ (Cond.fieldLink own i (st_n n).1 (st_n n).2.1 "[I" ∈ TO_)
theorem z_gets {i n : Nat} (d : decode (mC M) pc = .ok (.getstatic i, 3)) (hL : SL (mY M).cls i n) (k : ZQ M e ω (pc + 3) L (.ref (sb_ + n) :: st) h o) : ZQ M e ω pc L st h o := by
  intro q hq l γ ad B A p e' s m args below meth c hF H locs ls hW hS hl
  exact va_gets hF.1 hF.2.1 (hF.2.2.2.2.2.2.2.2.2.1 n hL.1).1 hS hF.2.2.2.2.2.2.1 (TO_w hF _ hL.2) (fun _ h9 => h9) d (k q hq l γ ad B A p e' s m args below meth c hF H locs ls hW hS hl)
theorem z_sld {n : Nat} {i : Int32} {F : Int32 → Option ρ} (d : decode (mC M) pc = .ok (.iaload, 1)) (hn : n < 4) (k : ∀ v, ZQ M e ω (pc + 1) L (.int v :: st) h (F v)) : ZQ M e ω pc L (.int i :: .ref (sb_ + n) :: st) h (s_ld n i F) := by
  refine z_or (fun P => ?_)
  intro q hq l γ ad B A p e' s m args below meth c hF H locs ls hW hS hl
  exact va_ti hF.1 hF.2.1 (hF.2.2.2.2.2.2.2.2.2.1 n hn).2 hS (in_of P) rfl d (k _ q hq l γ ad B A p e' s m args below meth c hF H locs ls hW hS hl)
theorem z_slen {n : Nat} (d : decode (mC M) pc = .ok (.arraylength, 1)) (hn : n < 4) (k : ZQ M e ω (pc + 1) L (.int (Int32.ofNat (st_n n).2.2) :: st) h o) : ZQ M e ω pc L (.ref (sb_ + n) :: st) h o := by
  intro q hq l γ ad B A p e' s m args below meth c hF H locs ls hW hS hl
  exact va_tlen hF.1 hF.2.1 (hF.2.2.2.2.2.2.2.2.2.1 n hn).2 hS rfl d (k q hq l γ ad B A p e' s m args below meth c hF H locs ls hW hS hl)
/-- the ends -/
def En_ (M : Mi) (ω : Ws) : Prop := ω.2.2.1 ≤ (mR M).cells ∧ 450 * ω.2.2.1 ≤ (mR M).slots
theorem en_q {γ : Gm} {ad : Nat → Nat} {B : Nat} {A : Nat → Prop} {s t : State} {args : Array Value} {H : Heap} {locs : List Loc} {r : Option Value} {q : ρ} (he : e q = (r, h, ω.1, ω.2.1)) (hW : Wd_ γ ad B A ω.1 ω.2.1 ω.2.2.2 h H) (hS : va_S A s.heap H locs) (ht : t.heap = H) : Qz γ ad B ω.2.2.2 A (e q) args s (.returned (r.map (cv ad))) t := by
  rw [he]
  exact ⟨rfl, by rw [ht]; exact hW, hS.F ht⟩
theorem z_iret {v : Int32} {q0 : ρ} (d : decode (mC M) pc = .ok (.ireturn, 1)) (hr : mT M = some .int) (hE : En_ M ω) (he : e q0 = (some (.int v), h, ω.1, ω.2.1)) : ZQ M e ω pc L [.int v] h (some q0) := by
  intro q hq l γ ad B A p e' s m args below meth c hF H locs ls hW hS hl
  cases hq
  refine W.widen hE.1 hE.2 ?_
  exact W.iret hF.1 hF.2.1 (hF.2.2.2.1.trans hr) (fun t ht _ => en_q (r := some (.int v)) he hW hS ht) hS.2.2 d hF.2.2.2.2.1
theorem z_zret {v : Int32} {q0 : ρ} (d : decode (mC M) pc = .ok (.ireturn, 1)) (hr : mT M = some .boolean) (hv : narrow .boolean (.int v) = .int v) (hE : En_ M ω) (he : e q0 = (some (.int v), h, ω.1, ω.2.1)) : ZQ M e ω pc L [.int v] h (some q0) := by
  intro q hq l γ ad B A p e' s m args below meth c hF H locs ls hW hS hl
  cases hq
  refine W.widen hE.1 hE.2 ?_
  exact W.zret hF.1 hF.2.1 (hF.2.2.2.1.trans hr) hv (fun t ht _ => en_q (r := some (.int v)) he hW hS ht) hS.2.2 d hF.2.2.2.2.1
theorem nb_ {v : Int32} (hv : v = 0 ∨ v = 1) : narrow .boolean (.int v) = .int v := by rcases hv with rfl | rfl <;> rfl
theorem z_lret {v : Int64} {q0 : ρ} (d : decode (mC M) pc = .ok (.lreturn, 1)) (hr : mT M = some .long) (hE : En_ M ω) (he : e q0 = (some (.long v), h, ω.1, ω.2.1)) : ZQ M e ω pc L [.long v] h (some q0) := by
  intro q hq l γ ad B A p e' s m args below meth c hF H locs ls hW hS hl
  cases hq
  refine W.widen hE.1 hE.2 ?_
  have hlocks := hF.2.2.2.2.1
  exact W.lret hF.1 hF.2.1 (hF.2.2.2.1.trans hr) (fun t ht _ => en_q (r := some (.long v)) he hW hS ht) hS.2.2 d
theorem z_dret {v : UInt64} {q0 : ρ} (d : decode (mC M) pc = .ok (.dreturn, 1)) (hr : mT M = some .double) (hE : En_ M ω) (he : e q0 = (some (.double v), h, ω.1, ω.2.1)) : ZQ M e ω pc L [.double v] h (some q0) := by
  intro q hq l γ ad B A p e' s m args below meth c hF H locs ls hW hS hl
  cases hq
  refine W.widen hE.1 hE.2 ?_
  have hlocks := hF.2.2.2.2.1
  exact W.dret hF.1 hF.2.1 (hF.2.2.2.1.trans hr) (fun t ht _ => en_q (r := some (.double v)) he hW hS ht) hS.2.2 d
theorem z_vret {q0 : ρ} (d : decode (mC M) pc = .ok (.return_, 1)) (hr : mT M = none) (hE : En_ M ω) (he : e q0 = (none, h, ω.1, ω.2.1)) : ZQ M e ω pc L [] h (some q0) := by
  intro q hq l γ ad B A p e' s m args below meth c hF H locs ls hW hS hl
  cases hq
  refine W.widen hE.1 hE.2 ?_
  have hlocks := hF.2.2.2.2.1
  exact W.vret hF.1 hF.2.1 (hF.2.2.2.1.trans hr) (fun t ht _ => en_q (r := none) he hW hS ht) hS.2.2 d
theorem z_aret {r : Option Nat} {C : String} {q0 : ρ} (d : decode (mC M) pc = .ok (.areturn, 1)) (hr : mT M = some (.object C)) (hE : En_ M ω) (he : e q0 = (some (va_rf r), h, ω.1, ω.2.1)) : ZQ M e ω pc L [va_rf r] h (some q0) := by
  intro q hq l γ ad B A p e' s m args below meth c hF H locs ls hW hS hl
  cases hq
  refine W.widen hE.1 hE.2 ?_
  have hlocks := hF.2.2.2.2.1
  exact W.aret (v := cv ad (va_rf r)) hF.1 hF.2.1 (hF.2.2.2.1.trans hr) (Or.inl ⟨C, rfl⟩) (by cases r with
    | none => exact Or.inl rfl
    | some a => exact Or.inr ⟨ad a, rfl⟩) (fun t ht _ => en_q (r := some (va_rf r)) he hW hS ht) hS.2.2 d
end ZA
