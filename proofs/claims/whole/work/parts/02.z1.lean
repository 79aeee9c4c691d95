/-! ===== the walk's own logic: a world of cells by number, a heap of functions, one judgement a point of a method's code ===== -/
abbrev Hp : Type := (Nat → Nat → Int32) × (Nat → Nat → Int64) × (Nat → Nat → UInt64) × (Nat → Nat → Option Nat)
def g_I (h : Hp) : Nat → Nat → Int32 := h.1
def g_J (h : Hp) : Nat → Nat → Int64 := h.2.1
def g_D (h : Hp) : Nat → Nat → UInt64 := h.2.2.1
def g_R (h : Hp) : Nat → Nat → Option Nat := h.2.2.2
def up2 {α : Type} (f : Nat → Nat → α) (a k : Nat) (v : α) : Nat → Nat → α := fun b j => if b = a ∧ j = k then v else f b j
def s_I (h : Hp) (a k : Nat) (v : Int32) : Hp := (up2 (g_I h) a k v, g_J h, g_D h, g_R h)
def s_J (h : Hp) (a k : Nat) (v : Int64) : Hp := (g_I h, up2 (g_J h) a k v, g_D h, g_R h)
def s_D (h : Hp) (a k : Nat) (v : UInt64) : Hp := (g_I h, g_J h, up2 (g_D h) a k v, g_R h)
def s_R (h : Hp) (a k : Nat) (v : Option Nat) : Hp := (g_I h, g_J h, g_D h, up2 (g_R h) a k v)
/-- a row's copy: n places of cell b from sp on into cell a from dp on -/
def cp_I (h : Hp) (b sp a dp n : Nat) : Hp := (fun c j => if c = a ∧ dp ≤ j ∧ j < dp + n then g_I h b (sp + (j - dp)) else g_I h c j, g_J h, g_D h, g_R h)
def cp_J (h : Hp) (b sp a dp n : Nat) : Hp := (g_I h, fun c j => if c = a ∧ dp ≤ j ∧ j < dp + n then g_J h b (sp + (j - dp)) else g_J h c j, g_D h, g_R h)
/-- a new cell's blank contents -/
def nw_ (h : Hp) (a : Nat) : Hp := (fun c j => if c = a then 0 else g_I h c j, fun c j => if c = a then 0 else g_J h c j, fun c j => if c = a then 0 else g_D h c j, fun c j => if c = a then none else g_R h c j)
abbrev Kd : Type := Nat → Nat × Nat
def up_K (κ : Kd) (a : Nat) (v : Nat × Nat) : Kd := fun b => if b = a then v else κ b
/-- the classes' fields by kind: 0 int, 1 long, 2 reference, 3 truth -/
def tc_ : FieldType → Nat
  | .long => 1
  | .object _ => 2
  | .array _ => 2
  | .boolean => 3
  | .int => 0
  | _ => 9
def fts (c : Nat) : List Nat := match c with
  | 0 => [0, 1, 0, 0]
  | 1 => [2, 2, 2, 2, 0, 0, 0, 0, 3, 3, 1]
  | 2 => [2, 2, 0]
  | 3 => [2, 2, 2, 2, 0, 2, 2, 2, 0, 0, 0, 0, 0, 0, 0, 0, 0, 1, 1]
  | 4 => [2, 2, 2, 2, 2]
  | 5 => [0, 2, 2, 2, 2, 2, 2, 2, 0, 0, 0]
  | 6 => [2, 2, 2, 2, 2, 0, 0]
  | 7 => [2]
  | 8 => [2, 2, 2, 2, 2, 0, 2, 2, 2, 2, 2, 0, 0, 1, 0, 2, 2, 2, 2, 2, 2, 2, 2, 0, 2, 2, 2, 2, 2, 2, 2, 2, 2, 2, 0, 1, 0, 0, 0, 0, 2, 0, 1, 0, 1, 0, 0, 0, 0, 0, 0, 0, 0, 2, 2, 2, 2, 2, 2, 2, 2, 2, 2]
  | _ => []
def fv_ (ad : Nat → Nat) (h : Hp) (a k t : Nat) : Value := if t = 1 then .long (g_J h a k) else if t = 2 then va_rf ((g_R h a k).map ad) else .int (g_I h a k)
def fs_ (ad : Nat → Nat) (h : Hp) (a : Nat) : Nat → List Nat → List Value
  | _, [] => []
  | j, t :: ts => fv_ ad h a j t :: fs_ ad h a (j + 1) ts
abbrev Gm : Type := va_G × (Nat → ClassId)
def ar_ (ad : Nat → Nat) (h : Hp) (a t n : Nat) : vp_A := (n, if t = 51 then .inr (.inl (g_J h a)) else if t = 52 then .inr (.inr (.inr (.inl (g_D h a)))) else if t < 54 then .inl (g_I h a) else .inr (.inr (.inr (.inr (fun k => (g_R h a k).map ad)))))
def ce_ (γ : Gm) (ad : Nat → Nat) (κ : Kd) (h : Hp) (a : Nat) : va_E := if (κ a).1 < 50 then .inr ((κ a).1 - 1, fs_ ad h a 0 (fts ((κ a).1 - 1))) else .inl (γ.2 (κ a).1, ar_ ad h a (κ a).1 (κ a).2)
def wl_ (γ : Gm) (ad : Nat → Nat) (κ : Kd) (h : Hp) (n : Nat) : va_W := (List.range n).map (fun a => (ad a, ce_ γ ad κ h a))
def tys_ (γ : Gm) : List (ClassId × FieldType) := [(γ.2 50, .int), (γ.2 51, .long), (γ.2 52, .double), (γ.2 53, .boolean), (γ.2 55, .object RX1), (γ.2 58, .object RX5), (γ.2 59, .object RX7), (γ.2 60, .object RX8)]
def cv (ad : Nat → Nat) : Value → Value
  | .ref a => .ref (ad a)
  | v => v
theorem cv_rf (ad : Nat → Nat) (r : Option Nat) : cv ad (va_rf r) = va_rf (r.map ad) := by cases r <;> rfl
theorem cv_cat (ad : Nat → Nat) (v : Value) : (cv ad v).category = v.category := by cases v <;> rfl
def cL_ (ad : Nat → Nat) (L : List (Nat × Value)) : List (Nat × Value) := L.map (fun q => (q.1, cv ad q.2))
theorem wl_get (γ : Gm) (ad : Nat → Nat) (κ : Kd) (h : Hp) {n a : Nat} (ha : a < n) : (wl_ γ ad κ h n)[a]? = some (ad a, ce_ γ ad κ h a) := by
  simp [wl_, ha]
theorem wl_len (γ : Gm) (ad : Nat → Nat) (κ : Kd) (h : Hp) (n : Nat) : (wl_ γ ad κ h n).length = n := by simp [wl_]
theorem wl_set (γ : Gm) (ad : Nat → Nat) (κ : Kd) {h h' : Hp} {n a : Nat} {e : va_E} (ha : a < n) (he : ce_ γ ad κ h' a = e) (ho : ∀ b, b ≠ a → ce_ γ ad κ h' b = ce_ γ ad κ h b) : (wl_ γ ad κ h n).set a (ad a, e) = wl_ γ ad κ h' n := by
  apply List.ext_getElem?
  intro j
  by_cases hj : j < n
  · by_cases hja : j = a
    · subst hja
      rw [List.getElem?_set_self (by rw [wl_len]; exact ha), wl_get _ _ _ _ ha, he]
    · rw [List.getElem?_set_ne (Ne.symm hja), wl_get _ _ _ _ hj, wl_get _ _ _ _ hj, ho j hja]
  · rw [List.getElem?_eq_none (by rw [List.length_set, wl_len]; omega), List.getElem?_eq_none (by rw [wl_len]; omega)]
theorem fs_get (ad : Nat → Nat) (h : Hp) (a : Nat) : ∀ (ts : List Nat) (j k t : Nat), ts[k]? = some t → (fs_ ad h a j ts)[k]? = some (fv_ ad h a (j + k) t)
  | [], j, k, t, e => by simp at e
  | t0 :: ts, j, 0, t, e => by
    simp at e
    subst e
    rfl
  | t0 :: ts, j, k + 1, t, e => by
    have e1 : ts[k]? = some t := by simpa using e
    show (fs_ ad h a (j + 1) ts)[k]? = _
    rw [fs_get ad h a ts (j + 1) k t e1]
    congr 2
    omega
theorem fs_len (ad : Nat → Nat) (h : Hp) (a : Nat) : ∀ (ts : List Nat) (j : Nat), (fs_ ad h a j ts).length = ts.length
  | [], j => rfl
  | t :: ts, j => by
    show (fs_ ad h a (j + 1) ts).length + 1 = ts.length + 1
    rw [fs_len ad h a ts (j + 1)]
theorem fs_congr (ad : Nat → Nat) {h h' : Hp} (a : Nat) : ∀ (ts : List Nat) (j : Nat), (∀ k t, ts[k]? = some t → fv_ ad h' a (j + k) t = fv_ ad h a (j + k) t) → fs_ ad h' a j ts = fs_ ad h a j ts
  | [], j, _ => rfl
  | t :: ts, j, e => by
    show fv_ ad h' a j t :: fs_ ad h' a (j + 1) ts = fv_ ad h a j t :: fs_ ad h a (j + 1) ts
    have h1 : fs_ ad h' a (j + 1) ts = fs_ ad h a (j + 1) ts := fs_congr (h := h) (h' := h') ad a ts (j + 1) (fun k t e1 => by
      have e2 := e (k + 1) t (by simpa using e1)
      rw [show j + 1 + k = j + (k + 1) by omega]
      exact e2)
    have h2 := e 0 t (by simp)
    rw [show j + 0 = j by omega] at h2
    rw [h1, h2]
theorem fs_set (ad : Nat → Nat) {h h' : Hp} (a : Nat) {ts : List Nat} {k t : Nat} {v : Value} (hk : ts[k]? = some t) (hv : fv_ ad h' a k t = v) (ho : ∀ j u, j ≠ k → ts[j]? = some u → fv_ ad h' a j u = fv_ ad h a j u) : (fs_ ad h a 0 ts).set k v = fs_ ad h' a 0 ts := by
  apply List.ext_getElem?
  intro j
  have hkl : k < ts.length := (List.getElem?_eq_some_iff.mp hk).1
  by_cases hj : j < ts.length
  · obtain ⟨u, hu⟩ : ∃ u, ts[j]? = some u := ⟨ts[j], List.getElem?_eq_getElem hj⟩
    rw [fs_get ad h' a ts 0 j u hu, Nat.zero_add]
    by_cases hjk : j = k
    · subst hjk
      rw [List.getElem?_set_self (by rw [fs_len]; exact hkl)]
      cases hk.symm.trans hu
      rw [hv]
    · rw [List.getElem?_set_ne (Ne.symm hjk), fs_get ad h a ts 0 j u hu, Nat.zero_add, ho j u hjk hu]
  · rw [List.getElem?_eq_none (by rw [List.length_set, fs_len]; omega), List.getElem?_eq_none (by rw [fs_len]; omega)]
/-- of two heaps that differ in one cell's place alone -/
theorem fv_sI (ad : Nat → Nat) (h : Hp) (a k : Nat) (v : Int32) (b j t : Nat) (hb : b ≠ a ∨ j ≠ k ∨ t = 1 ∨ t = 2) : fv_ ad (s_I h a k v) b j t = fv_ ad h b j t := by
  unfold fv_
  rcases hb with hb | hb | rfl | rfl
  · simp [s_I, g_I, g_J, g_R, up2, hb]
  · simp [s_I, g_I, g_J, g_R, up2, hb]
  · rfl
  · rfl
theorem fv_sJ (ad : Nat → Nat) (h : Hp) (a k : Nat) (v : Int64) (b j t : Nat) (hb : b ≠ a ∨ j ≠ k ∨ t ≠ 1) : fv_ ad (s_J h a k v) b j t = fv_ ad h b j t := by
  unfold fv_
  rcases hb with hb | hb | hb
  · simp [s_J, g_I, g_J, g_R, up2, hb]
  · simp [s_J, g_I, g_J, g_R, up2, hb]
  · rw [if_neg hb, if_neg hb]; rfl
theorem fv_sR (ad : Nat → Nat) (h : Hp) (a k : Nat) (v : Option Nat) (b j t : Nat) (hb : b ≠ a ∨ j ≠ k ∨ t ≠ 2) : fv_ ad (s_R h a k v) b j t = fv_ ad h b j t := by
  unfold fv_
  by_cases h1 : t = 1
  · rw [if_pos h1, if_pos h1]; rfl
  rw [if_neg h1, if_neg h1]
  rcases hb with hb | hb | hb
  · simp [s_R, g_I, g_R, up2, hb]
  · simp [s_R, g_I, g_R, up2, hb]
  · rw [if_neg hb, if_neg hb]; rfl
theorem ce_congr (γ : Gm) (ad : Nat → Nat) (κ : Kd) {h h' : Hp} {b : Nat} (hI : g_I h' b = g_I h b) (hJ : g_J h' b = g_J h b) (hD : g_D h' b = g_D h b) (hR : g_R h' b = g_R h b) : ce_ γ ad κ h' b = ce_ γ ad κ h b := by
  unfold ce_ ar_
  rw [hI, hJ, hD]
  rw [show (fun k => (g_R h' b k).map ad) = (fun k => (g_R h b k).map ad) by rw [hR]]
  rw [fs_congr (h := h) (h' := h') ad b _ 0 (fun k t _ => by unfold fv_; rw [hI, hJ, hR])]
theorem ce_sI (γ : Gm) (ad : Nat → Nat) (κ : Kd) (h : Hp) (a k : Nat) (v : Int32) {b : Nat} (hb : b ≠ a) : ce_ γ ad κ (s_I h a k v) b = ce_ γ ad κ h b :=
  ce_congr γ ad κ (by funext j; simp [s_I, g_I, up2, hb]) rfl rfl rfl
theorem ce_sJ (γ : Gm) (ad : Nat → Nat) (κ : Kd) (h : Hp) (a k : Nat) (v : Int64) {b : Nat} (hb : b ≠ a) : ce_ γ ad κ (s_J h a k v) b = ce_ γ ad κ h b :=
  ce_congr γ ad κ rfl (by funext j; simp [s_J, g_J, up2, hb]) rfl rfl
theorem ce_sD (γ : Gm) (ad : Nat → Nat) (κ : Kd) (h : Hp) (a k : Nat) (v : UInt64) {b : Nat} (hb : b ≠ a) : ce_ γ ad κ (s_D h a k v) b = ce_ γ ad κ h b :=
  ce_congr γ ad κ rfl rfl (by funext j; simp [s_D, g_D, up2, hb]) rfl
theorem ce_sR (γ : Gm) (ad : Nat → Nat) (κ : Kd) (h : Hp) (a k : Nat) (v : Option Nat) {b : Nat} (hb : b ≠ a) : ce_ γ ad κ (s_R h a k v) b = ce_ γ ad κ h b :=
  ce_congr γ ad κ rfl rfl rfl (by funext j; simp [s_R, g_R, up2, hb])
/-- words that stay true below every call -/
def nest_ : Cond → Bool
  | .fieldLinkNest .. => true
  | .methodLinkNest .. => true
  | .arrayOver (.object _) => true
  | _ => false
def okW (w : Cond) : Bool := goodWord w || nest_ w
def TT : List Cond := lw_tbl.filter goodWord
/-- the four static rows that nobody writes -/
def sb_ : Nat := 1000000
def st_n (i : Nat) : String × String × Nat := match i with
  | 0 => ("StoryClasses$Things", "PARENTS", 6)
  | 1 => ("StoryClasses$Things", "PLACES", 6)
  | 2 => ("StoryClasses$Things", "SHELF_KINDS", 6)
  | _ => ("StoryClasses$Ops", "TAKES", 30)
def st_v (i : Nat) : List Int32 := match i with
  | 0 => [-1, 0, 1, 2, 0, 4]
  | 1 => [4, 3, 3, 3, 2, 2]
  | 2 => [0, 1, 1, 1, 4, 4]
  | _ => [0, 0, 1, 2, 2, 2, 2, 2, 2, 2, 0, 1, 1, 2, 0, 1, 0, 1, 2, 0, 1, 1, 0, 0, 3, 2, 1, 0, 0, 0]
def Stt (ad : Nat → Nat) (A : Nat → Prop) (U : State) (H : Heap) : Prop := ∀ i, i < 4 → va_Z (st_n i).1 (st_n i).2.1 "[I" (.ref (ad (sb_ + i))) A U H ∧ va_T .int (ad (sb_ + i)) (st_n i).2.2 (fun j => .int ((st_v i).getD j 0)) A U H
def Nst (U : State) : Prop := ∀ w ∈ lw_tbl, nest_ w = true → w.before #[] U = true
/-- what holds of the machine's tables and statics around the world -/
def Ev_ (γ : Gm) (ad : Nat → Nat) (A : Nat → Prop) (U : State) : Prop := Nst U ∧ va_K γ.1 vwCl (tys_ γ) U ∧ Stt ad A U U.heap
/-- a method: its name, its bytes, its locals, what it answers, its room -/
abbrev Mi : Type := MethodName × ByteArray × Nat × Option FieldType × Room
abbrev mY (M : Mi) : MethodName := M.1
abbrev mC (M : Mi) : ByteArray := M.2.1
abbrev mL (M : Mi) : Nat := M.2.2.1
abbrev mT (M : Mi) : Option FieldType := M.2.2.2.1
abbrev mR (M : Mi) : Room := M.2.2.2.2
def Fx_ (M : Mi) (γ : Gm) (ad : Nat → Nat) (A : Nat → Prop) (p : Program) (s : State) (m : MethodId) (args : Array Value) (meth : Method) (c : Code) : Prop :=
  p.tables.exec = Jvm.exec ∧ c.code = mC M ∧ c.maxLocals = mL M ∧ meth.sig.returnType = mT M ∧ meth.locks = false ∧ meth.name = (mY M).name ∧ s.vm.findClass (mY M).cls = some m.cls ∧ (∀ w ∈ lw_tbl, okW w = true → w.before args s = true) ∧ va_K γ.1 vwCl (tys_ γ) s ∧ Stt ad A s s.heap ∧ (∀ q, s.heap.size ≤ q → A q) ∧ Nst s
/-- the world's shape: kinds, how many cells, cells made in this call, up to where addresses are foreseen -/
abbrev Ws : Type := Kd × Nat × Nat × Nat
def Lv_ (κ : Kd) (n : Nat) : Prop := ∀ a, (κ a).1 ≠ 0 → a < n
def Wd_ (γ : Gm) (ad : Nat → Nat) (B : Nat) (A : Nat → Prop) (κ : Kd) (n lim : Nat) (h : Hp) (H : Heap) : Prop :=
  va_P γ.1 vwCl (wl_ γ ad κ h n) H ∧ va_D A (wl_ γ ad κ h n) ∧ Lv_ κ n ∧ (∀ a, n ≤ a → a < lim → ad a = B + a) ∧ H.size = B + n
abbrev Rs : Type := Option Value × Hp × Kd × Nat
def Qz (γ : Gm) (ad : Nat → Nat) (B lim : Nat) (A : Nat → Prop) (r : Rs) : Array Value → State → Outcome → State → Prop := fun _ st oc t => oc = .returned (r.1.map (cv ad)) ∧ Wd_ γ ad B A r.2.2.1 r.2.2.2 lim r.2.1 t.heap ∧ va_F A st t
/-- AT A POINT of method M: if the words o (a function of the state here) answer q, the machine comes to the method's end with what e makes of q -/
def ZQ {ρ : Type} (M : Mi) (e : ρ → Rs) (ω : Ws) (pc : Nat) (L : List (Nat × Value)) (st : List Value) (h : Hp) (o : Option ρ) : Prop :=
  ∀ q, o = some q → ∀ (l : Launch) (γ : Gm) (ad : Nat → Nat) (B : Nat) (A : Nat → Prop) (p : Program) (e' : Env) (s : State) (m : MethodId) (args : Array Value) (below : List Frame) (meth : Method) (c : Code), Fx_ M γ ad A p s m args meth c →
    ∀ (H : Heap) (locs : List Loc) (ls : Array Slot), Wd_ γ ad B A ω.1 ω.2.1 ω.2.2.2 h H → va_S A s.heap H locs → lv_has ls (mL M) (cL_ ad L) →
      W p l e' (mR M) s m args below meth c H locs ω.2.2.1 (450 * ω.2.2.1) (MQ below (Qz γ ad B ω.2.2.2 A (e q)) args s (mR M).cells (mR M).slots A) (F0 m pc ls (st.map (cv ad)))
/-- THE CONTRACT of a method: with these arguments in this world it comes to its end as o says -/
def Aw_ (ad : Nat → Nat) (B n : Nat) : Nat → Prop := fun q => (∃ a, a < n ∧ q = ad a) ∨ B + n ≤ q
def Ct_ {ρ : Type} (M : Mi) (args : List Value) (κ : Kd) (n lim : Nat) (h : Hp) (e : ρ → Rs) (o : Option ρ) : Prop :=
  ∀ q, o = some q → ∀ (l : Launch) (γ : Gm) (ad : Nat → Nat) (B : Nat), Met l (mY M) (.code (mY M) (mC M) (mL M) (mT M) :: TT) (mR M) (va_Pc (args.map (cv ad)) (fun U => Wd_ γ ad B (Aw_ ad B n) κ n lim h U.heap ∧ Ev_ γ ad (Aw_ ad B n) U)) (Qz γ ad B lim (Aw_ ad B n) (e q)) (mR M).cells (mR M).slots (Aw_ ad B n)
