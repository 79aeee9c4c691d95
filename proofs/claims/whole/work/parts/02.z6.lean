/-! ===== copies of rows, new cells ===== -/
section ZN
variable {ρ : Type} {M : Mi} {e : ρ → Rs} {κ : Kd} {n c lim pc : Nat} {L : List (Nat × Value)} {st : List Value} {h : Hp} {o : Option ρ}
def c_I (κ : Kd) (h : Hp) (b : Nat) (sp : Int32) (a : Nat) (dp m : Int32) (f : Hp → Option ρ) : Option ρ := if 0 ≤ sp.toInt ∧ 0 ≤ dp.toInt ∧ 0 ≤ m.toInt ∧ sp.toInt + m.toInt ≤ ((κ b).2 : Int) ∧ dp.toInt + m.toInt ≤ ((κ a).2 : Int) then f (cp_I h b sp.toInt.toNat a dp.toInt.toNat m.toInt.toNat) else none
def c_J (κ : Kd) (h : Hp) (b : Nat) (sp : Int32) (a : Nat) (dp m : Int32) (f : Hp → Option ρ) : Option ρ := if 0 ≤ sp.toInt ∧ 0 ≤ dp.toInt ∧ 0 ≤ m.toInt ∧ sp.toInt + m.toInt ≤ ((κ b).2 : Int) ∧ dp.toInt + m.toInt ≤ ((κ a).2 : Int) then f (cp_J h b sp.toInt.toNat a dp.toInt.toNat m.toInt.toNat) else none
def Cp_ (M : Mi) (i : Nat) (st : List Value) : Prop := Cond.methodLink (mY M).cls i arraycopyName ∈ TO_ ∧ Cond.native arraycopyName ∈ TO_ ∧ Cond.static arraycopyName ∈ TO_ ∧ Cond.initialized "java/lang/System" ∈ TO_ ∧ 1 ≤ (mR M).frames ∧ (st.map fun v => v.category).sum + 18 ≤ (mR M).locals
theorem nn_ {x : Int32} (hx : 0 ≤ x.toInt) : ¬ x < 0 := by
  intro z
  have h1 := Int32.lt_iff_toInt_lt.mp z
  simp at h1
  omega
theorem ce_cI (γ : Gm) (ad : Nat → Nat) (κ : Kd) (h : Hp) (b sp a dp m : Nat) {x : Nat} (hx : x ≠ a) : ce_ γ ad κ (cp_I h b sp a dp m) x = ce_ γ ad κ h x :=
  ce_congr γ ad κ (by funext j; simp [cp_I, g_I, hx]) rfl rfl rfl
theorem ce_cJ (γ : Gm) (ad : Nat → Nat) (κ : Kd) (h : Hp) (b sp a dp m : Nat) {x : Nat} (hx : x ≠ a) : ce_ γ ad κ (cp_J h b sp a dp m) x = ce_ γ ad κ h x :=
  ce_congr γ ad κ rfl (by funext j; simp [cp_J, g_J, hx]) rfl rfl
theorem z_cpI {i a b : Nat} {sp dp m : Int32} {F : Hp → Option ρ} (d : decode (mC M) pc = .ok (.invokestatic i, 3)) (hw : Cp_ M i st) (hb : (κ b).1 = 50) (ha : (κ a).1 = 50) (k : ∀ h1, ZQ M e (κ, n, 0, lim) (pc + 3) L st h1 (F h1)) : ZQ M e (κ, n, 0, lim) pc L (.int m :: .int dp :: .ref a :: .int sp :: .ref b :: st) h (c_I κ h b sp a dp m F) := by
  refine z_or (fun P => ?_)
  intro q hq l γ ad B A p e' s mm args below meth c hF H locs ls hW hS hl
  obtain ⟨hbn, hbe⟩ := wd_ar hW (Nat.le_refl 50) hb
  obtain ⟨han, hae⟩ := wd_ar hW (Nat.le_refl 50) ha
  intro T0 hT0 X0
  have hz0 : H.size = s.heap.size := by
    have h1 := X0.same.2.2.1
    have h2 : (T0.setVm s.vm).heap = H := hT0
    rw [h2] at h1
    have h3 := hS.1
    exact Nat.le_antisymm h1 h3
  refine va_copyi hF.1 hF.2.1 (by rw [hF.2.2.1]; exact hl.1.symm) hF.2.2.2.2.2.2.1 (TO_w hF _ hw.1) (TO_w hF _ hw.2.1) (TO_w hF _ hw.2.2.1) (TO_w hF _ hw.2.2.2.1) hF.2.2.2.2.2.2.2.2.1 hW.1 hW.2.1 hS b a 0 0 hbe hae rfl rfl rfl (nn_ P.1) (nn_ P.2.1) (nn_ P.2.2.1) (by have h9 := P; show sp.toInt.toNat + m.toInt.toNat ≤ (κ b).2; omega) (by have h9 := P; show dp.toInt.toNat + m.toInt.toNat ≤ (κ a).2; omega) (fun _ _ => rfl) hw.2.2.2.2.1 (by
      rw [cat_sum]
      exact hw.2.2.2.2.2) d (fun H1 locs1 hP1 hD1 hS1 => ?_) T0 hT0 X0
  intro T1 hT1 X1
  have hz1 : H1.size = s.heap.size := by
    have h1 := X1.same.2.2.1
    have h2 : (T1.setVm s.vm).heap = H1 := hT1
    rw [h2] at h1
    exact Nat.le_antisymm h1 hS1.1
  have hce : ce_ γ ad κ (cp_I h b sp.toInt.toNat a dp.toInt.toNat m.toInt.toNat) a = .inl (γ.2 50, (κ a).2, .inl (va_cpy (g_I h b) (g_I h a) sp.toNatClampNeg dp.toNatClampNeg m.toNatClampNeg)) := by
    have e2 : g_I (cp_I h b sp.toInt.toNat a dp.toInt.toNat m.toInt.toNat) a = va_cpy (g_I h b) (g_I h a) sp.toNatClampNeg dp.toNatClampNeg m.toNatClampNeg := by
      funext j
      simp only [cp_I, g_I, va_cpy, true_and]
      rfl
    unfold ce_
    rw [if_neg (by omega), ha, ← e2]
    rfl
  have e1 := wl_set γ ad κ (h := h) (n := n) han hce (fun x hx => ce_cI γ ad κ h b _ a _ _ hx)
  rw [e1] at hP1 hD1
  exact k _ q hq l γ ad B A p e' s mm args below meth c hF H1 locs1 ls ⟨hP1, hD1, hW.2.2.1, hW.2.2.2.1, by rw [hz1, ← hz0]; exact hW.2.2.2.2⟩ hS1 hl T1 hT1 X1
theorem z_cpJ {i a b : Nat} {sp dp m : Int32} {F : Hp → Option ρ} (d : decode (mC M) pc = .ok (.invokestatic i, 3)) (hw : Cp_ M i st) (hb : (κ b).1 = 51) (ha : (κ a).1 = 51) (k : ∀ h1, ZQ M e (κ, n, 0, lim) (pc + 3) L st h1 (F h1)) : ZQ M e (κ, n, 0, lim) pc L (.int m :: .int dp :: .ref a :: .int sp :: .ref b :: st) h (c_J κ h b sp a dp m F) := by
  refine z_or (fun P => ?_)
  intro q hq l γ ad B A p e' s mm args below meth c hF H locs ls hW hS hl
  obtain ⟨hbn, hbe⟩ := wd_ar hW (show 50 ≤ 51 by decide) hb
  obtain ⟨han, hae⟩ := wd_ar hW (show 50 ≤ 51 by decide) ha
  intro T0 hT0 X0
  have hz0 : H.size = s.heap.size := by
    have h1 := X0.same.2.2.1
    have h2 : (T0.setVm s.vm).heap = H := hT0
    rw [h2] at h1
    have h3 := hS.1
    exact Nat.le_antisymm h1 h3
  refine va_copyl hF.1 hF.2.1 (by rw [hF.2.2.1]; exact hl.1.symm) hF.2.2.2.2.2.2.1 (TO_w hF _ hw.1) (TO_w hF _ hw.2.1) (TO_w hF _ hw.2.2.1) (TO_w hF _ hw.2.2.2.1) hF.2.2.2.2.2.2.2.2.1 hW.1 hW.2.1 hS b a 1 1 hbe hae rfl rfl rfl (nn_ P.1) (nn_ P.2.1) (nn_ P.2.2.1) (by have h9 := P; show sp.toInt.toNat + m.toInt.toNat ≤ (κ b).2; omega) (by have h9 := P; show dp.toInt.toNat + m.toInt.toNat ≤ (κ a).2; omega) (fun _ _ => rfl) hw.2.2.2.2.1 (by
      rw [cat_sum]
      exact hw.2.2.2.2.2) d (fun H1 locs1 hP1 hD1 hS1 => ?_) T0 hT0 X0
  intro T1 hT1 X1
  have hz1 : H1.size = s.heap.size := by
    have h1 := X1.same.2.2.1
    have h2 : (T1.setVm s.vm).heap = H1 := hT1
    rw [h2] at h1
    exact Nat.le_antisymm h1 hS1.1
  have hce : ce_ γ ad κ (cp_J h b sp.toInt.toNat a dp.toInt.toNat m.toInt.toNat) a = .inl (γ.2 51, (κ a).2, .inr (.inl (va_cpy (g_J h b) (g_J h a) sp.toNatClampNeg dp.toNatClampNeg m.toNatClampNeg))) := by
    have e2 : g_J (cp_J h b sp.toInt.toNat a dp.toInt.toNat m.toInt.toNat) a = va_cpy (g_J h b) (g_J h a) sp.toNatClampNeg dp.toNatClampNeg m.toNatClampNeg := by
      funext j
      simp only [cp_J, g_J, va_cpy, true_and]
      rfl
    unfold ce_
    rw [if_neg (by omega), ha, ← e2]
    rfl
  have e1 := wl_set γ ad κ (h := h) (n := n) han hce (fun x hx => ce_cJ γ ad κ h b _ a _ _ hx)
  rw [e1] at hP1 hD1
  exact k _ q hq l γ ad B A p e' s mm args below meth c hF H1 locs1 ls ⟨hP1, hD1, hW.2.2.1, hW.2.2.2.1, by rw [hz1, ← hz0]; exact hW.2.2.2.2⟩ hS1 hl T1 hT1 X1
theorem z_oi {i a : Nat} (d : decode (mC M) pc = .ok (.invokespecial i, 3)) (hw : Cond.methodLink (mY M).cls i objectInit ∈ TO_ ∧ Cond.instanceMethod objectInit ∈ TO_ ∧ Cond.code objectInit ⟨#[0xb1]⟩ 1 none ∈ TO_) (hr : 1 ≤ (mR M).frames ∧ (st.map fun v => v.category).sum + 12 ≤ (mR M).locals) (k : ZQ M e (κ, n, c, lim) (pc + 3) L st h o) : ZQ M e (κ, n, c, lim) pc L (.ref a :: st) h o := by
  intro q hq l γ ad B A p e' s mm args below meth c0 hF H locs ls hW hS hl
  exact W.objInit hF.1 hF.2.1 hF.2.2.2.2.2.2.1 (TO_w hF _ hw.1) (TO_w hF _ hw.2.1) (TO_w hF _ hw.2.2) rfl (by rw [hF.2.2.1]; exact hl.1) rfl d hr.1 (by
    rw [cat_sum]
    show 2 * 0 + _ + 12 ≤ _
    have := hr.2
    omega) (k q hq l γ ad B A p e' s mm args below meth c0 hF H locs ls hW hS hl)
theorem lv_up {v : Nat × Nat} (hv : Lv_ κ n) : Lv_ (up_K κ n v) (n + 1) := by
  intro a ha
  unfold up_K at ha
  by_cases h1 : a = n
  · omega
  · rw [if_neg h1] at ha
    have := hv a ha
    omega
theorem up_ne {v : Nat × Nat} {b x : Nat} (hv : Lv_ κ n) (hb : (κ b).1 = x) (hx : x ≠ 0) : (up_K κ n v b).1 = x := by
  have h1 := hv b (by omega)
  unfold up_K
  rw [if_neg (by omega)]
  exact hb
theorem up_eq (κ : Kd) (n : Nat) (v : Nat × Nat) : (up_K κ n v n).1 = v.1 := by unfold up_K; rw [if_pos rfl]
theorem ce_nw (γ : Gm) (ad : Nat → Nat) (h : Hp) (v : Nat × Nat) {b : Nat} (hb : b ≠ n) : ce_ γ ad (up_K κ n v) (nw_ h n) b = ce_ γ ad κ h b := by
  have h1 : ce_ γ ad (up_K κ n v) (nw_ h n) b = ce_ γ ad κ (nw_ h n) b := by
    unfold ce_ up_K
    rw [if_neg hb]
  rw [h1]
  exact ce_congr γ ad κ (by funext j; simp [nw_, g_I, hb]) (by funext j; simp [nw_, g_J, hb]) (by funext j; simp [nw_, g_D, hb]) (by funext j; simp [nw_, g_R, hb])
theorem wd_new {γ : Gm} {ad : Nat → Nat} {B : Nat} {A : Nat → Prop} {H H1 : Heap} {v : Nat × Nat} (hW : Wd_ γ ad B A κ n lim h H) (hn : n < lim) (he : va_at γ.1 vwCl (ad n, ce_ γ ad (up_K κ n v) (nw_ h n) n) H1) (z : H1.size = H.size + 1) (oq : ∀ q : Nat, q < H.size → H1[q]? = H[q]?) (hA : A (ad n)) : Wd_ γ ad B A (up_K κ n v) (n + 1) lim (nw_ h n) H1 := by
  have hadn : ad n = B + n := hW.2.2.2.1 n (Nat.le_refl n) hn
  have hlt : ∀ a, a < n → ad a < H.size := fun a ha => (hW.1 a _ (wl_get γ ad κ h ha)).lt
  refine ⟨fun k q hk => ?_, ⟨fun i j x y hi hj hxy => ?_, fun k q hk => ?_⟩, lv_up hW.2.2.1, fun a h1 h2 => hW.2.2.2.1 a (by omega) h2, by rw [z, hW.2.2.2.2]; omega⟩
  · have hl : k < n + 1 := by have := (List.getElem?_eq_some_iff.mp hk).1; rw [wl_len] at this; exact this
    rw [wl_get γ ad _ _ hl] at hk
    cases hk
    by_cases hkn : k = n
    · subst hkn; exact he
    · rw [ce_nw γ ad h v hkn]
      exact (hW.1 k _ (wl_get γ ad κ h (by omega))).kept (oq _ (hlt k (by omega)))
  · have hli : i < n + 1 := by have := (List.getElem?_eq_some_iff.mp hi).1; rw [wl_len] at this; exact this
    have hlj : j < n + 1 := by have := (List.getElem?_eq_some_iff.mp hj).1; rw [wl_len] at this; exact this
    rw [wl_get γ ad _ _ hli] at hi
    rw [wl_get γ ad _ _ hlj] at hj
    cases hi
    cases hj
    dsimp only at hxy
    by_cases h1 : i = n
    · by_cases h2 : j = n
      · omega
      · have := hlt j (by omega)
        rw [h1, hadn] at hxy
        have := hW.2.2.2.2
        omega
    · by_cases h2 : j = n
      · have := hlt i (by omega)
        rw [h2, hadn] at hxy
        have := hW.2.2.2.2
        omega
      · exact hW.2.1.1 i j _ _ (wl_get γ ad κ h (by omega)) (wl_get γ ad κ h (by omega)) hxy
  · have hl : k < n + 1 := by have := (List.getElem?_eq_some_iff.mp hk).1; rw [wl_len] at this; exact this
    rw [wl_get γ ad _ _ hl] at hk
    cases hk
    by_cases hkn : k = n
    · subst hkn; exact hA
    · exact wd_mem hW (by omega)
/-- room for one cell more -/
def Al_ (M : Mi) (c n lim : Nat) : Prop := n < lim ∧ c + 1 ≤ (mR M).cells ∧ 450 * (c + 1) ≤ (mR M).slots
/-- rows of a primitive kind: its kind, its place in tys_ -/
def PK (atype : ArrayType) (t j : Nat) : Prop := 50 ≤ t ∧ t < 54 ∧ (∀ γ : Gm, (tys_ γ)[j]? = some (γ.2 t, newarray.typeOf atype)) ∧ Cond.arrayClass (newarray.typeOf atype) ∈ TO_ ∧ (∀ (ad : Nat → Nat) (h : Hp) (n N : Nat) (cA : ClassId), vp_cell cA (ar_ ad (nw_ h n) n t N) = arrV cA N (fun _ => defaultValue (newarray.typeOf atype))) ∧ componentBytes (newarray.typeOf atype) ≤ 8 ∧ ∀ (U : State) (cA : ClassId), va_RA U cA (newarray.typeOf atype) → U.vm.findClass ("[" ++ (newarray.typeOf atype).toString) = some cA
theorem z_newa {atype : ArrayType} {t j N : Nat} {v : Int32} {F : Hp → Option ρ} (d : decode (mC M) pc = .ok (.newarray atype, 2)) (hp : PK atype t j) (hv : v.toInt = (N : Int)) (hN : N ≤ 450) (hal : Al_ M c n lim) (k : ∀ h1, ZQ M e (up_K κ n (t, N), n + 1, c + 1, lim) (pc + 2) L (.ref n :: st) h1 (F h1)) : ZQ M e (κ, n, c, lim) pc L (.int v :: st) h (lt_ (nw_ h n) F) := by
  intro q hq l γ ad B A p e' s mm args below meth c0 hF H locs ls hW hS hl
  have hsz : H.size = B + n := hW.2.2.2.2
  have hadn : ad n = B + n := hW.2.2.2.1 n (Nat.le_refl n) hal.1
  refine va_newaK hF.1 hF.2.1 (TO_w hF _ hp.2.2.2.1) rfl d rfl (nn_ (by omega)) (N := N) (by rw [cl_n]; omega) (Nat.le_trans (Nat.mul_le_mul hN hp.2.2.2.2.2.1) (by decide)) hal.2.1 (by have := hal.2.2; show 450 * c + N ≤ _; omega) rfl fun H1 cA e1 z1 o1 hAr hNm => ?_
  have hcA : cA = γ.2 t := by
    have h1 := hp.2.2.2.2.2.2 s (γ.2 t) (hF.2.2.2.2.2.2.2.2.1.2 j _ (hp.2.2.1 γ)).2
    exact Option.some.inj (hNm.symm.trans h1)
  subst hcA
  have hce : ce_ γ ad (up_K κ n (t, N)) (nw_ h n) n = .inl (γ.2 t, ar_ ad (nw_ h n) n t N) := by
    unfold ce_ up_K
    rw [if_pos rfl]
    exact if_neg (by have := hp.1; dsimp only; omega)
  have hwd : Wd_ γ ad B A (up_K κ n (t, N)) (n + 1) lim (nw_ h n) H1 := wd_new hW hal.1 (by
    rw [hce]
    show H1[ad n]? = some (vp_cell _ _)
    rw [hp.2.2.2.2.1, hadn, ← hsz]
    exact e1) z1 o1 (hF.2.2.2.2.2.2.2.2.2.2.1 _ (by rw [hadn, ← hsz]; exact hS.1))
  refine W.widen (k := c + 1) (n := 450 * (c + 1)) (Nat.le_refl _) (by show 450 * c + N ≤ _; omega) ?_
  have hk := k (nw_ h n) q hq l γ ad B A p e' s mm args below meth c0 hF H1 locs ls hwd ⟨Nat.le_trans hS.1 (by omega), fun x h1 h2 => (o1 x (Nat.lt_of_lt_of_le h1 hS.1)).trans (hS.2.1 x h1 h2), hS.2.2⟩ hl
  rw [List.map_cons, show cv ad (.ref n) = .ref H.size by show Value.ref (ad n) = _; rw [hadn, hsz]] at hk
  exact hk
theorem z_anew {t j N i : Nat} {C : String} {v : Int32} {F : Hp → Option ρ} (d : decode (mC M) pc = .ok (.anewarray i, 3)) (hr : RK t j C) (hw : Cond.classLink (mY M).cls i C ∈ TO_ ∧ Cond.arrayOver (.object C) ∈ TO_) (hv : v.toInt = (N : Int)) (hN : N ≤ 450) (hal : Al_ M c n lim) (k : ∀ h1, ZQ M e (up_K κ n (t, N), n + 1, c + 1, lim) (pc + 3) L (.ref n :: st) h1 (F h1)) : ZQ M e (κ, n, c, lim) pc L (.int v :: st) h (lt_ (nw_ h n) F) := by
  intro q hq l γ ad B A p e' s mm args below meth c0 hF H locs ls hW hS hl
  have hsz : H.size = B + n := hW.2.2.2.2
  have hadn : ad n = B + n := hW.2.2.2.1 n (Nat.le_refl n) hal.1
  have hvN : v.toNatClampNeg = N := by rw [cl_n]; omega
  refine W.anew hF.1 hF.2.1 hF.2.2.2.2.2.2.1 (TO_w hF _ hw.1) (TO_w hF _ hw.2) rfl d rfl (nn_ (by omega)) (by rw [hvN]; omega) hal.2.1 (by have := hal.2.2; rw [hvN]; show 450 * c + N ≤ _; omega) fun cA kA comp f1 f2 f3 f4 => ?_
  rw [hvN]
  generalize hH1 : H.push ({ cls := cA, slots := Array.replicate N .null, vm := .none } : Cell) = H1
  have z1 : H1.size = H.size + 1 := by rw [← hH1, Array.size_push]
  have e1 : H1[H.size]? = some (arrV cA N (fun _ => .null)) := by rw [← hH1, Array.getElem?_push_size, ← arrV_new]
  have o1 : ∀ x, x < H.size → H1[x]? = H[x]? := fun x hx => by rw [← hH1, Array.getElem?_push, if_neg (Nat.ne_of_lt hx)]
  have hcA : cA = γ.2 t := by
    obtain ⟨kA', comp', -, -, -, h5⟩ := (hF.2.2.2.2.2.2.2.2.1.2 j _ (hr.2 γ)).2
    exact Option.some.inj (f1.symm.trans h5)
  subst hcA
  have hce : ce_ γ ad (up_K κ n (t, N)) (nw_ h n) n = .inl (γ.2 t, ar_ ad (nw_ h n) n t N) := by
    unfold ce_ up_K
    rw [if_pos rfl]
    exact if_neg (by have := hr.1; dsimp only; omega)
  have har : ar_ ad (nw_ h n) n t N = (N, .inr (.inr (.inr (.inr (fun _ => none))))) := by
    have := hr.1
    unfold ar_
    rw [if_neg (by omega), if_neg (by omega), if_neg (by omega)]
    simp [nw_, g_R]
  have hwd : Wd_ γ ad B A (up_K κ n (t, N)) (n + 1) lim (nw_ h n) H1 := wd_new hW hal.1 (by
    rw [hce]
    show H1[ad n]? = some (vp_cell _ _)
    rw [har, hadn, ← hsz]
    exact e1) z1 o1 (hF.2.2.2.2.2.2.2.2.2.2.1 _ (by rw [hadn, ← hsz]; exact hS.1))
  refine W.widen (k := c + 1) (n := 450 * (c + 1)) (Nat.le_refl _) (by show 450 * c + N ≤ _; omega) ?_
  have hk := k (nw_ h n) q hq l γ ad B A p e' s mm args below meth c0 hF H1 locs ls hwd ⟨Nat.le_trans hS.1 (by omega), fun x h1 h2 => (o1 x (Nat.lt_of_lt_of_le h1 hS.1)).trans (hS.2.1 x h1 h2), hS.2.2⟩ hl
  rw [List.map_cons, show cv ad (.ref n) = .ref H.size by show Value.ref (ad n) = _; rw [hadn, hsz]] at hk
  exact hk
theorem fv_nw (ad : Nat → Nat) (h : Hp) (n k : Nat) (ty : FieldType) (ht : tc_ ty < 4) : fv_ ad (nw_ h n) n k (tc_ ty) = defaultValue ty := by
  cases ty <;> simp [tc_] at ht <;> simp [tc_, fv_, nw_, g_I, g_J, g_R, defaultValue, va_rf]
theorem z_new {i ci : Nat} {q0 : vw_C} {F : Hp → Option ρ} (d : decode (mC M) pc = .ok (.new i, 3)) (hc : Cls_ ci q0) (hw : Cond.classLink (mY M).cls i q0.1 ∈ TO_ ∧ Cond.instantiable q0.1 q0.2.2 ∈ TO_ ∧ Cond.initialized q0.1 ∈ TO_) (hN : q0.2.2 ≤ 450) (h4 : (fts ci).all (fun t => t < 4) = true) (hal : Al_ M c n lim) (k : ∀ h1, ZQ M e (up_K κ n (ci + 1, 0), n + 1, c + 1, lim) (pc + 3) L (.ref n :: st) h1 (F h1)) : ZQ M e (κ, n, c, lim) pc L st h (lt_ (nw_ h n) F) := by
  intro q hq l γ ad B A p e' s mm args below meth c0 hF H locs ls hW hS hl
  have hsz : H.size = B + n := hW.2.2.2.2
  have hadn : ad n = B + n := hW.2.2.2.1 n (Nat.le_refl n) hal.1
  obtain ⟨C, T, N⟩ := q0
  obtain ⟨hcc, hc9, hin, hnm, ty, hty, hft2, hfl⟩ := hc
  have hts := TO_w hF
  have hKn := hF.2.2.2.2.2.2.2.2.1.1 ci _ hcc
  refine W.newcK hF.1 hF.2.1 hF.2.2.2.2.2.2.1 (hts _ hw.1) (hts _ hw.2.1) (hts _ hw.2.2) rfl d hal.2.1 (by have := hal.2.2; show 450 * c + N ≤ _; dsimp only at hN; omega) hKn.2.1 rfl fun H1 kC hkC e1 z1 o1 => ?_
  have hce : ce_ γ ad (up_K κ n (ci + 1, 0)) (nw_ h n) n = .inr (ci, fs_ ad (nw_ h n) n 0 (fts ci)) := by
    unfold ce_ up_K
    rw [if_pos rfl]
    exact if_pos (by dsimp only; omega)
  have hwd : Wd_ γ ad B A (up_K κ n (ci + 1, 0)) (n + 1) lim (nw_ h n) H1 := wd_new hW hal.1 (by
    rw [hce]
    refine ⟨(C, T, N), hcc, ?_⟩
    dsimp only
    rw [hadn, ← hsz]
    refine (u_born ty hts hin hKn hkC e1 hty).to (fun j hj => ?_)
    have h1 := fs_get ad (nw_ h n) n (fts ci) 0 j _ (hft2 j hj)
    rw [Nat.zero_add, fv_nw ad h n j (ty j) (by
      have h2 := List.all_eq_true.mp h4 _ (List.mem_of_getElem? (hft2 j hj))
      simpa using h2)] at h1
    simp [vp_V, h1]) z1 o1 (hF.2.2.2.2.2.2.2.2.2.2.1 _ (by rw [hadn, ← hsz]; exact hS.1))
  refine W.widen (k := c + 1) (n := 450 * (c + 1)) (Nat.le_refl _) (by show 450 * c + N ≤ _; dsimp only at hN; omega) ?_
  have hk := k (nw_ h n) q hq l γ ad B A p e' s mm args below meth c0 hF H1 locs ls hwd ⟨Nat.le_trans hS.1 (by omega), fun x h1 h2 => (o1 x (Nat.lt_of_lt_of_le h1 hS.1)).trans (hS.2.1 x h1 h2), hS.2.2⟩ hl
  rw [List.map_cons, show cv ad (.ref n) = .ref H.size by show Value.ref (ad n) = _; rw [hadn, hsz]] at hk
  exact hk
end ZN
