/-! ===== calls: from a walk to a contract, and a contract at a call ===== -/
theorem lw_args (ad : Nat → Nat) : ∀ (vs : List Value) (i : Nat), lv_args i (vs.map (cv ad)) = cL_ ad (lv_args i vs)
  | [], _ => rfl
  | v :: vs, i => by
    show (i, cv ad v) :: lv_args _ (vs.map (cv ad)) = (i, cv ad v) :: cL_ ad (lv_args _ vs)
    rw [lw_args ad vs, cv_cat]
theorem lg_len (ad : Nat → Nat) (vs : List Value) : (lg_sl (vs.map (cv ad))).length = (lg_sl vs).length := by
  induction vs with
  | nil => rfl
  | cons v t ih =>
    have h1 : ∀ (w : Value) (ws : List Value), (lg_sl (w :: ws)).length = (if w.category = 2 then 2 else 1) + (lg_sl ws).length := by
      intro w ws
      simp only [lg_sl, List.flatMap_cons, List.length_append]
      by_cases hw : w.category = 2 <;> simp [hw]
    rw [List.map_cons, h1, h1, cv_cat, ih]
theorem ns_any {w : Cond} (hn : nest_ w = true) {A A' : Array Value} {U : State} (hb : w.before A U = true) : w.before A' U = true := by
  cases w <;> first | (simp [nest_] at hn; done) | exact va_tabs rfl rfl hb | exact hb
theorem ns_same {w : Cond} (hn : nest_ w = true) {u U : State} (hv : u.vm = U.vm) (hb : w.before #[] u = true) : w.before #[] U = true := by
  cases w with
  | fieldLinkNest a i b n d h => exact va_Nw.same rfl hv hb
  | methodLinkNest a i x h => exact va_Nw.same rfl hv hb
  | arrayOver ty =>
    cases ty with
    | object C => exact va_AO.moved (u := u) (by rw [hv]; exact Vm.Alike.refl U.vm) hb
    | _ => simp [nest_] at hn
  | _ => simp [nest_] at hn
theorem ns_warm {w : Cond} (hn : nest_ w = true) {s U : State} (hW : s.WarmedH U.vm) (hb : w.before #[] s = true) : w.before #[] U = true := by
  cases w with
  | fieldLinkNest a i b n d h => exact va_Nw.warmF hW hb
  | methodLinkNest a i x h => exact va_Nw.warmM hW hb
  | arrayOver ty =>
    cases ty with
    | object C => exact va_AO.moved hW.alike hb
    | _ => simp [nest_] at hn
  | _ => simp [nest_] at hn
theorem ev_blind {γ : Gm} {ad : Nat → Nat} {A : Nat → Prop} {U : State} (g : JFrame) (mk : MethodId) (a : Array Value) (hE : Ev_ γ ad A U) : Ev_ γ ad A (U.calling g mk a) :=
  ⟨fun w hw hn => ns_same (u := U) hn rfl (hE.1 w hw hn), va_K.moved (u := U) (U := U.calling g mk a) (Vm.Alike.refl U.vm) hE.2.1, fun i hi => ⟨va_Z.moved (u := U) (U := U.calling g mk a) (Vm.Alike.refl U.vm) (hE.2.2 i hi).1, va_T.moved (u := U) (U := U.calling g mk a) (Vm.Alike.refl U.vm) (hE.2.2 i hi).2⟩⟩
theorem ev_move {γ : Gm} {ad : Nat → Nat} {A A1 : Nat → Prop} {s U : State} {H : Heap} {locs : List Loc} (h1 : Nst s) (h2 : va_K γ.1 vwCl (tys_ γ) s) (h3 : Stt ad A s s.heap) (hW : s.WarmedH U.vm) (hU : U.heap = H) (hS : va_S A s.heap H locs) (hA : ∀ q, A1 q → A q) : Ev_ γ ad A1 U := by
  refine ⟨fun w hw hn => ns_warm hn hW (h1 w hw hn), va_K.moved hW.alike h2, fun i hi => ?_⟩
  rw [hU]
  exact ⟨va_Z.narrow (va_Z.kept (va_Z.moved hW.alike (h3 i hi).1) (fun a h4 h5 => hS.2.1 a h4 h5)) hA, va_T.narrow (va_T.kept (va_T.moved hW.alike (h3 i hi).2) (fun a h4 h5 => hS.2.1 a h4 h5)) hA⟩
theorem ct_of {ρ : Type} {M : Mi} {as : List Value} {κ : Kd} {n lim : Nat} {h : Hp} {e : ρ → Rs} {o : Option ρ} (hy : plainName (mY M).cls = true) (hl : (lg_sl as).length ≤ mL M) (hZ : ZQ M e (κ, n, 0, lim) 0 (lv_args 0 as) [] h o) : Ct_ M as κ n lim h e o := by
  intro q hq l γ ad B
  refine Met.ofW (cc := mC M) (maxL := mL M) (ret := mT M) hy rfl ?_
  intro p e' s m args below meth c s₁ Bd hml hv
  obtain ⟨rfl, hW, hE⟩ := hv
  have hpre := atoms_spec (ws := Cond.code (mY M) (mC M) (mL M) (mT M) :: TT) Bd.pre
  have hts : ∀ w ∈ lw_tbl, okW w = true → w.before (as.map (cv ad)).toArray s = true := by
    intro w hw ho
    rcases Bool.or_eq_true _ _ ▸ ho with h1 | h1
    · exact hpre w (List.mem_cons_of_mem _ (List.mem_filter.mpr ⟨hw, h1⟩))
    · exact ns_any h1 (hE.1 w hw h1)
  have hF : Fx_ M γ ad (Aw_ ad B n) p s m (as.map (cv ad)).toArray meth c :=
    ⟨Bd.exec, Bd.bytes, hml, Bd.returns, Bd.notSynchronized, (name_of_methodNamed Bd.named Bd.method).1, findClass_of_methodNamed Bd.named, hts, hE.2.1, hE.2.2, fun x hx => Or.inr (by rw [← hW.2.2.2.2]; exact hx), hE.1⟩
  have hent := lv_entry (as.map (cv ad)) (n := mL M) (by rw [lg_len]; exact hl)
  rw [lw_args] at hent
  rw [lg_entry_eq]
  exact hZ q hq l γ ad B (Aw_ ad B n) p e' s m _ below meth c hF s.heap [] _ hW va_S.rf hent
/-- an invocation at pc: whatever contract the callee has, it can be used -/
def Rn_ (M M' : Mi) (pc : Nat) (κ : Kd) (as st : List Value) : Prop :=
  ∀ (l : Launch) (γ : Gm) (ad : Nat → Nat) (B : Nat) (A : Nat → Prop) (p : Program) (e' : Env) (s : State) (m : MethodId) (args : Array Value) (below : List Frame) (meth : Method) (c : Code) (H : Heap) (locs : List Loc) (ls : Array Slot) (cells n lim : Nat) (h : Hp) (Qc : Array Value → State → Outcome → State → Prop),
    Fx_ M γ ad A p s m args meth c → Wd_ γ ad B A κ n lim h H → va_S A s.heap H locs → ls.size = mL M → cells + (mR M').cells ≤ (mR M).cells → 450 * cells + (mR M').slots ≤ (mR M).slots →
    Met l (mY M') (.code (mY M') (mC M') (mL M') (mT M') :: TT) (mR M') (va_Pc (as.map (cv ad)) (fun U => Wd_ γ ad B (Aw_ ad B n) κ n lim h U.heap ∧ Ev_ γ ad (Aw_ ad B n) U)) Qc (mR M').cells (mR M').slots (Aw_ ad B n) →
    va_Run p l e' (mR M) s m args below meth c H locs cells (450 * cells) (mR M').cells (mR M').slots (F0 m pc ls ((as.reverse ++ st).map (cv ad))) (st.map (cv ad)) (Qc (as.map (cv ad)).toArray) (Aw_ ad B n)
/-- what a callee's name stands for -/
def MF (M' : Mi) (np : Nat) : Prop := Cond.code (mY M') (mC M') (mL M') (mT M') ∈ TT ∧ Cond.initialized (mY M').cls ∈ TT ∧ ((mY M').cls ≠ "java/lang/invoke/MethodHandle" ∧ (mY M').cls ≠ "java/lang/invoke/VarHandle") ∧ (parseMethodDescriptor (mY M').desc).map (fun d => d.parameters.length) = some np
def Lk_ (own : String) (i : Nat) (y : MethodName) : Prop := Cond.methodLink own i y ∈ TO_ ∨ Cond.methodLinkNest own i y "StoryClasses" ∈ TO_
def Rm_ (M M' : Mi) : Prop := (mR M').frames + 1 ≤ (mR M).frames ∧ 8 + (mL M' + 11) + (mR M').locals ≤ (mR M).locals
theorem aw_in {γ : Gm} {ad : Nat → Nat} {B n lim : Nat} {A : Nat → Prop} {κ : Kd} {h : Hp} {H : Heap} {s : State} {locs : List Loc} (hA : ∀ q, s.heap.size ≤ q → A q) (hW : Wd_ γ ad B A κ n lim h H) (hS : va_S A s.heap H locs) : ∀ q, Aw_ ad B n q → A q := by
  intro q hq
  rcases hq with ⟨a, ha, rfl⟩ | hq
  · exact wd_mem hW ha
  · exact hA q (by rw [← hW.2.2.2.2] at hq; exact Nat.le_trans hS.1 hq)
theorem wd_own {γ : Gm} {ad : Nat → Nat} {B n lim : Nat} {A : Nat → Prop} {κ : Kd} {h : Hp} {H : Heap} (hW : Wd_ γ ad B A κ n lim h H) : Wd_ γ ad B (Aw_ ad B n) κ n lim h H := by
  refine ⟨hW.1, ⟨hW.2.1.1, fun k q hk => ?_⟩, hW.2.2⟩
  have hl : k < n := by have := (List.getElem?_eq_some_iff.mp hk).1; rw [wl_len] at this; exact this
  rw [wl_get γ ad κ h hl] at hk
  cases hk
  exact Or.inl ⟨k, hl, rfl⟩
theorem tt_w {M : Mi} {γ : Gm} {ad : Nat → Nat} {A : Nat → Prop} {p : Program} {s : State} {m : MethodId} {args : Array Value} {meth : Method} {c : Code} (hF : Fx_ M γ ad A p s m args meth c) {w : Cond} (hw : w ∈ TT) : w.before args s = true := hF.2.2.2.2.2.2.2.1 w (List.mem_filter.mp hw).1 (by unfold okW; rw [(List.mem_filter.mp hw).2]; rfl)
theorem tt_all {M : Mi} {γ : Gm} {ad : Nat → Nat} {A : Nat → Prop} {p : Program} {s : State} {m : MethodId} {args : Array Value} {meth : Method} {c : Code} (hF : Fx_ M γ ad A p s m args meth c) {M' : Mi} {np : Nat} (hM : MF M' np) : ∀ w ∈ (Cond.code (mY M') (mC M') (mL M') (mT M') :: TT), ∀ (a' : Array Value) (U : State), s.WarmedH U.vm → w.before a' U = true := by
  intro w hw a' U hWm
  have h1 : w ∈ TT := by
    rcases List.mem_cons.mp hw with h | h
    · rw [h]; exact hM.1
    · exact h
  exact word_at hWm (good_of_word (List.mem_filter.mp h1).2) (tt_w hF h1)
theorem mf_ar {M' : Mi} {np : Nat} (hM : MF M' np) : ∀ sig, parseMethodDescriptor (mY M').desc = some sig → np = sig.parameters.length := by
  intro sig hs
  have h2 := hM.2.2.2
  rw [hs] at h2
  exact (Option.some.inj h2).symm
theorem cat_sum (ad : Nat → Nat) (st : List Value) : ((st.map (cv ad)).map fun v => v.category).sum = (st.map fun v => v.category).sum := by
  rw [List.map_map]
  congr 1
  apply List.map_congr_left
  intro v _
  exact cv_cat ad v
section ZC
variable {M M' : Mi} {pc i np : Nat} {κ : Kd} {st As : List Value}
theorem rn_V {ci b : Nat} {q0 : vw_C} (d : decode (mC M) pc = .ok (.invokevirtual i, 3)) (hM : MF M' np) (hi : Cond.instanceMethod (mY M') ∈ TT ∧ Cond.selects (mY M').cls (mY M') (mY M') ∈ TT) (hL : Lk_ (mY M).cls i (mY M')) (hR : Rm_ M M') (hc : Cls_ ci q0) (hcq : q0.1 = (mY M').cls) (hk : (κ b).1 = ci + 1) (hn : As.length = np) (hst : (st.map fun v => v.category).sum ≤ 8) : Rn_ M M' pc κ (.ref b :: As) st := by
  intro l γ ad B A p e' s m args below meth c H locs ls cells n lim h Qc hF hW hS hls hcl hsl hMet
  have hA1 := aw_in hF.2.2.2.2.2.2.2.2.2.2.1 hW hS
  obtain ⟨hbn, hbe⟩ := wd_ob hW hc.2.1 hk
  have hrecv := va_recv hF.2.2.2.2.2.2.2.2.1 hW.1 hc.1 hbe
  rw [hcq] at hrecv
  have hP : PreV s H (mY M').cls (ad b) (va_Pc ((Value.ref b :: As).map (cv ad)) (fun U => Wd_ γ ad B (Aw_ ad B n) κ n lim h U.heap ∧ Ev_ γ ad (Aw_ ad B n) U)) (As.map (cv ad)) :=
    ⟨fun a U g mk hq => ⟨hq.1, hq.2.1, ev_blind g mk a hq.2.2⟩, hrecv, fun U hU hWm => ⟨rfl, by rw [hU]; exact wd_own hW, ev_move hF.2.2.2.2.2.2.2.2.2.2.2 hF.2.2.2.2.2.2.2.2.1 hF.2.2.2.2.2.2.2.2.2.1 hWm hU hS hA1⟩⟩
  have hstk : ((((Value.ref b :: As).reverse ++ st).map (cv ad))) = (As.map (cv ad)).reverse ++ Value.ref (ad b) :: st.map (cv ad) := by simp [cv]
  have hws := tt_all hF hM
  have hmon : 2 * (F0 m pc ls (((Value.ref b :: As).reverse ++ st).map (cv ad))).monitorRoom + ((st.map (cv ad)).map fun v => v.category).sum ≤ 8 := by
    rw [cat_sum]
    show 2 * 0 + _ ≤ 8
    omega
  rcases hL with hL | hL
  · exact va_runV (Ts := TO_) ⟨hF.1, hF.2.1, hF.2.2.1, hF.2.2.2.2.2.2.1, TO_w hF⟩ hMet ⟨⟨rfl, rfl, hR.1, hR.2, hws, List.mem_cons_self, tt_w hF hM.1, tt_w hF hM.2.1, hM.2.2.1, mf_ar hM, TO_w hF _ hL⟩, tt_w hF hi.1, tt_w hF hi.2⟩ hP rfl (by rw [List.length_map]; exact hn) hls hstk hmon d ⟨hcl, hsl⟩
  · exact va_runVN (Ts := TO_) ⟨hF.1, hF.2.1, hF.2.2.1, hF.2.2.2.2.2.2.1, TO_w hF⟩ hMet ⟨⟨⟨rfl, rfl, hR.1, hR.2, hws, List.mem_cons_self⟩, tt_w hF hM.1, tt_w hF hM.2.1, hM.2.2.1, mf_ar hM, TO_w hF _ hL⟩, tt_w hF hi.1, tt_w hF hi.2⟩ hP rfl (by rw [List.length_map]; exact hn) hls hstk hmon d ⟨hcl, hsl⟩
theorem rn_S (d : decode (mC M) pc = .ok (.invokestatic i, 3)) (hM : MF M' np) (hi : Cond.static (mY M') ∈ TT) (hL : Lk_ (mY M).cls i (mY M')) (hR : Rm_ M M') (hn : As.length = np) (hst : (st.map fun v => v.category).sum ≤ 8) : Rn_ M M' pc κ As st := by
  intro l γ ad B A p e' s m args below meth c H locs ls cells n lim h Qc hF hW hS hls hcl hsl hMet
  have hA1 := aw_in hF.2.2.2.2.2.2.2.2.2.2.1 hW hS
  have hP : PreS s H (va_Pc (As.map (cv ad)) (fun U => Wd_ γ ad B (Aw_ ad B n) κ n lim h U.heap ∧ Ev_ γ ad (Aw_ ad B n) U)) (As.map (cv ad)) :=
    ⟨fun a U g mk hq => ⟨hq.1, hq.2.1, ev_blind g mk a hq.2.2⟩, fun U hU hWm => ⟨rfl, by rw [hU]; exact wd_own hW, ev_move hF.2.2.2.2.2.2.2.2.2.2.2 hF.2.2.2.2.2.2.2.2.1 hF.2.2.2.2.2.2.2.2.2.1 hWm hU hS hA1⟩⟩
  have hstk : (((As.reverse ++ st).map (cv ad))) = (As.map (cv ad)).reverse ++ st.map (cv ad) := by simp
  have hws := tt_all hF hM
  have hmon : 2 * (F0 m pc ls ((As.reverse ++ st).map (cv ad))).monitorRoom + ((st.map (cv ad)).map fun v => v.category).sum ≤ 8 := by
    rw [cat_sum]
    show 2 * 0 + _ ≤ 8
    omega
  rcases hL with hL | hL
  · exact va_runS (Ts := TO_) ⟨hF.1, hF.2.1, hF.2.2.1, hF.2.2.2.2.2.2.1, TO_w hF⟩ hMet ⟨⟨rfl, rfl, hR.1, hR.2, hws, List.mem_cons_self, tt_w hF hM.1, tt_w hF hM.2.1, hM.2.2.1, mf_ar hM, TO_w hF _ hL⟩, tt_w hF hi⟩ hP rfl (by rw [List.length_map]; exact hn) hls hstk hmon d ⟨hcl, hsl⟩
  · exact va_runSN (Ts := TO_) ⟨hF.1, hF.2.1, hF.2.2.1, hF.2.2.2.2.2.2.1, TO_w hF⟩ hMet ⟨⟨⟨rfl, rfl, hR.1, hR.2, hws, List.mem_cons_self⟩, tt_w hF hM.1, tt_w hF hM.2.1, hM.2.2.1, mf_ar hM, TO_w hF _ hL⟩, tt_w hF hi, trivial⟩ hP rfl (by rw [List.length_map]; exact hn) hls hstk hmon d ⟨hcl, hsl⟩
theorem rn_I {b : Nat} (d : decode (mC M) pc = .ok (.invokespecial i, 3)) (hM : MF M' np) (hr : mT M' = none) (hi : Cond.instanceMethod (mY M') ∈ TT ∧ (mY M').name = "<init>") (hL : Lk_ (mY M).cls i (mY M')) (hR : Rm_ M M') (hn : As.length = np) (hst : (st.map fun v => v.category).sum ≤ 8) : Rn_ M M' pc κ (.ref b :: As) st := by
  intro l γ ad B A p e' s m args below meth c H locs ls cells n lim h Qc hF hW hS hls hcl hsl hMet
  have hA1 := aw_in hF.2.2.2.2.2.2.2.2.2.2.1 hW hS
  have hP : PreS s H (va_Pc ((Value.ref b :: As).map (cv ad)) (fun U => Wd_ γ ad B (Aw_ ad B n) κ n lim h U.heap ∧ Ev_ γ ad (Aw_ ad B n) U)) (.ref (ad b) :: As.map (cv ad)) :=
    ⟨fun a U g mk hq => ⟨hq.1, hq.2.1, ev_blind g mk a hq.2.2⟩, fun U hU hWm => ⟨rfl, by rw [hU]; exact wd_own hW, ev_move hF.2.2.2.2.2.2.2.2.2.2.2 hF.2.2.2.2.2.2.2.2.1 hF.2.2.2.2.2.2.2.2.2.1 hWm hU hS hA1⟩⟩
  have hstk : ((((Value.ref b :: As).reverse ++ st).map (cv ad))) = (As.map (cv ad)).reverse ++ Value.ref (ad b) :: st.map (cv ad) := by simp [cv]
  have hws := tt_all hF hM
  have hmon : 2 * (F0 m pc ls (((Value.ref b :: As).reverse ++ st).map (cv ad))).monitorRoom + ((st.map (cv ad)).map fun v => v.category).sum ≤ 8 := by
    rw [cat_sum]
    show 2 * 0 + _ ≤ 8
    omega
  have hcode := tt_w hF hM.1
  rw [hr] at hws hMet hcode
  rcases hL with hL | hL
  · exact va_runI (Ts := TO_) ⟨hF.1, hF.2.1, hF.2.2.1, hF.2.2.2.2.2.2.1, TO_w hF⟩ hMet ⟨⟨rfl, rfl, hR.1, hR.2, hws, List.mem_cons_self, hcode, tt_w hF hM.2.1, hM.2.2.1, mf_ar hM, TO_w hF _ hL⟩, hi.2, tt_w hF hi.1⟩ hP rfl (by rw [List.length_map]; exact hn) hls hstk hmon d ⟨hcl, hsl⟩
  · exact va_runIN (Ts := TO_) ⟨hF.1, hF.2.1, hF.2.2.1, hF.2.2.2.2.2.2.1, TO_w hF⟩ hMet ⟨⟨⟨rfl, rfl, hR.1, hR.2, hws, List.mem_cons_self⟩, hcode, tt_w hF hM.2.1, hM.2.2.1, mf_ar hM, TO_w hF _ hL⟩, hi.2, tt_w hF hi.1⟩ hP rfl (by rw [List.length_map]; exact hn) hls hstk hmon d ⟨hcl, hsl⟩
end ZC
section ZD
variable {ρ ρ' : Type} {M M' : Mi} {e : ρ → Rs} {e2 : ρ' → Rs} {ω : Ws} {pc : Nat} {L : List (Nat × Value)} {st as : List Value} {h : Hp} {o' : Option ρ'} {K : ρ' → Option ρ}
def Cx_ (M M' : Mi) (ω : Ws) : Prop := ω.2.2.1 + (mR M').cells ≤ (mR M).cells ∧ 450 * ω.2.2.1 + (mR M').slots ≤ (mR M).slots ∧ (mR M').slots = 450 * (mR M').cells
theorem z_call (hR : Rn_ M M' pc ω.1 as st) (hC : Ct_ M' as ω.1 ω.2.1 ω.2.2.2 h e2 o') (hx : Cx_ M M' ω) (k : ∀ q', ZQ M e ((e2 q').2.2.1, (e2 q').2.2.2, ω.2.2.1 + (mR M').cells, ω.2.2.2) (pc + 3) L ((e2 q').1.toList ++ st) (e2 q').2.1 (K q')) : ZQ M e ω pc L (as.reverse ++ st) h (o'.bind K) := by
  cases o' with
  | none => exact z_no
  | some q' =>
    intro q hq l γ ad B A p e' s m args below meth c hF H locs ls hW hS hl
    have hA1 := aw_in hF.2.2.2.2.2.2.2.2.2.2.1 hW hS
    have hrun := hR l γ ad B A p e' s m args below meth c H locs ls ω.2.2.1 ω.2.1 ω.2.2.2 h _ hF hW hS hl.1 hx.1 hx.2.1 (hC q' rfl l γ ad B)
    intro T hT X
    obtain ⟨v, st₀, t, T', L', h0, X', hL', e1, e3, ⟨hv, hW', hFr⟩, hst⟩ := hrun T hT X
    have hS' : va_S A s.heap T'.heap (locs ++ L') := by
      rw [e1]
      refine ⟨Nat.le_trans hS.1 (by rw [← h0]; exact hFr.1), fun x h1 h2 => ?_, fun x hx => ?_⟩
      · rw [hFr.2 x (by rw [h0]; exact Nat.lt_of_lt_of_le h1 hS.1) (fun z => h2 (hA1 x z)), h0]
        exact hS.2.1 x h1 h2
      · rcases List.mem_append.mp hx with h3 | h3
        · exact hS.2.2 x h3
        · exact hA1 _ (hL' x h3)
    have hW2 : Wd_ γ ad B A (e2 q').2.2.1 (e2 q').2.2.2 ω.2.2.2 (e2 q').2.1 T'.heap := by
      rw [e1]
      exact ⟨hW'.1, hW'.2.1.weaken (fun k x _ h2 => hA1 x.1 h2), hW'.2.2⟩
    have hk := k q' q hq l γ ad B A p e' s m args below meth c hF T'.heap (locs ++ L') ls hW2 hS' hl
    rw [show 450 * (ω.2.2.1 + (mR M').cells) = 450 * ω.2.2.1 + (mR M').slots by rw [Nat.mul_add, hx.2.2]] at hk
    obtain ⟨t2, a1, b1⟩ := hk T' rfl X'
    refine ⟨t2, hst t2 ?_, b1⟩
    have hv2 : v = (e2 q').1.map (cv ad) := by injection hv
    rw [show (((e2 q').1.toList ++ st).map (cv ad)) = v.toList ++ st.map (cv ad) by rw [hv2, List.map_append]; cases (e2 q').1 <;> rfl] at a1
    exact a1
end ZD
/-! encoders of what a method answers -/
def eI (κ : Kd) (n : Nat) : Int32 × Hp → Rs := fun q => (some (.int q.1), q.2, κ, n)
def eJ (κ : Kd) (n : Nat) : Int64 × Hp → Rs := fun q => (some (.long q.1), q.2, κ, n)
def eQ (κ : Kd) (n : Nat) : Option Nat × Hp → Rs := fun q => (some (va_rf q.1), q.2, κ, n)
def eV (κ : Kd) (n : Nat) : Hp → Rs := fun q => (none, q, κ, n)
def pI (κ : Kd) (n : Nat) (h : Hp) : Int32 → Rs := fun q => (some (.int q), h, κ, n)
def pJ (κ : Kd) (n : Nat) (h : Hp) : Int64 → Rs := fun q => (some (.long q), h, κ, n)
def pD (κ : Kd) (n : Nat) (h : Hp) : UInt64 → Rs := fun q => (some (.double q), h, κ, n)
def pQ (κ : Kd) (n : Nat) (h : Hp) : Option Nat → Rs := fun q => (some (va_rf q), h, κ, n)
def b2 {α ρ : Type} (o : Option (α × Hp)) (f : α → Hp → Option ρ) : Option ρ := o.bind (fun q => f q.1 q.2)
section ZE
variable {ρ : Type} {M M' : Mi} {e : ρ → Rs} {κ : Kd} {n lim pc : Nat} {L : List (Nat × Value)} {st as : List Value} {h : Hp}
def Cz_ (M' : Mi) : Prop := (mR M').cells = 0 ∧ (mR M').slots = 0
theorem cz_x {c : Nat} (hz : Cz_ M') (hc : c ≤ (mR M).cells ∧ 450 * c ≤ (mR M).slots) : Cx_ M M' (κ, n, c, lim) := by
  refine ⟨?_, ?_, ?_⟩
  · rw [hz.1]; exact hc.1
  · rw [hz.2]; exact hc.2
  · rw [hz.1, hz.2]
theorem z_cI {c : Nat} {o' : Option (Int32 × Hp)} {K : Int32 → Hp → Option ρ} (hR : Rn_ M M' pc κ as st) (hC : Ct_ M' as κ n lim h (eI κ n) o') (hz : Cz_ M') (hc : c ≤ (mR M).cells ∧ 450 * c ≤ (mR M).slots) (k : ∀ v h1, ZQ M e (κ, n, c, lim) (pc + 3) L (.int v :: st) h1 (K v h1)) : ZQ M e (κ, n, c, lim) pc L (as.reverse ++ st) h (b2 o' K) :=
  z_call (ω := (κ, n, c, lim)) hR hC (cz_x hz hc) (fun q' => by
    show ZQ M e (κ, n, c + (mR M').cells, lim) (pc + 3) L (.int q'.1 :: st) q'.2 (K q'.1 q'.2)
    rw [hz.1]
    exact k q'.1 q'.2)
theorem z_cJ {c : Nat} {o' : Option (Int64 × Hp)} {K : Int64 → Hp → Option ρ} (hR : Rn_ M M' pc κ as st) (hC : Ct_ M' as κ n lim h (eJ κ n) o') (hz : Cz_ M') (hc : c ≤ (mR M).cells ∧ 450 * c ≤ (mR M).slots) (k : ∀ v h1, ZQ M e (κ, n, c, lim) (pc + 3) L (.long v :: st) h1 (K v h1)) : ZQ M e (κ, n, c, lim) pc L (as.reverse ++ st) h (b2 o' K) :=
  z_call (ω := (κ, n, c, lim)) hR hC (cz_x hz hc) (fun q' => by
    show ZQ M e (κ, n, c + (mR M').cells, lim) (pc + 3) L (.long q'.1 :: st) q'.2 (K q'.1 q'.2)
    rw [hz.1]
    exact k q'.1 q'.2)
theorem z_cQ {c : Nat} {o' : Option (Option Nat × Hp)} {K : Option Nat → Hp → Option ρ} (hR : Rn_ M M' pc κ as st) (hC : Ct_ M' as κ n lim h (eQ κ n) o') (hz : Cz_ M') (hc : c ≤ (mR M).cells ∧ 450 * c ≤ (mR M).slots) (k : ∀ v h1, ZQ M e (κ, n, c, lim) (pc + 3) L (va_rf v :: st) h1 (K v h1)) : ZQ M e (κ, n, c, lim) pc L (as.reverse ++ st) h (b2 o' K) :=
  z_call (ω := (κ, n, c, lim)) hR hC (cz_x hz hc) (fun q' => by
    show ZQ M e (κ, n, c + (mR M').cells, lim) (pc + 3) L (va_rf q'.1 :: st) q'.2 (K q'.1 q'.2)
    rw [hz.1]
    exact k q'.1 q'.2)
theorem z_cV {c : Nat} {o' : Option Hp} {K : Hp → Option ρ} (hR : Rn_ M M' pc κ as st) (hC : Ct_ M' as κ n lim h (eV κ n) o') (hz : Cz_ M') (hc : c ≤ (mR M).cells ∧ 450 * c ≤ (mR M).slots) (k : ∀ h1, ZQ M e (κ, n, c, lim) (pc + 3) L st h1 (K h1)) : ZQ M e (κ, n, c, lim) pc L (as.reverse ++ st) h (o'.bind K) :=
  z_call (ω := (κ, n, c, lim)) hR hC (cz_x hz hc) (fun q' => by
    show ZQ M e (κ, n, c + (mR M').cells, lim) (pc + 3) L st q' (K q')
    rw [hz.1]
    exact k q')
theorem z_pI {c : Nat} {o' : Option Int32} {K : Int32 → Option ρ} (hR : Rn_ M M' pc κ as st) (hC : Ct_ M' as κ n lim h (pI κ n h) o') (hz : Cz_ M') (hc : c ≤ (mR M).cells ∧ 450 * c ≤ (mR M).slots) (k : ∀ v, ZQ M e (κ, n, c, lim) (pc + 3) L (.int v :: st) h (K v)) : ZQ M e (κ, n, c, lim) pc L (as.reverse ++ st) h (o'.bind K) :=
  z_call (ω := (κ, n, c, lim)) hR hC (cz_x hz hc) (fun q' => by
    show ZQ M e (κ, n, c + (mR M').cells, lim) (pc + 3) L (.int q' :: st) h (K q')
    rw [hz.1]
    exact k q')
theorem z_pJ {c : Nat} {o' : Option Int64} {K : Int64 → Option ρ} (hR : Rn_ M M' pc κ as st) (hC : Ct_ M' as κ n lim h (pJ κ n h) o') (hz : Cz_ M') (hc : c ≤ (mR M).cells ∧ 450 * c ≤ (mR M).slots) (k : ∀ v, ZQ M e (κ, n, c, lim) (pc + 3) L (.long v :: st) h (K v)) : ZQ M e (κ, n, c, lim) pc L (as.reverse ++ st) h (o'.bind K) :=
  z_call (ω := (κ, n, c, lim)) hR hC (cz_x hz hc) (fun q' => by
    show ZQ M e (κ, n, c + (mR M').cells, lim) (pc + 3) L (.long q' :: st) h (K q')
    rw [hz.1]
    exact k q')
theorem z_pD {c : Nat} {o' : Option UInt64} {K : UInt64 → Option ρ} (hR : Rn_ M M' pc κ as st) (hC : Ct_ M' as κ n lim h (pD κ n h) o') (hz : Cz_ M') (hc : c ≤ (mR M).cells ∧ 450 * c ≤ (mR M).slots) (k : ∀ v, ZQ M e (κ, n, c, lim) (pc + 3) L (.double v :: st) h (K v)) : ZQ M e (κ, n, c, lim) pc L (as.reverse ++ st) h (o'.bind K) :=
  z_call (ω := (κ, n, c, lim)) hR hC (cz_x hz hc) (fun q' => by
    show ZQ M e (κ, n, c + (mR M').cells, lim) (pc + 3) L (.double q' :: st) h (K q')
    rw [hz.1]
    exact k q')
theorem z_pQ {c : Nat} {o' : Option (Option Nat)} {K : Option Nat → Option ρ} (hR : Rn_ M M' pc κ as st) (hC : Ct_ M' as κ n lim h (pQ κ n h) o') (hz : Cz_ M') (hc : c ≤ (mR M).cells ∧ 450 * c ≤ (mR M).slots) (k : ∀ v, ZQ M e (κ, n, c, lim) (pc + 3) L (va_rf v :: st) h (K v)) : ZQ M e (κ, n, c, lim) pc L (as.reverse ++ st) h (o'.bind K) :=
  z_call (ω := (κ, n, c, lim)) hR hC (cz_x hz hc) (fun q' => by
    show ZQ M e (κ, n, c + (mR M').cells, lim) (pc + 3) L (va_rf q' :: st) h (K q')
    rw [hz.1]
    exact k q')
end ZE
