/-! ===== the rows of memory: fields, arrays, statics ===== -/
def TO_ : List Cond := lw_tbl.filter okW
theorem TO_in {w : Cond} (h1 : w ∈ lw_tbl) (h2 : okW w = true) : w ∈ TO_ := List.mem_filter.mpr ⟨h1, h2⟩
/-- what is known of a class by its number -/
def Cls_ (c : Nat) (q : vw_C) : Prop := vwCl[c]? = some q ∧ c < 9 ∧ (∀ w ∈ u_ws q.1 q.2.1 q.2.2, w ∈ TO_) ∧ (∀ a, a < q.2.2 → ∀ b, b < q.2.2 → a ≠ b → (q.2.1 a).2.1 ≠ (q.2.1 b).2.1) ∧ ∃ ty : Nat → FieldType, (∀ k, k < q.2.2 → parseFieldDescriptor (q.2.1 k).2.2.1 = some (ty k)) ∧ (∀ k, k < q.2.2 → (fts c)[k]? = some (tc_ (ty k))) ∧ (fts c).length = q.2.2
/-- a field's link: the class that asks, its entry, the field's class, number and kind, and whether it is final -/
def FL (own : String) (i c f t : Nat) (fin : Bool) : Prop := ∃ q, Cls_ c q ∧ f < q.2.2 ∧ (fts c)[f]? = some t ∧ (q.2.1 f).1 = q.1 ∧ (q.2.1 f).2.2.2 = fin ∧
  (Cond.fieldLink own i q.1 (q.2.1 f).2.1 (q.2.1 f).2.2.1 ∈ TO_ ∨ Cond.fieldLinkNest own i q.1 (q.2.1 f).2.1 (q.2.1 f).2.2.1 "StoryClasses" ∈ TO_)
theorem TO_w {M : Mi} {γ : Gm} {ad : Nat → Nat} {A : Nat → Prop} {p : Program} {s : State} {m : MethodId} {args : Array Value} {meth : Method} {c : Code} (hF : Fx_ M γ ad A p s m args meth c) : ∀ w ∈ TO_, w.before args s = true := fun w hw => hF.2.2.2.2.2.2.2.1 w (List.mem_filter.mp hw).1 (List.mem_filter.mp hw).2
section ZM
variable {ρ : Type} {M : Mi} {e : ρ → Rs} {ω : Ws} {pc : Nat} {L : List (Nat × Value)} {st : List Value} {h : Hp} {o : Option ρ}
variable {γ : Gm} {ad : Nat → Nat} {B n lim : Nat} {A : Nat → Prop} {κ : Kd} {H H1 : Heap}
theorem wd_ob {c a : Nat} (hW : Wd_ γ ad B A κ n lim h H) (hc : c < 9) (hk : (κ a).1 = c + 1) : a < n ∧ (wl_ γ ad κ h n)[a]? = some (ad a, .inr (c, fs_ ad h a 0 (fts c))) := by
  have ha : a < n := hW.2.2.1 a (by omega)
  refine ⟨ha, ?_⟩
  rw [wl_get γ ad κ h ha]
  unfold ce_
  rw [if_pos (by omega), hk]
  rfl
theorem wd_ar {t a : Nat} (hW : Wd_ γ ad B A κ n lim h H) (ht : 50 ≤ t) (hk : (κ a).1 = t) : a < n ∧ (wl_ γ ad κ h n)[a]? = some (ad a, .inl (γ.2 t, ar_ ad h a t (κ a).2)) := by
  have ha : a < n := hW.2.2.1 a (by omega)
  refine ⟨ha, ?_⟩
  rw [wl_get γ ad κ h ha]
  unfold ce_
  rw [if_neg (by omega), hk]
theorem wd_put {h' : Hp} {a : Nat} (hW : Wd_ γ ad B A κ n lim h H) (ha : a < n) (he : va_at γ.1 vwCl (ad a, ce_ γ ad κ h' a) H1) (ho : ∀ b, b ≠ a → ce_ γ ad κ h' b = ce_ γ ad κ h b) (z : H1.size = H.size) (oq : ∀ q : Nat, q ≠ ad a → H1[q]? = H[q]?) : Wd_ γ ad B A κ n lim h' H1 := by
  have h1 := hW.1.set hW.2.1 (wl_get γ ad κ h ha) he oq
  have h2 := hW.2.1.set (e := ce_ γ ad κ h' a) (wl_get γ ad κ h ha)
  rw [wl_set γ ad κ ha rfl ho] at h1 h2
  exact ⟨h1, h2, hW.2.2.1, hW.2.2.2.1, by rw [z]; exact hW.2.2.2.2⟩
theorem wd_mem {a : Nat} (hW : Wd_ γ ad B A κ n lim h H) (ha : a < n) : A (ad a) := hW.2.1.2 a _ (wl_get γ ad κ h ha)
def av_ (h : Hp) (a k t : Nat) : Value := if t = 1 then .long (g_J h a k) else if t = 2 then va_rf (g_R h a k) else .int (g_I h a k)
theorem av_cv (ad : Nat → Nat) (h : Hp) (a k t : Nat) : cv ad (av_ h a k t) = fv_ ad h a k t := by
  unfold av_ fv_
  by_cases h1 : t = 1
  · rw [if_pos h1, if_pos h1]; rfl
  · rw [if_neg h1, if_neg h1]
    by_cases h2 : t = 2
    · rw [if_pos h2, if_pos h2, cv_rf]
    · rw [if_neg h2, if_neg h2]; rfl
theorem z_get {i c f t a : Nat} {fin : Bool} (d : decode (mC M) pc = .ok (.getfield i, 3)) (hL : FL (mY M).cls i c f t fin) (hk : (ω.1 a).1 = c + 1) (k : ZQ M e ω (pc + 3) L (av_ h a f t :: st) h o) : ZQ M e ω pc L (.ref a :: st) h o := by
  intro q hq l γ ad B A p e' s m args below meth c0 hF H locs ls hW hS hl
  obtain ⟨⟨C, T, N⟩, ⟨hc, hc9, hin, hnm, ty, hty, hft2, hfl⟩, hf, hft, hdecl, hfin, hlk⟩ := hL
  obtain ⟨ha, he⟩ := wd_ob hW hc9 hk
  have hv := fs_get ad h a (fts c) 0 f t hft
  rw [Nat.zero_add, ← av_cv] at hv
  rcases hlk with hlk | hlk
  · exact va_get hF.1 hF.2.1 (TO_w hF) hin hF.2.2.2.2.2.2.1 hF.2.2.2.2.2.2.2.2.1 hW.1 a he hc f hf (TO_w hF _ hlk) (fun x hx => by rw [hdecl] at hx; exact hx) hv d (k q hq l γ ad B A p e' s m args below meth c0 hF H locs ls hW hS hl)
  · exact va_getN hF.1 hF.2.1 (TO_w hF) hin hF.2.2.2.2.2.2.1 hF.2.2.2.2.2.2.2.2.1 hW.1 a he hc f hf (TO_w hF _ hlk) (fun x hx => by rw [hdecl] at hx; exact hx) hv d (k q hq l γ ad B A p e' s m args below meth c0 hF H locs ls hW hS hl)
theorem z_getI {i c f a : Nat} {fin : Bool} (d : decode (mC M) pc = .ok (.getfield i, 3)) (hL : FL (mY M).cls i c f 0 fin) (hk : (ω.1 a).1 = c + 1) (k : ZQ M e ω (pc + 3) L (.int (g_I h a f) :: st) h o) : ZQ M e ω pc L (.ref a :: st) h o := z_get d hL hk k
theorem z_getZ {i c f a : Nat} {fin : Bool} (d : decode (mC M) pc = .ok (.getfield i, 3)) (hL : FL (mY M).cls i c f 3 fin) (hk : (ω.1 a).1 = c + 1) (k : ZQ M e ω (pc + 3) L (.int (g_I h a f) :: st) h o) : ZQ M e ω pc L (.ref a :: st) h o := z_get d hL hk k
theorem z_getJ {i c f a : Nat} {fin : Bool} (d : decode (mC M) pc = .ok (.getfield i, 3)) (hL : FL (mY M).cls i c f 1 fin) (hk : (ω.1 a).1 = c + 1) (k : ZQ M e ω (pc + 3) L (.long (g_J h a f) :: st) h o) : ZQ M e ω pc L (.ref a :: st) h o := z_get d hL hk k
/-- a reference that is no null and of a kind -/
def to_ (κ : Kd) (r : Option Nat) (kd : Nat) (f : Nat → Option ρ) : Option ρ := match r with
  | some b => if (κ b).1 = kd then f b else none
  | none => none
theorem z_toC {r : Option Nat} {kd : Nat} {f : Nat → Option ρ} (k : ∀ b, (ω.1 b).1 = kd → ZQ M e ω pc L (.ref b :: st) h (f b)) : ZQ M e ω pc L (va_rf r :: st) h (to_ ω.1 r kd f) := by
  cases r with
  | none => exact z_no
  | some b => exact z_ite (fun P => k b P) (fun _ => z_no)
theorem z_getR {i c f a kd : Nat} {fin : Bool} {F : Nat → Option ρ} (d : decode (mC M) pc = .ok (.getfield i, 3)) (hL : FL (mY M).cls i c f 2 fin) (hk : (ω.1 a).1 = c + 1) (k : ∀ b, (ω.1 b).1 = kd → ZQ M e ω (pc + 3) L (.ref b :: st) h (F b)) : ZQ M e ω pc L (.ref a :: st) h (to_ ω.1 (g_R h a f) kd F) :=
  z_get d hL hk (z_toC k)
/-- a field becomes a value: what the heap's words h' must say of it -/
theorem z_put {i c f t a : Nat} {v : Value} {h' : Hp} (d : decode (mC M) pc = .ok (.putfield i, 3)) {fin : Bool} (hL : FL (mY M).cls i c f t fin) (hfi : fin = false ∨ fin = true ∧ (mY M).name = "<init>" ∧ ∃ q, vwCl[c]? = some q ∧ q.1 = (mY M).cls ∧ Cond.fieldLink (mY M).cls i q.1 (q.2.1 f).2.1 (q.2.1 f).2.2.1 ∈ TO_) (hk : (ω.1 a).1 = c + 1) (hn : ∀ (ad : Nat → Nat) (ty : FieldType), tc_ ty = t → narrow ty (cv ad v) = cv ad v ∧ fits ty (cv ad v) = true) (hv : ∀ ad, fv_ ad h' a f t = cv ad v) (ho : ∀ ad j u, j ≠ f → fv_ ad h' a j u = fv_ ad h a j u) (hoc : ∀ γ ad κ b, b ≠ a → ce_ γ ad κ h' b = ce_ γ ad κ h b) (k : ZQ M e ω (pc + 3) L st h' o) : ZQ M e ω pc L (v :: .ref a :: st) h o := by
  intro q hq l γ ad B A p e' s m args below meth c0 hF H locs ls hW hS hl
  obtain ⟨⟨C, T, N⟩, ⟨hc, hc9, hin, hnm, ty, hty, hft2, hfl⟩, hf, hft, hdecl, hfin, hlk⟩ := hL
  obtain ⟨ha, he⟩ := wd_ob hW hc9 hk
  have hts := TO_w hF
  have hK := hF.2.2.2.2.2.2.2.2.1
  have hown := hF.2.2.2.2.2.2.1
  have hap := va_apart (own := C) hts hin ty hty hnm hK hc
  obtain ⟨r, h1, cell, q1, q2, q3, q4⟩ := hW.1 a _ he
  have hr : r = (C, T, N) := Option.some.inj (h1.symm.trans hc)
  subst hr
  obtain ⟨hSl, hfc, kC, hkC, hkind⟩ := hK.1 c _ hc
  obtain ⟨cf, kf, fi, fd, hi, hsl⟩ := hSl f hf
  have hst := (u_facts hfc hkC (u_lays hts hin hf) hi).1
  have htf : tc_ (ty f) = t := Option.some.inj ((hft2 f hf).symm.trans hft)
  obtain ⟨hnr, hfit⟩ := hn ad (ty f) htf
  have hsame : s.fieldFound? C (T f).2.1 (T f).2.2.1 = some (cf, kf, fi, fd) := by have z := hi; dsimp only at hdecl; rw [hdecl] at z; exact z
  have hend : ∀ H' : Heap, H'[ad a]? = some (cell.setSlot fd.slot (cv ad v)) → H'.size = H.size → (∀ x : Nat, x ≠ ad a → H'[x]? = H[x]?) → W p l e' (mR M) s m args below meth c0 H' (locs ++ [⟨ad a, fd.slot⟩]) ω.2.2.1 (450 * ω.2.2.1) (MQ below (Qz γ ad B ω.2.2.2 A (e q)) args s (mR M).cells (mR M).slots A) (F0 m (pc + 3) ls (st.map (cv ad))) := by
    intro H' e1 e2 e3
    rw [hsl] at e1
    refine k q hq l γ ad B A p e' s m args below meth c0 hF H' _ ls (wd_put hW ha ?_ (fun b hb => hoc γ ad ω.1 b hb) e2 e3) (hS.put e2 e3 (wd_mem hW ha)) hl
    unfold ce_
    rw [if_pos (by omega), hk]
    refine ⟨(C, T, N), hc, ?_⟩
    rw [show c + 1 - 1 = c from rfl, ← fs_set ad a hft (hv ad) (fun j u hj _ => ho ad j u hj)]
    exact t_OB.to (V := updV (vp_V (fs_ ad h a 0 (fts c))) f (cv ad v)) ⟨_, e1, q2, q3, t_set q4 hap hf _⟩ (fun j _ => vp_updV_set (by rw [fs_len, hfl]; exact hf) _ j)
  have hlt : fd.slot < cell.slots.size := by rw [hsl]; exact k2_hasslot (q4 f hf)
  have hlay := hts _ (hin _ (u_in_lay hf))
  unfold u_lay at hlay
  rcases hfi with rfl | ⟨rfl, hi1, q', hq', hq1, hlkF⟩
  · rw [if_neg (by dsimp only at hfin; rw [hfin]; decide)] at hlay
    have h6 := u_store hfc hkC hkind hlay hi (hty f hf) hnr hfit
    rcases hlk with hlk | hlk
    · exact W.putK hF.1 hF.2.1 (f := fd) ⟨hown, hts _ hlk, ⟨_, _, _, hsame⟩, hst⟩ (by rw [q2]; exact h6) q1 q3 hlt rfl rfl d hend
    · exact va_WputK hF.1 hF.2.1 (f := fd) hown (hts _ hlk) hsame hst (by rw [q2]; exact h6) q1 q3 hlt rfl rfl d hend
  · cases hc.symm.trans hq'
    have hl2 : (Cond.lays C (T f).1 (T f).2.1 (T f).2.2.1).before args s = true ∨ (Cond.laysFinal C (T f).1 (T f).2.1 (T f).2.2.1).before args s = true := u_lays hts hin hf
    have h6 := u_fits hfc hkC hkind hl2 hi (hty f hf) hnr hfit
    have hown2 : s.vm.findClass C = some m.cls := by have z := hown; dsimp only at hq1; rw [← hq1] at z; exact z
    rw [if_pos (by dsimp only at hfin; exact hfin)] at hlay
    have hcf : m.cls = cf := by
      obtain ⟨_, _, c', _, _, _, -, -, hf', -, -, -, hown3, -⟩ := Cond.laysFinal_spec hlay
      dsimp only at hdecl
      rw [hdecl] at hf' hown3
      have e5 : c' = cf := by have e6 := hsame.symm.trans hf'; simp at e6; exact e6.1.symm
      rw [← e5]; exact Option.some.inj (hown2.symm.trans hown3)
    exact W.putFinK hF.1 hF.2.1 (f := fd) hown (hts _ hlkF) hsame hst hcf (by rw [hF.2.2.2.2.2.1]; exact hi1) (by rw [q2]; exact h6) q1 q3 hlt rfl rfl d hend
end ZM
