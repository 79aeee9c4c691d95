section ZR
variable {ρ : Type} {M : Mi} {e : ρ → Rs} {ω : Ws} {pc : Nat} {L : List (Nat × Value)} {st : List Value} {h : Hp} {o : Option ρ}
theorem z_to {pc' : Nat} (hp : pc = pc') (k : ZQ M e ω pc' L st h o) : ZQ M e ω pc L st h o := hp ▸ k
theorem z_some {q : ρ} (k : ZQ M e ω pc L st h (some q)) (ho : o = some q) : ZQ M e ω pc L st h o := ho ▸ k
theorem z_no : ZQ M e ω pc L st h (none : Option ρ) := fun q hq => by cases hq
theorem z_ite {P : Prop} [Decidable P] {o1 o2 : Option ρ} (k1 : P → ZQ M e ω pc L st h o1) (k2 : ¬ P → ZQ M e ω pc L st h o2) : ZQ M e ω pc L st h (if P then o1 else o2) := by
  by_cases hP : P
  · rw [if_pos hP]; exact k1 hP
  · rw [if_neg hP]; exact k2 hP
theorem z_or {P : Prop} [Decidable P] {o1 : Option ρ} (k1 : P → ZQ M e ω pc L st h o1) : ZQ M e ω pc L st h (if P then o1 else none) := z_ite k1 (fun _ => z_no)
theorem cL_at {ad : Nat → Nat} {j i : Nat} {v : Value} (hj : L[j]? = some (i, v)) : (cL_ ad L)[j]? = some (i, cv ad v) := by simp [cL_, hj]
theorem cL_f1 (ad : Nat → Nat) (i : Nat) (L : List (Nat × Value)) : (cL_ ad L).filter (fun q => !(q.1 == i) && !(q.1 + 1 == i && q.2.category == 2)) = cL_ ad (L.filter (fun q => !(q.1 == i) && !(q.1 + 1 == i && q.2.category == 2))) := by
  unfold cL_
  rw [List.filter_map]
  congr 1
  apply List.filter_congr
  intro x _
  simp [cv_cat]
theorem cL_f2 (ad : Nat → Nat) (i : Nat) (L : List (Nat × Value)) : (cL_ ad L).filter (fun q => !(q.1 == i) && (!(q.1 == i + 1) && !(q.1 + 1 == i && q.2.category == 2))) = cL_ ad (L.filter (fun q => !(q.1 == i) && (!(q.1 == i + 1) && !(q.1 + 1 == i && q.2.category == 2)))) := by
  unfold cL_
  rw [List.filter_map]
  congr 1
  apply List.filter_congr
  intro x _
  simp [cv_cat]
theorem z_iconst {n : Int} {v : Int32} (d : decode (mC M) pc = .ok (.iconst n, 1)) (hv : Int32.ofInt n = v) (k : ZQ M e ω (pc + 1) L (.int v :: st) h o) : ZQ M e ω pc L (st) h o := by
  intro q hq l γ ad B A p e' s m args below meth c hF H locs ls hW hS hl
  exact lv_iconst hF.1 hF.2.1 d hv (k q hq l γ ad B A p e' s m args below meth c hF H locs ls hW hS hl)
theorem z_bipush {n : Int} {v : Int32} (d : decode (mC M) pc = .ok (.bipush n, 2)) (hv : (Int8.ofInt n).toInt32 = v) (k : ZQ M e ω (pc + 2) L (.int v :: st) h o) : ZQ M e ω pc L (st) h o := by
  intro q hq l γ ad B A p e' s m args below meth c hF H locs ls hW hS hl
  exact lv_bipush hF.1 hF.2.1 d hv (k q hq l γ ad B A p e' s m args below meth c hF H locs ls hW hS hl)
theorem z_sipush {n : Int} {v : Int32} (d : decode (mC M) pc = .ok (.sipush n, 3)) (hv : (Int16.ofInt n).toInt32 = v) (k : ZQ M e ω (pc + 3) L (.int v :: st) h o) : ZQ M e ω pc L (st) h o := by
  intro q hq l γ ad B A p e' s m args below meth c hF H locs ls hW hS hl
  exact lv_sipush hF.1 hF.2.1 d hv (k q hq l γ ad B A p e' s m args below meth c hF H locs ls hW hS hl)
theorem z_lconst {n : Fin 2} {v : Int64} (d : decode (mC M) pc = .ok (.lconst n, 1)) (hv : Int64.ofNat (n : Nat) = v) (k : ZQ M e ω (pc + 1) L (.long v :: st) h o) : ZQ M e ω pc L (st) h o := by
  intro q hq l γ ad B A p e' s m args below meth c hF H locs ls hW hS hl
  exact lv_lconst hF.1 hF.2.1 d hv (k q hq l γ ad B A p e' s m args below meth c hF H locs ls hW hS hl)
theorem z_dconst  (d : decode (mC M) pc = .ok (.dconst 0, 1)) (k : ZQ M e ω (pc + 1) L (.double FP.dconst0 :: st) h o) : ZQ M e ω pc L (st) h o := by
  intro q hq l γ ad B A p e' s m args below meth c hF H locs ls hW hS hl
  exact lv_dconst0 hF.1 hF.2.1 d (k q hq l γ ad B A p e' s m args below meth c hF H locs ls hW hS hl)
theorem z_null  (d : decode (mC M) pc = .ok (.aconst_null, 1)) (k : ZQ M e ω (pc + 1) L (.null :: st) h o) : ZQ M e ω pc L (st) h o := by
  intro q hq l γ ad B A p e' s m args below meth c hF H locs ls hW hS hl
  exact lv_null hF.1 hF.2.1 d (k q hq l γ ad B A p e' s m args below meth c hF H locs ls hW hS hl)
theorem z_iload_n {n : Fin 4} {i : Nat} {x : Int32} (d : decode (mC M) pc = .ok (.iload_n n, 1)) (hi : (n : Nat) = i) (j : Nat) (hj : L[j]? = some (i, .int x)) (k : ZQ M e ω (pc + 1) L (.int x :: st) h o) : ZQ M e ω pc L (st) h o := by
  intro q hq l γ ad B A p e' s m args below meth c hF H locs ls hW hS hl
  exact lv_iload_n hF.1 hF.2.1 d hi (lv_at hl j (cL_at hj)) (k q hq l γ ad B A p e' s m args below meth c hF H locs ls hW hS hl)
theorem z_iload {i : Nat} {x : Int32} (d : decode (mC M) pc = .ok (.iload i, 2)) (j : Nat) (hj : L[j]? = some (i, .int x)) (k : ZQ M e ω (pc + 2) L (.int x :: st) h o) : ZQ M e ω pc L (st) h o := by
  intro q hq l γ ad B A p e' s m args below meth c hF H locs ls hW hS hl
  exact lv_iload hF.1 hF.2.1 d (lv_at hl j (cL_at hj)) (k q hq l γ ad B A p e' s m args below meth c hF H locs ls hW hS hl)
theorem z_lload_n {n : Fin 4} {i : Nat} {x : Int64} (d : decode (mC M) pc = .ok (.lload_n n, 1)) (hi : (n : Nat) = i) (j : Nat) (hj : L[j]? = some (i, .long x)) (k : ZQ M e ω (pc + 1) L (.long x :: st) h o) : ZQ M e ω pc L (st) h o := by
  intro q hq l γ ad B A p e' s m args below meth c hF H locs ls hW hS hl
  exact lv_lload_n hF.1 hF.2.1 d hi (lv_at hl j (cL_at hj)) (k q hq l γ ad B A p e' s m args below meth c hF H locs ls hW hS hl)
theorem z_lload {i : Nat} {x : Int64} (d : decode (mC M) pc = .ok (.lload i, 2)) (j : Nat) (hj : L[j]? = some (i, .long x)) (k : ZQ M e ω (pc + 2) L (.long x :: st) h o) : ZQ M e ω pc L (st) h o := by
  intro q hq l γ ad B A p e' s m args below meth c hF H locs ls hW hS hl
  exact lv_lload hF.1 hF.2.1 d (lv_at hl j (cL_at hj)) (k q hq l γ ad B A p e' s m args below meth c hF H locs ls hW hS hl)
theorem z_aload_n {n : Fin 4} {i a : Nat} (d : decode (mC M) pc = .ok (.aload_n n, 1)) (hi : (n : Nat) = i) (j : Nat) (hj : L[j]? = some (i, .ref a)) (k : ZQ M e ω (pc + 1) L (.ref a :: st) h o) : ZQ M e ω pc L (st) h o := by
  intro q hq l γ ad B A p e' s m args below meth c hF H locs ls hW hS hl
  exact lv_aload_n hF.1 hF.2.1 d hi (lv_at hl j (cL_at hj)) (k q hq l γ ad B A p e' s m args below meth c hF H locs ls hW hS hl)
theorem z_aload {i a : Nat} (d : decode (mC M) pc = .ok (.aload i, 2)) (j : Nat) (hj : L[j]? = some (i, .ref a)) (k : ZQ M e ω (pc + 2) L (.ref a :: st) h o) : ZQ M e ω pc L (st) h o := by
  intro q hq l γ ad B A p e' s m args below meth c hF H locs ls hW hS hl
  exact lv_aload hF.1 hF.2.1 d (lv_at hl j (cL_at hj)) (k q hq l γ ad B A p e' s m args below meth c hF H locs ls hW hS hl)
theorem z_aload_nN {n : Fin 4} {i : Nat} (d : decode (mC M) pc = .ok (.aload_n n, 1)) (hi : (n : Nat) = i) (j : Nat) (hj : L[j]? = some (i, .null)) (k : ZQ M e ω (pc + 1) L (.null :: st) h o) : ZQ M e ω pc L (st) h o := by
  intro q hq l γ ad B A p e' s m args below meth c hF H locs ls hW hS hl
  exact lv_aload_nN hF.1 hF.2.1 d hi (lv_at hl j (cL_at hj)) (k q hq l γ ad B A p e' s m args below meth c hF H locs ls hW hS hl)
theorem z_aloadN {i : Nat} (d : decode (mC M) pc = .ok (.aload i, 2)) (j : Nat) (hj : L[j]? = some (i, .null)) (k : ZQ M e ω (pc + 2) L (.null :: st) h o) : ZQ M e ω pc L (st) h o := by
  intro q hq l γ ad B A p e' s m args below meth c hF H locs ls hW hS hl
  exact lv_aloadN hF.1 hF.2.1 d (lv_at hl j (cL_at hj)) (k q hq l γ ad B A p e' s m args below meth c hF H locs ls hW hS hl)
theorem z_aload_nQ {n : Fin 4} {i : Nat} {r : Option Nat} (d : decode (mC M) pc = .ok (.aload_n n, 1)) (hi : (n : Nat) = i) (j : Nat) (hj : L[j]? = some (i, va_rf r)) (k : ZQ M e ω (pc + 1) L (va_rf r :: st) h o) : ZQ M e ω pc L st h o := by
  cases r with
  | none => exact z_aload_nN d hi j hj k
  | some a => exact z_aload_n d hi j hj k
theorem z_aloadQ {i : Nat} {r : Option Nat} (d : decode (mC M) pc = .ok (.aload i, 2)) (j : Nat) (hj : L[j]? = some (i, va_rf r)) (k : ZQ M e ω (pc + 2) L (va_rf r :: st) h o) : ZQ M e ω pc L st h o := by
  cases r with
  | none => exact z_aloadN d j hj k
  | some a => exact z_aload d j hj k
theorem z_istore_n {n : Fin 4} {i : Nat} {x : Int32} {L' : List (Nat × Value)} (d : decode (mC M) pc = .ok (.istore_n n, 1)) (hi : (n : Nat) = i) (hn : i < mL M) (hL : (i, .int x) :: L.filter (fun q => !(q.1 == i) && !(q.1 + 1 == i && q.2.category == 2)) = L') (k : ZQ M e ω (pc + 1) L' st h o) : ZQ M e ω pc L (.int x :: st) h o := by
  subst hL
  intro q hq l γ ad B A p e' s m args below meth c hF H locs ls hW hS hl
  refine lv_istore_n hF.1 hF.2.1 d hi hl hn (by rw [cL_f1]) (fun ls hl => ?_)
  exact k q hq l γ ad B A p e' s m args below meth c hF H locs ls hW hS hl
theorem z_istore {i : Nat} {x : Int32} {L' : List (Nat × Value)} (d : decode (mC M) pc = .ok (.istore i, 2)) (hn : i < mL M) (hL : (i, .int x) :: L.filter (fun q => !(q.1 == i) && !(q.1 + 1 == i && q.2.category == 2)) = L') (k : ZQ M e ω (pc + 2) L' st h o) : ZQ M e ω pc L (.int x :: st) h o := by
  subst hL
  intro q hq l γ ad B A p e' s m args below meth c hF H locs ls hW hS hl
  refine lv_istore hF.1 hF.2.1 d hl hn (by rw [cL_f1]) (fun ls hl => ?_)
  exact k q hq l γ ad B A p e' s m args below meth c hF H locs ls hW hS hl
theorem z_lstore_n {n : Fin 4} {i : Nat} {x : Int64} {L' : List (Nat × Value)} (d : decode (mC M) pc = .ok (.lstore_n n, 1)) (hi : (n : Nat) = i) (hn : i + 1 < mL M) (hL : (i, .long x) :: L.filter (fun q => !(q.1 == i) && (!(q.1 == i + 1) && !(q.1 + 1 == i && q.2.category == 2))) = L') (k : ZQ M e ω (pc + 1) L' st h o) : ZQ M e ω pc L (.long x :: st) h o := by
  subst hL
  intro q hq l γ ad B A p e' s m args below meth c hF H locs ls hW hS hl
  refine lv_lstore_n hF.1 hF.2.1 d hi hl hn (by rw [cL_f2]) (fun ls hl => ?_)
  exact k q hq l γ ad B A p e' s m args below meth c hF H locs ls hW hS hl
theorem z_lstore {i : Nat} {x : Int64} {L' : List (Nat × Value)} (d : decode (mC M) pc = .ok (.lstore i, 2)) (hn : i + 1 < mL M) (hL : (i, .long x) :: L.filter (fun q => !(q.1 == i) && (!(q.1 == i + 1) && !(q.1 + 1 == i && q.2.category == 2))) = L') (k : ZQ M e ω (pc + 2) L' st h o) : ZQ M e ω pc L (.long x :: st) h o := by
  subst hL
  intro q hq l γ ad B A p e' s m args below meth c hF H locs ls hW hS hl
  refine lv_lstore hF.1 hF.2.1 d hl hn (by rw [cL_f2]) (fun ls hl => ?_)
  exact k q hq l γ ad B A p e' s m args below meth c hF H locs ls hW hS hl
theorem z_astore_n {n : Fin 4} {i a : Nat} {L' : List (Nat × Value)} (d : decode (mC M) pc = .ok (.astore_n n, 1)) (hi : (n : Nat) = i) (hn : i < mL M) (hL : (i, .ref a) :: L.filter (fun q => !(q.1 == i) && !(q.1 + 1 == i && q.2.category == 2)) = L') (k : ZQ M e ω (pc + 1) L' st h o) : ZQ M e ω pc L (.ref a :: st) h o := by
  subst hL
  intro q hq l γ ad B A p e' s m args below meth c hF H locs ls hW hS hl
  refine lv_astore_n hF.1 hF.2.1 d hi hl hn (by rw [cL_f1]) (fun ls hl => ?_)
  exact k q hq l γ ad B A p e' s m args below meth c hF H locs ls hW hS hl
theorem z_astore {i a : Nat} {L' : List (Nat × Value)} (d : decode (mC M) pc = .ok (.astore i, 2)) (hn : i < mL M) (hL : (i, .ref a) :: L.filter (fun q => !(q.1 == i) && !(q.1 + 1 == i && q.2.category == 2)) = L') (k : ZQ M e ω (pc + 2) L' st h o) : ZQ M e ω pc L (.ref a :: st) h o := by
  subst hL
  intro q hq l γ ad B A p e' s m args below meth c hF H locs ls hW hS hl
  refine lv_astore hF.1 hF.2.1 d hl hn (by rw [cL_f1]) (fun ls hl => ?_)
  exact k q hq l γ ad B A p e' s m args below meth c hF H locs ls hW hS hl
theorem z_astore_nN {n : Fin 4} {i : Nat} {L' : List (Nat × Value)} (d : decode (mC M) pc = .ok (.astore_n n, 1)) (hi : (n : Nat) = i) (hn : i < mL M) (hL : (i, .null) :: L.filter (fun q => !(q.1 == i) && !(q.1 + 1 == i && q.2.category == 2)) = L') (k : ZQ M e ω (pc + 1) L' st h o) : ZQ M e ω pc L (.null :: st) h o := by
  subst hL
  intro q hq l γ ad B A p e' s m args below meth c hF H locs ls hW hS hl
  refine lv_astore_nN hF.1 hF.2.1 d hi hl hn (by rw [cL_f1]) (fun ls hl => ?_)
  exact k q hq l γ ad B A p e' s m args below meth c hF H locs ls hW hS hl
theorem z_astoreN {i : Nat} {L' : List (Nat × Value)} (d : decode (mC M) pc = .ok (.astore i, 2)) (hn : i < mL M) (hL : (i, .null) :: L.filter (fun q => !(q.1 == i) && !(q.1 + 1 == i && q.2.category == 2)) = L') (k : ZQ M e ω (pc + 2) L' st h o) : ZQ M e ω pc L (.null :: st) h o := by
  subst hL
  intro q hq l γ ad B A p e' s m args below meth c hF H locs ls hW hS hl
  refine lv_astoreN hF.1 hF.2.1 d hl hn (by rw [cL_f1]) (fun ls hl => ?_)
  exact k q hq l γ ad B A p e' s m args below meth c hF H locs ls hW hS hl
theorem z_astore_nQ {n : Fin 4} {i : Nat} {r : Option Nat} {L' : List (Nat × Value)} (d : decode (mC M) pc = .ok (.astore_n n, 1)) (hi : (n : Nat) = i) (hn : i < mL M) (hL : (i, va_rf r) :: L.filter (fun q => !(q.1 == i) && !(q.1 + 1 == i && q.2.category == 2)) = L') (k : ZQ M e ω (pc + 1) L' st h o) : ZQ M e ω pc L (va_rf r :: st) h o := by
  cases r with
  | none => exact z_astore_nN d hi hn hL k
  | some a => exact z_astore_n d hi hn hL k
theorem z_astoreQ {i : Nat} {r : Option Nat} {L' : List (Nat × Value)} (d : decode (mC M) pc = .ok (.astore i, 2)) (hn : i < mL M) (hL : (i, va_rf r) :: L.filter (fun q => !(q.1 == i) && !(q.1 + 1 == i && q.2.category == 2)) = L') (k : ZQ M e ω (pc + 2) L' st h o) : ZQ M e ω pc L (va_rf r :: st) h o := by
  cases r with
  | none => exact z_astoreN d hn hL k
  | some a => exact z_astore d hn hL k
theorem z_iinc {i j : Nat} {n : Int} {x v : Int32} {L' : List (Nat × Value)} (d : decode (mC M) pc = .ok (.iinc i n, 3)) (hj : L[j]? = some (i, .int x)) (hv : x + Int32.ofInt n = v) (hn : i < mL M) (hL : (i, .int v) :: L.filter (fun q => !(q.1 == i) && !(q.1 + 1 == i && q.2.category == 2)) = L') (k : ZQ M e ω (pc + 3) L' st h o) : ZQ M e ω pc L st h o := by
  subst hL
  intro q hq l γ ad B A p e' s m args below meth c hF H locs ls hW hS hl
  refine lv_iinc hF.1 hF.2.1 d hl (cL_at hj) hv hn (by rw [cL_f1]) (fun ls hl => ?_)
  exact k q hq l γ ad B A p e' s m args below meth c hF H locs ls hW hS hl
theorem z_iadd {x y : Int32} (d : decode (mC M) pc = .ok (.iadd, 1)) (k : ZQ M e ω (pc + 1) L (.int (x + y) :: st) h o) : ZQ M e ω pc L (.int y :: .int x :: st) h o := by
  intro q hq l γ ad B A p e' s m args below meth c hF H locs ls hW hS hl
  exact lv_iadd hF.1 hF.2.1 d (k q hq l γ ad B A p e' s m args below meth c hF H locs ls hW hS hl)
theorem z_isub {x y : Int32} (d : decode (mC M) pc = .ok (.isub, 1)) (k : ZQ M e ω (pc + 1) L (.int (x - y) :: st) h o) : ZQ M e ω pc L (.int y :: .int x :: st) h o := by
  intro q hq l γ ad B A p e' s m args below meth c hF H locs ls hW hS hl
  exact lv_isub hF.1 hF.2.1 d (k q hq l γ ad B A p e' s m args below meth c hF H locs ls hW hS hl)
theorem z_imul {x y : Int32} (d : decode (mC M) pc = .ok (.imul, 1)) (k : ZQ M e ω (pc + 1) L (.int (x * y) :: st) h o) : ZQ M e ω pc L (.int y :: .int x :: st) h o := by
  intro q hq l γ ad B A p e' s m args below meth c hF H locs ls hW hS hl
  exact lv_imul hF.1 hF.2.1 d (k q hq l γ ad B A p e' s m args below meth c hF H locs ls hW hS hl)
theorem z_iand {x y : Int32} (d : decode (mC M) pc = .ok (.iand, 1)) (k : ZQ M e ω (pc + 1) L (.int (x &&& y) :: st) h o) : ZQ M e ω pc L (.int y :: .int x :: st) h o := by
  intro q hq l γ ad B A p e' s m args below meth c hF H locs ls hW hS hl
  exact lv_iand hF.1 hF.2.1 d (k q hq l γ ad B A p e' s m args below meth c hF H locs ls hW hS hl)
theorem z_ladd {x y : Int64} (d : decode (mC M) pc = .ok (.ladd, 1)) (k : ZQ M e ω (pc + 1) L (.long (x + y) :: st) h o) : ZQ M e ω pc L (.long y :: .long x :: st) h o := by
  intro q hq l γ ad B A p e' s m args below meth c hF H locs ls hW hS hl
  exact lv_ladd hF.1 hF.2.1 d (k q hq l γ ad B A p e' s m args below meth c hF H locs ls hW hS hl)
theorem z_lsub {x y : Int64} (d : decode (mC M) pc = .ok (.lsub, 1)) (k : ZQ M e ω (pc + 1) L (.long (x - y) :: st) h o) : ZQ M e ω pc L (.long y :: .long x :: st) h o := by
  intro q hq l γ ad B A p e' s m args below meth c hF H locs ls hW hS hl
  exact lv_lsub hF.1 hF.2.1 d (k q hq l γ ad B A p e' s m args below meth c hF H locs ls hW hS hl)
theorem z_lmul {x y : Int64} (d : decode (mC M) pc = .ok (.lmul, 1)) (k : ZQ M e ω (pc + 1) L (.long (x * y) :: st) h o) : ZQ M e ω pc L (.long y :: .long x :: st) h o := by
  intro q hq l γ ad B A p e' s m args below meth c hF H locs ls hW hS hl
  exact lv_lmul hF.1 hF.2.1 d (k q hq l γ ad B A p e' s m args below meth c hF H locs ls hW hS hl)
theorem z_land {x y : Int64} (d : decode (mC M) pc = .ok (.land, 1)) (k : ZQ M e ω (pc + 1) L (.long (x &&& y) :: st) h o) : ZQ M e ω pc L (.long y :: .long x :: st) h o := by
  intro q hq l γ ad B A p e' s m args below meth c hF H locs ls hW hS hl
  exact lv_land hF.1 hF.2.1 d (k q hq l γ ad B A p e' s m args below meth c hF H locs ls hW hS hl)
theorem z_lor {x y : Int64} (d : decode (mC M) pc = .ok (.lor, 1)) (k : ZQ M e ω (pc + 1) L (.long (x ||| y) :: st) h o) : ZQ M e ω pc L (.long y :: .long x :: st) h o := by
  intro q hq l γ ad B A p e' s m args below meth c hF H locs ls hW hS hl
  exact lv_lor hF.1 hF.2.1 d (k q hq l γ ad B A p e' s m args below meth c hF H locs ls hW hS hl)
theorem z_ldiv {x y : Int64} (d : decode (mC M) pc = .ok (.ldiv, 1)) (hne : ¬ y = 0) (k : ZQ M e ω (pc + 1) L (.long (x / y) :: st) h o) : ZQ M e ω pc L (.long y :: .long x :: st) h o := by
  intro q hq l γ ad B A p e' s m args below meth c hF H locs ls hW hS hl
  exact lv_ldiv hF.1 hF.2.1 d hne (k q hq l γ ad B A p e' s m args below meth c hF H locs ls hW hS hl)
theorem z_lrem {x y : Int64} (d : decode (mC M) pc = .ok (.lrem, 1)) (hne : ¬ y = 0) (k : ZQ M e ω (pc + 1) L (.long (x - x / y * y) :: st) h o) : ZQ M e ω pc L (.long y :: .long x :: st) h o := by
  intro q hq l γ ad B A p e' s m args below meth c hF H locs ls hW hS hl
  exact lv_lrem hF.1 hF.2.1 d hne (k q hq l γ ad B A p e' s m args below meth c hF H locs ls hW hS hl)
theorem z_i2l {x : Int32} (d : decode (mC M) pc = .ok (.i2l, 1)) (k : ZQ M e ω (pc + 1) L (.long x.toInt64 :: st) h o) : ZQ M e ω pc L (.int x :: st) h o := by
  intro q hq l γ ad B A p e' s m args below meth c hF H locs ls hW hS hl
  exact lv_i2l hF.1 hF.2.1 d rfl (k q hq l γ ad B A p e' s m args below meth c hF H locs ls hW hS hl)
theorem z_l2i {x : Int64} (d : decode (mC M) pc = .ok (.l2i, 1)) (k : ZQ M e ω (pc + 1) L (.int x.toInt32 :: st) h o) : ZQ M e ω pc L (.long x :: st) h o := by
  intro q hq l γ ad B A p e' s m args below meth c hF H locs ls hW hS hl
  exact lv_l2i hF.1 hF.2.1 d rfl (k q hq l γ ad B A p e' s m args below meth c hF H locs ls hW hS hl)
theorem z_i2b {x : Int32} (d : decode (mC M) pc = .ok (.i2b, 1)) (k : ZQ M e ω (pc + 1) L (.int x.toInt8.toInt32 :: st) h o) : ZQ M e ω pc L (.int x :: st) h o := by
  intro q hq l γ ad B A p e' s m args below meth c hF H locs ls hW hS hl
  exact lv_i2b hF.1 hF.2.1 d rfl (k q hq l γ ad B A p e' s m args below meth c hF H locs ls hW hS hl)
theorem z_i2s {x : Int32} (d : decode (mC M) pc = .ok (.i2s, 1)) (k : ZQ M e ω (pc + 1) L (.int x.toInt16.toInt32 :: st) h o) : ZQ M e ω pc L (.int x :: st) h o := by
  intro q hq l γ ad B A p e' s m args below meth c hF H locs ls hW hS hl
  exact lv_i2s hF.1 hF.2.1 d rfl (k q hq l γ ad B A p e' s m args below meth c hF H locs ls hW hS hl)
theorem z_i2c {x : Int32} (d : decode (mC M) pc = .ok (.i2c, 1)) (k : ZQ M e ω (pc + 1) L (.int (x.toUInt32 % 65536).toInt32 :: st) h o) : ZQ M e ω pc L (.int x :: st) h o := by
  intro q hq l γ ad B A p e' s m args below meth c hF H locs ls hW hS hl
  exact lv_i2c hF.1 hF.2.1 d rfl (k q hq l γ ad B A p e' s m args below meth c hF H locs ls hW hS hl)
theorem z_l2f {x : Int64} (d : decode (mC M) pc = .ok (.l2f, 1)) (k : ZQ M e ω (pc + 1) L (.float (FP.l2f x) :: st) h o) : ZQ M e ω pc L (.long x :: st) h o := by
  intro q hq l γ ad B A p e' s m args below meth c hF H locs ls hW hS hl
  exact lv_l2f hF.1 hF.2.1 d (k q hq l γ ad B A p e' s m args below meth c hF H locs ls hW hS hl)
theorem z_l2d {x : Int64} (d : decode (mC M) pc = .ok (.l2d, 1)) (k : ZQ M e ω (pc + 1) L (.double (FP.l2d x) :: st) h o) : ZQ M e ω pc L (.long x :: st) h o := by
  intro q hq l γ ad B A p e' s m args below meth c hF H locs ls hW hS hl
  exact lv_l2d hF.1 hF.2.1 d (k q hq l γ ad B A p e' s m args below meth c hF H locs ls hW hS hl)
theorem z_f2l {x : UInt32} (d : decode (mC M) pc = .ok (.f2l, 1)) (k : ZQ M e ω (pc + 1) L (.long (FP.f2l x) :: st) h o) : ZQ M e ω pc L (.float x :: st) h o := by
  intro q hq l γ ad B A p e' s m args below meth c hF H locs ls hW hS hl
  exact lv_f2l hF.1 hF.2.1 d (k q hq l γ ad B A p e' s m args below meth c hF H locs ls hW hS hl)
theorem z_d2l {x : UInt64} (d : decode (mC M) pc = .ok (.d2l, 1)) (k : ZQ M e ω (pc + 1) L (.long (FP.d2l x) :: st) h o) : ZQ M e ω pc L (.double x :: st) h o := by
  intro q hq l γ ad B A p e' s m args below meth c hF H locs ls hW hS hl
  exact lv_d2l hF.1 hF.2.1 d (k q hq l γ ad B A p e' s m args below meth c hF H locs ls hW hS hl)
theorem z_f2d {x : UInt32} (d : decode (mC M) pc = .ok (.f2d, 1)) (hne : vf_n64 (FP.f2d x)) (k : ZQ M e ω (pc + 1) L (.double (FP.f2d x) :: st) h o) : ZQ M e ω pc L (.float x :: st) h o := by
  intro q hq l γ ad B A p e' s m args below meth c hF H locs ls hW hS hl
  exact lv_f2d hF.1 hF.2.1 d hne (k q hq l γ ad B A p e' s m args below meth c hF H locs ls hW hS hl)
theorem z_dup {v : Value} (d : decode (mC M) pc = .ok (.dup, 1)) (hc : v.category = 1) (k : ZQ M e ω (pc + 1) L (v :: v :: st) h o) : ZQ M e ω pc L (v :: st) h o := by
  intro q hq l γ ad B A p e' s m args below meth c hF H locs ls hW hS hl
  exact lv_dup hF.1 hF.2.1 d (by rw [cv_cat]; exact hc) (k q hq l γ ad B A p e' s m args below meth c hF H locs ls hW hS hl)
theorem z_pop {v : Value} (d : decode (mC M) pc = .ok (.pop, 1)) (hc : v.category = 1) (k : ZQ M e ω (pc + 1) L (st) h o) : ZQ M e ω pc L (v :: st) h o := by
  intro q hq l γ ad B A p e' s m args below meth c hF H locs ls hW hS hl
  exact lv_pop hF.1 hF.2.1 d (by rw [cv_cat]; exact hc) (k q hq l γ ad B A p e' s m args below meth c hF H locs ls hW hS hl)
theorem z_dup2 {v w : Value} (d : decode (mC M) pc = .ok (.dup2, 1)) (hc : v.category = 1) (hc2 : w.category = 1) (k : ZQ M e ω (pc + 1) L (v :: w :: v :: w :: st) h o) : ZQ M e ω pc L (v :: w :: st) h o := by
  intro q hq l γ ad B A p e' s m args below meth c hF H locs ls hW hS hl
  exact lv_dup2_11 hF.1 hF.2.1 d (by rw [cv_cat]; exact hc) (by rw [cv_cat]; exact hc2) (k q hq l γ ad B A p e' s m args below meth c hF H locs ls hW hS hl)
theorem z_lshl {x : Int64} {y : Int32} (d : decode (mC M) pc = .ok (.lshl, 1)) (k : ZQ M e ω (pc + 1) L (.long (x <<< (y.toInt64 &&& 63)) :: st) h o) : ZQ M e ω pc L (.int y :: .long x :: st) h o := by
  intro q hq l γ ad B A p e' s m args below meth c hF H locs ls hW hS hl
  exact lv_lshl hF.1 hF.2.1 d rfl (k q hq l γ ad B A p e' s m args below meth c hF H locs ls hW hS hl)
theorem z_goto {off : Int} {tgt : Nat} (d : decode (mC M) pc = .ok (.goto off, 3)) (ht : (pc : Int) + off = (tgt : Int)) (k : ZQ M e ω tgt L st h o) : ZQ M e ω pc L st h o := by
  intro q hq l γ ad B A p e' s m args below meth c hF H locs ls hW hS hl
  exact lv_goto hF.1 hF.2.1 d ht (k q hq l γ ad B A p e' s m args below meth c hF H locs ls hW hS hl)
theorem z_if_ne {x : Int32} {off : Int} {tgt : Nat} {o1 o2 : Option ρ} (d : decode (mC M) pc = .ok (.ifCond .ne off, 3)) (ht : (pc : Int) + off = (tgt : Int)) (kt : ¬ (x = 0) → ZQ M e ω tgt L st h o1) (kf : x = 0 → ZQ M e ω (pc + 3) L st h o2) : ZQ M e ω pc L (.int x :: st) h (if x = 0 then o2 else o1) :=
  z_ite (fun P => by
    intro q hq l γ ad B A p e' s m args below meth c hF H locs ls hW hS hl
    exact lv_if_ne hF.1 hF.2.1 d ht (fun N => absurd P N) (fun _ => kf P q hq l γ ad B A p e' s m args below meth c hF H locs ls hW hS hl)) (fun P => by
    intro q hq l γ ad B A p e' s m args below meth c hF H locs ls hW hS hl
    exact lv_if_ne hF.1 hF.2.1 d ht (fun _ => kt P q hq l γ ad B A p e' s m args below meth c hF H locs ls hW hS hl) (fun N => absurd N P))
theorem z_if_neT {x : Int32} {off : Int} {tgt : Nat} (d : decode (mC M) pc = .ok (.ifCond .ne off, 3)) (ht : (pc : Int) + off = (tgt : Int)) (P : ¬ (x = 0)) (k : ZQ M e ω tgt L st h o) : ZQ M e ω pc L (.int x :: st) h o := by
  intro q hq l γ ad B A p e' s m args below meth c hF H locs ls hW hS hl
  exact lv_if_ne hF.1 hF.2.1 d ht (fun _ => k q hq l γ ad B A p e' s m args below meth c hF H locs ls hW hS hl) (fun N => absurd N P)
theorem z_if_neF {x : Int32} {off : Int} {tgt : Nat} (d : decode (mC M) pc = .ok (.ifCond .ne off, 3)) (ht : (pc : Int) + off = (tgt : Int)) (P : x = 0) (k : ZQ M e ω (pc + 3) L st h o) : ZQ M e ω pc L (.int x :: st) h o := by
  intro q hq l γ ad B A p e' s m args below meth c hF H locs ls hW hS hl
  exact lv_if_ne hF.1 hF.2.1 d ht (fun N => absurd P N) (fun _ => k q hq l γ ad B A p e' s m args below meth c hF H locs ls hW hS hl)
theorem z_icmp_ne {x y : Int32} {off : Int} {tgt : Nat} {o1 o2 : Option ρ} (d : decode (mC M) pc = .ok (.if_icmp .ne off, 3)) (ht : (pc : Int) + off = (tgt : Int)) (kt : ¬ (x = y) → ZQ M e ω tgt L st h o1) (kf : x = y → ZQ M e ω (pc + 3) L st h o2) : ZQ M e ω pc L (.int y :: .int x :: st) h (if x = y then o2 else o1) :=
  z_ite (fun P => by
    intro q hq l γ ad B A p e' s m args below meth c hF H locs ls hW hS hl
    exact lv_icmp_ne hF.1 hF.2.1 d ht (fun N => absurd P N) (fun _ => kf P q hq l γ ad B A p e' s m args below meth c hF H locs ls hW hS hl)) (fun P => by
    intro q hq l γ ad B A p e' s m args below meth c hF H locs ls hW hS hl
    exact lv_icmp_ne hF.1 hF.2.1 d ht (fun _ => kt P q hq l γ ad B A p e' s m args below meth c hF H locs ls hW hS hl) (fun N => absurd N P))
theorem z_icmp_neT {x y : Int32} {off : Int} {tgt : Nat} (d : decode (mC M) pc = .ok (.if_icmp .ne off, 3)) (ht : (pc : Int) + off = (tgt : Int)) (P : ¬ (x = y)) (k : ZQ M e ω tgt L st h o) : ZQ M e ω pc L (.int y :: .int x :: st) h o := by
  intro q hq l γ ad B A p e' s m args below meth c hF H locs ls hW hS hl
  exact lv_icmp_ne hF.1 hF.2.1 d ht (fun _ => k q hq l γ ad B A p e' s m args below meth c hF H locs ls hW hS hl) (fun N => absurd N P)
theorem z_icmp_neF {x y : Int32} {off : Int} {tgt : Nat} (d : decode (mC M) pc = .ok (.if_icmp .ne off, 3)) (ht : (pc : Int) + off = (tgt : Int)) (P : x = y) (k : ZQ M e ω (pc + 3) L st h o) : ZQ M e ω pc L (.int y :: .int x :: st) h o := by
  intro q hq l γ ad B A p e' s m args below meth c hF H locs ls hW hS hl
  exact lv_icmp_ne hF.1 hF.2.1 d ht (fun N => absurd P N) (fun _ => k q hq l γ ad B A p e' s m args below meth c hF H locs ls hW hS hl)
theorem z_if_eq {x : Int32} {off : Int} {tgt : Nat} {o1 o2 : Option ρ} (d : decode (mC M) pc = .ok (.ifCond .eq off, 3)) (ht : (pc : Int) + off = (tgt : Int)) (kt : x = 0 → ZQ M e ω tgt L st h o1) (kf : ¬ (x = 0) → ZQ M e ω (pc + 3) L st h o2) : ZQ M e ω pc L (.int x :: st) h (if x = 0 then o1 else o2) :=
  z_ite (fun P => by
    intro q hq l γ ad B A p e' s m args below meth c hF H locs ls hW hS hl
    exact lv_if_eq hF.1 hF.2.1 d ht (fun _ => kt P q hq l γ ad B A p e' s m args below meth c hF H locs ls hW hS hl) (fun N => absurd P N)) (fun P => by
    intro q hq l γ ad B A p e' s m args below meth c hF H locs ls hW hS hl
    exact lv_if_eq hF.1 hF.2.1 d ht (fun N => absurd N P) (fun _ => kf P q hq l γ ad B A p e' s m args below meth c hF H locs ls hW hS hl))
theorem z_icmp_eq {x y : Int32} {off : Int} {tgt : Nat} {o1 o2 : Option ρ} (d : decode (mC M) pc = .ok (.if_icmp .eq off, 3)) (ht : (pc : Int) + off = (tgt : Int)) (kt : x = y → ZQ M e ω tgt L st h o1) (kf : ¬ (x = y) → ZQ M e ω (pc + 3) L st h o2) : ZQ M e ω pc L (.int y :: .int x :: st) h (if x = y then o1 else o2) :=
  z_ite (fun P => by
    intro q hq l γ ad B A p e' s m args below meth c hF H locs ls hW hS hl
    exact lv_icmp_eq hF.1 hF.2.1 d ht (fun _ => kt P q hq l γ ad B A p e' s m args below meth c hF H locs ls hW hS hl) (fun N => absurd P N)) (fun P => by
    intro q hq l γ ad B A p e' s m args below meth c hF H locs ls hW hS hl
    exact lv_icmp_eq hF.1 hF.2.1 d ht (fun N => absurd N P) (fun _ => kf P q hq l γ ad B A p e' s m args below meth c hF H locs ls hW hS hl))
theorem z_if_lt {x : Int32} {off : Int} {tgt : Nat} {o1 o2 : Option ρ} (d : decode (mC M) pc = .ok (.ifCond .lt off, 3)) (ht : (pc : Int) + off = (tgt : Int)) (kt : x < 0 → ZQ M e ω tgt L st h o1) (kf : ¬ (x < 0) → ZQ M e ω (pc + 3) L st h o2) : ZQ M e ω pc L (.int x :: st) h (if x < 0 then o1 else o2) :=
  z_ite (fun P => by
    intro q hq l γ ad B A p e' s m args below meth c hF H locs ls hW hS hl
    exact lv_if_lt hF.1 hF.2.1 d ht (fun _ => kt P q hq l γ ad B A p e' s m args below meth c hF H locs ls hW hS hl) (fun N => absurd P N)) (fun P => by
    intro q hq l γ ad B A p e' s m args below meth c hF H locs ls hW hS hl
    exact lv_if_lt hF.1 hF.2.1 d ht (fun N => absurd N P) (fun _ => kf P q hq l γ ad B A p e' s m args below meth c hF H locs ls hW hS hl))
theorem z_icmp_lt {x y : Int32} {off : Int} {tgt : Nat} {o1 o2 : Option ρ} (d : decode (mC M) pc = .ok (.if_icmp .lt off, 3)) (ht : (pc : Int) + off = (tgt : Int)) (kt : x < y → ZQ M e ω tgt L st h o1) (kf : ¬ (x < y) → ZQ M e ω (pc + 3) L st h o2) : ZQ M e ω pc L (.int y :: .int x :: st) h (if x < y then o1 else o2) :=
  z_ite (fun P => by
    intro q hq l γ ad B A p e' s m args below meth c hF H locs ls hW hS hl
    exact lv_icmp_lt hF.1 hF.2.1 d ht (fun _ => kt P q hq l γ ad B A p e' s m args below meth c hF H locs ls hW hS hl) (fun N => absurd P N)) (fun P => by
    intro q hq l γ ad B A p e' s m args below meth c hF H locs ls hW hS hl
    exact lv_icmp_lt hF.1 hF.2.1 d ht (fun N => absurd N P) (fun _ => kf P q hq l γ ad B A p e' s m args below meth c hF H locs ls hW hS hl))
theorem z_if_ge {x : Int32} {off : Int} {tgt : Nat} {o1 o2 : Option ρ} (d : decode (mC M) pc = .ok (.ifCond .ge off, 3)) (ht : (pc : Int) + off = (tgt : Int)) (kt : 0 ≤ x → ZQ M e ω tgt L st h o1) (kf : ¬ (0 ≤ x) → ZQ M e ω (pc + 3) L st h o2) : ZQ M e ω pc L (.int x :: st) h (if 0 ≤ x then o1 else o2) :=
  z_ite (fun P => by
    intro q hq l γ ad B A p e' s m args below meth c hF H locs ls hW hS hl
    exact lv_if_ge hF.1 hF.2.1 d ht (fun _ => kt P q hq l γ ad B A p e' s m args below meth c hF H locs ls hW hS hl) (fun N => absurd P N)) (fun P => by
    intro q hq l γ ad B A p e' s m args below meth c hF H locs ls hW hS hl
    exact lv_if_ge hF.1 hF.2.1 d ht (fun N => absurd N P) (fun _ => kf P q hq l γ ad B A p e' s m args below meth c hF H locs ls hW hS hl))
theorem z_icmp_ge {x y : Int32} {off : Int} {tgt : Nat} {o1 o2 : Option ρ} (d : decode (mC M) pc = .ok (.if_icmp .ge off, 3)) (ht : (pc : Int) + off = (tgt : Int)) (kt : y ≤ x → ZQ M e ω tgt L st h o1) (kf : ¬ (y ≤ x) → ZQ M e ω (pc + 3) L st h o2) : ZQ M e ω pc L (.int y :: .int x :: st) h (if y ≤ x then o1 else o2) :=
  z_ite (fun P => by
    intro q hq l γ ad B A p e' s m args below meth c hF H locs ls hW hS hl
    exact lv_icmp_ge hF.1 hF.2.1 d ht (fun _ => kt P q hq l γ ad B A p e' s m args below meth c hF H locs ls hW hS hl) (fun N => absurd P N)) (fun P => by
    intro q hq l γ ad B A p e' s m args below meth c hF H locs ls hW hS hl
    exact lv_icmp_ge hF.1 hF.2.1 d ht (fun N => absurd N P) (fun _ => kf P q hq l γ ad B A p e' s m args below meth c hF H locs ls hW hS hl))
theorem z_if_gt {x : Int32} {off : Int} {tgt : Nat} {o1 o2 : Option ρ} (d : decode (mC M) pc = .ok (.ifCond .gt off, 3)) (ht : (pc : Int) + off = (tgt : Int)) (kt : 0 < x → ZQ M e ω tgt L st h o1) (kf : ¬ (0 < x) → ZQ M e ω (pc + 3) L st h o2) : ZQ M e ω pc L (.int x :: st) h (if 0 < x then o1 else o2) :=
  z_ite (fun P => by
    intro q hq l γ ad B A p e' s m args below meth c hF H locs ls hW hS hl
    exact lv_if_gt hF.1 hF.2.1 d ht (fun _ => kt P q hq l γ ad B A p e' s m args below meth c hF H locs ls hW hS hl) (fun N => absurd P N)) (fun P => by
    intro q hq l γ ad B A p e' s m args below meth c hF H locs ls hW hS hl
    exact lv_if_gt hF.1 hF.2.1 d ht (fun N => absurd N P) (fun _ => kf P q hq l γ ad B A p e' s m args below meth c hF H locs ls hW hS hl))
theorem z_icmp_gt {x y : Int32} {off : Int} {tgt : Nat} {o1 o2 : Option ρ} (d : decode (mC M) pc = .ok (.if_icmp .gt off, 3)) (ht : (pc : Int) + off = (tgt : Int)) (kt : y < x → ZQ M e ω tgt L st h o1) (kf : ¬ (y < x) → ZQ M e ω (pc + 3) L st h o2) : ZQ M e ω pc L (.int y :: .int x :: st) h (if y < x then o1 else o2) :=
  z_ite (fun P => by
    intro q hq l γ ad B A p e' s m args below meth c hF H locs ls hW hS hl
    exact lv_icmp_gt hF.1 hF.2.1 d ht (fun _ => kt P q hq l γ ad B A p e' s m args below meth c hF H locs ls hW hS hl) (fun N => absurd P N)) (fun P => by
    intro q hq l γ ad B A p e' s m args below meth c hF H locs ls hW hS hl
    exact lv_icmp_gt hF.1 hF.2.1 d ht (fun N => absurd N P) (fun _ => kf P q hq l γ ad B A p e' s m args below meth c hF H locs ls hW hS hl))
theorem z_if_le {x : Int32} {off : Int} {tgt : Nat} {o1 o2 : Option ρ} (d : decode (mC M) pc = .ok (.ifCond .le off, 3)) (ht : (pc : Int) + off = (tgt : Int)) (kt : x ≤ 0 → ZQ M e ω tgt L st h o1) (kf : ¬ (x ≤ 0) → ZQ M e ω (pc + 3) L st h o2) : ZQ M e ω pc L (.int x :: st) h (if x ≤ 0 then o1 else o2) :=
  z_ite (fun P => by
    intro q hq l γ ad B A p e' s m args below meth c hF H locs ls hW hS hl
    exact lv_if_le hF.1 hF.2.1 d ht (fun _ => kt P q hq l γ ad B A p e' s m args below meth c hF H locs ls hW hS hl) (fun N => absurd P N)) (fun P => by
    intro q hq l γ ad B A p e' s m args below meth c hF H locs ls hW hS hl
    exact lv_if_le hF.1 hF.2.1 d ht (fun N => absurd N P) (fun _ => kf P q hq l γ ad B A p e' s m args below meth c hF H locs ls hW hS hl))
theorem z_icmp_le {x y : Int32} {off : Int} {tgt : Nat} {o1 o2 : Option ρ} (d : decode (mC M) pc = .ok (.if_icmp .le off, 3)) (ht : (pc : Int) + off = (tgt : Int)) (kt : x ≤ y → ZQ M e ω tgt L st h o1) (kf : ¬ (x ≤ y) → ZQ M e ω (pc + 3) L st h o2) : ZQ M e ω pc L (.int y :: .int x :: st) h (if x ≤ y then o1 else o2) :=
  z_ite (fun P => by
    intro q hq l γ ad B A p e' s m args below meth c hF H locs ls hW hS hl
    exact lv_icmp_le hF.1 hF.2.1 d ht (fun _ => kt P q hq l γ ad B A p e' s m args below meth c hF H locs ls hW hS hl) (fun N => absurd P N)) (fun P => by
    intro q hq l γ ad B A p e' s m args below meth c hF H locs ls hW hS hl
    exact lv_icmp_le hF.1 hF.2.1 d ht (fun N => absurd N P) (fun _ => kf P q hq l γ ad B A p e' s m args below meth c hF H locs ls hW hS hl))
theorem z_if_eqT {x : Int32} {off : Int} {tgt : Nat} (d : decode (mC M) pc = .ok (.ifCond .eq off, 3)) (ht : (pc : Int) + off = (tgt : Int)) (P : x = 0) (k : ZQ M e ω tgt L st h o) : ZQ M e ω pc L (.int x :: st) h o := by
  intro q hq l γ ad B A p e' s m args below meth c hF H locs ls hW hS hl
  exact lv_if_eq hF.1 hF.2.1 d ht (fun _ => k q hq l γ ad B A p e' s m args below meth c hF H locs ls hW hS hl) (fun N => absurd P N)
theorem z_if_eqF {x : Int32} {off : Int} {tgt : Nat} (d : decode (mC M) pc = .ok (.ifCond .eq off, 3)) (ht : (pc : Int) + off = (tgt : Int)) (P : ¬ (x = 0)) (k : ZQ M e ω (pc + 3) L st h o) : ZQ M e ω pc L (.int x :: st) h o := by
  intro q hq l γ ad B A p e' s m args below meth c hF H locs ls hW hS hl
  exact lv_if_eq hF.1 hF.2.1 d ht (fun N => absurd N P) (fun _ => k q hq l γ ad B A p e' s m args below meth c hF H locs ls hW hS hl)
theorem z_if_ltT {x : Int32} {off : Int} {tgt : Nat} (d : decode (mC M) pc = .ok (.ifCond .lt off, 3)) (ht : (pc : Int) + off = (tgt : Int)) (P : x < 0) (k : ZQ M e ω tgt L st h o) : ZQ M e ω pc L (.int x :: st) h o := by
  intro q hq l γ ad B A p e' s m args below meth c hF H locs ls hW hS hl
  exact lv_if_lt hF.1 hF.2.1 d ht (fun _ => k q hq l γ ad B A p e' s m args below meth c hF H locs ls hW hS hl) (fun N => absurd P N)
theorem z_if_ltF {x : Int32} {off : Int} {tgt : Nat} (d : decode (mC M) pc = .ok (.ifCond .lt off, 3)) (ht : (pc : Int) + off = (tgt : Int)) (P : ¬ (x < 0)) (k : ZQ M e ω (pc + 3) L st h o) : ZQ M e ω pc L (.int x :: st) h o := by
  intro q hq l γ ad B A p e' s m args below meth c hF H locs ls hW hS hl
  exact lv_if_lt hF.1 hF.2.1 d ht (fun N => absurd N P) (fun _ => k q hq l γ ad B A p e' s m args below meth c hF H locs ls hW hS hl)
theorem z_if_geT {x : Int32} {off : Int} {tgt : Nat} (d : decode (mC M) pc = .ok (.ifCond .ge off, 3)) (ht : (pc : Int) + off = (tgt : Int)) (P : 0 ≤ x) (k : ZQ M e ω tgt L st h o) : ZQ M e ω pc L (.int x :: st) h o := by
  intro q hq l γ ad B A p e' s m args below meth c hF H locs ls hW hS hl
  exact lv_if_ge hF.1 hF.2.1 d ht (fun _ => k q hq l γ ad B A p e' s m args below meth c hF H locs ls hW hS hl) (fun N => absurd P N)
theorem z_if_geF {x : Int32} {off : Int} {tgt : Nat} (d : decode (mC M) pc = .ok (.ifCond .ge off, 3)) (ht : (pc : Int) + off = (tgt : Int)) (P : ¬ (0 ≤ x)) (k : ZQ M e ω (pc + 3) L st h o) : ZQ M e ω pc L (.int x :: st) h o := by
  intro q hq l γ ad B A p e' s m args below meth c hF H locs ls hW hS hl
  exact lv_if_ge hF.1 hF.2.1 d ht (fun N => absurd N P) (fun _ => k q hq l γ ad B A p e' s m args below meth c hF H locs ls hW hS hl)
theorem z_if_gtT {x : Int32} {off : Int} {tgt : Nat} (d : decode (mC M) pc = .ok (.ifCond .gt off, 3)) (ht : (pc : Int) + off = (tgt : Int)) (P : 0 < x) (k : ZQ M e ω tgt L st h o) : ZQ M e ω pc L (.int x :: st) h o := by
  intro q hq l γ ad B A p e' s m args below meth c hF H locs ls hW hS hl
  exact lv_if_gt hF.1 hF.2.1 d ht (fun _ => k q hq l γ ad B A p e' s m args below meth c hF H locs ls hW hS hl) (fun N => absurd P N)
theorem z_if_gtF {x : Int32} {off : Int} {tgt : Nat} (d : decode (mC M) pc = .ok (.ifCond .gt off, 3)) (ht : (pc : Int) + off = (tgt : Int)) (P : ¬ (0 < x)) (k : ZQ M e ω (pc + 3) L st h o) : ZQ M e ω pc L (.int x :: st) h o := by
  intro q hq l γ ad B A p e' s m args below meth c hF H locs ls hW hS hl
  exact lv_if_gt hF.1 hF.2.1 d ht (fun N => absurd N P) (fun _ => k q hq l γ ad B A p e' s m args below meth c hF H locs ls hW hS hl)
theorem z_if_leT {x : Int32} {off : Int} {tgt : Nat} (d : decode (mC M) pc = .ok (.ifCond .le off, 3)) (ht : (pc : Int) + off = (tgt : Int)) (P : x ≤ 0) (k : ZQ M e ω tgt L st h o) : ZQ M e ω pc L (.int x :: st) h o := by
  intro q hq l γ ad B A p e' s m args below meth c hF H locs ls hW hS hl
  exact lv_if_le hF.1 hF.2.1 d ht (fun _ => k q hq l γ ad B A p e' s m args below meth c hF H locs ls hW hS hl) (fun N => absurd P N)
theorem z_if_leF {x : Int32} {off : Int} {tgt : Nat} (d : decode (mC M) pc = .ok (.ifCond .le off, 3)) (ht : (pc : Int) + off = (tgt : Int)) (P : ¬ (x ≤ 0)) (k : ZQ M e ω (pc + 3) L st h o) : ZQ M e ω pc L (.int x :: st) h o := by
  intro q hq l γ ad B A p e' s m args below meth c hF H locs ls hW hS hl
  exact lv_if_le hF.1 hF.2.1 d ht (fun N => absurd N P) (fun _ => k q hq l γ ad B A p e' s m args below meth c hF H locs ls hW hS hl)
theorem z_icmp_eqT {x y : Int32} {off : Int} {tgt : Nat} (d : decode (mC M) pc = .ok (.if_icmp .eq off, 3)) (ht : (pc : Int) + off = (tgt : Int)) (P : x = y) (k : ZQ M e ω tgt L st h o) : ZQ M e ω pc L (.int y :: .int x :: st) h o := by
  intro q hq l γ ad B A p e' s m args below meth c hF H locs ls hW hS hl
  exact lv_icmp_eq hF.1 hF.2.1 d ht (fun _ => k q hq l γ ad B A p e' s m args below meth c hF H locs ls hW hS hl) (fun N => absurd P N)
theorem z_icmp_eqF {x y : Int32} {off : Int} {tgt : Nat} (d : decode (mC M) pc = .ok (.if_icmp .eq off, 3)) (ht : (pc : Int) + off = (tgt : Int)) (P : ¬ (x = y)) (k : ZQ M e ω (pc + 3) L st h o) : ZQ M e ω pc L (.int y :: .int x :: st) h o := by
  intro q hq l γ ad B A p e' s m args below meth c hF H locs ls hW hS hl
  exact lv_icmp_eq hF.1 hF.2.1 d ht (fun N => absurd N P) (fun _ => k q hq l γ ad B A p e' s m args below meth c hF H locs ls hW hS hl)
theorem z_icmp_ltT {x y : Int32} {off : Int} {tgt : Nat} (d : decode (mC M) pc = .ok (.if_icmp .lt off, 3)) (ht : (pc : Int) + off = (tgt : Int)) (P : x < y) (k : ZQ M e ω tgt L st h o) : ZQ M e ω pc L (.int y :: .int x :: st) h o := by
  intro q hq l γ ad B A p e' s m args below meth c hF H locs ls hW hS hl
  exact lv_icmp_lt hF.1 hF.2.1 d ht (fun _ => k q hq l γ ad B A p e' s m args below meth c hF H locs ls hW hS hl) (fun N => absurd P N)
theorem z_icmp_ltF {x y : Int32} {off : Int} {tgt : Nat} (d : decode (mC M) pc = .ok (.if_icmp .lt off, 3)) (ht : (pc : Int) + off = (tgt : Int)) (P : ¬ (x < y)) (k : ZQ M e ω (pc + 3) L st h o) : ZQ M e ω pc L (.int y :: .int x :: st) h o := by
  intro q hq l γ ad B A p e' s m args below meth c hF H locs ls hW hS hl
  exact lv_icmp_lt hF.1 hF.2.1 d ht (fun N => absurd N P) (fun _ => k q hq l γ ad B A p e' s m args below meth c hF H locs ls hW hS hl)
theorem z_icmp_geT {x y : Int32} {off : Int} {tgt : Nat} (d : decode (mC M) pc = .ok (.if_icmp .ge off, 3)) (ht : (pc : Int) + off = (tgt : Int)) (P : y ≤ x) (k : ZQ M e ω tgt L st h o) : ZQ M e ω pc L (.int y :: .int x :: st) h o := by
  intro q hq l γ ad B A p e' s m args below meth c hF H locs ls hW hS hl
  exact lv_icmp_ge hF.1 hF.2.1 d ht (fun _ => k q hq l γ ad B A p e' s m args below meth c hF H locs ls hW hS hl) (fun N => absurd P N)
theorem z_icmp_geF {x y : Int32} {off : Int} {tgt : Nat} (d : decode (mC M) pc = .ok (.if_icmp .ge off, 3)) (ht : (pc : Int) + off = (tgt : Int)) (P : ¬ (y ≤ x)) (k : ZQ M e ω (pc + 3) L st h o) : ZQ M e ω pc L (.int y :: .int x :: st) h o := by
  intro q hq l γ ad B A p e' s m args below meth c hF H locs ls hW hS hl
  exact lv_icmp_ge hF.1 hF.2.1 d ht (fun N => absurd N P) (fun _ => k q hq l γ ad B A p e' s m args below meth c hF H locs ls hW hS hl)
theorem z_icmp_gtT {x y : Int32} {off : Int} {tgt : Nat} (d : decode (mC M) pc = .ok (.if_icmp .gt off, 3)) (ht : (pc : Int) + off = (tgt : Int)) (P : y < x) (k : ZQ M e ω tgt L st h o) : ZQ M e ω pc L (.int y :: .int x :: st) h o := by
  intro q hq l γ ad B A p e' s m args below meth c hF H locs ls hW hS hl
  exact lv_icmp_gt hF.1 hF.2.1 d ht (fun _ => k q hq l γ ad B A p e' s m args below meth c hF H locs ls hW hS hl) (fun N => absurd P N)
theorem z_icmp_gtF {x y : Int32} {off : Int} {tgt : Nat} (d : decode (mC M) pc = .ok (.if_icmp .gt off, 3)) (ht : (pc : Int) + off = (tgt : Int)) (P : ¬ (y < x)) (k : ZQ M e ω (pc + 3) L st h o) : ZQ M e ω pc L (.int y :: .int x :: st) h o := by
  intro q hq l γ ad B A p e' s m args below meth c hF H locs ls hW hS hl
  exact lv_icmp_gt hF.1 hF.2.1 d ht (fun N => absurd N P) (fun _ => k q hq l γ ad B A p e' s m args below meth c hF H locs ls hW hS hl)
theorem z_icmp_leT {x y : Int32} {off : Int} {tgt : Nat} (d : decode (mC M) pc = .ok (.if_icmp .le off, 3)) (ht : (pc : Int) + off = (tgt : Int)) (P : x ≤ y) (k : ZQ M e ω tgt L st h o) : ZQ M e ω pc L (.int y :: .int x :: st) h o := by
  intro q hq l γ ad B A p e' s m args below meth c hF H locs ls hW hS hl
  exact lv_icmp_le hF.1 hF.2.1 d ht (fun _ => k q hq l γ ad B A p e' s m args below meth c hF H locs ls hW hS hl) (fun N => absurd P N)
theorem z_icmp_leF {x y : Int32} {off : Int} {tgt : Nat} (d : decode (mC M) pc = .ok (.if_icmp .le off, 3)) (ht : (pc : Int) + off = (tgt : Int)) (P : ¬ (x ≤ y)) (k : ZQ M e ω (pc + 3) L st h o) : ZQ M e ω pc L (.int y :: .int x :: st) h o := by
  intro q hq l γ ad B A p e' s m args below meth c hF H locs ls hW hS hl
  exact lv_icmp_le hF.1 hF.2.1 d ht (fun N => absurd N P) (fun _ => k q hq l γ ad B A p e' s m args below meth c hF H locs ls hW hS hl)
theorem lg_lt (x y : Int64) : lg_cmp x y < 0 ↔ x < y := by
  unfold lg_cmp
  by_cases h1 : y < x
  · rw [if_pos h1]
    exact ⟨fun z => absurd z (by decide), fun z => absurd z (Int64.not_lt.mpr (Int64.le_of_lt h1))⟩
  · rw [if_neg h1]
    by_cases h2 : x = y
    · rw [if_pos h2]
      subst h2
      exact ⟨fun z => absurd z (by decide), fun z => absurd z h1⟩
    · rw [if_neg h2]
      exact ⟨fun _ => Int64.lt_of_le_of_ne (Int64.not_lt.mp h1) h2, fun _ => by decide⟩
theorem lg_gt (x y : Int64) : 0 < lg_cmp x y ↔ y < x := by
  unfold lg_cmp
  by_cases h1 : y < x
  · rw [if_pos h1]
    exact ⟨fun _ => h1, fun _ => by decide⟩
  · rw [if_neg h1]
    by_cases h2 : x = y
    · rw [if_pos h2]
      exact ⟨fun z => absurd z (by decide), fun z => absurd z h1⟩
    · rw [if_neg h2]
      exact ⟨fun z => absurd z (by decide), fun z => absurd z h1⟩
theorem lg_eq (x y : Int64) : lg_cmp x y = 0 ↔ x = y := by
  unfold lg_cmp
  by_cases h1 : y < x
  · rw [if_pos h1]
    exact ⟨fun z => absurd z (by decide), fun z => by subst z; exact absurd h1 Int64.lt_irrefl⟩
  · rw [if_neg h1]
    by_cases h2 : x = y
    · rw [if_pos h2]
      exact ⟨fun _ => h2, fun _ => rfl⟩
    · rw [if_neg h2]
      exact ⟨fun z => absurd z (by decide), fun z => absurd z h2⟩
theorem lg_ge (x y : Int64) : 0 ≤ lg_cmp x y ↔ y ≤ x := by rw [← Int32.not_lt, lg_lt, Int64.not_lt]
theorem lg_le (x y : Int64) : lg_cmp x y ≤ 0 ↔ x ≤ y := by rw [← Int32.not_lt, lg_gt, Int64.not_lt]
theorem z_lc_ne {x y : Int64} {off : Int} {tgt : Nat} {o1 o2 : Option ρ} (d : decode (mC M) pc = .ok (.lcmp, 1)) (d2 : decode (mC M) (pc + 1) = .ok (.ifCond .ne off, 3)) (ht : ((pc + 1 : Nat) : Int) + off = (tgt : Int)) (kt : ¬ x = y → ZQ M e ω tgt L st h o1) (kf : x = y → ZQ M e ω (pc + 4) L st h o2) : ZQ M e ω pc L (.long y :: .long x :: st) h (if x = y then o2 else o1) :=
  z_ite (fun P => by
    intro q hq l γ ad B A p e' s m args below meth c hF H locs ls hW hS hl
    refine W.lcmp hF.1 hF.2.1 d ?_
    exact lv_if_ne hF.1 hF.2.1 d2 ht (fun N => absurd ((lg_eq x y).mpr P) N) (fun _ => kf P q hq l γ ad B A p e' s m args below meth c hF H locs ls hW hS hl)) (fun P => by
    intro q hq l γ ad B A p e' s m args below meth c hF H locs ls hW hS hl
    refine W.lcmp hF.1 hF.2.1 d ?_
    exact lv_if_ne hF.1 hF.2.1 d2 ht (fun _ => kt P q hq l γ ad B A p e' s m args below meth c hF H locs ls hW hS hl) (fun N => absurd ((lg_eq x y).mp N) P))
theorem z_lc_eq {x y : Int64} {off : Int} {tgt : Nat} {o1 o2 : Option ρ} (d : decode (mC M) pc = .ok (.lcmp, 1)) (d2 : decode (mC M) (pc + 1) = .ok (.ifCond .eq off, 3)) (ht : ((pc + 1 : Nat) : Int) + off = (tgt : Int)) (kt : x = y → ZQ M e ω tgt L st h o1) (kf : ¬ (x = y) → ZQ M e ω (pc + 4) L st h o2) : ZQ M e ω pc L (.long y :: .long x :: st) h (if x = y then o1 else o2) :=
  z_ite (fun P => by
    intro q hq l γ ad B A p e' s m args below meth c hF H locs ls hW hS hl
    refine W.lcmp hF.1 hF.2.1 d ?_
    exact lv_if_eq hF.1 hF.2.1 d2 ht (fun _ => kt P q hq l γ ad B A p e' s m args below meth c hF H locs ls hW hS hl) (fun N => absurd ((lg_eq x y).mpr P) N)) (fun P => by
    intro q hq l γ ad B A p e' s m args below meth c hF H locs ls hW hS hl
    refine W.lcmp hF.1 hF.2.1 d ?_
    exact lv_if_eq hF.1 hF.2.1 d2 ht (fun N => absurd ((lg_eq x y).mp N) P) (fun _ => kf P q hq l γ ad B A p e' s m args below meth c hF H locs ls hW hS hl))
theorem z_lc_lt {x y : Int64} {off : Int} {tgt : Nat} {o1 o2 : Option ρ} (d : decode (mC M) pc = .ok (.lcmp, 1)) (d2 : decode (mC M) (pc + 1) = .ok (.ifCond .lt off, 3)) (ht : ((pc + 1 : Nat) : Int) + off = (tgt : Int)) (kt : x < y → ZQ M e ω tgt L st h o1) (kf : ¬ (x < y) → ZQ M e ω (pc + 4) L st h o2) : ZQ M e ω pc L (.long y :: .long x :: st) h (if x < y then o1 else o2) :=
  z_ite (fun P => by
    intro q hq l γ ad B A p e' s m args below meth c hF H locs ls hW hS hl
    refine W.lcmp hF.1 hF.2.1 d ?_
    exact lv_if_lt hF.1 hF.2.1 d2 ht (fun _ => kt P q hq l γ ad B A p e' s m args below meth c hF H locs ls hW hS hl) (fun N => absurd ((lg_lt x y).mpr P) N)) (fun P => by
    intro q hq l γ ad B A p e' s m args below meth c hF H locs ls hW hS hl
    refine W.lcmp hF.1 hF.2.1 d ?_
    exact lv_if_lt hF.1 hF.2.1 d2 ht (fun N => absurd ((lg_lt x y).mp N) P) (fun _ => kf P q hq l γ ad B A p e' s m args below meth c hF H locs ls hW hS hl))
theorem z_lc_ge {x y : Int64} {off : Int} {tgt : Nat} {o1 o2 : Option ρ} (d : decode (mC M) pc = .ok (.lcmp, 1)) (d2 : decode (mC M) (pc + 1) = .ok (.ifCond .ge off, 3)) (ht : ((pc + 1 : Nat) : Int) + off = (tgt : Int)) (kt : y ≤ x → ZQ M e ω tgt L st h o1) (kf : ¬ (y ≤ x) → ZQ M e ω (pc + 4) L st h o2) : ZQ M e ω pc L (.long y :: .long x :: st) h (if y ≤ x then o1 else o2) :=
  z_ite (fun P => by
    intro q hq l γ ad B A p e' s m args below meth c hF H locs ls hW hS hl
    refine W.lcmp hF.1 hF.2.1 d ?_
    exact lv_if_ge hF.1 hF.2.1 d2 ht (fun _ => kt P q hq l γ ad B A p e' s m args below meth c hF H locs ls hW hS hl) (fun N => absurd ((lg_ge x y).mpr P) N)) (fun P => by
    intro q hq l γ ad B A p e' s m args below meth c hF H locs ls hW hS hl
    refine W.lcmp hF.1 hF.2.1 d ?_
    exact lv_if_ge hF.1 hF.2.1 d2 ht (fun N => absurd ((lg_ge x y).mp N) P) (fun _ => kf P q hq l γ ad B A p e' s m args below meth c hF H locs ls hW hS hl))
theorem z_lc_gt {x y : Int64} {off : Int} {tgt : Nat} {o1 o2 : Option ρ} (d : decode (mC M) pc = .ok (.lcmp, 1)) (d2 : decode (mC M) (pc + 1) = .ok (.ifCond .gt off, 3)) (ht : ((pc + 1 : Nat) : Int) + off = (tgt : Int)) (kt : y < x → ZQ M e ω tgt L st h o1) (kf : ¬ (y < x) → ZQ M e ω (pc + 4) L st h o2) : ZQ M e ω pc L (.long y :: .long x :: st) h (if y < x then o1 else o2) :=
  z_ite (fun P => by
    intro q hq l γ ad B A p e' s m args below meth c hF H locs ls hW hS hl
    refine W.lcmp hF.1 hF.2.1 d ?_
    exact lv_if_gt hF.1 hF.2.1 d2 ht (fun _ => kt P q hq l γ ad B A p e' s m args below meth c hF H locs ls hW hS hl) (fun N => absurd ((lg_gt x y).mpr P) N)) (fun P => by
    intro q hq l γ ad B A p e' s m args below meth c hF H locs ls hW hS hl
    refine W.lcmp hF.1 hF.2.1 d ?_
    exact lv_if_gt hF.1 hF.2.1 d2 ht (fun N => absurd ((lg_gt x y).mp N) P) (fun _ => kf P q hq l γ ad B A p e' s m args below meth c hF H locs ls hW hS hl))
theorem z_lc_le {x y : Int64} {off : Int} {tgt : Nat} {o1 o2 : Option ρ} (d : decode (mC M) pc = .ok (.lcmp, 1)) (d2 : decode (mC M) (pc + 1) = .ok (.ifCond .le off, 3)) (ht : ((pc + 1 : Nat) : Int) + off = (tgt : Int)) (kt : x ≤ y → ZQ M e ω tgt L st h o1) (kf : ¬ (x ≤ y) → ZQ M e ω (pc + 4) L st h o2) : ZQ M e ω pc L (.long y :: .long x :: st) h (if x ≤ y then o1 else o2) :=
  z_ite (fun P => by
    intro q hq l γ ad B A p e' s m args below meth c hF H locs ls hW hS hl
    refine W.lcmp hF.1 hF.2.1 d ?_
    exact lv_if_le hF.1 hF.2.1 d2 ht (fun _ => kt P q hq l γ ad B A p e' s m args below meth c hF H locs ls hW hS hl) (fun N => absurd ((lg_le x y).mpr P) N)) (fun P => by
    intro q hq l γ ad B A p e' s m args below meth c hF H locs ls hW hS hl
    refine W.lcmp hF.1 hF.2.1 d ?_
    exact lv_if_le hF.1 hF.2.1 d2 ht (fun N => absurd ((lg_le x y).mp N) P) (fun _ => kf P q hq l γ ad B A p e' s m args below meth c hF H locs ls hW hS hl))
theorem z_ifnull {r : Option Nat} {off : Int} {tgt : Nat} {o1 : Option ρ} {o2 : Nat → Option ρ} (d : decode (mC M) pc = .ok (.ifnull off, 3)) (ht : (pc : Int) + off = (tgt : Int)) (k1 : r = none → ZQ M e ω tgt L st h o1) (k2 : ∀ a, r = some a → ZQ M e ω (pc + 3) L st h (o2 a)) : ZQ M e ω pc L (va_rf r :: st) h (match r with | none => o1 | some a => o2 a) := by
  cases r with
  | none =>
    intro q hq l γ ad B A p e' s m args below meth c hF H locs ls hW hS hl
    exact lv_ifnullN hF.1 hF.2.1 d ht (k1 rfl q hq l γ ad B A p e' s m args below meth c hF H locs ls hW hS hl)
  | some a =>
    intro q hq l γ ad B A p e' s m args below meth c hF H locs ls hW hS hl
    exact lv_ifnull hF.1 hF.2.1 d (k2 a rfl q hq l γ ad B A p e' s m args below meth c hF H locs ls hW hS hl)
theorem z_ifnonnull {r : Option Nat} {off : Int} {tgt : Nat} {o1 : Option ρ} {o2 : Nat → Option ρ} (d : decode (mC M) pc = .ok (.ifnonnull off, 3)) (ht : (pc : Int) + off = (tgt : Int)) (k1 : r = none → ZQ M e ω (pc + 3) L st h o1) (k2 : ∀ a, r = some a → ZQ M e ω tgt L st h (o2 a)) : ZQ M e ω pc L (va_rf r :: st) h (match r with | none => o1 | some a => o2 a) := by
  cases r with
  | none =>
    intro q hq l γ ad B A p e' s m args below meth c hF H locs ls hW hS hl
    exact lv_ifnonnullN hF.1 hF.2.1 d (k1 rfl q hq l γ ad B A p e' s m args below meth c hF H locs ls hW hS hl)
  | some a =>
    intro q hq l γ ad B A p e' s m args below meth c hF H locs ls hW hS hl
    exact lv_ifnonnull hF.1 hF.2.1 d ht (k2 a rfl q hq l γ ad B A p e' s m args below meth c hF H locs ls hW hS hl)
theorem z_ldc {i : Nat} {v : Int32} (d : decode (mC M) pc = .ok (.ldc i, 2)) (hw : Cond.constant (mY M).cls i v ∈ lw_tbl) (k : ZQ M e ω (pc + 2) L (.int v :: st) h o) : ZQ M e ω pc L st h o := by
  intro q hq l γ ad B A p e' s m args below meth c hF H locs ls hW hS hl
  exact lv_ldc hF.1 hF.2.1 hF.2.2.2.2.2.2.1 (hF.2.2.2.2.2.2.2.1 _ hw rfl) d (k q hq l γ ad B A p e' s m args below meth c hF H locs ls hW hS hl)
theorem z_ldc2 {i : Nat} {v : Int64} (d : decode (mC M) pc = .ok (.ldc2_w i, 3)) (hw : Cond.constantLong (mY M).cls i v ∈ lw_tbl) (k : ZQ M e ω (pc + 3) L (.long v :: st) h o) : ZQ M e ω pc L st h o := by
  intro q hq l γ ad B A p e' s m args below meth c hF H locs ls hW hS hl
  exact lv_ldc2 hF.1 hF.2.1 hF.2.2.2.2.2.2.1 (hF.2.2.2.2.2.2.2.1 _ hw rfl) d (k q hq l γ ad B A p e' s m args below meth c hF H locs ls hW hS hl)
theorem z_tin {dflt lo hi : Int} {offs : Array Int} {len : Nat} {x : Int32} {off : Int} {tgt : Nat} (d : decode (mC M) pc = .ok (.tableswitch dflt lo hi offs, len)) (v : Int32) (hx : x = v) (h1 : ¬ v.toInt < lo) (h2 : ¬ hi < v.toInt) (ho : offs[(v.toInt - lo).toNat]? = some off) (ht : (pc : Int) + off = (tgt : Int)) (k : ZQ M e ω tgt L st h o) : ZQ M e ω pc L (.int x :: st) h o := by
  subst hx
  intro q hq l γ ad B A p e' s m args below meth c hF H locs ls hW hS hl
  exact lv_tableIn hF.1 hF.2.1 d h1 h2 ho ht (k q hq l γ ad B A p e' s m args below meth c hF H locs ls hW hS hl)
theorem z_tdef {dflt lo hi : Int} {offs : Array Int} {len : Nat} {x : Int32} {tgt : Nat} (d : decode (mC M) pc = .ok (.tableswitch dflt lo hi offs, len)) (ks : List Int32) (hk : ∀ v ∈ ks, ¬ x = v) (hc : (List.range (hi - lo + 1).toNat).all (fun j => offs[j]? == some dflt || ks.any (fun v => v.toInt == lo + (j : Int))) = true) (ht : (pc : Int) + dflt = (tgt : Int)) (k : ZQ M e ω tgt L st h o) : ZQ M e ω pc L (.int x :: st) h o := by
  intro q hq l γ ad B A p e' s m args below meth c hF H locs ls hW hS hl
  by_cases h0 : x.toInt < lo ∨ hi < x.toInt
  · exact lv_tableOut hF.1 hF.2.1 d h0 ht (k q hq l γ ad B A p e' s m args below meth c hF H locs ls hW hS hl)
  · have h1 : ¬ x.toInt < lo := fun z => h0 (Or.inl z)
    have h2 : ¬ hi < x.toInt := fun z => h0 (Or.inr z)
    have h3 := List.all_eq_true.mp hc (x.toInt - lo).toNat (List.mem_range.mpr (by omega))
    rw [Bool.or_eq_true] at h3
    rcases h3 with h3 | h3
    · exact lv_tableIn hF.1 hF.2.1 d h1 h2 (by simpa using h3) ht (k q hq l γ ad B A p e' s m args below meth c hF H locs ls hW hS hl)
    · obtain ⟨v, hv, hv2⟩ := List.any_eq_true.mp h3
      have hv3 : v.toInt = lo + ((x.toInt - lo).toNat : Int) := by simpa using hv2
      exact absurd (Int32.toInt_inj.mp (by omega)) (hk v hv)
theorem z_lkp {dflt : Int} {ps : Array (Int × Int)} {len : Nat} {x : Int32} {off : Int} {tgt : Nat} (d : decode (mC M) pc = .ok (.lookupswitch dflt ps, len)) (v : Int32) (hx : x = v) (hp : (ps.toList.zip (ps.toList.drop 1)).all (fun (a, next) => a.1 < next.1) = true) (ho : Op.lookupswitch.offset ps.toList dflt v.toInt = off) (ht : (pc : Int) + off = (tgt : Int)) (k : ZQ M e ω tgt L st h o) : ZQ M e ω pc L (.int x :: st) h o := by
  subst hx
  intro q hq l γ ad B A p e' s m args below meth c hF H locs ls hW hS hl
  exact lv_lookup hF.1 hF.2.1 d hp ho ht (k q hq l γ ad B A p e' s m args below meth c hF H locs ls hW hS hl)
theorem z_lkd {dflt : Int} {ps : Array (Int × Int)} {len : Nat} {x : Int32} {tgt : Nat} (d : decode (mC M) pc = .ok (.lookupswitch dflt ps, len)) (hp : (ps.toList.zip (ps.toList.drop 1)).all (fun (a, next) => a.1 < next.1) = true) (ho : Op.lookupswitch.offset ps.toList dflt x.toInt = dflt) (ht : (pc : Int) + dflt = (tgt : Int)) (k : ZQ M e ω tgt L st h o) : ZQ M e ω pc L (.int x :: st) h o := by
  intro q hq l γ ad B A p e' s m args below meth c hF H locs ls hW hS hl
  exact lv_lookup hF.1 hF.2.1 d hp ho ht (k q hq l γ ad B A p e' s m args below meth c hF H locs ls hW hS hl)
end ZR
