/-! ROWS of a method that works in more than one world -/
/-- a world's addresses with a larger set of cells that may change -/
def gA (G : wG) (A : Nat → Prop) : wG := (G.1, G.2.1, G.2.2.1, A)
/-- from a frame with these locals, this stack and a heap of which F says what it holds, the machine comes to Q -/
def eV (p : Program) (l : Launch) (e : Env) (R : Room) (s : State) (m : MethodId) (args : Array Value) (below : List Frame) (meth : Method) (c : Code) (A : Nat → Prop) (F : Heap → Prop) (nL : Nat) (k n : Nat) (Q : State → Prop) (pc : Nat) (lc : List (Nat × Value)) (st : List Value) : Prop :=
  ∀ (H : Heap) (locs : List Loc) (ls : Array Slot), F H → va_S A s.heap H locs → lv_has ls nL lc → W p l e R s m args below meth c H locs k n Q (F0 m pc ls st)
section ER
variable {p : Program} {l : Launch} {e : Env} {R : Room} {s : State} {m : MethodId} {args : Array Value} {below : List Frame} {meth : Method} {c : Code} {k n : Nat} {Q : State → Prop} {A : Nat → Prop} {F : Heap → Prop} {G : wG} {nL : Nat} {own : String} {cc : ByteArray} {pc pc' tgt : Nat} {lc lc' : List (Nat × Value)} {st st0 : List Value}
/-- a name for a number -/
theorem e_nm {z : Int} (kk : ∀ x : Int, x = z → eV p l e R s m args below meth c A F nL k n Q pc lc (vI x :: st)) : eV p l e R s m args below meth c A F nL k n Q pc lc (vI z :: st) := kk z rfl
theorem e_nmJ {z : Int} (kk : ∀ x : Int, x = z → eV p l e R s m args below meth c A F nL k n Q pc lc (vJ x :: st)) : eV p l e R s m args below meth c A F nL k n Q pc lc (vJ z :: st) := kk z rfl
theorem e_eqI {z z' : Int} (h : z = z') (kk : eV p l e R s m args below meth c A F nL k n Q pc lc (vI z' :: st)) : eV p l e R s m args below meth c A F nL k n Q pc lc (vI z :: st) := by rw [h]; exact kk
theorem e_eqJ {z z' : Int} (h : z = z') (kk : eV p l e R s m args below meth c A F nL k n Q pc lc (vJ z' :: st)) : eV p l e R s m args below meth c A F nL k n Q pc lc (vJ z :: st) := by rw [h]; exact kk
/-- fewer locals -/
theorem e_sub (ps : List Nat) (h : lv_pick lc ps = lc') (kk : eV p l e R s m args below meth c A F nL k n Q pc lc' st) : eV p l e R s m args below meth c A F nL k n Q pc lc st := fun H locs ls hW hS hl => kk H locs ls hW hS (lv_sub hl ps h)
theorem e_widen {k' n' : Nat} (h1 : k ≤ k') (h2 : n ≤ n') (kk : eV p l e R s m args below meth c A F nL k' n' Q pc lc st) : eV p l e R s m args below meth c A F nL k n Q pc lc st := fun H locs ls hW hS hl => W.widen (k := k') (n := n') h1 h2 (kk H locs ls hW hS hl)
theorem e_iconst (X : wX p s m args meth c G nL own cc) {z : Int} (hd : decode cc pc = .ok (.iconst z, 1)) (hp : pc + 1 = pc') (kk : eV p l e R s m args below meth c A F nL k n Q pc' lc (vI z :: st)) : eV p l e R s m args below meth c A F nL k n Q pc lc st := by
  subst hp; intro H locs ls hW hS hl
  exact lv_iconst X.1 X.2.1 hd rfl (kk H locs ls hW hS hl)
theorem e_bipush (X : wX p s m args meth c G nL own cc) {z : Int} (hd : decode cc pc = .ok (.bipush z, 2)) (hv : (Int8.ofInt z).toInt32 = Int32.ofInt z) (hp : pc + 2 = pc') (kk : eV p l e R s m args below meth c A F nL k n Q pc' lc (vI z :: st)) : eV p l e R s m args below meth c A F nL k n Q pc lc st := by
  subst hp; intro H locs ls hW hS hl
  exact lv_bipush X.1 X.2.1 hd hv (kk H locs ls hW hS hl)
theorem e_sipush (X : wX p s m args meth c G nL own cc) {z : Int} (hd : decode cc pc = .ok (.sipush z, 3)) (hv : (Int16.ofInt z).toInt32 = Int32.ofInt z) (hp : pc + 3 = pc') (kk : eV p l e R s m args below meth c A F nL k n Q pc' lc (vI z :: st)) : eV p l e R s m args below meth c A F nL k n Q pc lc st := by
  subst hp; intro H locs ls hW hS hl
  exact lv_sipush X.1 X.2.1 hd hv (kk H locs ls hW hS hl)
theorem e_lconst (X : wX p s m args meth c G nL own cc) {f : Fin 2} {z : Int} (hd : decode cc pc = .ok (.lconst f, 1)) (hv : Int64.ofNat (f : Nat) = Int64.ofInt z) (hp : pc + 1 = pc') (kk : eV p l e R s m args below meth c A F nL k n Q pc' lc (vJ z :: st)) : eV p l e R s m args below meth c A F nL k n Q pc lc st := by
  subst hp; intro H locs ls hW hS hl
  exact lv_lconst X.1 X.2.1 hd hv (kk H locs ls hW hS hl)
theorem e_ldc (X : wX p s m args meth c G nL own cc) {index : Nat} {v : Int32} {z : Int} (hw : Cond.constant own index v ∈ GW) (hd : decode cc pc = .ok (.ldc index, 2)) (hv : v = Int32.ofInt z) (hp : pc + 2 = pc') (kk : eV p l e R s m args below meth c A F nL k n Q pc' lc (vI z :: st)) : eV p l e R s m args below meth c A F nL k n Q pc lc st := by
  subst hp; subst hv; intro H locs ls hW hS hl
  exact lv_ldc X.1 X.2.1 X.2.2.2.1 (X.2.2.2.2.1 _ hw) hd (kk H locs ls hW hS hl)
theorem e_ldc2 (X : wX p s m args meth c G nL own cc) {index : Nat} {v : Int64} {z : Int} (hw : Cond.constantLong own index v ∈ GW) (hd : decode cc pc = .ok (.ldc2_w index, 3)) (hv : v = Int64.ofInt z) (hp : pc + 3 = pc') (kk : eV p l e R s m args below meth c A F nL k n Q pc' lc (vJ z :: st)) : eV p l e R s m args below meth c A F nL k n Q pc lc st := by
  subst hp; subst hv; intro H locs ls hW hS hl
  exact lv_ldc2 X.1 X.2.1 X.2.2.2.1 (X.2.2.2.2.1 _ hw) hd (kk H locs ls hW hS hl)
theorem e_iload_n (X : wX p s m args meth c G nL own cc) {f : Fin 4} {i : Nat} {z : Int} (q : Nat) (hd : decode cc pc = .ok (.iload_n f, 1)) (hi : (f : Nat) = i) (hk : lc[q]? = some (i, vI z)) (hp : pc + 1 = pc') (kk : eV p l e R s m args below meth c A F nL k n Q pc' lc (vI z :: st)) : eV p l e R s m args below meth c A F nL k n Q pc lc st := by
  subst hp; intro H locs ls hW hS hl
  exact lv_iload_n X.1 X.2.1 hd hi (lv_at hl q hk) (kk H locs ls hW hS hl)
theorem e_iload (X : wX p s m args meth c G nL own cc) {i : Nat} {z : Int} (q : Nat) (hd : decode cc pc = .ok (.iload i, 2)) (hk : lc[q]? = some (i, vI z)) (hp : pc + 2 = pc') (kk : eV p l e R s m args below meth c A F nL k n Q pc' lc (vI z :: st)) : eV p l e R s m args below meth c A F nL k n Q pc lc st := by
  subst hp; intro H locs ls hW hS hl
  exact lv_iload X.1 X.2.1 hd (lv_at hl q hk) (kk H locs ls hW hS hl)
theorem e_lload_n (X : wX p s m args meth c G nL own cc) {f : Fin 4} {i : Nat} {z : Int} (q : Nat) (hd : decode cc pc = .ok (.lload_n f, 1)) (hi : (f : Nat) = i) (hk : lc[q]? = some (i, vJ z)) (hp : pc + 1 = pc') (kk : eV p l e R s m args below meth c A F nL k n Q pc' lc (vJ z :: st)) : eV p l e R s m args below meth c A F nL k n Q pc lc st := by
  subst hp; intro H locs ls hW hS hl
  exact lv_lload_n X.1 X.2.1 hd hi (lv_at hl q hk) (kk H locs ls hW hS hl)
theorem e_lload (X : wX p s m args meth c G nL own cc) {i : Nat} {z : Int} (q : Nat) (hd : decode cc pc = .ok (.lload i, 2)) (hk : lc[q]? = some (i, vJ z)) (hp : pc + 2 = pc') (kk : eV p l e R s m args below meth c A F nL k n Q pc' lc (vJ z :: st)) : eV p l e R s m args below meth c A F nL k n Q pc lc st := by
  subst hp; intro H locs ls hW hS hl
  exact lv_lload X.1 X.2.1 hd (lv_at hl q hk) (kk H locs ls hW hS hl)
theorem e_aload_n (X : wX p s m args meth c G nL own cc) {f : Fin 4} {i : Nat} {z : Nat × Nat} {G2 : wG} (q : Nat) (hd : decode cc pc = .ok (.aload_n f, 1)) (hi : (f : Nat) = i) (hk : lc[q]? = some (i, vR G2 z)) (hp : pc + 1 = pc') (kk : eV p l e R s m args below meth c A F nL k n Q pc' lc (vR G2 z :: st)) : eV p l e R s m args below meth c A F nL k n Q pc lc st := by
  subst hp; intro H locs ls hW hS hl
  exact lv_aload_n X.1 X.2.1 hd hi (lv_at hl q hk) (kk H locs ls hW hS hl)
theorem e_aload (X : wX p s m args meth c G nL own cc) {i : Nat} {z : Nat × Nat} {G2 : wG} (q : Nat) (hd : decode cc pc = .ok (.aload i, 2)) (hk : lc[q]? = some (i, vR G2 z)) (hp : pc + 2 = pc') (kk : eV p l e R s m args below meth c A F nL k n Q pc' lc (vR G2 z :: st)) : eV p l e R s m args below meth c A F nL k n Q pc lc st := by
  subst hp; intro H locs ls hW hS hl
  exact lv_aload X.1 X.2.1 hd (lv_at hl q hk) (kk H locs ls hW hS hl)
theorem e_istore_n (X : wX p s m args meth c G nL own cc) {f : Fin 4} {i : Nat} {z : Int} (ps : List Nat) (hd : decode cc pc = .ok (.istore_n f, 1)) (hi : (f : Nat) = i) (hn : i < nL) (hl : lv_pick (w_st1 lc i (vI z)) ps = lc') (hp : pc + 1 = pc') (kk : eV p l e R s m args below meth c A F nL k n Q pc' lc' st) : eV p l e R s m args below meth c A F nL k n Q pc lc (vI z :: st) := by
  subst hp; intro H locs ls hW hS h
  exact lv_istore_n X.1 X.2.1 hd hi h hn rfl (fun ls' h' => kk H locs ls' hW hS (lv_sub h' ps hl))
theorem e_istore (X : wX p s m args meth c G nL own cc) {i : Nat} {z : Int} (ps : List Nat) (hd : decode cc pc = .ok (.istore i, 2)) (hn : i < nL) (hl : lv_pick (w_st1 lc i (vI z)) ps = lc') (hp : pc + 2 = pc') (kk : eV p l e R s m args below meth c A F nL k n Q pc' lc' st) : eV p l e R s m args below meth c A F nL k n Q pc lc (vI z :: st) := by
  subst hp; intro H locs ls hW hS h
  exact lv_istore X.1 X.2.1 hd h hn rfl (fun ls' h' => kk H locs ls' hW hS (lv_sub h' ps hl))
theorem e_astore_n (X : wX p s m args meth c G nL own cc) {f : Fin 4} {i : Nat} {z : Nat × Nat} {G2 : wG} (ps : List Nat) (hd : decode cc pc = .ok (.astore_n f, 1)) (hi : (f : Nat) = i) (hn : i < nL) (hl : lv_pick (w_st1 lc i (vR G2 z)) ps = lc') (hp : pc + 1 = pc') (kk : eV p l e R s m args below meth c A F nL k n Q pc' lc' st) : eV p l e R s m args below meth c A F nL k n Q pc lc (vR G2 z :: st) := by
  subst hp; intro H locs ls hW hS h
  exact lv_astore_n X.1 X.2.1 hd hi h hn rfl (fun ls' h' => kk H locs ls' hW hS (lv_sub h' ps hl))
theorem e_astore (X : wX p s m args meth c G nL own cc) {i : Nat} {z : Nat × Nat} {G2 : wG} (ps : List Nat) (hd : decode cc pc = .ok (.astore i, 2)) (hn : i < nL) (hl : lv_pick (w_st1 lc i (vR G2 z)) ps = lc') (hp : pc + 2 = pc') (kk : eV p l e R s m args below meth c A F nL k n Q pc' lc' st) : eV p l e R s m args below meth c A F nL k n Q pc lc (vR G2 z :: st) := by
  subst hp; intro H locs ls hW hS h
  exact lv_astore X.1 X.2.1 hd h hn rfl (fun ls' h' => kk H locs ls' hW hS (lv_sub h' ps hl))
theorem e_lstore_n (X : wX p s m args meth c G nL own cc) {f : Fin 4} {i : Nat} {z : Int} (ps : List Nat) (hd : decode cc pc = .ok (.lstore_n f, 1)) (hi : (f : Nat) = i) (hn : i + 1 < nL) (hl : lv_pick (w_st2 lc i (vJ z)) ps = lc') (hp : pc + 1 = pc') (kk : eV p l e R s m args below meth c A F nL k n Q pc' lc' st) : eV p l e R s m args below meth c A F nL k n Q pc lc (vJ z :: st) := by
  subst hp; intro H locs ls hW hS h
  exact lv_lstore_n X.1 X.2.1 hd hi h hn rfl (fun ls' h' => kk H locs ls' hW hS (lv_sub h' ps hl))
theorem e_lstore (X : wX p s m args meth c G nL own cc) {i : Nat} {z : Int} (ps : List Nat) (hd : decode cc pc = .ok (.lstore i, 2)) (hn : i + 1 < nL) (hl : lv_pick (w_st2 lc i (vJ z)) ps = lc') (hp : pc + 2 = pc') (kk : eV p l e R s m args below meth c A F nL k n Q pc' lc' st) : eV p l e R s m args below meth c A F nL k n Q pc lc (vJ z :: st) := by
  subst hp; intro H locs ls hW hS h
  exact lv_lstore X.1 X.2.1 hd h hn rfl (fun ls' h' => kk H locs ls' hW hS (lv_sub h' ps hl))
theorem e_iinc (X : wX p s m args meth c G nL own cc) {i : Nat} {z d z' : Int} (q : Nat) (ps : List Nat) (hd : decode cc pc = .ok (.iinc i d, 3)) (hk : lc[q]? = some (i, vI z)) (hz : z + d = z') (hn : i < nL) (hl : lv_pick (w_st1 lc i (vI z')) ps = lc') (hp : pc + 3 = pc') (kk : eV p l e R s m args below meth c A F nL k n Q pc' lc' st) : eV p l e R s m args below meth c A F nL k n Q pc lc st := by
  subst hp; intro H locs ls hW hS h
  exact lv_iinc (v := Int32.ofInt z') X.1 X.2.1 hd h hk (by rw [← hz, Int32.ofInt_add]) hn rfl (fun ls' h' => kk H locs ls' hW hS (lv_sub h' ps hl))
theorem e_iadd (X : wX p s m args meth c G nL own cc) {a b : Int} (hd : decode cc pc = .ok (.iadd, 1)) (hp : pc + 1 = pc') (kk : eV p l e R s m args below meth c A F nL k n Q pc' lc (vI (a + b) :: st)) : eV p l e R s m args below meth c A F nL k n Q pc lc (vI b :: vI a :: st) := by
  subst hp; intro H locs ls hW hS hl
  refine lv_iadd X.1 X.2.1 hd ?_
  rw [← Int32.ofInt_add]
  exact kk H locs ls hW hS hl
theorem e_isub (X : wX p s m args meth c G nL own cc) {a b : Int} (hd : decode cc pc = .ok (.isub, 1)) (hp : pc + 1 = pc') (kk : eV p l e R s m args below meth c A F nL k n Q pc' lc (vI (a - b) :: st)) : eV p l e R s m args below meth c A F nL k n Q pc lc (vI b :: vI a :: st) := by
  subst hp; intro H locs ls hW hS hl
  refine lv_isub X.1 X.2.1 hd ?_
  rw [← Int32.ofInt_sub]
  exact kk H locs ls hW hS hl
theorem e_imul (X : wX p s m args meth c G nL own cc) {a b : Int} (hd : decode cc pc = .ok (.imul, 1)) (hp : pc + 1 = pc') (kk : eV p l e R s m args below meth c A F nL k n Q pc' lc (vI (a * b) :: st)) : eV p l e R s m args below meth c A F nL k n Q pc lc (vI b :: vI a :: st) := by
  subst hp; intro H locs ls hW hS hl
  refine lv_imul X.1 X.2.1 hd ?_
  rw [← Int32.ofInt_mul]
  exact kk H locs ls hW hS hl
theorem e_ineg (X : wX p s m args meth c G nL own cc) {a : Int} (hd : decode cc pc = .ok (.ineg, 1)) (hp : pc + 1 = pc') (kk : eV p l e R s m args below meth c A F nL k n Q pc' lc (vI (-a) :: st)) : eV p l e R s m args below meth c A F nL k n Q pc lc (vI a :: st) := by
  subst hp; intro H locs ls hW hS hl
  refine lv_ineg X.1 X.2.1 hd ?_
  rw [← Int32.ofInt_neg]
  exact kk H locs ls hW hS hl
theorem e_idiv (X : wX p s m args meth c G nL own cc) {a b : Int} (hd : decode cc pc = .ok (.idiv, 1)) (ha : rI a) (hb : rI b) (h0 : b ≠ 0) (hp : pc + 1 = pc') (kk : eV p l e R s m args below meth c A F nL k n Q pc' lc (vI (a.tdiv b) :: st)) : eV p l e R s m args below meth c A F nL k n Q pc lc (vI b :: vI a :: st) := by
  subst hp; intro H locs ls hW hS hl
  refine lv_idiv X.1 X.2.1 hd (fun q => h0 ((q_Ieq hb ⟨by omega, by omega⟩).mp (q.trans q_I0.symm))) ?_
  rw [q_Idiv ha hb]
  exact kk H locs ls hW hS hl
theorem e_irem (X : wX p s m args meth c G nL own cc) {a b : Int} (hd : decode cc pc = .ok (.irem, 1)) (ha : rI a) (hb : rI b) (h0 : b ≠ 0) (hp : pc + 1 = pc') (kk : eV p l e R s m args below meth c A F nL k n Q pc' lc (vI (a.tmod b) :: st)) : eV p l e R s m args below meth c A F nL k n Q pc lc (vI b :: vI a :: st) := by
  subst hp; intro H locs ls hW hS hl
  refine lv_irem X.1 X.2.1 hd (fun q => h0 ((q_Ieq hb ⟨by omega, by omega⟩).mp (q.trans q_I0.symm))) ?_
  rw [q_Irem ha hb]
  exact kk H locs ls hW hS hl
theorem e_ladd (X : wX p s m args meth c G nL own cc) {a b : Int} (hd : decode cc pc = .ok (.ladd, 1)) (hp : pc + 1 = pc') (kk : eV p l e R s m args below meth c A F nL k n Q pc' lc (vJ (a + b) :: st)) : eV p l e R s m args below meth c A F nL k n Q pc lc (vJ b :: vJ a :: st) := by
  subst hp; intro H locs ls hW hS hl
  refine lv_ladd X.1 X.2.1 hd ?_
  rw [← Int64.ofInt_add]
  exact kk H locs ls hW hS hl
theorem e_lsub (X : wX p s m args meth c G nL own cc) {a b : Int} (hd : decode cc pc = .ok (.lsub, 1)) (hp : pc + 1 = pc') (kk : eV p l e R s m args below meth c A F nL k n Q pc' lc (vJ (a - b) :: st)) : eV p l e R s m args below meth c A F nL k n Q pc lc (vJ b :: vJ a :: st) := by
  subst hp; intro H locs ls hW hS hl
  refine lv_lsub X.1 X.2.1 hd ?_
  rw [← Int64.ofInt_sub]
  exact kk H locs ls hW hS hl
theorem e_lmul (X : wX p s m args meth c G nL own cc) {a b : Int} (hd : decode cc pc = .ok (.lmul, 1)) (hp : pc + 1 = pc') (kk : eV p l e R s m args below meth c A F nL k n Q pc' lc (vJ (a * b) :: st)) : eV p l e R s m args below meth c A F nL k n Q pc lc (vJ b :: vJ a :: st) := by
  subst hp; intro H locs ls hW hS hl
  refine lv_lmul X.1 X.2.1 hd ?_
  rw [← Int64.ofInt_mul]
  exact kk H locs ls hW hS hl
theorem e_lneg (X : wX p s m args meth c G nL own cc) {a : Int} (hd : decode cc pc = .ok (.lneg, 1)) (hp : pc + 1 = pc') (kk : eV p l e R s m args below meth c A F nL k n Q pc' lc (vJ (-a) :: st)) : eV p l e R s m args below meth c A F nL k n Q pc lc (vJ a :: st) := by
  subst hp; intro H locs ls hW hS hl
  refine lv_lneg X.1 X.2.1 hd ?_
  rw [← Int64.ofInt_neg]
  exact kk H locs ls hW hS hl
theorem e_ldiv (X : wX p s m args meth c G nL own cc) {a b : Int} (hd : decode cc pc = .ok (.ldiv, 1)) (ha : rJ a) (hb : rJ b) (h0 : b ≠ 0) (hp : pc + 1 = pc') (kk : eV p l e R s m args below meth c A F nL k n Q pc' lc (vJ (a.tdiv b) :: st)) : eV p l e R s m args below meth c A F nL k n Q pc lc (vJ b :: vJ a :: st) := by
  subst hp; intro H locs ls hW hS hl
  refine lv_ldiv X.1 X.2.1 hd (fun q => h0 ((q_Jeq hb ⟨by omega, by omega⟩).mp (q.trans q_J0.symm))) ?_
  rw [q_Jdiv ha hb]
  exact kk H locs ls hW hS hl
theorem e_lrem (X : wX p s m args meth c G nL own cc) {a b : Int} (hd : decode cc pc = .ok (.lrem, 1)) (ha : rJ a) (hb : rJ b) (h0 : b ≠ 0) (hp : pc + 1 = pc') (kk : eV p l e R s m args below meth c A F nL k n Q pc' lc (vJ (a.tmod b) :: st)) : eV p l e R s m args below meth c A F nL k n Q pc lc (vJ b :: vJ a :: st) := by
  subst hp; intro H locs ls hW hS hl
  refine lv_lrem X.1 X.2.1 hd (fun q => h0 ((q_Jeq hb ⟨by omega, by omega⟩).mp (q.trans q_J0.symm))) ?_
  rw [q_Jrem ha hb]
  exact kk H locs ls hW hS hl
theorem e_i2l (X : wX p s m args meth c G nL own cc) {a : Int} (hd : decode cc pc = .ok (.i2l, 1)) (ha : rI a) (hp : pc + 1 = pc') (kk : eV p l e R s m args below meth c A F nL k n Q pc' lc (vJ a :: st)) : eV p l e R s m args below meth c A F nL k n Q pc lc (vI a :: st) := by
  subst hp; intro H locs ls hW hS hl
  exact lv_i2l X.1 X.2.1 hd (q_I2J ha) (kk H locs ls hW hS hl)
theorem e_l2i (X : wX p s m args meth c G nL own cc) {a : Int} (hd : decode cc pc = .ok (.l2i, 1)) (hp : pc + 1 = pc') (kk : eV p l e R s m args below meth c A F nL k n Q pc' lc (vI a :: st)) : eV p l e R s m args below meth c A F nL k n Q pc lc (vJ a :: st) := by
  subst hp; intro H locs ls hW hS hl
  exact lv_l2i X.1 X.2.1 hd (q_J2I a) (kk H locs ls hW hS hl)
theorem e_dup (X : wX p s m args meth c G nL own cc) {v : Value} (hd : decode cc pc = .ok (.dup, 1)) (hv : v.category = 1) (hp : pc + 1 = pc') (kk : eV p l e R s m args below meth c A F nL k n Q pc' lc (v :: v :: st)) : eV p l e R s m args below meth c A F nL k n Q pc lc (v :: st) := by
  subst hp; intro H locs ls hW hS hl
  exact lv_dup X.1 X.2.1 hd hv (kk H locs ls hW hS hl)
theorem e_pop (X : wX p s m args meth c G nL own cc) {v : Value} (hd : decode cc pc = .ok (.pop, 1)) (hv : v.category = 1) (hp : pc + 1 = pc') (kk : eV p l e R s m args below meth c A F nL k n Q pc' lc st) : eV p l e R s m args below meth c A F nL k n Q pc lc (v :: st) := by
  subst hp; intro H locs ls hW hS hl
  exact lv_pop X.1 X.2.1 hd hv (kk H locs ls hW hS hl)
theorem e_goto (X : wX p s m args meth c G nL own cc) {off : Int} (hd : decode cc pc = .ok (.goto off, 3)) (ht : (pc : Int) + off = (tgt : Int)) (kk : eV p l e R s m args below meth c A F nL k n Q tgt lc st) : eV p l e R s m args below meth c A F nL k n Q pc lc st := by
  intro H locs ls hW hS hl
  exact lv_goto X.1 X.2.1 hd ht (kk H locs ls hW hS hl)
theorem e_icmp_lt (X : wX p s m args meth c G nL own cc) {a b off : Int} (hd : decode cc pc = .ok (.if_icmp .lt off, 3)) (ht : (pc : Int) + off = (tgt : Int)) (hp : pc + 3 = pc') (ha : rI a) (hb : rI b) (kt : a < b → eV p l e R s m args below meth c A F nL k n Q tgt lc st) (kf : ¬ a < b → eV p l e R s m args below meth c A F nL k n Q pc' lc st) : eV p l e R s m args below meth c A F nL k n Q pc lc (vI b :: vI a :: st) := by
  subst hp; intro H locs ls hW hS hl
  exact lv_icmp_lt X.1 X.2.1 hd ht (fun h => kt ((q_Ilt ha hb).mp h) H locs ls hW hS hl) (fun h => kf (fun q => h ((q_Ilt ha hb).mpr q)) H locs ls hW hS hl)
theorem e_icmp_ge (X : wX p s m args meth c G nL own cc) {a b off : Int} (hd : decode cc pc = .ok (.if_icmp .ge off, 3)) (ht : (pc : Int) + off = (tgt : Int)) (hp : pc + 3 = pc') (ha : rI a) (hb : rI b) (kt : b ≤ a → eV p l e R s m args below meth c A F nL k n Q tgt lc st) (kf : ¬ b ≤ a → eV p l e R s m args below meth c A F nL k n Q pc' lc st) : eV p l e R s m args below meth c A F nL k n Q pc lc (vI b :: vI a :: st) := by
  subst hp; intro H locs ls hW hS hl
  exact lv_icmp_ge X.1 X.2.1 hd ht (fun h => kt ((q_Ile hb ha).mp h) H locs ls hW hS hl) (fun h => kf (fun q => h ((q_Ile hb ha).mpr q)) H locs ls hW hS hl)
theorem e_icmp_gt (X : wX p s m args meth c G nL own cc) {a b off : Int} (hd : decode cc pc = .ok (.if_icmp .gt off, 3)) (ht : (pc : Int) + off = (tgt : Int)) (hp : pc + 3 = pc') (ha : rI a) (hb : rI b) (kt : b < a → eV p l e R s m args below meth c A F nL k n Q tgt lc st) (kf : ¬ b < a → eV p l e R s m args below meth c A F nL k n Q pc' lc st) : eV p l e R s m args below meth c A F nL k n Q pc lc (vI b :: vI a :: st) := by
  subst hp; intro H locs ls hW hS hl
  exact lv_icmp_gt X.1 X.2.1 hd ht (fun h => kt ((q_Ilt hb ha).mp h) H locs ls hW hS hl) (fun h => kf (fun q => h ((q_Ilt hb ha).mpr q)) H locs ls hW hS hl)
theorem e_icmp_le (X : wX p s m args meth c G nL own cc) {a b off : Int} (hd : decode cc pc = .ok (.if_icmp .le off, 3)) (ht : (pc : Int) + off = (tgt : Int)) (hp : pc + 3 = pc') (ha : rI a) (hb : rI b) (kt : a ≤ b → eV p l e R s m args below meth c A F nL k n Q tgt lc st) (kf : ¬ a ≤ b → eV p l e R s m args below meth c A F nL k n Q pc' lc st) : eV p l e R s m args below meth c A F nL k n Q pc lc (vI b :: vI a :: st) := by
  subst hp; intro H locs ls hW hS hl
  exact lv_icmp_le X.1 X.2.1 hd ht (fun h => kt ((q_Ile ha hb).mp h) H locs ls hW hS hl) (fun h => kf (fun q => h ((q_Ile ha hb).mpr q)) H locs ls hW hS hl)
theorem e_icmp_eq (X : wX p s m args meth c G nL own cc) {a b off : Int} (hd : decode cc pc = .ok (.if_icmp .eq off, 3)) (ht : (pc : Int) + off = (tgt : Int)) (hp : pc + 3 = pc') (ha : rI a) (hb : rI b) (kt : a = b → eV p l e R s m args below meth c A F nL k n Q tgt lc st) (kf : ¬ a = b → eV p l e R s m args below meth c A F nL k n Q pc' lc st) : eV p l e R s m args below meth c A F nL k n Q pc lc (vI b :: vI a :: st) := by
  subst hp; intro H locs ls hW hS hl
  exact lv_icmp_eq X.1 X.2.1 hd ht (fun h => kt ((q_Ieq ha hb).mp h) H locs ls hW hS hl) (fun h => kf (fun q => h ((q_Ieq ha hb).mpr q)) H locs ls hW hS hl)
theorem e_icmp_ne (X : wX p s m args meth c G nL own cc) {a b off : Int} (hd : decode cc pc = .ok (.if_icmp .ne off, 3)) (ht : (pc : Int) + off = (tgt : Int)) (hp : pc + 3 = pc') (ha : rI a) (hb : rI b) (kt : ¬ a = b → eV p l e R s m args below meth c A F nL k n Q tgt lc st) (kf : a = b → eV p l e R s m args below meth c A F nL k n Q pc' lc st) : eV p l e R s m args below meth c A F nL k n Q pc lc (vI b :: vI a :: st) := by
  subst hp; intro H locs ls hW hS hl
  exact lv_icmp_ne X.1 X.2.1 hd ht (fun h => kt (fun q => h ((q_Ieq ha hb).mpr q)) H locs ls hW hS hl) (fun h => kf ((q_Ieq ha hb).mp h) H locs ls hW hS hl)
theorem e_if_lt (X : wX p s m args meth c G nL own cc) {a off : Int} (hd : decode cc pc = .ok (.ifCond .lt off, 3)) (ht : (pc : Int) + off = (tgt : Int)) (hp : pc + 3 = pc') (ha : rI a) (kt : a < 0 → eV p l e R s m args below meth c A F nL k n Q tgt lc st) (kf : ¬ a < 0 → eV p l e R s m args below meth c A F nL k n Q pc' lc st) : eV p l e R s m args below meth c A F nL k n Q pc lc (vI a :: st) := by
  subst hp; intro H locs ls hW hS hl
  exact lv_if_lt X.1 X.2.1 hd ht (fun h => kt ((q_Ilt ha (by decide)).mp h) H locs ls hW hS hl) (fun h => kf (fun q => h ((q_Ilt ha (by decide)).mpr q)) H locs ls hW hS hl)
theorem e_if_ge (X : wX p s m args meth c G nL own cc) {a off : Int} (hd : decode cc pc = .ok (.ifCond .ge off, 3)) (ht : (pc : Int) + off = (tgt : Int)) (hp : pc + 3 = pc') (ha : rI a) (kt : 0 ≤ a → eV p l e R s m args below meth c A F nL k n Q tgt lc st) (kf : ¬ 0 ≤ a → eV p l e R s m args below meth c A F nL k n Q pc' lc st) : eV p l e R s m args below meth c A F nL k n Q pc lc (vI a :: st) := by
  subst hp; intro H locs ls hW hS hl
  exact lv_if_ge X.1 X.2.1 hd ht (fun h => kt ((q_Ile (by decide) ha).mp h) H locs ls hW hS hl) (fun h => kf (fun q => h ((q_Ile (by decide) ha).mpr q)) H locs ls hW hS hl)
theorem e_if_gt (X : wX p s m args meth c G nL own cc) {a off : Int} (hd : decode cc pc = .ok (.ifCond .gt off, 3)) (ht : (pc : Int) + off = (tgt : Int)) (hp : pc + 3 = pc') (ha : rI a) (kt : 0 < a → eV p l e R s m args below meth c A F nL k n Q tgt lc st) (kf : ¬ 0 < a → eV p l e R s m args below meth c A F nL k n Q pc' lc st) : eV p l e R s m args below meth c A F nL k n Q pc lc (vI a :: st) := by
  subst hp; intro H locs ls hW hS hl
  exact lv_if_gt X.1 X.2.1 hd ht (fun h => kt ((q_Ilt (by decide) ha).mp h) H locs ls hW hS hl) (fun h => kf (fun q => h ((q_Ilt (by decide) ha).mpr q)) H locs ls hW hS hl)
theorem e_if_le (X : wX p s m args meth c G nL own cc) {a off : Int} (hd : decode cc pc = .ok (.ifCond .le off, 3)) (ht : (pc : Int) + off = (tgt : Int)) (hp : pc + 3 = pc') (ha : rI a) (kt : a ≤ 0 → eV p l e R s m args below meth c A F nL k n Q tgt lc st) (kf : ¬ a ≤ 0 → eV p l e R s m args below meth c A F nL k n Q pc' lc st) : eV p l e R s m args below meth c A F nL k n Q pc lc (vI a :: st) := by
  subst hp; intro H locs ls hW hS hl
  exact lv_if_le X.1 X.2.1 hd ht (fun h => kt ((q_Ile ha (by decide)).mp h) H locs ls hW hS hl) (fun h => kf (fun q => h ((q_Ile ha (by decide)).mpr q)) H locs ls hW hS hl)
theorem e_if_eq (X : wX p s m args meth c G nL own cc) {a off : Int} (hd : decode cc pc = .ok (.ifCond .eq off, 3)) (ht : (pc : Int) + off = (tgt : Int)) (hp : pc + 3 = pc') (ha : rI a) (kt : a = 0 → eV p l e R s m args below meth c A F nL k n Q tgt lc st) (kf : ¬ a = 0 → eV p l e R s m args below meth c A F nL k n Q pc' lc st) : eV p l e R s m args below meth c A F nL k n Q pc lc (vI a :: st) := by
  subst hp; intro H locs ls hW hS hl
  exact lv_if_eq X.1 X.2.1 hd ht (fun h => kt ((q_Ieq ha (by decide)).mp h) H locs ls hW hS hl) (fun h => kf (fun q => h ((q_Ieq ha (by decide)).mpr q)) H locs ls hW hS hl)
theorem e_if_ne (X : wX p s m args meth c G nL own cc) {a off : Int} (hd : decode cc pc = .ok (.ifCond .ne off, 3)) (ht : (pc : Int) + off = (tgt : Int)) (hp : pc + 3 = pc') (ha : rI a) (kt : ¬ a = 0 → eV p l e R s m args below meth c A F nL k n Q tgt lc st) (kf : a = 0 → eV p l e R s m args below meth c A F nL k n Q pc' lc st) : eV p l e R s m args below meth c A F nL k n Q pc lc (vI a :: st) := by
  subst hp; intro H locs ls hW hS hl
  exact lv_if_ne X.1 X.2.1 hd ht (fun h => kt (fun q => h ((q_Ieq ha (by decide)).mpr q)) H locs ls hW hS hl) (fun h => kf ((q_Ieq ha (by decide)).mp h) H locs ls hW hS hl)
/-- a comparison of longs, as a number -/
theorem e_lcmp (X : wX p s m args meth c G nL own cc) {a b : Int} (hd : decode cc pc = .ok (.lcmp, 1)) (ha : rJ a) (hb : rJ b) (hp : pc + 1 = pc') (kk : ∀ z : Int, (z = -1 ∨ z = 0 ∨ z = 1) → (z < 0 ↔ a < b) → (z = 0 ↔ a = b) → (0 < z ↔ b < a) → eV p l e R s m args below meth c A F nL k n Q pc' lc (vI z :: st)) : eV p l e R s m args below meth c A F nL k n Q pc lc (vJ b :: vJ a :: st) := by
  subst hp; intro H locs ls hW hS hl
  refine W.lcmp X.1 X.2.1 hd ?_
  rw [q_cmp_lt ha hb]
  by_cases h : b < a
  · rw [if_pos h]
    exact kk 1 (by omega) (by omega) (by omega) (by omega) H locs ls hW hS hl
  · rw [if_neg h]
    by_cases h2 : a = b
    · rw [if_pos h2]
      exact kk 0 (by omega) (by omega) (by omega) (by omega) H locs ls hW hS hl
    · rw [if_neg h2]
      exact kk (-1) (by omega) (by omega) (by omega) (by omega) H locs ls hW hS hl
theorem e_i2lw (X : wX p s m args meth c G nL own cc) {a : Int} (hd : decode cc pc = .ok (.i2l, 1)) (hp : pc + 1 = pc') (kk : eV p l e R s m args below meth c A F nL k n Q pc' lc (vJ (iw a) :: st)) : eV p l e R s m args below meth c A F nL k n Q pc lc (vI a :: st) := by
  rw [vI_iw a]
  exact e_i2l X hd (iw_rng a) hp kk
theorem e_aloadQ_n (X : wX p s m args meth c G nL own cc) {f : Fin 4} {i : Nat} {z : Addr} (q : Nat) (hd : decode cc pc = .ok (.aload_n f, 1)) (hi : (f : Nat) = i) (hk : lc[q]? = some (i, (Value.ref z))) (hp : pc + 1 = pc') (kk : eV p l e R s m args below meth c A F nL k n Q pc' lc ((Value.ref z) :: st)) : eV p l e R s m args below meth c A F nL k n Q pc lc st := by
  subst hp; intro H locs ls hW hS hl
  exact lv_aload_n X.1 X.2.1 hd hi (lv_at hl q hk) (kk H locs ls hW hS hl)
theorem e_aloadQ (X : wX p s m args meth c G nL own cc) {i : Nat} {z : Addr} (q : Nat) (hd : decode cc pc = .ok (.aload i, 2)) (hk : lc[q]? = some (i, (Value.ref z))) (hp : pc + 2 = pc') (kk : eV p l e R s m args below meth c A F nL k n Q pc' lc ((Value.ref z) :: st)) : eV p l e R s m args below meth c A F nL k n Q pc lc st := by
  subst hp; intro H locs ls hW hS hl
  exact lv_aload X.1 X.2.1 hd (lv_at hl q hk) (kk H locs ls hW hS hl)
theorem e_astoreQ_n (X : wX p s m args meth c G nL own cc) {f : Fin 4} {i : Nat} {z : Addr} (ps : List Nat) (hd : decode cc pc = .ok (.astore_n f, 1)) (hi : (f : Nat) = i) (hn : i < nL) (hl : lv_pick (w_st1 lc i ((Value.ref z))) ps = lc') (hp : pc + 1 = pc') (kk : eV p l e R s m args below meth c A F nL k n Q pc' lc' st) : eV p l e R s m args below meth c A F nL k n Q pc lc ((Value.ref z) :: st) := by
  subst hp; intro H locs ls hW hS h
  exact lv_astore_n X.1 X.2.1 hd hi h hn rfl (fun ls' h' => kk H locs ls' hW hS (lv_sub h' ps hl))
theorem e_astoreQ (X : wX p s m args meth c G nL own cc) {i : Nat} {z : Addr} (ps : List Nat) (hd : decode cc pc = .ok (.astore i, 2)) (hn : i < nL) (hl : lv_pick (w_st1 lc i ((Value.ref z))) ps = lc') (hp : pc + 2 = pc') (kk : eV p l e R s m args below meth c A F nL k n Q pc' lc' st) : eV p l e R s m args below meth c A F nL k n Q pc lc ((Value.ref z) :: st) := by
  subst hp; intro H locs ls hW hS h
  exact lv_astore X.1 X.2.1 hd h hn rfl (fun ls' h' => kk H locs ls' hW hS (lv_sub h' ps hl))
theorem wSt.narrow {G : wG} {A : Nat → Prop} {U : State} (h : wSt (gA G A) U) (hN : ∀ q, wA G q → A q) : wSt G U := by
  obtain ⟨h1, h2, h3, h4, h5⟩ := h
  exact ⟨h1, h2, h3.narrow hN, h4.narrow hN, h5⟩
/-- a world beside others: what is called in it finds -/
theorem eX.pre {G1 : wG} {M1 : wM} (X : wX p s m args meth c (gA G1 A) nL own cc) (hN : ∀ q, wA G1 q → A q) (hL : wLay G1) {H : Heap} {locs : List Loc} (hW : wW G1 M1 H) (hS : va_S A s.heap H locs) (av : List Value) : ∀ U : State, U.heap = H → s.WarmedH U.vm → wPc G1 M1 av av.toArray U := fun U hU hWm => ⟨rfl, by rw [hU]; exact hW, wSt.narrow (wSt.warm (G := gA G1 A) (locs := locs) hWm (by rw [hU]; exact hS) X.sta) hN, hL, trivial⟩
theorem e_runV {G1 : wG} {M1 : wM} (X : wX p s m args meth c (gA G1 A) nL own cc) (hN : ∀ q, wA G1 q → A q) (hL : wLay G1) {o j ci Nf N index maxL mc ms : Nat} {fs : List (Option (Nat × Nat))} {C : String} {T : u_T} {y : MethodName} {bytes : ByteArray} {ret : Option FieldType} {rm : Room} {As : List Value} {Qc : Array Value → State → Outcome → State → Prop} (hM : Met l y (gws y bytes maxL ret) rm (wPc G1 M1 (vR G1 (o, j) :: As)) Qc mc ms (wA G1)) (hy : wCal y bytes maxL ret N) (hk : wkd o j = some (.inl (ci, fs))) (hc : vwCl[ci]? = some (C, T, Nf)) (hinst : Cond.instanceMethod y ∈ GW) (hsel : Cond.selects C y y ∈ GW) (hrc : rm.cells = mc) (hrs : rm.slots = ms) (hR : rm.frames + 1 ≤ R.frames ∧ 8 + (maxL + 11) + rm.locals ≤ R.locals) (hn : As.length = N) (hst : st0 = As.reverse ++ vR G1 (o, j) :: st) (hcat : (st.map fun v => v.category).sum ≤ 8) (hf : k + mc ≤ R.cells ∧ n + ms ≤ R.slots) (hlink : Cond.methodLink own index y ∈ GW) (hd : decode cc pc = .ok (.invokevirtual index, 3)) :
    ∀ (H : Heap) (locs : List Loc) (ls : Array Slot), wW G1 M1 H → va_S A s.heap H locs → ls.size = nL → va_Run p l e R s m args below meth c H locs k n mc ms (F0 m pc ls st0) st (Qc (vR G1 (o, j) :: As).toArray) (wA G1) := by
  intro H locs ls hW hS hl
  have hK : va_K G1.2.1 vwCl [] s := X.sta.1
  exact va_runV (As := As) (rest := st) X.fix hM ⟨X.callB hy hlink hrc hrs hR, X.w hinst, X.w hsel⟩ ⟨wPc_blind, va_recv (ci := ci) (q0 := 0) hK (w_one hW hk) hc rfl, eX.pre X hN hL hW hS _⟩ rfl hn hl hst (lv_room hcat) hd hf
theorem e_runS {G1 : wG} {M1 : wM} (X : wX p s m args meth c (gA G1 A) nL own cc) (hN : ∀ q, wA G1 q → A q) (hL : wLay G1) {N index maxL mc ms : Nat} {y : MethodName} {bytes : ByteArray} {ret : Option FieldType} {rm : Room} {As : List Value} {Qc : Array Value → State → Outcome → State → Prop} (hM : Met l y (gws y bytes maxL ret) rm (wPc G1 M1 As) Qc mc ms (wA G1)) (hy : wCal y bytes maxL ret N) (hstat : Cond.static y ∈ GW) (hrc : rm.cells = mc) (hrs : rm.slots = ms) (hR : rm.frames + 1 ≤ R.frames ∧ 8 + (maxL + 11) + rm.locals ≤ R.locals) (hn : As.length = N) (hst : st0 = As.reverse ++ st) (hcat : (st.map fun v => v.category).sum ≤ 8) (hf : k + mc ≤ R.cells ∧ n + ms ≤ R.slots) (hlink : Cond.methodLink own index y ∈ GW) (hd : decode cc pc = .ok (.invokestatic index, 3)) :
    ∀ (H : Heap) (locs : List Loc) (ls : Array Slot), wW G1 M1 H → va_S A s.heap H locs → ls.size = nL → va_Run p l e R s m args below meth c H locs k n mc ms (F0 m pc ls st0) st (Qc As.toArray) (wA G1) := by
  intro H locs ls hW hS hl
  exact va_runS (As := As) (rest := st) X.fix hM ⟨X.callB hy hlink hrc hrs hR, X.w hstat⟩ ⟨wPc_blind, eX.pre X hN hL hW hS _⟩ rfl hn hl hst (lv_room hcat) hd hf
theorem e_runSH {G1 : wG} {M1 : wM} (X : wX p s m args meth c (gA G1 A) nL own cc) (hN : ∀ q, wA G1 q → A q) (hL : wLay G1) {N index maxL mc ms : Nat} {y : MethodName} {bytes : ByteArray} {ret : Option FieldType} {hh : List (Nat × Nat × Nat × Nat)} {rm : Room} {As : List Value} {Qc : Array Value → State → Outcome → State → Prop} (hM : Met l y (gwsH y bytes maxL ret hh) rm (wPc G1 M1 As) Qc mc ms (wA G1)) (hy : wCalH y bytes maxL ret hh N) (hstat : Cond.static y ∈ GW) (hrc : rm.cells = mc) (hrs : rm.slots = ms) (hR : rm.frames + 1 ≤ R.frames ∧ 8 + (maxL + 11) + rm.locals ≤ R.locals) (hn : As.length = N) (hst : st0 = As.reverse ++ st) (hcat : (st.map fun v => v.category).sum ≤ 8) (hf : k + mc ≤ R.cells ∧ n + ms ≤ R.slots) (hlink : Cond.methodLink own index y ∈ GW) (hd : decode cc pc = .ok (.invokestatic index, 3)) :
    ∀ (H : Heap) (locs : List Loc) (ls : Array Slot), wW G1 M1 H → va_S A s.heap H locs → ls.size = nL → va_Run p l e R s m args below meth c H locs k n mc ms (F0 m pc ls st0) st (Qc As.toArray) (wA G1) := by
  intro H locs ls hW hS hl
  refine vx_runSW (hh := hh) (As := As) (rest := st) X.fix hM (vx_cwSW (ws' := GW) N X.2.2.2.2.1 (fun w hw => ?_) rfl hrc hrs hy.2.2 hR) ⟨wPc_blind, eX.pre X hN hL hW hS _⟩ rfl hn hl hst (lv_room hcat) hd hf
  unfold va_wsS at hw
  rcases List.mem_append.mp hw with h | h
  · simp only [List.mem_cons, List.not_mem_nil, or_false] at h
    rcases h with rfl | rfl | rfl
    all_goals first
      | exact ⟨hlink, good_of_word (GW_good _ hlink)⟩
      | exact ⟨hstat, good_of_word (GW_good _ hstat)⟩
      | exact ⟨hy.2.1, good_of_word (GW_good _ hy.2.1)⟩
  · exact gwsH_in hy.1 w h
/-- a call in one world: what the heap holds behind it -/
theorem e_calli {G1 : wG} {M1 : wM} {mc ms : Nat} {P : Int → wM → Prop} {a : Array Value} (hr : ∀ (H : Heap) (locs : List Loc) (ls : Array Slot), wW G1 M1 H → va_S A s.heap H locs → ls.size = nL → va_Run p l e R s m args below meth c H locs k n mc ms (F0 m pc ls st0) st (wQi G1 P a) (wA G1)) (hN : ∀ q, wA G1 q → A q) (hF : ∀ H, F H → wW G1 M1 H) (F' : wM → Heap → Prop) (hF' : ∀ (H H' : Heap) (M' : wM), F H → wW G1 M' H' → H.size ≤ H'.size → (∀ q, q < H.size → ¬ wA G1 q → H'[q]? = H[q]?) → F' M' H') (hp : pc + 3 = pc')
    (kk : ∀ (z : Int) (M' : wM), P z M' → eV p l e R s m args below meth c A (F' M') nL (k + mc) (n + ms) Q pc' lc (vI z :: st)) : eV p l e R s m args below meth c A F nL k n Q pc lc st0 := by
  subst hp; intro H locs ls hW hS hl
  refine va_calli (hr H locs ls (hF H hW) hS hl.1) hS (fun q _ h => hN q h) (fun q h => hN q h) (fun r u t H1 locs1 ht hvm hpo hB hz hk hS1 => ?_)
  obtain ⟨z, M'⟩ := u
  obtain ⟨rfl, hP⟩ := hpo
  rw [ht] at hB
  exact kk z M' hP H1 locs1 ls (hF' H H1 M' hW hB hz hk) hS1 hl
theorem e_callj {G1 : wG} {M1 : wM} {mc ms : Nat} {P : Int → wM → Prop} {a : Array Value} (hr : ∀ (H : Heap) (locs : List Loc) (ls : Array Slot), wW G1 M1 H → va_S A s.heap H locs → ls.size = nL → va_Run p l e R s m args below meth c H locs k n mc ms (F0 m pc ls st0) st (wQj G1 P a) (wA G1)) (hN : ∀ q, wA G1 q → A q) (hF : ∀ H, F H → wW G1 M1 H) (F' : wM → Heap → Prop) (hF' : ∀ (H H' : Heap) (M' : wM), F H → wW G1 M' H' → H.size ≤ H'.size → (∀ q, q < H.size → ¬ wA G1 q → H'[q]? = H[q]?) → F' M' H') (hp : pc + 3 = pc')
    (kk : ∀ (z : Int) (M' : wM), P z M' → eV p l e R s m args below meth c A (F' M') nL (k + mc) (n + ms) Q pc' lc (vJ z :: st)) : eV p l e R s m args below meth c A F nL k n Q pc lc st0 := by
  subst hp; intro H locs ls hW hS hl
  refine va_calll (hr H locs ls (hF H hW) hS hl.1) hS (fun q _ h => hN q h) (fun q h => hN q h) (fun r u t H1 locs1 ht hvm hpo hB hz hk hS1 => ?_)
  obtain ⟨z, M'⟩ := u
  obtain ⟨rfl, hP⟩ := hpo
  rw [ht] at hB
  exact kk z M' hP H1 locs1 ls (hF' H H1 M' hW hB hz hk) hS1 hl
/-- another world behind a call in one -/
theorem wW.aside {G1 G2 : wG} {M2 : wM} {H H' : Heap} (h : wW G2 M2 H) (hL : wLay G2) (hD : ∀ q, wA G1 q → ¬ wA G2 q) (hk : ∀ q, q < H.size → ¬ wA G1 q → H'[q]? = H[q]?) : wW G2 M2 H' := fun o j k hkd => (h o j k hkd).kept (hk _ (h.lt hkd) (fun q => hD _ q (hL.2 o j (by rw [hkd]; rfl))))
end ER
