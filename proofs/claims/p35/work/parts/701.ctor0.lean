/-! CONSTRUCTORS: cells one behind the other, from an address on -/
abbrev cC : Type := (Nat × List Value) ⊕ (Nat × Nat × (Nat → Value))
def kCell (G : wG) (a : Nat) (H : Heap) : cC → Prop
  | .inl q => ∃ r : vw_C, vwCl[q.1]? = some r ∧ t_OB a (G.2.1.1 q.1) r.2.2 (G.2.1.2 q.1) H (vp_V q.2)
  | .inr q => H[a]? = some (arrV (G.1 q.1) q.2.1 q.2.2)
theorem kCell.kept {G : wG} {a : Nat} {H H1 : Heap} {x : cC} (h : kCell G a H x) (hq : H1[a]? = H[a]?) : kCell G a H1 x := by
  cases x with
  | inl q =>
    obtain ⟨r, h1, h2⟩ := h
    exact ⟨r, h1, h2.kept hq⟩
  | inr q => exact hq.trans h
def tU (T : Nat → cC) (i : Nat) (x : cC) : Nat → cC := fun j => if j = i then x else T j
def tB (T : Nat → cC) (n : Nat) (B : Nat → cC) : Nat → cC := fun j => if n ≤ j then B (j - n) else T j
def cW (G : wG) (h n : Nat) (T : Nat → cC) (H H0 : Heap) : Prop := H.size = h + n ∧ (∀ i, i < n → kCell G (h + i) H (T i)) ∧ ∀ q, q < h → H[q]? = H0[q]?
theorem cW.push {G : wG} {h n : Nat} {T : Nat → cC} {H H0 H1 : Heap} {x : cC} (hW : cW G h n T H H0) (hz : H1.size = H.size + 1) (ho : ∀ q, q < H.size → H1[q]? = H[q]?) (hc : kCell G (h + n) H1 x) : cW G h (n + 1) (tU T n x) H1 H0 := by
  obtain ⟨h1, h2, h3⟩ := hW
  refine ⟨by omega, fun i hi => ?_, fun q hq => (ho q (by omega)).trans (h3 q hq)⟩
  unfold tU
  by_cases q : i = n
  · rw [if_pos q, q]; exact hc
  · rw [if_neg q]; exact (h2 i (by omega)).kept (ho _ (by omega))
theorem cW.set {G : wG} {h n i : Nat} {T : Nat → cC} {H H0 H1 : Heap} {x : cC} (hW : cW G h n T H H0) (hi : i < n) (hz : H1.size = H.size) (ho : ∀ q, q ≠ h + i → H1[q]? = H[q]?) (hc : kCell G (h + i) H1 x) : cW G h n (tU T i x) H1 H0 := by
  obtain ⟨h1, h2, h3⟩ := hW
  refine ⟨by omega, fun j hj => ?_, fun q hq => (ho q (by omega)).trans (h3 q hq)⟩
  unfold tU
  by_cases q : j = i
  · rw [if_pos q, q]; exact hc
  · rw [if_neg q]; exact (h2 j hj).kept (ho _ (by omega))
/-- behind a callee that built its own cells from the last one on -/
theorem cW.block {G : wG} {h n n2 : Nat} {T B : Nat → cC} {H H0 H1 : Heap} (hW : cW G h (n + 1) T H H0) (hB : cW G (h + n) n2 B H1 H) : cW G h (n + n2) (tB T n B) H1 H0 := by
  obtain ⟨h1, h2, h3⟩ := hW
  obtain ⟨g1, g2, g3⟩ := hB
  refine ⟨by omega, fun i hi => ?_, fun q hq => (g3 q (by omega)).trans (h3 q hq)⟩
  unfold tB
  by_cases q : n ≤ i
  · rw [if_pos q]
    have := g2 (i - n) (by omega)
    rw [show h + n + (i - n) = h + i by omega] at this
    exact this
  · rw [if_neg q]; exact (h2 i (by omega)).kept (g3 _ (by omega))
theorem cW.last {G : wG} {h n : Nat} {T : Nat → cC} {H H0 : Heap} (hW : cW G h (n + 1) T H H0) : cW G (h + n) 1 (fun _ => T n) H H := ⟨by have := hW.1; omega, fun i hi => by have := hW.2.1 n (by omega); rw [show h + n + i = h + n by omega]; exact this, fun _ _ => rfl⟩
theorem cW.eqT {G : wG} {h n : Nat} {T T' : Nat → cC} {H H0 : Heap} (hW : cW G h n T H H0) (e : ∀ i, i < n → T i = T' i) : cW G h n T' H H0 := ⟨hW.1, fun i hi => by rw [← e i hi]; exact hW.2.1 i hi, hW.2.2⟩
/-- the array classes by their names -/
def cN (G : wG) (U : State) : Prop := (∀ t, t < 7 → U.vm.findClass ("[" ++ (wty t).toString) = some (G.1 t)) ∧ va_AO "StateObserver$Moment" U ∧ ∀ t, t < 2 → (Cond.arrayOver (.array (wty t))).before #[] U = true
theorem cN.warm {G : wG} {s U : State} (hW : s.WarmedH U.vm) (h : cN G s) : cN G U := ⟨fun t ht => (hW.alike.findClass _ _).trans (h.1 t ht), h.2.1.moved hW.alike, fun t ht => Jvm.Stand.arrayOver_alikeB hW.alike (h.2.2 t ht)⟩
theorem cN.same {G : wG} {s U : State} (hv : U.vm = s.vm) (h : cN G s) : cN G U := ⟨fun t ht => by rw [hv]; exact h.1 t ht, h.2.1.moved (by rw [hv]; exact Vm.Alike.refl _), fun t ht => Jvm.Stand.arrayOver_alikeB (by rw [hv]; exact Vm.Alike.refl _) (h.2.2 t ht)⟩
def cV (p : Program) (l : Launch) (e : Env) (R : Room) (s : State) (m : MethodId) (args : Array Value) (below : List Frame) (meth : Method) (c : Code) (G : wG) (nL h nn : Nat) (T : Nat → cC) (H0 : Heap) (k n : Nat) (Q : State → Prop) (pc : Nat) (lc : List (Nat × Value)) (st : List Value) : Prop :=
  ∀ (H : Heap) (locs : List Loc) (ls : Array Slot), cW G h nn T H H0 → va_S (wA G) s.heap H locs → lv_has ls nL lc → W p l e R s m args below meth c H locs k n Q (F0 m pc ls st)
def cPc (G : wG) (h n : Nat) (T : Nat → cC) (H0 : Heap) (av : List Value) : Array Value → State → Prop := fun v U => v = av.toArray ∧ cW G h n T U.heap H0 ∧ wSt G U ∧ cN G U ∧ wLay G ∧ ∀ q, h ≤ q → G.2.2.2 q
theorem cPc_blind {G : wG} {h n : Nat} {T : Nat → cC} {H0 : Heap} {av : List Value} : FrameBlind (cPc G h n T H0 av) := fun a U g mk q => ⟨q.1, q.2.1, wSt.same (s := U) (U := U.calling g mk a) rfl rfl q.2.2.1, cN.same (s := U) (U := U.calling g mk a) rfl q.2.2.2.1, q.2.2.2.2⟩
def cQv (G : wG) (h n : Nat) (T : Nat → cC) (H0 : Heap) : Array Value → State → Outcome → State → Prop := va_Qv (S := Unit) (fun _ => True) (fun _ t => cW G h n T t.heap H0) (wA G)
theorem cMet {l : Launch} {y : MethodName} {cc : ByteArray} {nL : Nat} {rm : Room} {G : wG} {h n : Nat} {T : Nat → cC} {H0 : Heap} {av : List Value} {lc : List (Nat × Value)} {Qc : Array Value → State → Outcome → State → Prop} {mc ms : Nat} (hy : plainName y.cls = true) (hlen : (lg_sl av).length ≤ nL) (hlc : lv_args 0 av = lc) (hin : y.name = "<init>")
    (body : ∀ (p : Program) (e : Env) (s : State) (m : MethodId) (args : Array Value) (below : List Frame) (meth : Method) (c : Code), wX p s m args meth c G nL y.cls cc → cN G s → meth.name = "<init>" → (∀ q, h ≤ q → G.2.2.2 q) → meth.sig.returnType = none → cV p l e rm s m args below meth c G nL h n T H0 0 0 (MQ below Qc args s mc ms (wA G)) 0 lc []) :
    Met l y (gws y cc nL none) rm (cPc G h n T H0 av) Qc mc ms (wA G) := by
  refine Met.ofW (cc := cc) (maxL := nL) (ret := none) hy rfl ?_
  intro p e s m args below meth c s₁ B hml hv
  obtain ⟨rfl, hW, hSt, hcN, hL, hz⟩ := hv
  have hts := atoms_spec (ws := gws y cc nL none) B.pre
  have X : wX p s m av.toArray meth c G nL y.cls cc := ⟨B.exec, B.bytes, hml, findClass_of_methodNamed B.named, fun w hw => hts w (List.mem_cons_of_mem _ hw), hSt, hL, trivial, B.notSynchronized⟩
  have hl := lv_entry av (n := nL) hlen
  rw [lg_entry_eq]
  generalize (lg_sl av ++ List.replicate (nL - (lg_sl av).length) Slot.unset).toArray = ls at hl ⊢
  rw [hlc] at hl
  exact body p e s m av.toArray below meth c X hcN ((name_of_methodNamed B.named B.method).1.trans hin) hz B.returns s.heap [] ls hW va_S.rf hl
/-- the rows of a grid, made at once -/
def mB (t N M a : Nat) (dv : Value) : Nat → cC := fun j => if j = 0 then .inr (t + 4, N, fun i => .ref (a + 1 + i)) else .inr (t, M, fun _ => dv)
theorem outer_arr (cl N a : Nat) : ∀ i, Jvm.Free.Multi.outerC cl N a i = arrV cl N (fun j => if j < i then .ref (a + 1 + j) else .null)
  | 0 => by
    show ({ cls := cl, slots := Array.replicate N .null, vm := .none } : Cell) = _
    rw [arrV_new]
    rfl
  | i + 1 => by
    show (Jvm.Free.Multi.outerC cl N a i).setSlot i (.ref (a + 1 + i)) = _
    rw [outer_arr cl N a i, arrV_store]
    congr 1
    funext j
    unfold updV
    by_cases q : j = i
    · rw [if_pos q, if_pos (by omega), q]
    · rw [if_neg q]
      show (if j < i then Value.ref (a + 1 + j) else Value.null) = _
      by_cases r : j < i
      · rw [if_pos r, if_pos (by omega)]
      · rw [if_neg r, if_neg (by omega)]
theorem arr_below {cl N : Nat} {f g : Nat → Value} (e : ∀ j, j < N → f j = g j) : arrV cl N f = arrV cl N g := q_arr_ext e
section CR
variable {p : Program} {l : Launch} {e : Env} {R : Room} {s : State} {m : MethodId} {args : Array Value} {below : List Frame} {meth : Method} {c : Code} {k n : Nat} {Q : State → Prop} {G : wG} {nL : Nat} {own : String} {cc : ByteArray} {pc pc' tgt : Nat} {lc lc' : List (Nat × Value)} {st : List Value} {h nn : Nat} {T : Nat → cC} {H0 : Heap}
theorem cr_iconst (X : wX p s m args meth c G nL own cc) {z : Int} (hd : decode cc pc = .ok (.iconst z, 1)) (hp : pc + 1 = pc') (kk : cV p l e R s m args below meth c G nL h nn T H0 k n Q pc' lc (vI z :: st)) : cV p l e R s m args below meth c G nL h nn T H0 k n Q pc lc st := by
  subst hp; intro H locs ls hW hS hl
  exact lv_iconst X.1 X.2.1 hd rfl (kk H locs ls hW hS hl)
theorem cr_bipush (X : wX p s m args meth c G nL own cc) {z : Int} (hd : decode cc pc = .ok (.bipush z, 2)) (hv : (Int8.ofInt z).toInt32 = Int32.ofInt z) (hp : pc + 2 = pc') (kk : cV p l e R s m args below meth c G nL h nn T H0 k n Q pc' lc (vI z :: st)) : cV p l e R s m args below meth c G nL h nn T H0 k n Q pc lc st := by
  subst hp; intro H locs ls hW hS hl
  exact lv_bipush X.1 X.2.1 hd hv (kk H locs ls hW hS hl)
theorem cr_sipush (X : wX p s m args meth c G nL own cc) {z : Int} (hd : decode cc pc = .ok (.sipush z, 3)) (hv : (Int16.ofInt z).toInt32 = Int32.ofInt z) (hp : pc + 3 = pc') (kk : cV p l e R s m args below meth c G nL h nn T H0 k n Q pc' lc (vI z :: st)) : cV p l e R s m args below meth c G nL h nn T H0 k n Q pc lc st := by
  subst hp; intro H locs ls hW hS hl
  exact lv_sipush X.1 X.2.1 hd hv (kk H locs ls hW hS hl)
theorem cr_iload_n (X : wX p s m args meth c G nL own cc) {f : Fin 4} {i : Nat} {z : Int} (q : Nat) (hd : decode cc pc = .ok (.iload_n f, 1)) (hi : (f : Nat) = i) (hk : lc[q]? = some (i, vI z)) (hp : pc + 1 = pc') (kk : cV p l e R s m args below meth c G nL h nn T H0 k n Q pc' lc (vI z :: st)) : cV p l e R s m args below meth c G nL h nn T H0 k n Q pc lc st := by
  subst hp; intro H locs ls hW hS hl
  exact lv_iload_n X.1 X.2.1 hd hi (lv_at hl q hk) (kk H locs ls hW hS hl)
theorem cr_istore_n (X : wX p s m args meth c G nL own cc) {f : Fin 4} {i : Nat} {z : Int} (ps : List Nat) (hd : decode cc pc = .ok (.istore_n f, 1)) (hi : (f : Nat) = i) (hn : i < nL) (hl : lv_pick (w_st1 lc i (vI z)) ps = lc') (hp : pc + 1 = pc') (kk : cV p l e R s m args below meth c G nL h nn T H0 k n Q pc' lc' st) : cV p l e R s m args below meth c G nL h nn T H0 k n Q pc lc (vI z :: st) := by
  subst hp; intro H locs ls hW hS hl0
  exact lv_istore_n X.1 X.2.1 hd hi hl0 hn rfl (fun ls' h' => kk H locs ls' hW hS (lv_sub h' ps hl))
theorem cr_iinc (X : wX p s m args meth c G nL own cc) {i : Nat} {z d z' : Int} (q : Nat) (ps : List Nat) (hd : decode cc pc = .ok (.iinc i d, 3)) (hk : lc[q]? = some (i, vI z)) (hz : z + d = z') (hn : i < nL) (hl : lv_pick (w_st1 lc i (vI z')) ps = lc') (hp : pc + 3 = pc') (kk : cV p l e R s m args below meth c G nL h nn T H0 k n Q pc' lc' st) : cV p l e R s m args below meth c G nL h nn T H0 k n Q pc lc st := by
  subst hp; intro H locs ls hW hS hl0
  exact lv_iinc (v := Int32.ofInt z') X.1 X.2.1 hd hl0 hk (by rw [← hz, Int32.ofInt_add]) hn rfl (fun ls' h' => kk H locs ls' hW hS (lv_sub h' ps hl))
theorem cr_dup (X : wX p s m args meth c G nL own cc) {v : Value} (hd : decode cc pc = .ok (.dup, 1)) (hv : v.category = 1) (hp : pc + 1 = pc') (kk : cV p l e R s m args below meth c G nL h nn T H0 k n Q pc' lc (v :: v :: st)) : cV p l e R s m args below meth c G nL h nn T H0 k n Q pc lc (v :: st) := by
  subst hp; intro H locs ls hW hS hl
  exact lv_dup X.1 X.2.1 hd hv (kk H locs ls hW hS hl)
theorem cr_goto (X : wX p s m args meth c G nL own cc) {off : Int} (hd : decode cc pc = .ok (.goto off, 3)) (ht : (pc : Int) + off = (tgt : Int)) (kk : cV p l e R s m args below meth c G nL h nn T H0 k n Q tgt lc st) : cV p l e R s m args below meth c G nL h nn T H0 k n Q pc lc st := by
  intro H locs ls hW hS hl
  exact lv_goto X.1 X.2.1 hd ht (kk H locs ls hW hS hl)
theorem cr_icmp_ge (X : wX p s m args meth c G nL own cc) {a b off : Int} (hd : decode cc pc = .ok (.if_icmp .ge off, 3)) (ht : (pc : Int) + off = (tgt : Int)) (hp : pc + 3 = pc') (ha : rI a) (hb : rI b) (kt : b ≤ a → cV p l e R s m args below meth c G nL h nn T H0 k n Q tgt lc st) (kf : ¬ b ≤ a → cV p l e R s m args below meth c G nL h nn T H0 k n Q pc' lc st) : cV p l e R s m args below meth c G nL h nn T H0 k n Q pc lc (vI b :: vI a :: st) := by
  subst hp; intro H locs ls hW hS hl
  exact lv_icmp_ge X.1 X.2.1 hd ht (fun h => kt ((q_Ile hb ha).mp h) H locs ls hW hS hl) (fun h => kf (fun q => h ((q_Ile hb ha).mpr q)) H locs ls hW hS hl)
theorem cr_iload (X : wX p s m args meth c G nL own cc) {i : Nat} {z : Int} (q : Nat) (hd : decode cc pc = .ok (.iload i, 2)) (hk : lc[q]? = some (i, vI z)) (hp : pc + 2 = pc') (kk : cV p l e R s m args below meth c G nL h nn T H0 k n Q pc' lc (vI z :: st)) : cV p l e R s m args below meth c G nL h nn T H0 k n Q pc lc st := by
  subst hp; intro H locs ls hW hS hl
  exact lv_iload X.1 X.2.1 hd (lv_at hl q hk) (kk H locs ls hW hS hl)
theorem cr_aload_n (X : wX p s m args meth c G nL own cc) {f : Fin 4} {i : Nat} {z : Nat} (q : Nat) (hd : decode cc pc = .ok (.aload_n f, 1)) (hi : (f : Nat) = i) (hk : lc[q]? = some (i, (Value.ref z))) (hp : pc + 1 = pc') (kk : cV p l e R s m args below meth c G nL h nn T H0 k n Q pc' lc ((Value.ref z) :: st)) : cV p l e R s m args below meth c G nL h nn T H0 k n Q pc lc st := by
  subst hp; intro H locs ls hW hS hl
  exact lv_aload_n X.1 X.2.1 hd hi (lv_at hl q hk) (kk H locs ls hW hS hl)
theorem c_one {i ci : Nat} {fs : List Value} {H : Heap} (hW : cW G h nn T H H0) (hi : i < nn) (hk : T i = .inl (ci, fs)) : va_P G.2.1 vwCl [(h + i, .inr (ci, fs))] H := by
  intro j q hq
  have h0 : j < 1 := (List.getElem?_eq_some_iff.mp hq).1
  rw [show j = 0 by omega] at hq
  cases hq
  have := hW.2.1 i hi
  rw [hk] at this
  exact this
theorem c_grown {s0 : Heap} {A : Nat → Prop} {H H1 : Heap} {locs : List Loc} (hS : va_S A s0 H locs) (hz : H.size ≤ H1.size) (ho : ∀ q, q < H.size → H1[q]? = H[q]?) : va_S A s0 H1 locs := ⟨Nat.le_trans hS.1 hz, fun x h1 h2 => (ho x (Nat.lt_of_lt_of_le h1 hS.1)).trans (hS.2.1 x h1 h2), hS.2.2⟩
theorem cr_objInit (X : wX p s m args meth c G nL own cc) {idx a : Nat} (hlink : Cond.methodLink own idx Lib.objectInit ∈ GW) (hinst : Cond.instanceMethod Lib.objectInit ∈ GW) (hcode : Cond.code Lib.objectInit ⟨#[0xb1]⟩ 1 none ∈ GW) (hd : decode cc pc = .ok (.invokespecial idx, 3)) (hp : pc + 3 = pc') (hf : 1 ≤ R.frames) (hlo : (st.map fun v => v.category).sum + 12 ≤ R.locals) (kk : cV p l e R s m args below meth c G nL h nn T H0 k n Q pc' lc st) : cV p l e R s m args below meth c G nL h nn T H0 k n Q pc lc (.ref a :: st) := by
  subst hp; intro H locs ls hW hS hl
  exact W.objInit X.1 X.2.1 X.ownC (X.w hlink) (X.w hinst) (X.w hcode) rfl (by rw [X.2.2.1]; exact hl.1) rfl hd hf (by show 2 * 0 + _ + 12 ≤ _; omega) (kk H locs ls hW hS hl)
theorem cr_new (X : wX p s m args meth c G nL own cc) {ci N index : Nat} {C : String} {Tc : u_T} {fs : List Value} (ty0 : Nat → FieldType) (hty : ∀ j, j < N → parseFieldDescriptor (Tc j).2.2.1 = some (ty0 j)) (hc : vwCl[ci]? = some (C, Tc, N)) (hin : ∀ w ∈ u_ws C Tc N, w ∈ GW) (hfs : ∀ j, j < N → defaultValue (ty0 j) = vp_V fs j) (hcl : Cond.classLink own index C ∈ GW) (hins : Cond.instantiable C N ∈ GW) (hini : Cond.initialized C ∈ GW) (hcells : k + 1 ≤ R.cells) (hslots : n + N ≤ R.slots) (hd : decode cc pc = .ok (.new index, 3)) (hp : pc + 3 = pc') (kk : cV p l e R s m args below meth c G nL h (nn + 1) (tU T nn (.inl (ci, fs))) H0 (k + 1) (n + N) Q pc' lc (.ref (h + nn) :: st)) : cV p l e R s m args below meth c G nL h nn T H0 k n Q pc lc st := by
  subst hp; intro H locs ls hW hS hl
  have hKn := X.sta.1.1 ci _ hc
  refine W.newcK X.1 X.2.1 X.ownC (X.w hcl) (X.w hins) (X.w hini) rfl hd hcells hslots hKn.2.1 hW.1 fun H1 kC hkC e1 z1 o1 => ?_
  rw [← hW.1] at z1 o1
  exact kk H1 locs ls (hW.push z1 o1 ⟨_, hc, (u_born ty0 X.2.2.2.2.1 hin hKn hkC e1 hty).to hfs⟩) (c_grown hS (by omega) o1) hl
theorem cr_newa (X : wX p s m args meth c G nL own cc) (hN : cN G s) {atype : ArrayType} {t N : Nat} {z : Int} (ht : t < 7) (hat : newarray.typeOf atype = wty t) (hcl : Cond.arrayClass (newarray.typeOf atype) ∈ GW) (hz : z = (N : Int)) (hN1 : N + 1 ≤ 100000) (hby : N * componentBytes (wty t) ≤ 536870912) (hcells : k + 1 ≤ R.cells) (hslots : n + N ≤ R.slots) (hd : decode cc pc = .ok (.newarray atype, 2)) (hp : pc + 2 = pc') (kk : cV p l e R s m args below meth c G nL h (nn + 1) (tU T nn (.inr (t, N, fun _ => defaultValue (wty t)))) H0 (k + 1) (n + N) Q pc' lc (.ref (h + nn) :: st)) : cV p l e R s m args below meth c G nL h nn T H0 k n Q pc lc (vI z :: st) := by
  subst hp; intro H locs ls hW hS hl
  have hq := q_in hz (Nat.lt_succ_self N) hN1
  refine va_newaK X.1 X.2.1 (X.w hcl) rfl hd rfl (fun w => hq.1 (Or.inl w)) hq.2 (by rw [hat]; exact hby) hcells hslots hW.1 fun H1 cA e1 z1 o1 _ hNm => ?_
  rw [← hW.1] at z1 o1
  rw [hat] at e1 hNm
  cases Option.some.inj (hNm.symm.trans (hN.1 t ht))
  exact kk H1 locs ls (hW.push z1 o1 e1) (c_grown hS (by omega) o1) hl
theorem cr_anew (X : wX p s m args meth c G nL own cc) (hN : cN G s) {C : String} {t N index : Nat} {z : Int} (ht : t < 7) (hat : FieldType.object C = wty t) (hC : C = "StateObserver$Moment") (hcl : Cond.classLink own index C ∈ GW) (hz : z = (N : Int)) (hN1 : N + 1 ≤ 100000) (hcells : k + 1 ≤ R.cells) (hslots : n + N ≤ R.slots) (hd : decode cc pc = .ok (.anewarray index, 3)) (hp : pc + 3 = pc') (kk : cV p l e R s m args below meth c G nL h (nn + 1) (tU T nn (.inr (t, N, fun _ => .null))) H0 (k + 1) (n + N) Q pc' lc (.ref (h + nn) :: st)) : cV p l e R s m args below meth c G nL h nn T H0 k n Q pc lc (vI z :: st) := by
  subst hp; intro H locs ls hW hS hl
  have hq := q_in hz (Nat.lt_succ_self N) hN1
  refine W.anew X.1 X.2.1 X.ownC (X.w hcl) (by rw [hC]; exact hN.2.1.use) rfl hd rfl (fun w => hq.1 (Or.inl w)) (by rw [hq.2]; omega) hcells (by rw [hq.2]; exact hslots) fun cA kA comp f1 f2 f3 f4 => ?_
  rw [hq.2]
  generalize hH1 : H.push ({ cls := cA, slots := Array.replicate N .null, vm := .none } : Cell) = H1
  have z1 : H1.size = H.size + 1 := by rw [← hH1, Array.size_push]
  have e1 : H1[H.size]? = some (arrV cA N (fun _ => .null)) := by rw [← hH1, Array.getElem?_push_size, ← arrV_new]
  have o1 : ∀ q : Nat, q < H.size → H1[q]? = H[q]? := fun q hq => by rw [← hH1, Array.getElem?_push, if_neg (Nat.ne_of_lt hq)]
  rw [hat] at f1
  cases Option.some.inj (f1.symm.trans (hN.1 t ht))
  rw [hW.1] at e1 ⊢
  exact kk H1 locs ls (hW.push z1 o1 e1) (c_grown hS (by omega) o1) hl
theorem cr_mnew (X : wX p s m args meth c G nL own cc) (hN : cN G s) {t N M index : Nat} {z y : Int} (ht : t < 2) (hcl : Cond.classLink own index ("[" ++ (FieldType.array (wty t)).toString) ∈ GW) (har : Cond.arrayClass (wty t) ∈ GW) (hz : z = (N : Int)) (hy : y = (M : Int)) (hN1 : N + 1 ≤ 100) (hM1 : M + 1 ≤ 100) (hcells : k + (1 + N) ≤ R.cells) (hslots : n + (N + N * M) ≤ R.slots) (hd : decode cc pc = .ok (.multianewarray index 2, 4)) (hp : pc + 4 = pc') (kk : cV p l e R s m args below meth c G nL h (nn + (1 + N)) (tB T nn (mB t N M (h + nn) (defaultValue (wty t)))) H0 (k + 1 + N) (n + N + N * M) Q pc' lc (.ref (h + nn) :: st)) : cV p l e R s m args below meth c G nL h nn T H0 k n Q pc lc (vI y :: vI z :: st) := by
  subst hp; intro H locs ls hW hS hl T0 hT X0
  have hq := q_in hz (Nat.lt_succ_self N) (by omega)
  have hr := q_in hy (Nat.lt_succ_self M) (by omega)
  have hcb : componentBytes (wty t) ≤ 8 := by rcases (show t = 0 ∨ t = 1 by omega) with rfl | rfl <;> decide
  have hmul : M * componentBytes (wty t) ≤ 100 * 8 := Nat.mul_le_mul (by omega) hcb
  have hcc : c.code = cc := X.2.1
  obtain ⟨vm₁, cA, comp, hWm, hfA, hfC, -, -, X1, step⟩ := X0.multianewarray2F X.1 X.ownC (X.w hcl) (hN.2.2 t ht) (X.w har) (g := F0 m pc ls (vI y :: vI z :: st)) rfl (by rw [hcc]; exact hd) (n := Int32.ofInt z) (k := Int32.ofInt y) rfl (fun w => hq.1 (Or.inl w)) (fun w => hr.1 (Or.inl w)) (by rw [hq.2]; omega) (by rw [hr.2]; omega) (by rw [hr.2]; omega) (by rcases (show t = 0 ∨ t = 1 by omega) with rfl | rfl <;> rfl) (by rcases (show t = 0 ∨ t = 1 by omega) with rfl | rfl <;> rfl) (by rw [hq.2]; exact hcells) (by rw [hq.2, hr.2]; exact hslots)
  rw [hq.2, hr.2] at X1 step
  have ecA : cA = G.1 (t + 4) := by
    have := hN.1 (t + 4) (by omega)
    rw [show wty (t + 4) = FieldType.array (wty t) by rcases (show t = 0 ∨ t = 1 by omega) with rfl | rfl <;> rfl] at this
    exact Option.some.inj (hfA.symm.trans this)
  have ecC : comp = G.1 t := by
    have h1 := hN.1 t (by omega)
    exact Option.some.inj (hfC.symm.trans (by rw [← h1]; rfl))
  obtain ⟨f1, f2, -⟩ := Jvm.Free.Multi.fill_facts (T0.setVm vm₁) cA comp N M (defaultValue (wty t)) N
  have f3 := fun j (hj : j < N) => Jvm.Free.Multi.fill_inner (T0.setVm vm₁) cA comp N M (defaultValue (wty t)) N j hj
  have f4 := fun q (hq : q < T0.heap.size) => Jvm.Free.Multi.fill_old (T0.setVm vm₁) cA comp N M (defaultValue (wty t)) (a := q) hq N
  have eh : (T0.setVm vm₁).heap = H := hT
  rw [eh] at f1 f2 f3
  rw [hT] at f4 step
  have f4' : ∀ q, q < H.size → (Jvm.Free.Multi.fill (T0.setVm vm₁) cA comp N M (defaultValue (wty t)) N).heap[q]? = H[q]? := fun q hq => by rw [f4 q hq, eh]
  have hW1 : cW G h (nn + (1 + N)) (tB T nn (mB t N M (h + nn) (defaultValue (wty t)))) (Jvm.Free.Multi.fill (T0.setVm vm₁) cA comp N M (defaultValue (wty t)) N).heap H0 := by
    obtain ⟨w1, w2, w3⟩ := hW
    refine ⟨by omega, fun i hi => ?_, fun q hq => (f4' q (by omega)).trans (w3 q hq)⟩
    unfold tB mB
    by_cases c1 : nn ≤ i
    · rw [if_pos c1]
      by_cases c2 : i - nn = 0
      · rw [if_pos c2, show h + i = H.size by omega]
        show _ = some (arrV (G.1 (t + 4)) N _)
        rw [f2, outer_arr, ecA, w1]
        congr 1
        exact arr_below fun j hj => by rw [if_pos hj]
      · rw [if_neg c2, show h + i = H.size + 1 + (i - nn - 1) by omega]
        show _ = some (arrV (G.1 t) M _)
        rw [f3 _ (by omega), ecC, ← arrV_new]
        rfl
    · rw [if_neg c1]
      exact (w2 i (by omega)).kept (f4' _ (by omega))
  rw [hW.1] at step
  obtain ⟨t1, a, b⟩ := kk _ locs ls hW1 (c_grown hS (by omega) f4') hl _ rfl X1
  exact ⟨t1, step t1 a, b⟩
theorem cr_putf (X : wX p s m args meth c G nL own cc) {i ci q index N : Nat} {fs : List Value} {C : String} {Tc : u_T} {v : Value} {a : Nat} (ty0 : Nat → FieldType) (hty : ∀ i, i < N → parseFieldDescriptor (Tc i).2.2.1 = some (ty0 i)) (hnm : ∀ a, a < N → ∀ b, b < N → a ≠ b → (Tc a).2.1 ≠ (Tc b).2.1) (ha : a = h + i) (hk : T i = .inl (ci, fs)) (hi : i < nn) (hb : ∀ q, h ≤ q → G.2.2.2 q) (hc : vwCl[ci]? = some (C, Tc, N)) (hq : q < N) (hin : ∀ w ∈ u_ws C Tc N, w ∈ GW) (hown : (Tc q).1 = C) (hlen : q < fs.length) (hfin : (Tc q).2.2.2 = false) (hn : narrow (ty0 q) v = v) (hfit : fits (ty0 q) v = true) (hlink : Cond.fieldLink own index C (Tc q).2.1 (Tc q).2.2.1 ∈ GW) (hd : decode cc pc = .ok (.putfield index, 3)) (hp : pc + 3 = pc')
    (kk : cV p l e R s m args below meth c G nL h nn (tU T i (.inl (ci, fs.set q v))) H0 k n Q pc' lc st) : cV p l e R s m args below meth c G nL h nn T H0 k n Q pc lc (v :: .ref a :: st) := by
  subst hp; subst ha; intro H locs ls hW hS hl
  have hap := va_apart (own := own) (args := args) X.2.2.2.2.1 hin ty0 hty hnm X.sta.1 hc
  have hkc := hW.2.1 i hi
  rw [hk] at hkc
  obtain ⟨r, h1, cell, q1, q2, q3, q4⟩ := hkc
  have hr : r = (C, Tc, N) := Option.some.inj (h1.symm.trans hc)
  subst hr
  obtain ⟨hS1, hfc, kC, hkC, hkind⟩ := X.sta.1.1 ci _ hc
  obtain ⟨cf, kf, fi, f, hif, hsl⟩ := hS1 q hq
  have hlay := X.w (hin _ (u_in_lay hq))
  unfold u_lay at hlay
  rw [if_neg (by rw [hfin]; decide)] at hlay
  have hst := (u_facts hfc hkC (u_lays X.2.2.2.2.1 hin hq) hif).1
  have h6 := u_store hfc hkC hkind hlay hif (hty q hq) hn hfit
  refine W.putK X.1 X.2.1 (f := f) ⟨X.ownC, X.w hlink, ⟨_, _, _, by rw [← hown]; exact hif⟩, hst⟩ (by rw [q2]; exact h6) q1 q3 (by rw [hsl]; exact k2_hasslot (q4 q hq)) rfl rfl hd fun H' e1 e2 e3 => ?_
  rw [hsl] at e1 ⊢
  refine kk H' _ ls (hW.set hi e2 e3 ?_) (hS.put e2 e3 (hb _ (by omega))) hl
  refine ⟨(C, Tc, N), hc, ?_⟩
  exact t_OB.to (V := updV (vp_V fs) q v) ⟨_, e1, q2, q3, t_set q4 hap hq v⟩ (fun j _ => vp_updV_set hlen v j)
theorem cr_putF (X : wX p s m args meth c G nL own cc) (hini : meth.name = "<init>") {i ci q index N : Nat} {fs : List Value} {C : String} {Tc : u_T} {v : Value} {a : Nat} (ty0 : Nat → FieldType) (hty : ∀ i, i < N → parseFieldDescriptor (Tc i).2.2.1 = some (ty0 i)) (hnm : ∀ a, a < N → ∀ b, b < N → a ≠ b → (Tc a).2.1 ≠ (Tc b).2.1) (ha : a = h + i) (hk : T i = .inl (ci, fs)) (hi : i < nn) (hb : ∀ q, h ≤ q → G.2.2.2 q) (hc : vwCl[ci]? = some (C, Tc, N)) (hq : q < N) (hin : ∀ w ∈ u_ws C Tc N, w ∈ GW) (hown : (Tc q).1 = C) (hoo : own = C) (hlen : q < fs.length) (hfin : (Tc q).2.2.2 = true) (hn : narrow (ty0 q) v = v) (hfit : fits (ty0 q) v = true) (hlink : Cond.fieldLink own index C (Tc q).2.1 (Tc q).2.2.1 ∈ GW) (hd : decode cc pc = .ok (.putfield index, 3)) (hp : pc + 3 = pc')
    (kk : cV p l e R s m args below meth c G nL h nn (tU T i (.inl (ci, fs.set q v))) H0 k n Q pc' lc st) : cV p l e R s m args below meth c G nL h nn T H0 k n Q pc lc (v :: .ref a :: st) := by
  subst hp; subst ha; intro H locs ls hW hS hl
  have hap := va_apart (own := own) (args := args) X.2.2.2.2.1 hin ty0 hty hnm X.sta.1 hc
  have hkc := hW.2.1 i hi
  rw [hk] at hkc
  obtain ⟨r, h1, cell, q1, q2, q3, q4⟩ := hkc
  have hr : r = (C, Tc, N) := Option.some.inj (h1.symm.trans hc)
  subst hr
  obtain ⟨hS1, hfc, kC, hkC, hkind⟩ := X.sta.1.1 ci _ hc
  obtain ⟨cf, kf, fi, f, hif, hsl⟩ := hS1 q hq
  have hlay := X.w (hin _ (u_in_lay hq))
  unfold u_lay at hlay
  rw [if_pos hfin] at hlay
  have hst := (u_facts hfc hkC (u_lays X.2.2.2.2.1 hin hq) hif).1
  have hcf : m.cls = cf := by
    obtain ⟨_, _, c', _, _, _, -, -, hf', -, -, -, hown2, -⟩ := Cond.laysFinal_spec hlay
    have e1 : c' = cf := by have := hif.symm.trans hf'; simp at this; exact this.1.symm
    rw [hown, ← hoo] at hown2
    rw [← e1]; exact Option.some.inj (X.ownC.symm.trans hown2)
  have h6 := u_fits hfc hkC hkind (Or.inr hlay) hif (hty q hq) hn hfit
  refine W.putFinK X.1 X.2.1 X.ownC (X.w hlink) (by rw [← hown]; exact hif) hst hcf hini (by rw [q2]; exact h6) q1 q3 (by rw [hsl]; exact k2_hasslot (q4 q hq)) rfl rfl hd fun H' e1 e2 e3 => ?_
  rw [hsl] at e1 ⊢
  refine kk H' _ ls (hW.set hi e2 e3 ?_) (hS.put e2 e3 (hb _ (by omega))) hl
  refine ⟨(C, Tc, N), hc, ?_⟩
  exact t_OB.to (V := updV (vp_V fs) q v) ⟨_, e1, q2, q3, t_set q4 hap hq v⟩ (fun j _ => vp_updV_set hlen v j)
theorem cr_getf (X : wX p s m args meth c G nL own cc) {i ci q index N a : Nat} {fs : List Value} {C : String} {Tc : u_T} {v : Value} (ha : a = h + i) (hk : T i = .inl (ci, fs)) (hi : i < nn) (hc : vwCl[ci]? = some (C, Tc, N)) (hq : q < N) (hin : ∀ w ∈ u_ws C Tc N, w ∈ GW) (hown : (Tc q).1 = C) (hv : fs[q]? = some v) (hlink : Cond.fieldLink own index C (Tc q).2.1 (Tc q).2.2.1 ∈ GW) (hd : decode cc pc = .ok (.getfield index, 3)) (hp : pc + 3 = pc')
    (kk : cV p l e R s m args below meth c G nL h nn T H0 k n Q pc' lc (v :: st)) : cV p l e R s m args below meth c G nL h nn T H0 k n Q pc lc (.ref a :: st) := by
  subst hp; subst ha; intro H locs ls hW hS hl
  exact va_get X.1 X.2.1 X.2.2.2.2.1 hin X.ownC X.sta.1 (c_one hW hi hk) 0 rfl hc q hq (X.w hlink) (fun x h => by rw [← hown]; exact h) hv hd (kk H locs ls hW hS hl)
theorem cr_iast (X : wX p s m args meth c G nL own cc) {i N j a : Nat} {f : Nat → Value} {z x : Int} (ha : a = h + i) (hk : T i = .inr (0, N, f)) (hi : i < nn) (hb : ∀ q, h ≤ q → G.2.2.2 q) (hz : z = (j : Int)) (hj : j < N) (hN : N ≤ 100000) (hd : decode cc pc = .ok (.iastore, 1)) (hp : pc + 1 = pc')
    (kk : cV p l e R s m args below meth c G nL h nn (tU T i (.inr (0, N, updV f j (vI x)))) H0 k n Q pc' lc st) : cV p l e R s m args below meth c G nL h nn T H0 k n Q pc lc (vI x :: vI z :: .ref a :: st) := by
  subst hp; subst ha; intro H locs ls hW hS hl
  obtain ⟨h1, h2⟩ := q_in hz hj hN
  have hkc := hW.2.1 i hi
  rw [hk] at hkc
  refine W.iast X.1 X.2.1 hkc (X.arr (t := 0) (by decide) N _) (fun q => by cases q) (by rw [arrV_size]; exact h1) rfl rfl hd fun H' e1 e2 e3 => ?_
  rw [h2, arrV_store] at e1
  rw [h2]
  exact kk H' _ ls (hW.set hi e2 e3 e1) (hS.put e2 e3 (hb _ (by omega))) hl
theorem cr_aald (X : wX p s m args meth c G nL own cc) {i N j t a : Nat} {f : Nat → Value} {z : Int} (ha : a = h + i) (hk : T i = .inr (t, N, f)) (hi : i < nn) (ht : 4 ≤ t ∧ t < 7) (hz : z = (j : Int)) (hj : j < N) (hN : N ≤ 100000) (hd : decode cc pc = .ok (.aaload, 1)) (hp : pc + 1 = pc')
    (kk : cV p l e R s m args below meth c G nL h nn T H0 k n Q pc' lc (f j :: st)) : cV p l e R s m args below meth c G nL h nn T H0 k n Q pc lc (vI z :: .ref a :: st) := by
  subst hp; subst ha; intro H locs ls hW hS hl
  obtain ⟨h1, h2⟩ := q_in hz hj hN
  have hkc := hW.2.1 i hi
  rw [hk] at hkc
  have e2 : (wty t).isReference = true := by
    rcases (show t = 4 ∨ t = 5 ∨ t = 6 by omega) with rfl | rfl | rfl <;> rfl
  exact W.aald (v := f j) X.1 X.2.1 hkc (X.arr ht.2 N _) e2 (fun q => by cases q) (by rw [arrV_size]; exact h1) (by rw [h2, arrV_read _ _ hj]) rfl rfl hd (kk H locs ls hW hS hl)
theorem cr_aast (X : wX p s m args meth c G nL own cc) (hN : cN G s) {i i2 ci N j t a b : Nat} {f : Nat → Value} {vs : List Value} {r : vw_C} {z : Int} (ha : a = h + i) (hk : T i = .inr (t, N, f)) (hi : i < nn) (hb : ∀ q, h ≤ q → G.2.2.2 q) (ht : t < 7) (hat : wty t = .object r.1) (hc : vwCl[ci]? = some r) (hC : r.1 = "StateObserver$Moment") (hb2 : b = h + i2) (hk2 : T i2 = .inl (ci, vs)) (hi2 : i2 < nn) (hz : z = (j : Int)) (hj : j < N) (hNN : N ≤ 100000) (hd : decode cc pc = .ok (.aastore, 1)) (hp : pc + 1 = pc')
    (kk : cV p l e R s m args below meth c G nL h nn (tU T i (.inr (t, N, updV f j (.ref b)))) H0 k n Q pc' lc st) : cV p l e R s m args below meth c G nL h nn T H0 k n Q pc lc (.ref b :: vI z :: .ref a :: st) := by
  subst hp; subst ha; subst hb2; intro H locs ls hW hS hl
  obtain ⟨h1, h2⟩ := q_in hz hj hNN
  have hkc := hW.2.1 i hi
  rw [hk] at hkc
  have hkv := hW.2.1 i2 hi2
  rw [hk2] at hkv
  obtain ⟨r', hr', cellV, g1, g2, g3, -⟩ := hkv
  have hcls := (X.sta.1.1 ci r hc).2
  obtain ⟨q0, kA, k1, comp, k2⟩ := X.arr ht N f
  obtain ⟨kC, hkC, -⟩ := hcls.2
  obtain ⟨comp', cA, kA', n1, -, n3, n4, n5⟩ := Cond.arrayOver_spec (n := r.1) (args := args) (first := s) (o := none) (idx := []) (by rw [hC]; exact hN.2.1)
  rw [← hat] at n5
  cases Option.some.inj (n5.symm.trans (hN.1 t ht))
  cases Option.some.inj (n3.symm.trans k1)
  have ecomp : comp = comp' := by have := k2.symm.trans n4; simp at this; exact this.1
  subst ecomp
  have hcomp : comp = G.2.1.1 ci := Option.some.inj (n1.symm.trans hcls.1)
  subst hcomp
  refine W.aast X.1 X.2.1 hkc (fun q h => by cases h) (fun h => by cases h) k1 n4 rfl hkC ⟨fun w => h1 (Or.inl w), by show _ < (arrV _ _ _).slots.size; rw [arrV_size, h2]; exact hj⟩ g1 (fun q h => by rw [g3] at h; cases h) (by rw [g2]; exact hkC) (by rw [g2]; exact va_assign hcls) rfl rfl hd fun H' e1 e2 e3 => ?_
  rw [h2, arrV_store] at e1
  rw [h2]
  exact kk H' _ ls (hW.set hi e2 e3 e1) (hS.put e2 e3 (hb _ (by omega))) hl
theorem cr_init (X : wX p s m args meth c G nL own cc) (hN : cN G s) (hb : ∀ q, h ≤ q → G.2.2.2 q) {index maxL mc ms n2 : Nat} {y : MethodName} {bytes : ByteArray} {rm : Room} {B : Nat → cC} (hM : ∀ H : Heap, Met l y (gws y bytes maxL none) rm (cPc G (h + nn) 1 (fun _ => T nn) H [.ref (h + nn)]) (cQv G (h + nn) n2 B H) mc ms (wA G)) (hy : wCal y bytes maxL none 0) (hyn : y.name = "<init>") (hinst : Cond.instanceMethod y ∈ GW) (hrc : rm.cells = mc) (hrs : rm.slots = ms) (hR : rm.frames + 1 ≤ R.frames ∧ 8 + (maxL + 11) + rm.locals ≤ R.locals) (hcat : (st.map fun v => v.category).sum ≤ 8) (hf : k + mc ≤ R.cells ∧ n + ms ≤ R.slots) (hlink : Cond.methodLink own index y ∈ GW) (hd : decode cc pc = .ok (.invokespecial index, 3)) (hp : pc + 3 = pc')
    (kk : cV p l e R s m args below meth c G nL h (nn + n2) (tB T nn B) H0 (k + mc) (n + ms) Q pc' lc st) : cV p l e R s m args below meth c G nL h (nn + 1) T H0 k n Q pc lc (.ref (h + nn) :: st) := by
  subst hp; intro H locs ls hW hS hl
  have hr : va_Run p l e R s m args below meth c H locs k n mc ms (F0 m pc ls (.ref (h + nn) :: st)) st (cQv G (h + nn) n2 B H (Value.ref (h + nn) :: ([] : List Value)).toArray) (wA G) :=
    va_runI (As := []) (rest := st) X.fix (hM H) ⟨X.callB hy hlink hrc hrs hR, hyn, X.w hinst⟩ ⟨cPc_blind, fun U hU hWm => ⟨rfl, by rw [hU]; exact hW.last, wSt.warm (locs := locs) hWm (by rw [hU]; exact hS) X.sta, hN.warm hWm, X.lay, fun q hq => hb q (by omega)⟩⟩ rfl rfl hl.1 rfl (lv_room hcat) hd hf
  refine va_callv hr hS (fun q _ h => h) (fun q h => h) (fun u t H1 locs1 ht hvm hpo hB hz hk hS1 => ?_)
  rw [ht] at hB
  exact kk H1 locs1 ls (hW.block hB) hS1 hl
theorem cr_initN (X : wX p s m args meth c G nL own cc) (hN : cN G s) (hb : ∀ q, h ≤ q → G.2.2.2 q) {index maxL mc ms n2 : Nat} {host : String} {y : MethodName} {bytes : ByteArray} {rm : Room} {B : Nat → cC} (hM : ∀ H : Heap, Met l y (gws y bytes maxL none) rm (cPc G (h + nn) 1 (fun _ => T nn) H [.ref (h + nn)]) (cQv G (h + nn) n2 B H) mc ms (wA G)) (hy : wCal y bytes maxL none 0) (hyn : y.name = "<init>") (hinst : Cond.instanceMethod y ∈ GW) (hrc : rm.cells = mc) (hrs : rm.slots = ms) (hR : rm.frames + 1 ≤ R.frames ∧ 8 + (maxL + 11) + rm.locals ≤ R.locals) (hcat : (st.map fun v => v.category).sum ≤ 8) (hf : k + mc ≤ R.cells ∧ n + ms ≤ R.slots) (hlink : Cond.methodLinkNest own index y host ∈ tables_1) (hd : decode cc pc = .ok (.invokespecial index, 3)) (hp : pc + 3 = pc')
    (kk : cV p l e R s m args below meth c G nL h (nn + n2) (tB T nn B) H0 (k + mc) (n + ms) Q pc' lc st) : cV p l e R s m args below meth c G nL h (nn + 1) T H0 k n Q pc lc (.ref (h + nn) :: st) := by
  subst hp; intro H locs ls hW hS hl
  have hr : va_Run p l e R s m args below meth c H locs k n mc ms (F0 m pc ls (.ref (h + nn) :: st)) st (cQv G (h + nn) n2 B H (Value.ref (h + nn) :: ([] : List Value)).toArray) (wA G) :=
    va_runIN (As := []) (rest := st) X.fix (hM H) ⟨va_cnB 0 X.2.2.2.2.1 (gws_in hy.1) rfl hrc hrs (X.sta.2.2.2.2.2.1 _ _ _ _ hlink) (X.w hy.2.1) hy.2.2 hR, hyn, X.w hinst⟩ ⟨cPc_blind, fun U hU hWm => ⟨rfl, by rw [hU]; exact hW.last, wSt.warm (locs := locs) hWm (by rw [hU]; exact hS) X.sta, hN.warm hWm, X.lay, fun q hq => hb q (by omega)⟩⟩ rfl rfl hl.1 rfl (lv_room hcat) hd hf
  refine va_callv hr hS (fun q _ h => h) (fun q h => h) (fun u t H1 locs1 ht hvm hpo hB hz hk hS1 => ?_)
  rw [ht] at hB
  exact kk H1 locs1 ls (hW.block hB) hS1 hl
theorem cr_vret (X : wX p s m args meth c G nL own cc) {T' : Nat → cC} (hr : meth.sig.returnType = none) (hd : decode cc pc = .ok (.return_, 1)) (he : ∀ i, i < nn → T i = T' i) : cV p l e R s m args below meth c G nL h nn T H0 k n (MQ below (cQv G h nn T' H0) args s k n (wA G)) pc lc [] := by
  intro H locs ls hW hS hl
  exact W.vret X.1 X.2.1 hr (fun t ht hWm => ⟨⟨(), rfl, trivial, by show cW G h nn T' t.heap H0; rw [ht]; exact hW.eqT he⟩, hS.F ht⟩) hS.2.2 hd X.locks
end CR
