/-! the law's own methods: code with handlers, calls that may throw into them -/
abbrev gwsH (y : MethodName) (cc : ByteArray) (n : Nat) (r : Option FieldType) (hh : List (Nat × Nat × Nat × Nat)) : List Cond := Cond.codeWith y cc n r hh :: GW
theorem gwsH_in {y : MethodName} {cc : ByteArray} {n : Nat} {r : Option FieldType} {hh : List (Nat × Nat × Nat × Nat)} (h : Cond.codeWith y cc n r hh ∈ GW) : GoodIn GW (gwsH y cc n r hh) := fun w hw => (List.mem_cons.mp hw).elim (fun e => by rw [e]; exact ⟨h, good_of_word (GW_good _ h)⟩) (fun h2 => ⟨h2, good_of_word (GW_good _ h2)⟩)
/-- a contract out of a body with handlers, nothing thrown out of it -/
theorem wMetH {l : Launch} {y : MethodName} {cc : ByteArray} {nL : Nat} {ret : Option FieldType} {hh : List (Nat × Nat × Nat × Nat)} {rm : Room} {G : wG} {M : wM} {av : List Value} {lc : List (Nat × Value)} {Qc : Array Value → State → Outcome → State → Prop} {mc ms : Nat} (hy : plainName y.cls = true) (hlen : (lg_sl av).length ≤ nL) (hlc : lv_args 0 av = lc)
    (body : ∀ (p : Program) (e : Env) (s : State) (m : MethodId) (args : Array Value) (below : List Frame) (meth : Method) (c : Code), wX p s m args meth c G nL y.cls cc → meth.sig.returnType = ret → c.exceptionTable.toList = tableOf hh → wV p l e rm s m args below meth c G nL M 0 0 (MQ below Qc args s mc ms (wA G)) 0 lc []) :
    Met l y (gwsH y cc nL ret hh) rm (wPc G M av) Qc mc ms (wA G) := by
  refine MetFree.of_bodyS (code := cc) (maxLocals := nL) (ret := ret) hy ?_ ?_
  · intro args s m h hn
    obtain ⟨m9, meth, c, hn9, h1, h2, h3, h4, -, h5, h6, -⟩ := Cond.codeWith_spec (atoms_spec (ws := gwsH y cc nL ret hh) h _ List.mem_cons_self)
    cases hn.symm.trans hn9
    exact ⟨meth, c, h1, h2, h3, h4, h5, h6⟩
  · intro p e s m args below meth c s₁ B hml hP _
    obtain ⟨rfl, hW, hSt, hL, hz⟩ := hP
    have hts := atoms_spec (ws := gwsH y cc nL ret hh) B.pre
    have X : wX p s m av.toArray meth c G nL y.cls cc := ⟨B.exec, B.bytes, hml, findClass_of_methodNamed B.named, fun w hw => hts w (List.mem_cons_of_mem _ hw), hSt, hL, hz, B.notSynchronized⟩
    have hh0 : s₁.heap = s.heap := by rw [B.state]; rfl
    have hb := body p e s m av.toArray below meth c X B.returns (vx_table (x := y) B (hts _ List.mem_cons_self))
    have hl := lv_entry av (n := nL) hlen
    have K : W p l e rm s m av.toArray below meth c s.heap [] 0 0 (MQ below Qc av.toArray s mc ms (wA G)) (entryFrame m av.toArray nL) := by
      rw [lg_entry_eq]
      generalize (lg_sl av ++ List.replicate (nL - (lg_sl av).length) Slot.unset).toArray = ls at hl ⊢
      rw [hlc] at hl
      exact hb s.heap [] ls hW va_S.rf hl
    obtain ⟨t, a1, o, b1, b2, b3⟩ := K s₁ hh0 (Stand.of_body B)
    exact ⟨t, o, a1, b1, b2, b3⟩
def wCalH (y : MethodName) (bytes : ByteArray) (maxL : Nat) (ret : Option FieldType) (hh : List (Nat × Nat × Nat × Nat)) (N : Nat) : Prop := Cond.codeWith y bytes maxL ret hh ∈ GW ∧ Cond.initialized y.cls ∈ GW ∧ (y.cls ≠ "java/lang/invoke/MethodHandle" ∧ y.cls ≠ "java/lang/invoke/VarHandle" ∧ (parseMethodDescriptor y.desc).map (fun d => d.parameters.length) = some N)
theorem wQx_eq {G : wG} {P : String → wM → Prop} : wQx G P = vx_X (S := wM) (fun _ => True) (fun E u t => P E u ∧ wW G u t.heap) (wA G) := by
  funext E st t
  refine propext ⟨fun h => ?_, fun h => ?_⟩
  · obtain ⟨⟨M1, h1, h2⟩, h3⟩ := h
    exact ⟨M1, trivial, ⟨h1, h2⟩, h3⟩
  · obtain ⟨M1, -, ⟨h1, h2⟩, h3⟩ := h
    exact ⟨⟨M1, h1, h2⟩, h3⟩
/-- a number as an int holds it -/
def iw (a : Int) : Int := (Int32.ofInt a).toInt
theorem iw_rng (a : Int) : rI (iw a) := by
  have e : (Int32.ofInt a).toInt = a.bmod 4294967296 := by
    have e2 : Int32.size = 4294967296 := rfl
    rw [Int32.toInt_ofInt, e2]
  unfold iw
  rw [e]
  have h1 := Int.le_bmod (x := a) (m := 4294967296) (by decide)
  have h2 := Int.bmod_lt (x := a) (m := 4294967296) (by decide)
  omega
theorem vI_iw (a : Int) : vI a = vI (iw a) := congrArg Value.int (Int32.ofInt_toInt _).symm
section WL
variable {p : Program} {l : Launch} {e : Env} {R : Room} {s : State} {m : MethodId} {args : Array Value} {below : List Frame} {meth : Method} {c : Code} {k n : Nat} {Q : State → Prop} {G : wG} {M : wM} {nL : Nat} {own : String} {cc : ByteArray} {pc pc' tgt : Nat} {lc lc' : List (Nat × Value)} {st st0 : List Value}
theorem r_astoreQ_n (X : wX p s m args meth c G nL own cc) {f : Fin 4} {i : Nat} {q : Addr} (ps : List Nat) (hd : decode cc pc = .ok (.astore_n f, 1)) (hi : (f : Nat) = i) (hn : i < nL) (hl : lv_pick (w_st1 lc i (.ref q)) ps = lc') (hp : pc + 1 = pc') (kk : wV p l e R s m args below meth c G nL M k n Q pc' lc' st) : wV p l e R s m args below meth c G nL M k n Q pc lc (.ref q :: st) := by
  subst hp; intro H locs ls hW hS h
  exact lv_astore_n X.1 X.2.1 hd hi h hn rfl (fun ls' h' => kk H locs ls' hW hS (lv_sub h' ps hl))
theorem r_astoreQ (X : wX p s m args meth c G nL own cc) {i : Nat} {q : Addr} (ps : List Nat) (hd : decode cc pc = .ok (.astore i, 2)) (hn : i < nL) (hl : lv_pick (w_st1 lc i (.ref q)) ps = lc') (hp : pc + 2 = pc') (kk : wV p l e R s m args below meth c G nL M k n Q pc' lc' st) : wV p l e R s m args below meth c G nL M k n Q pc lc (.ref q :: st) := by
  subst hp; intro H locs ls hW hS h
  exact lv_astore X.1 X.2.1 hd h hn rfl (fun ls' h' => kk H locs ls' hW hS (lv_sub h' ps hl))
theorem r_i2lw (X : wX p s m args meth c G nL own cc) {a : Int} (hd : decode cc pc = .ok (.i2l, 1)) (hp : pc + 1 = pc') (kk : wV p l e R s m args below meth c G nL M k n Q pc' lc (vJ (iw a) :: st)) : wV p l e R s m args below meth c G nL M k n Q pc lc (vI a :: st) := by
  rw [vI_iw a]
  exact r_i2l X hd (iw_rng a) hp kk
/-- a method of an object that may throw -/
theorem w_runVX (X : wX p s m args meth c G nL own cc) {o j ci Nf N index maxL mc ms : Nat} {fs : List (Option (Nat × Nat))} {C : String} {T : u_T} {y : MethodName} {bytes : ByteArray} {ret : Option FieldType} {rm : Room} {As : List Value} {Qc : Array Value → State → Outcome → State → Prop} {XC : String → State → State → Prop} (hM : vx_Met l y (gws y bytes maxL ret) rm (wPc G M (vR G (o, j) :: As)) Qc XC mc ms (wA G)) (hy : wCal y bytes maxL ret N) (hk : wkd o j = some (.inl (ci, fs))) (hc : vwCl[ci]? = some (C, T, Nf)) (hinst : Cond.instanceMethod y ∈ GW) (hsel : Cond.selects C y y ∈ GW) (hrc : rm.cells = mc) (hrs : rm.slots = ms) (hR : rm.frames + 1 ≤ R.frames ∧ 8 + (maxL + 11) + rm.locals ≤ R.locals) (hn : As.length = N) (hst : st0 = As.reverse ++ vR G (o, j) :: st) (hcat : (st.map fun v => v.category).sum ≤ 8) (hf : k + mc ≤ R.cells ∧ n + ms ≤ R.slots) (hlink : Cond.methodLink own index y ∈ GW) (hd : decode cc pc = .ok (.invokevirtual index, 3)) :
    ∀ (H : Heap) (locs : List Loc) (ls : Array Slot), wW G M H → va_S (wA G) s.heap H locs → ls.size = nL → vx_Run p l e R s m args below meth c H locs k n mc ms (F0 m pc ls st0) st (Qc (vR G (o, j) :: As).toArray) XC (wA G) := by
  intro H locs ls hW hS hl
  exact vx_runV (As := As) (rest := st) X.fix hM ⟨X.callB hy hlink hrc hrs hR, X.w hinst, X.w hsel⟩ ⟨wPc_blind, X.recv hW hk hc, X.pre hW hS _⟩ rfl hn hl hst (lv_room hcat) hd hf
/-- a static method with handlers -/
theorem w_runSH (X : wX p s m args meth c G nL own cc) {N index maxL mc ms : Nat} {y : MethodName} {bytes : ByteArray} {ret : Option FieldType} {hh : List (Nat × Nat × Nat × Nat)} {rm : Room} {As : List Value} {Qc : Array Value → State → Outcome → State → Prop} (hM : Met l y (gwsH y bytes maxL ret hh) rm (wPc G M As) Qc mc ms (wA G)) (hy : wCalH y bytes maxL ret hh N) (hstat : Cond.static y ∈ GW) (hrc : rm.cells = mc) (hrs : rm.slots = ms) (hR : rm.frames + 1 ≤ R.frames ∧ 8 + (maxL + 11) + rm.locals ≤ R.locals) (hn : As.length = N) (hst : st0 = As.reverse ++ st) (hcat : (st.map fun v => v.category).sum ≤ 8) (hf : k + mc ≤ R.cells ∧ n + ms ≤ R.slots) (hlink : Cond.methodLink own index y ∈ GW) (hd : decode cc pc = .ok (.invokestatic index, 3)) :
    ∀ (H : Heap) (locs : List Loc) (ls : Array Slot), wW G M H → va_S (wA G) s.heap H locs → ls.size = nL → va_Run p l e R s m args below meth c H locs k n mc ms (F0 m pc ls st0) st (Qc As.toArray) (wA G) := by
  intro H locs ls hW hS hl
  refine vx_runSW (hh := hh) (As := As) (rest := st) X.fix hM (vx_cwSW (ws' := GW) N X.2.2.2.2.1 (fun w hw => ?_) rfl hrc hrs hy.2.2 hR) ⟨wPc_blind, X.pre hW hS _⟩ rfl hn hl hst (lv_room hcat) hd hf
  unfold va_wsS at hw
  rcases List.mem_append.mp hw with h | h
  · simp only [List.mem_cons, List.not_mem_nil, or_false] at h
    rcases h with rfl | rfl | rfl
    all_goals first
      | exact ⟨hlink, good_of_word (GW_good _ hlink)⟩
      | exact ⟨hstat, good_of_word (GW_good _ hstat)⟩
      | exact ⟨hy.2.1, good_of_word (GW_good _ hy.2.1)⟩
  · exact gwsH_in hy.1 w h
/-- a call that may throw: what it answers, where it throws to -/
theorem w_callxi {mc ms : Nat} {P : Int → wM → Prop} {PX : String → wM → Prop} {a : Array Value} (hr : ∀ (H : Heap) (locs : List Loc) (ls : Array Slot), wW G M H → va_S (wA G) s.heap H locs → ls.size = nL → vx_Run p l e R s m args below meth c H locs k n mc ms (F0 m pc ls st0) st (wQi G P a) (wQx G PX) (wA G)) (hp : pc + 3 = pc')
    (kx : ∀ (E : String) (M1 : wM), PX E M1 → ∀ (H1 : Heap) (locs1 : List Loc) (ls : Array Slot) (ce : Cell) (q : Addr), wW G M1 H1 → va_S (wA G) s.heap H1 locs1 → lv_has ls nL lc → H1[q]? = some ce → ce.vm = .none → s.vm.findClass E = some ce.cls → vx_W p l e R s m args below meth c H1 locs1 (k + mc) (n + ms) Q (F0 m pc ls st) q)
    (kk : ∀ (z : Int) (M1 : wM), P z M1 → wV p l e R s m args below meth c G nL M1 (k + mc) (n + ms) Q pc' lc (vI z :: st)) : wV p l e R s m args below meth c G nL M k n Q pc lc st0 := by
  subst hp; intro H locs ls hW hS hl
  have hr2 := hr H locs ls hW hS hl.1
  rw [wQx_eq] at hr2
  refine vx_calli hr2 hS (fun q _ h => h) (fun q h => h) (fun q _ h => h) (fun E ce q9 u t H1 locs1 ht hvm hpx hB hz hk hS1 hc1 hc2 hc3 => ?_) (fun r u t H1 locs1 ht hvm hpo hB hz hk hS1 => ?_)
  · rw [ht] at hB
    exact kx E u hB.1 H1 locs1 ls ce q9 hB.2 hS1 hl hc1 hc2 hc3
  · obtain ⟨z, M1⟩ := u
    obtain ⟨rfl, hP⟩ := hpo
    rw [ht] at hB
    exact kk z M1 hP H1 locs1 ls hB hS1 hl
theorem w_callxj {mc ms : Nat} {P : Int → wM → Prop} {PX : String → wM → Prop} {a : Array Value} (hr : ∀ (H : Heap) (locs : List Loc) (ls : Array Slot), wW G M H → va_S (wA G) s.heap H locs → ls.size = nL → vx_Run p l e R s m args below meth c H locs k n mc ms (F0 m pc ls st0) st (wQj G P a) (wQx G PX) (wA G)) (hp : pc + 3 = pc')
    (kx : ∀ (E : String) (M1 : wM), PX E M1 → ∀ (H1 : Heap) (locs1 : List Loc) (ls : Array Slot) (ce : Cell) (q : Addr), wW G M1 H1 → va_S (wA G) s.heap H1 locs1 → lv_has ls nL lc → H1[q]? = some ce → ce.vm = .none → s.vm.findClass E = some ce.cls → vx_W p l e R s m args below meth c H1 locs1 (k + mc) (n + ms) Q (F0 m pc ls st) q)
    (kk : ∀ (z : Int) (M1 : wM), P z M1 → wV p l e R s m args below meth c G nL M1 (k + mc) (n + ms) Q pc' lc (vJ z :: st)) : wV p l e R s m args below meth c G nL M k n Q pc lc st0 := by
  subst hp; intro H locs ls hW hS hl
  have hr2 := hr H locs ls hW hS hl.1
  rw [wQx_eq] at hr2
  refine vx_calll hr2 hS (fun q _ h => h) (fun q h => h) (fun q _ h => h) (fun E ce q9 u t H1 locs1 ht hvm hpx hB hz hk hS1 hc1 hc2 hc3 => ?_) (fun r u t H1 locs1 ht hvm hpo hB hz hk hS1 => ?_)
  · rw [ht] at hB
    exact kx E u hB.1 H1 locs1 ls ce q9 hB.2 hS1 hl hc1 hc2 hc3
  · obtain ⟨z, M1⟩ := u
    obtain ⟨rfl, hP⟩ := hpo
    rw [ht] at hB
    exact kk z M1 hP H1 locs1 ls hB hS1 hl
/-- into the handler that names the class thrown -/
theorem w_handle (X : wX p s m args meth c G nL own cc) {hh : List (Nat × Nat × Nat × Nat)} (ht : c.exceptionTable.toList = tableOf hh) (pre : List (Nat × Nat × Nat × Nat)) (x : Nat × Nat × Nat × Nat) (suf : List (Nat × Nat × Nat × Nat)) (hs : hh = pre ++ x :: suf) {E : String} (hpass : ∀ z ∈ pre, z.2.2.2 ≠ 0 ∧ ∃ nm : String, Cond.classLink own z.2.2.2 nm ∈ GW ∧ (E, nm) ∈ wNcs) (hx : covers ⟨x.1, x.2.1, x.2.2.1, x.2.2.2⟩ pc = true) (h0 : x.2.2.2 ≠ 0) (hlink : Cond.classLink own x.2.2.2 E ∈ GW) (hcast : Cond.castable E E ∈ tables_1)
    {H1 : Heap} {locs1 : List Loc} {ls : Array Slot} {ce : Cell} {q : Addr} (hW : wW G M H1) (hS : va_S (wA G) s.heap H1 locs1) (hl : lv_has ls nL lc) (hcell : H1[q]? = some ce) (hv : ce.vm = .none) (hcl : s.vm.findClass E = some ce.cls) (kk : wV p l e R s m args below meth c G nL M k n Q x.2.2.1 lc [.ref q]) : vx_W p l e R s m args below meth c H1 locs1 k n Q (F0 m pc ls st) q := by
  refine vx_catch (own := own) (name := E) (E := E) X.ownC (tableOf pre) ⟨x.1, x.2.1, x.2.2.1, x.2.2.2⟩ (tableOf suf) (by rw [ht, hs]; unfold tableOf; rw [List.map_append]; rfl) (fun z hz => ?_) hx h0 (X.w hlink) (va_Nw.use rfl (X.sta.2.2.2.2.2.2.1 _ _ hcast)) hcell hv hcl (kk H1 locs1 ls hW hS hl)
  unfold tableOf at hz
  obtain ⟨z0, h1, rfl⟩ := List.mem_map.mp hz
  obtain ⟨h2, nm, h3, h4⟩ := hpass z0 h1
  exact Or.inr ⟨h2, nm, X.w h3, X.sta.2.2.2.2.2.2.2.2 _ h4⟩
end WL
