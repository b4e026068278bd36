/-! TWO OBSERVERS beside one another -/
def dF (G1 G2 : wG) (M V : wM) : Heap → Prop := fun H => wW G1 M H ∧ wW G2 V H
def dA (G1 G2 : wG) : Nat → Prop := fun q => wA G1 q ∨ wA G2 q
def dL (G1 G2 : wG) : Prop := wLay G1 ∧ wLay G2 ∧ (∀ q, wA G1 q → ¬ wA G2 q) ∧ G1.1 = G2.1 ∧ G1.2.1 = G2.2.1
theorem dL.d2 {G1 G2 : wG} (h : dL G1 G2) : ∀ q, wA G2 q → ¬ wA G1 q := fun q h2 h1 => h.2.2.1 q h1 h2
def dPc (G1 G2 : wG) (M V : wM) (av : List Value) : Array Value → State → Prop := fun v U => v = av.toArray ∧ dF G1 G2 M V U.heap ∧ wSt (gA G1 (dA G1 G2)) U ∧ dL G1 G2
theorem dPc_blind {G1 G2 : wG} {M V : wM} {av : List Value} : FrameBlind (dPc G1 G2 M V av) := fun a U g mk h => ⟨h.1, h.2.1, wSt.same (s := U) (U := U.calling g mk a) rfl rfl h.2.2.1, h.2.2.2⟩
def dQi (G1 G2 : wG) (P : Int → wM → wM → Prop) : Array Value → State → Outcome → State → Prop := va_Qi (S := Int × wM × wM) (fun r u => r = Int32.ofInt u.1 ∧ P u.1 u.2.1 u.2.2) (fun u t => dF G1 G2 u.2.1 u.2.2 t.heap) (dA G1 G2)
theorem wSt.other {G1 G2 : wG} {A : Nat → Prop} {U : State} (h : wSt (gA G1 A) U) (e1 : G1.1 = G2.1) (e2 : G1.2.1 = G2.2.1) : wSt (gA G2 A) U := by
  obtain ⟨h1, h2, h3, h4, h5⟩ := h
  have h1 : va_K G1.2.1 vwCl [] U := h1
  have h2 : ∀ t : Nat, t < 7 → ArrOfT U (G1.1 t) (wty t) := h2
  rw [e2] at h1
  rw [e1] at h2
  exact ⟨h1, h2, h3, h4, h5⟩
theorem gA_lay {G : wG} {A : Nat → Prop} (h : wLay G) (hN : ∀ q, wA G q → A q) : wLay (gA G A) := ⟨h.1, fun o j hk => hN _ (h.2 o j hk)⟩
section DR
variable {p : Program} {l : Launch} {e : Env} {R : Room} {s : State} {m : MethodId} {args : Array Value} {below : List Frame} {meth : Method} {c : Code} {k n : Nat} {Q : State → Prop} {A : Nat → Prop} {G G1 G2 : wG} {M V : wM} {nL : Nat} {own : String} {cc : ByteArray} {pc pc' tgt : Nat} {lc lc' : List (Nat × Value)} {st st0 : List Value}
theorem wX.other (X : wX p s m args meth c (gA G1 A) nL own cc) (hL : dL G1 G2) (hN : ∀ q, dA G1 G2 q → A q) : wX p s m args meth c (gA G2 A) nL own cc :=
  ⟨X.1, X.2.1, X.2.2.1, X.2.2.2.1, X.2.2.2.2.1, X.sta.other hL.2.2.2.1 hL.2.2.2.2, gA_lay hL.2.1 (fun q h => hN q (Or.inr h)), trivial, X.locks⟩
/-- a contract over two worlds, out of a body -/
theorem dMet {y : MethodName} {ret : Option FieldType} {rm : Room} {av : List Value} {Qc : Array Value → State → Outcome → State → Prop} {mc ms : Nat} (hy : plainName y.cls = true) (hlen : (lg_sl av).length ≤ nL) (hlc : lv_args 0 av = lc)
    (body : ∀ (p : Program) (e : Env) (s : State) (m : MethodId) (args : Array Value) (below : List Frame) (meth : Method) (c : Code), wX p s m args meth c (gA G1 (dA G1 G2)) nL y.cls cc → dL G1 G2 → meth.sig.returnType = ret → eV p l e rm s m args below meth c (dA G1 G2) (dF G1 G2 M V) nL 0 0 (MQ below Qc args s mc ms (dA G1 G2)) 0 lc []) :
    Met l y (gws y cc nL ret) rm (dPc G1 G2 M V av) Qc mc ms (dA G1 G2) := by
  refine Met.ofW (cc := cc) (maxL := nL) (ret := ret) hy rfl ?_
  intro p e s m args below meth c s₁ B hml hv
  obtain ⟨rfl, hW, hSt, hL⟩ := hv
  have hts := atoms_spec (ws := gws y cc nL ret) B.pre
  have X : wX p s m av.toArray meth c (gA G1 (dA G1 G2)) nL y.cls cc := ⟨B.exec, B.bytes, hml, findClass_of_methodNamed B.named, fun w hw => hts w (List.mem_cons_of_mem _ hw), hSt, gA_lay hL.1 (fun q h => Or.inl h), trivial, B.notSynchronized⟩
  have hl := lv_entry av (n := nL) hlen
  rw [lg_entry_eq]
  generalize (lg_sl av ++ List.replicate (nL - (lg_sl av).length) Slot.unset).toArray = ls at hl ⊢
  rw [hlc] at hl
  exact body p e s m av.toArray below meth c X hL B.returns s.heap [] ls hW va_S.rf hl
theorem e_zret (X : wX p s m args meth c G nL own cc) {P : Int → wM → wM → Prop} {z : Int} (hr : meth.sig.returnType = some .boolean) (hz : z = 0 ∨ z = 1) (hd : decode cc pc = .ok (.ireturn, 1)) (h : P z M V) : eV p l e R s m args below meth c (dA G1 G2) (dF G1 G2 M V) nL k n (MQ below (dQi G1 G2 P) args s k n (dA G1 G2)) pc lc [vI z] := by
  intro H locs ls hW hS hl
  exact W.zret X.1 X.2.1 hr (by rcases hz with rfl | rfl <;> rfl) (fun t ht hWm => ⟨⟨Int32.ofInt z, (z, M, V), rfl, ⟨rfl, h⟩, by show dF G1 G2 M V t.heap; rw [ht]; exact hW⟩, hS.F ht⟩) hS.2.2 hd X.locks
theorem e_call1 {mc ms : Nat} {P : Int → wM → Prop} {a : Array Value} (hL : dL G1 G2) (hN : ∀ q, dA G1 G2 q → A q) (hr : ∀ (H : Heap) (locs : List Loc) (ls : Array Slot), wW G1 M H → va_S A s.heap H locs → ls.size = nL → va_Run p l e R s m args below meth c H locs k n mc ms (F0 m pc ls st0) st (wQi G1 P a) (wA G1)) (hp : pc + 3 = pc')
    (kk : ∀ (z : Int) (M' : wM), P z M' → eV p l e R s m args below meth c A (dF G1 G2 M' V) nL (k + mc) (n + ms) Q pc' lc (vI z :: st)) : eV p l e R s m args below meth c A (dF G1 G2 M V) nL k n Q pc lc st0 :=
  e_calli hr (fun q h => hN q (Or.inl h)) (fun _ h => h.1) (fun M' => dF G1 G2 M' V) (fun _ _ _ h w _ hk => ⟨w, h.2.aside hL.2.1 hL.2.2.1 hk⟩) hp kk
theorem e_call2 {mc ms : Nat} {P : Int → wM → Prop} {a : Array Value} (hL : dL G1 G2) (hN : ∀ q, dA G1 G2 q → A q) (hr : ∀ (H : Heap) (locs : List Loc) (ls : Array Slot), wW G2 V H → va_S A s.heap H locs → ls.size = nL → va_Run p l e R s m args below meth c H locs k n mc ms (F0 m pc ls st0) st (wQi G2 P a) (wA G2)) (hp : pc + 3 = pc')
    (kk : ∀ (z : Int) (V' : wM), P z V' → eV p l e R s m args below meth c A (dF G1 G2 M V') nL (k + mc) (n + ms) Q pc' lc (vI z :: st)) : eV p l e R s m args below meth c A (dF G1 G2 M V) nL k n Q pc lc st0 :=
  e_calli hr (fun q h => hN q (Or.inr h)) (fun _ h => h.2) (fun V' => dF G1 G2 M V') (fun _ _ _ h w _ hk => ⟨h.1.aside hL.1 hL.d2 hk, w⟩) hp kk
/-- a method of both -/
theorem e_runD (X : wX p s m args meth c (gA G1 A) nL own cc) (hL : dL G1 G2) (hN : ∀ q, dA G1 G2 q → A q) {N index maxL mc ms : Nat} {y : MethodName} {bytes : ByteArray} {ret : Option FieldType} {rm : Room} {As : List Value} {Qc : Array Value → State → Outcome → State → Prop} (hM : Met l y (gws y bytes maxL ret) rm (dPc G1 G2 M V As) Qc mc ms (dA G1 G2)) (hy : wCal y bytes maxL ret N) (hstat : Cond.static y ∈ GW) (hrc : rm.cells = mc) (hrs : rm.slots = ms) (hR : rm.frames + 1 ≤ R.frames ∧ 8 + (maxL + 11) + rm.locals ≤ R.locals) (hn : As.length = N) (hst : st0 = As.reverse ++ st) (hcat : (st.map fun v => v.category).sum ≤ 8) (hf : k + mc ≤ R.cells ∧ n + ms ≤ R.slots) (hlink : Cond.methodLink own index y ∈ GW) (hd : decode cc pc = .ok (.invokestatic index, 3)) :
    ∀ (H : Heap) (locs : List Loc) (ls : Array Slot), dF G1 G2 M V H → va_S A s.heap H locs → ls.size = nL → va_Run p l e R s m args below meth c H locs k n mc ms (F0 m pc ls st0) st (Qc As.toArray) (dA G1 G2) := by
  intro H locs ls hW hS hl
  refine va_runS (As := As) (rest := st) X.fix hM ⟨X.callB hy hlink hrc hrs hR, X.w hstat⟩ ⟨dPc_blind, fun U hU hWm => ⟨rfl, by rw [hU]; exact hW, ?_, hL⟩⟩ rfl hn hl hst (lv_room hcat) hd hf
  have h := wSt.warm (G := gA G1 A) (locs := locs) hWm (by rw [hU]; exact hS) X.sta
  exact wSt.narrow (G := gA G1 (dA G1 G2)) (A := A) h hN
theorem e_callD {mc ms : Nat} {P : Int → wM → wM → Prop} {a : Array Value} (hN : ∀ q, dA G1 G2 q → A q) (hr : ∀ (H : Heap) (locs : List Loc) (ls : Array Slot), dF G1 G2 M V H → va_S A s.heap H locs → ls.size = nL → va_Run p l e R s m args below meth c H locs k n mc ms (F0 m pc ls st0) st (dQi G1 G2 P a) (dA G1 G2)) (hp : pc + 3 = pc')
    (kk : ∀ (z : Int) (M' V' : wM), P z M' V' → eV p l e R s m args below meth c A (dF G1 G2 M' V') nL (k + mc) (n + ms) Q pc' lc (vI z :: st)) : eV p l e R s m args below meth c A (dF G1 G2 M V) nL k n Q pc lc st0 := by
  subst hp; intro H locs ls hW hS hl
  refine va_calli (hr H locs ls hW hS hl.1) hS (fun q _ h => hN q h) (fun q h => hN q h) (fun r u t H1 locs1 ht hvm hpo hB hz hk hS1 => ?_)
  obtain ⟨z, M', V'⟩ := u
  obtain ⟨rfl, hP⟩ := hpo
  rw [ht] at hB
  exact kk z M' V' hP H1 locs1 ls hB hS1 hl
theorem e_icmp_neE {F : Heap → Prop} (X : wX p s m args meth c G nL own cc) {a b off : Int} (hd : decode cc pc = .ok (.if_icmp .ne off, 3)) (ht : (pc : Int) + off = (tgt : Int)) (hp : pc + 3 = pc') (h : a = b) (kf : eV p l e R s m args below meth c A F nL k n Q pc' lc st) : eV p l e R s m args below meth c A F nL k n Q pc lc (vI b :: vI a :: st) := by
  subst h
  rw [vI_iw a]
  exact e_icmp_ne X hd ht hp (iw_rng a) (iw_rng a) (fun q => absurd rfl q) (fun _ => kf)
end DR
