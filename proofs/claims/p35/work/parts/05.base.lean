/-! THE WORLD: every cell of both systems, at addresses that do not change, their numbers as integers -/
abbrev wL : Type := Nat → Nat → Nat
abbrev wM : Type := Nat → Nat → Nat → Int
/-- a cell's kind: an object (its class; its fields: a cell that never changes, or a number); an array (its elements' type, its length, its cells) -/
abbrev wKd : Type := (Nat × List (Option (Nat × Nat))) ⊕ (Nat × Nat × (Nat → Nat × Nat))
/-- array classes; classes; addresses; the first address of our own -/
abbrev wG : Type := (Nat → ClassId) × va_G × wL × (Nat → Prop)
def vI (z : Int) : Value := .int (Int32.ofInt z)
def vJ (z : Int) : Value := .long (Int64.ofInt z)
def vR (G : wG) (q : Nat × Nat) : Value := .ref (G.2.2.1 q.1 q.2)
def wFs (G : wG) (g : Nat → Int) : List (Option (Nat × Nat)) → Nat → List Value
  | [], _ => []
  | some q :: r, k => vR G q :: wFs G g r (k + 1)
  | none :: r, k => vI (g k) :: wFs G g r (k + 1)
def wAr (G : wG) (g : Nat → Int) (t : Nat) (rf : Nat → Nat × Nat) (i : Nat) : Value := if t = 1 then vJ (g i) else if t < 4 then vI (g i) else vR G (rf i)
def wty (t : Nat) : FieldType := match t with
  | 0 => .int
  | 1 => .long
  | 2 => .boolean
  | 3 => .char
  | 4 => .array .int
  | 5 => .array .long
  | _ => .object "StateObserver$Moment"
def wNr (_ : Nat) : Nat × Nat := (0, 0)
/-- the cells of a Moment -/
def kMom (o : Nat) : Nat → Option wKd
  | 0 => some (.inl (1, [some (o, 1), some (o, 2), some (o, 3), some (o, 4), some (o, 5), some (o, 10), some (o, 11), none, none, none, none, none, some (o, 12), some (o, 13)]))
  | 1 => some (.inr (0, 4, wNr))
  | 2 => some (.inr (0, 4, wNr))
  | 3 => some (.inr (0, 4, wNr))
  | 4 => some (.inr (0, 4, wNr))
  | 5 => some (.inr (4, 4, fun i => (o, 6 + i)))
  | 6 => some (.inr (0, 3, wNr))
  | 7 => some (.inr (0, 3, wNr))
  | 8 => some (.inr (0, 3, wNr))
  | 9 => some (.inr (0, 3, wNr))
  | 10 => some (.inr (0, 3, wNr))
  | 11 => some (.inr (0, 3, wNr))
  | 12 => some (.inr (0, 4, wNr))
  | 13 => some (.inr (0, 4, wNr))
  | _ => none
/-- the cells of a Plant -/
def kPla (o : Nat) : Nat → Option wKd
  | 0 => some (.inl (3, [none, none, some (o, 1), some (o, 6), some (o, 7), some (o, 8), some (o, 12)]))
  | 1 => some (.inr (4, 4, fun i => (o, 2 + i)))
  | 2 => some (.inr (0, 4, wNr))
  | 3 => some (.inr (0, 4, wNr))
  | 4 => some (.inr (0, 4, wNr))
  | 5 => some (.inr (0, 4, wNr))
  | 6 => some (.inr (0, 4, wNr))
  | 7 => some (.inr (0, 4, wNr))
  | 8 => some (.inr (4, 3, fun i => (o, 9 + i)))
  | 9 => some (.inr (0, 4, wNr))
  | 10 => some (.inr (0, 4, wNr))
  | 11 => some (.inr (0, 4, wNr))
  | 12 => some (.inr (0, 3, wNr))
  | _ => none
/-- the cells of a Space -/
def kSpa (o : Nat) : Nat → Option wKd
  | 0 => some (.inl (6, [some (o, 1), none]))
  | 1 => some (.inr (5, 4, fun i => (o, 2 + i)))
  | 2 => some (.inr (1, 4, wNr))
  | 3 => some (.inr (1, 4, wNr))
  | 4 => some (.inr (1, 4, wNr))
  | 5 => some (.inr (1, 4, wNr))
  | _ => none
/-- the cells of the others: Motion 21, Ranks 22, Slots 25, History 26, SystemText 27, StateObserver 28, no others -/
def kOne (o : Nat) : Nat → Option wKd := match o with
  | 21 => fun j => match j with
    | 0 => some (.inl (2, [some (21, 1), some (21, 2)]))
    | 1 => some (.inr (0, 4, wNr))
    | 2 => some (.inr (1, 3, wNr))
    | _ => none
  | 22 => fun j => match j with
    | 0 => some (.inl (4, [some (23, 0), some (24, 0), some (22, 1), some (22, 5), some (22, 6), some (22, 7)]))
    | 1 => some (.inr (5, 3, fun i => (22, 2 + i)))
    | 2 => some (.inr (1, 4, wNr))
    | 3 => some (.inr (1, 4, wNr))
    | 4 => some (.inr (1, 4, wNr))
    | 5 => some (.inr (1, 4, wNr))
    | 6 => some (.inr (1, 4, wNr))
    | 7 => some (.inr (1, 4, wNr))
    | _ => none
  | 25 => fun j => match j with
    | 0 => some (.inl (5, [some (25, 1), some (25, 2)]))
    | 1 => some (.inr (6, 2, fun i => (3 + i, 0)))
    | 2 => some (.inr (2, 2, wNr))
    | _ => none
  | 26 => fun j => match j with
    | 0 => some (.inl (0, [some (26, 1), none, none]))
    | 1 => some (.inr (6, 14, fun i => (5 + i, 0)))
    | _ => none
  | 27 => fun j => match j with
    | 0 => some (.inl (7, [some (27, 1), none, some (20, 0), some (2, 0), none, none]))
    | 1 => some (.inr (3, 200, wNr))
    | _ => none
  | 28 => fun j => match j with
    | 0 => some (.inl (8, [some (19, 0), some (0, 0), some (1, 0), some (26, 0), some (25, 0), some (27, 0), some (21, 0), some (22, 0), some (28, 1)]))
    | 1 => some (.inr (0, 4, wNr))
    | _ => none
  | _ => fun _ => none
/-- every cell's kind: Moments 0 .. 18 (now, copy, the text's, two slots, fourteen remembered), Plants 19, 20, Spaces 23, 24 -/
def wkd (o : Nat) : Nat → Option wKd := if o < 19 then kMom o else if o < 21 then kPla o else if o = 23 ∨ o = 24 then kSpa o else kOne o
theorem wkd_m {o : Nat} (h : o < 19) : wkd o = kMom o := by unfold wkd; rw [if_pos h]
theorem wkd_p {o : Nat} (h : o = 19 ∨ o = 20) : wkd o = kPla o := by unfold wkd; rw [if_neg (by omega), if_pos (by omega)]
theorem wkd_s {o : Nat} (h : o = 23 ∨ o = 24) : wkd o = kSpa o := by unfold wkd; rw [if_neg (by omega), if_neg (by omega), if_pos h]
def wCell (G : wG) (g : Nat → Int) (a : Nat) (H : Heap) : wKd → Prop
  | .inl q => ∃ r : vw_C, vwCl[q.1]? = some r ∧ t_OB a (G.2.1.1 q.1) r.2.2 (G.2.1.2 q.1) H (vp_V (wFs G g q.2 0))
  | .inr q => H[a]? = some (arrV (G.1 q.1) q.2.1 (wAr G g q.1 q.2.2))
def wW (G : wG) (M : wM) (H : Heap) : Prop := ∀ (o j : Nat) (k : wKd), wkd o j = some k → wCell G (M o j) (G.2.2.1 o j) H k
def wLay (G : wG) : Prop := (∀ o j o' j' : Nat, (wkd o j).isSome = true → (wkd o' j').isSome = true → G.2.2.1 o j = G.2.2.1 o' j' → o = o' ∧ j = j') ∧ ∀ o j : Nat, (wkd o j).isSome = true → G.2.2.2 (G.2.2.1 o j)
def wA (G : wG) : Nat → Prop := G.2.2.2
/-- the classes of what is thrown, pairs of which none is the other's -/
def wNcs : List (String × String) := [("java/lang/IllegalStateException", "java/lang/IllegalArgumentException"), ("java/lang/IndexOutOfBoundsException", "java/lang/IllegalArgumentException"), ("java/lang/IllegalArgumentException", "java/lang/IllegalStateException"), ("java/lang/IndexOutOfBoundsException", "java/lang/IllegalStateException"), ("java/lang/IllegalArgumentException", "java/lang/IndexOutOfBoundsException"), ("java/lang/IllegalStateException", "java/lang/IndexOutOfBoundsException")]
/-- the words that the tables hold but don't keep by themselves: strings by their places in StateObserver's pool, nest mates, casts, declarations -/
def wEx (U : State) : Prop :=
  (∀ (i : Nat) (tx : String), Cond.stringRef RX8 i tx ∈ tables_1 → ∃ a : Nat, vk_R RX8 i tx a U) ∧
  (∀ (a : String) (i : Nat) (x : MethodName) (h : String), Cond.methodLinkNest a i x h ∈ tables_1 → va_Nw (.methodLinkNest a i x h) U) ∧
  (∀ C T : String, Cond.castable C T ∈ tables_1 → va_Nw (.castable C T) U) ∧
  (∀ x : MethodName, Cond.declares x ∈ tables_1 → va_Nw (.declares x) U) ∧
  ∀ q : String × String, q ∈ wNcs → va_Nc q.1 q.2 U
/-- what doesn't change: classes, array classes, the two statics that a throw reads, those words -/
def wSt (G : wG) (U : State) : Prop := va_K G.2.1 vwCl [] U ∧ (∀ t : Nat, t < 7 → ArrOfT U (G.1 t) (wty t)) ∧ vx_Zq Bundle.tN "UNASSIGNED_STACK" Bundle.steD (wA G) U U.heap ∧ vx_Zq Bundle.tN "SUPPRESSED_SENTINEL" Bundle.listD (wA G) U U.heap ∧ wEx U
/-- one number set -/
def wu (M : wM) (o j i : Nat) (v : Int) : wM := fun a b k => if a = o ∧ b = j ∧ k = i then v else M a b k
/-- one row set -/
def wr (M : wM) (o j : Nat) (f : Nat → Int) : wM := fun a b => if a = o ∧ b = j then f else M a b
theorem wCell.kept {G : wG} {g : Nat → Int} {a : Nat} {H H1 : Heap} {k : wKd} (h : wCell G g a H k) (hq : H1[a]? = H[a]?) : wCell G g a H1 k := by
  cases k with
  | inl q =>
    obtain ⟨r, h1, h2⟩ := h
    exact ⟨r, h1, h2.kept hq⟩
  | inr q => exact hq.trans h
theorem wCell.lt {G : wG} {g : Nat → Int} {a : Nat} {H : Heap} {k : wKd} (h : wCell G g a H k) : a < H.size := by
  cases k with
  | inl q =>
    obtain ⟨r, -, cell, h2, -⟩ := h
    exact (Array.getElem?_eq_some_iff.mp h2).1
  | inr q => exact (Array.getElem?_eq_some_iff.mp h).1
theorem wW.lt {G : wG} {M : wM} {H : Heap} (h : wW G M H) {o j : Nat} {k : wKd} (hk : wkd o j = some k) : G.2.2.1 o j < H.size := (h o j k hk).lt
/-- the world behind a change of one cell -/
theorem wW.set {G : wG} {M M1 : wM} {H H1 : Heap} (hL : wLay G) (h : wW G M H) {o j : Nat} {k : wKd} (hk : wkd o j = some k) (hn : wCell G (M1 o j) (G.2.2.1 o j) H1 k) (oq : ∀ q : Nat, q ≠ G.2.2.1 o j → H1[q]? = H[q]?) (hM : ∀ a b : Nat, ¬ (a = o ∧ b = j) → M1 a b = M a b) : wW G M1 H1 := by
  intro a b k2 h2
  by_cases e : a = o ∧ b = j
  · obtain ⟨rfl, rfl⟩ := e
    have : k2 = k := Option.some.inj (h2.symm.trans hk)
    subst this
    exact hn
  · rw [hM a b e]
    refine (h a b k2 h2).kept (oq _ (fun z => e ?_))
    exact hL.1 a b o j (by rw [h2]; rfl) (by rw [hk]; rfl) z
/-- the world behind changes elsewhere -/
theorem wW.kept {G : wG} {M : wM} {H H1 : Heap} (h : wW G M H) (oq : ∀ q : Nat, q < H.size → H1[q]? = H[q]?) : wW G M H1 := fun o j k hk => (h o j k hk).kept (oq _ (h.lt hk))
theorem wu_ne {M : wM} {o j i : Nat} {v : Int} {a b : Nat} (h : ¬ (a = o ∧ b = j)) : wu M o j i v a b = M a b := by
  funext k
  unfold wu
  rw [if_neg (fun q => h ⟨q.1, q.2.1⟩)]
theorem wr_ne {M : wM} {o j : Nat} {f : Nat → Int} {a b : Nat} (h : ¬ (a = o ∧ b = j)) : wr M o j f a b = M a b := by
  unfold wr
  rw [if_neg h]
theorem wr_eq {M : wM} {o j : Nat} {f : Nat → Int} : wr M o j f o j = f := by
  unfold wr
  rw [if_pos ⟨rfl, rfl⟩]
theorem wu_eq {M : wM} {o j i : Nat} {v : Int} : wu M o j i v o j = fun k => if k = i then v else M o j k := by
  funext k
  unfold wu
  simp
theorem wEx.warm {s U : State} (hW : s.WarmedH U.vm) (h : wEx s) : wEx U := by
  obtain ⟨h1, h2, h3, h4, h5⟩ := h
  refine ⟨fun i tx hm => ?_, fun a i x g hm => va_Nw.warmM hW (h2 a i x g hm), fun C T hm => va_Nw.warmC hW (h3 C T hm), fun x hm => va_Nw.warmD hW (h4 x hm), fun q hq => va_Nc.moved hW.alike (h5 q hq)⟩
  obtain ⟨a, ha⟩ := h1 i tx hm
  exact ⟨a, vk_R.warm hW ha⟩
theorem wEx.same {s U : State} (hv : U.vm = s.vm) (h : wEx s) : wEx U := by
  obtain ⟨h1, h2, h3, h4, h5⟩ := h
  refine ⟨fun i tx hm => ?_, fun a i x g hm => va_Nw.same rfl hv.symm (h2 a i x g hm), fun C T hm => va_Nw.same rfl hv.symm (h3 C T hm), fun x hm => va_Nw.same rfl hv.symm (h4 x hm), fun q hq => va_Nc.moved (by rw [hv]; exact Vm.Alike.refl _) (h5 q hq)⟩
  obtain ⟨a, ha⟩ := h1 i tx hm
  exact ⟨a, vk_R.same hv ha⟩
theorem wSt.same {G : wG} {s U : State} (hv : U.vm = s.vm) (hh : U.heap = s.heap) (h : wSt G s) : wSt G U := by
  obtain ⟨h1, h2, h3, h4, h5⟩ := h
  have al : s.vm.Alike U.vm := by rw [hv]; exact Vm.Alike.refl _
  refine ⟨va_K.moved al h1, fun t ht => arrOfT_moved al (h2 t ht), ?_, ?_, h5.same hv⟩
  · rw [hh]; exact vx_Zq.moved al h3
  · rw [hh]; exact vx_Zq.moved al h4
theorem wSt.warm {G : wG} {s U : State} {locs : List Loc} (hW : s.WarmedH U.vm) (hS : va_S (wA G) s.heap U.heap locs) (h : wSt G s) : wSt G U := by
  obtain ⟨h1, h2, h3, h4, h5⟩ := h
  exact ⟨va_K.moved hW.alike h1, fun t ht => arrOfT_moved hW.alike (h2 t ht), vx_Zq.moved hW.alike (h3.kept hS.2.1), vx_Zq.moved hW.alike (h4.kept hS.2.1), h5.warm hW⟩
/-- what a method finds at its start -/
def wPc (G : wG) (M : wM) (av : List Value) : Array Value → State → Prop := fun v U => v = av.toArray ∧ wW G M U.heap ∧ wSt G U ∧ wLay G ∧ True
theorem wPc_blind {G : wG} {M : wM} {av : List Value} : FrameBlind (wPc G M av) := fun a U g mk h => ⟨h.1, h.2.1, wSt.same (s := U) (U := U.calling g mk a) rfl rfl h.2.2.1, h.2.2.2⟩
/-- .. and leaves at its end -/
def wQi (G : wG) (P : Int → wM → Prop) : Array Value → State → Outcome → State → Prop := va_Qi (S := Int × wM) (fun r u => r = Int32.ofInt u.1 ∧ P u.1 u.2) (fun u t => wW G u.2 t.heap) (wA G)
def wQj (G : wG) (P : Int → wM → Prop) : Array Value → State → Outcome → State → Prop := va_Ql (S := Int × wM) (fun r u => r = Int64.ofInt u.1 ∧ P u.1 u.2) (fun u t => wW G u.2 t.heap) (wA G)
def wQv (G : wG) (P : wM → Prop) : Array Value → State → Outcome → State → Prop := va_Qv (S := wM) (fun u => P u) (fun u t => wW G u t.heap) (wA G)
/-- .. or where it throws: the class by its name, the world as it was -/
def wQx (G : wG) (P : String → wM → Prop) : String → State → State → Prop := fun E st t => (∃ M1 : wM, P E M1 ∧ wW G M1 t.heap) ∧ va_F (wA G) st t
def wrm (k mc ms : Nat) : Room := { frames := k, cells := mc, slots := ms, locals := 43 * k }
/-- the words that a method needs: its own code, and all -/
abbrev gws (y : MethodName) (cc : ByteArray) (n : Nat) (r : Option FieldType) : List Cond := Cond.code y cc n r :: GW
theorem gws_in {y : MethodName} {cc : ByteArray} {n : Nat} {r : Option FieldType} (h : Cond.code y cc n r ∈ GW) : GoodIn GW (gws y cc n r) := fun w hw => (List.mem_cons.mp hw).elim (fun e => by rw [e]; exact ⟨h, good_of_word (GW_good _ h)⟩) (fun h2 => ⟨h2, good_of_word (GW_good _ h2)⟩)
/-- what stands beside a method's frame all along -/
def wX (p : Program) (s : State) (m : MethodId) (args : Array Value) (meth : Method) (c : Code) (G : wG) (nL : Nat) (own : String) (cc : ByteArray) : Prop :=
  p.tables.exec = Jvm.exec ∧ c.code = cc ∧ c.maxLocals = nL ∧ s.vm.findClass own = some m.cls ∧ (∀ w ∈ GW, w.before args s = true) ∧ wSt G s ∧ wLay G ∧ True ∧ meth.locks = false
/-- from a frame with these locals, this stack and this world on, the machine comes to Q -/
def wV (p : Program) (l : Launch) (e : Env) (R : Room) (s : State) (m : MethodId) (args : Array Value) (below : List Frame) (meth : Method) (c : Code) (G : wG) (nL : Nat) (M : wM) (k n : Nat) (Q : State → Prop) (pc : Nat) (lc : List (Nat × Value)) (st : List Value) : Prop :=
  ∀ (H : Heap) (locs : List Loc) (ls : Array Slot), wW G M H → va_S (wA G) s.heap H locs → lv_has ls nL lc → W p l e R s m args below meth c H locs k n Q (F0 m pc ls st)
/-- a method's contract out of its body -/
theorem wMet {l : Launch} {y : MethodName} {cc : ByteArray} {nL : Nat} {ret : Option FieldType} {rm : Room} {G : wG} {M : wM} {av : List Value} {lc : List (Nat × Value)} {Qc : Array Value → State → Outcome → State → Prop} {mc ms : Nat} (hy : plainName y.cls = true) (hlen : (lg_sl av).length ≤ nL) (hlc : lv_args 0 av = lc)
    (body : ∀ (p : Program) (e : Env) (s : State) (m : MethodId) (args : Array Value) (below : List Frame) (meth : Method) (c : Code), wX p s m args meth c G nL y.cls cc → meth.sig.returnType = ret → wV p l e rm s m args below meth c G nL M 0 0 (MQ below Qc args s mc ms (wA G)) 0 lc []) :
    Met l y (gws y cc nL ret) rm (wPc G M av) Qc mc ms (wA G) := by
  refine Met.ofW (cc := cc) (maxL := nL) (ret := ret) hy rfl ?_
  intro p e s m args below meth c s₁ B hml hv
  obtain ⟨rfl, hW, hSt, hL, hz⟩ := hv
  have hts := atoms_spec (ws := gws y cc nL ret) B.pre
  have X : wX p s m av.toArray meth c G nL y.cls cc := ⟨B.exec, B.bytes, hml, findClass_of_methodNamed B.named, fun w hw => hts w (List.mem_cons_of_mem _ hw), hSt, hL, hz, B.notSynchronized⟩
  have hl := lv_entry av (n := nL) hlen
  rw [lg_entry_eq]
  generalize (lg_sl av ++ List.replicate (nL - (lg_sl av).length) Slot.unset).toArray = ls at hl ⊢
  rw [hlc] at hl
  exact body p e s m av.toArray below meth c X B.returns s.heap [] ls hW va_S.rf hl
/-- .. of a method that may throw -/
theorem wMetX {l : Launch} {y : MethodName} {cc : ByteArray} {nL : Nat} {ret : Option FieldType} {rm : Room} {G : wG} {M : wM} {av : List Value} {lc : List (Nat × Value)} {Qc : Array Value → State → Outcome → State → Prop} {XC : String → State → State → Prop} {mc ms : Nat} (hy : plainName y.cls = true) (hlen : (lg_sl av).length ≤ nL) (hlc : lv_args 0 av = lc)
    (body : ∀ (p : Program) (e : Env) (s : State) (m : MethodId) (args : Array Value) (below : List Frame) (meth : Method) (c : Code), wX p s m args meth c G nL y.cls cc → meth.sig.returnType = ret → (∀ x ∈ c.exceptionTable.toList, False) → wV p l e rm s m args below meth c G nL M 0 0 (vx_MQ below Qc XC args s mc ms (wA G)) 0 lc []) :
    vx_Met l y (gws y cc nL ret) rm (wPc G M av) Qc XC mc ms (wA G) := by
  refine vx_ofW (cc := cc) (maxL := nL) (ret := ret) hy rfl ?_
  intro p e s m args below meth c s₁ B hml ht hv
  obtain ⟨rfl, hW, hSt, hL, hz⟩ := hv
  have hts := atoms_spec (ws := gws y cc nL ret) B.pre
  have X : wX p s m av.toArray meth c G nL y.cls cc := ⟨B.exec, B.bytes, hml, findClass_of_methodNamed B.named, fun w hw => hts w (List.mem_cons_of_mem _ hw), hSt, hL, hz, B.notSynchronized⟩
  have hl := lv_entry av (n := nL) hlen
  rw [lg_entry_eq]
  generalize (lg_sl av ++ List.replicate (nL - (lg_sl av).length) Slot.unset).toArray = ls at hl ⊢
  rw [hlc] at hl
  exact body p e s m av.toArray below meth c X B.returns ht s.heap [] ls hW va_S.rf hl
