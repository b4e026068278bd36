theorem to_34 : (Cond.arrayOver (FieldType.array FieldType.int)) ∈ tables_1 := List.mem_append_left _ (List.mem_of_getElem? (i := 34) rfl)
theorem to_176 : (Cond.arrayOver (FieldType.object "StateObserver$Moment")) ∈ tables_1 := List.mem_append_left _ (List.mem_of_getElem? (i := 176) rfl)
theorem tn_209 : (Cond.methodLinkNest "StateObserver" (42 : Nat) ({ cls := "StateObserver$SystemText", name := "<init>", desc := "()V" } : MethodName) "StateObserver") ∈ tables_1 := List.mem_append_left _ (List.mem_of_getElem? (i := 209) rfl)
theorem tn_242 : (Cond.methodLinkNest "StateObserver" (49 : Nat) ({ cls := "StateObserver$Motion", name := "<init>", desc := "()V" } : MethodName) "StateObserver") ∈ tables_1 := List.mem_append_right _ (List.mem_append_left _ (List.mem_of_getElem? (i := 2) rfl))
theorem tn_256 : (Cond.methodLinkNest "StateObserver" (56 : Nat) ({ cls := "StateObserver$Ranks", name := "<init>", desc := "()V" } : MethodName) "StateObserver") ∈ tables_1 := List.mem_append_right _ (List.mem_append_left _ (List.mem_of_getElem? (i := 16) rfl))
theorem tn_262 : (Cond.methodLinkNest "StateObserver$Ranks" (11 : Nat) ({ cls := "StateObserver$Space", name := "<init>", desc := "()V" } : MethodName) "StateObserver") ∈ tables_1 := List.mem_append_right _ (List.mem_append_left _ (List.mem_of_getElem? (i := 22) rfl))
theorem to_267 : (Cond.arrayOver (FieldType.array FieldType.long)) ∈ tables_1 := List.mem_append_right _ (List.mem_append_left _ (List.mem_of_getElem? (i := 27) rfl))
theorem tn_401 : (Cond.methodLinkNest "StateObserver$Ranks" (49 : Nat) ({ cls := "StateObserver", name := "copyRow", desc := "([J[J)V" } : MethodName) "StateObserver") ∈ tables_1 := List.mem_append_right _ (List.mem_append_left _ (List.mem_of_getElem? (i := 161) rfl))
theorem tn_414 : (Cond.methodLinkNest "StateObserver$Space" (20 : Nat) ({ cls := "StateObserver", name := "copyRow", desc := "([J[J)V" } : MethodName) "StateObserver") ∈ tables_1 := List.mem_append_right _ (List.mem_append_left _ (List.mem_of_getElem? (i := 174) rfl))
theorem tn_415 : (Cond.methodLinkNest "StateObserver$Space" (24 : Nat) ({ cls := "StateObserver", name := "removeLead", desc := "([JJ[JJI)V" } : MethodName) "StateObserver") ∈ tables_1 := List.mem_append_right _ (List.mem_append_left _ (List.mem_of_getElem? (i := 175) rfl))
theorem to_443 : (Cond.castable "java/lang/IllegalArgumentException" "java/lang/IllegalArgumentException") ∈ tables_1 := List.mem_append_right _ (List.mem_append_left _ (List.mem_of_getElem? (i := 203) rfl))
theorem to_444 : (Cond.declares ({ cls := "java/lang/RuntimeException", name := "<init>", desc := "()V" } : MethodName)) ∈ tables_1 := List.mem_append_right _ (List.mem_append_left _ (List.mem_of_getElem? (i := 204) rfl))
theorem to_445 : (Cond.declares ({ cls := "java/lang/RuntimeException", name := "<init>", desc := "(Ljava/lang/String;)V" } : MethodName)) ∈ tables_1 := List.mem_append_right _ (List.mem_append_left _ (List.mem_of_getElem? (i := 205) rfl))
theorem to_446 : (Cond.declares ({ cls := "java/lang/Exception", name := "<init>", desc := "()V" } : MethodName)) ∈ tables_1 := List.mem_append_right _ (List.mem_append_left _ (List.mem_of_getElem? (i := 206) rfl))
theorem to_447 : (Cond.declares ({ cls := "java/lang/Exception", name := "<init>", desc := "(Ljava/lang/String;)V" } : MethodName)) ∈ tables_1 := List.mem_append_right _ (List.mem_append_left _ (List.mem_of_getElem? (i := 207) rfl))
theorem to_448 : (Cond.declares ({ cls := "java/lang/Throwable", name := "<init>", desc := "()V" } : MethodName)) ∈ tables_1 := List.mem_append_right _ (List.mem_append_left _ (List.mem_of_getElem? (i := 208) rfl))
theorem to_449 : (Cond.declares ({ cls := "java/lang/Throwable", name := "<init>", desc := "(Ljava/lang/String;)V" } : MethodName)) ∈ tables_1 := List.mem_append_right _ (List.mem_append_left _ (List.mem_of_getElem? (i := 209) rfl))
theorem ts_482 : (Cond.stringRef "StateObserver" (67 : Nat) "no such character") ∈ tables_1 := List.mem_append_right _ (List.mem_append_right _ (List.mem_append_left _ (List.mem_of_getElem? (i := 2) rfl)))
theorem to_511 : (Cond.castable "java/lang/IllegalStateException" "java/lang/IllegalStateException") ∈ tables_1 := List.mem_append_right _ (List.mem_append_right _ (List.mem_append_left _ (List.mem_of_getElem? (i := 31) rfl)))
theorem ts_518 : (Cond.stringRef "StateObserver" (78 : Nat) "the text is full") ∈ tables_1 := List.mem_append_right _ (List.mem_append_right _ (List.mem_append_left _ (List.mem_of_getElem? (i := 38) rfl)))
theorem ts_536 : (Cond.stringRef "StateObserver" (89 : Nat) "not a system text") ∈ tables_1 := List.mem_append_right _ (List.mem_append_right _ (List.mem_append_left _ (List.mem_of_getElem? (i := 56) rfl)))
theorem tn_541 : (Cond.methodLinkNest "StateObserver$Plant" (36 : Nat) ({ cls := "StateObserver", name := "copyRows", desc := "([[I[[I)V" } : MethodName) "StateObserver") ∈ tables_1 := List.mem_append_right _ (List.mem_append_right _ (List.mem_append_left _ (List.mem_of_getElem? (i := 61) rfl)))
theorem tn_547 : (Cond.methodLinkNest "StateObserver$Plant" (40 : Nat) ({ cls := "StateObserver", name := "copyRow", desc := "([I[I)V" } : MethodName) "StateObserver") ∈ tables_1 := List.mem_append_right _ (List.mem_append_right _ (List.mem_append_left _ (List.mem_of_getElem? (i := 67) rfl)))
theorem tn_552 : (Cond.methodLinkNest "StateObserver$Moment" (41 : Nat) ({ cls := "StateObserver", name := "copyRow", desc := "([I[I)V" } : MethodName) "StateObserver") ∈ tables_1 := List.mem_append_right _ (List.mem_append_right _ (List.mem_append_left _ (List.mem_of_getElem? (i := 72) rfl)))
theorem tn_553 : (Cond.methodLinkNest "StateObserver$Moment" (45 : Nat) ({ cls := "StateObserver", name := "copyRows", desc := "([[I[[I)V" } : MethodName) "StateObserver") ∈ tables_1 := List.mem_append_right _ (List.mem_append_right _ (List.mem_append_left _ (List.mem_of_getElem? (i := 73) rfl)))
theorem ts_569 : (Cond.stringRef "StateObserver" (121 : Nat) "no such number of the system") ∈ tables_1 := List.mem_append_right _ (List.mem_append_right _ (List.mem_append_left _ (List.mem_of_getElem? (i := 89) rfl)))
theorem ts_578 : (Cond.stringRef "StateObserver" (123 : Nat) "no such matrix or vector") ∈ tables_1 := List.mem_append_right _ (List.mem_append_right _ (List.mem_append_left _ (List.mem_of_getElem? (i := 98) rfl)))
theorem to_589 : (Cond.castable "java/lang/IndexOutOfBoundsException" "java/lang/IndexOutOfBoundsException") ∈ tables_1 := List.mem_append_right _ (List.mem_append_right _ (List.mem_append_left _ (List.mem_of_getElem? (i := 109) rfl)))
theorem ts_596 : (Cond.stringRef "StateObserver" (134 : Nat) "no such row") ∈ tables_1 := List.mem_append_right _ (List.mem_append_right _ (List.mem_append_left _ (List.mem_of_getElem? (i := 116) rfl)))
theorem ts_607 : (Cond.stringRef "StateObserver" (141 : Nat) "no such column") ∈ tables_1 := List.mem_append_right _ (List.mem_append_right _ (List.mem_append_left _ (List.mem_of_getElem? (i := 127) rfl)))
theorem ts_615 : (Cond.stringRef "StateObserver" (162 : Nat) "no such state") ∈ tables_1 := List.mem_append_right _ (List.mem_append_right _ (List.mem_append_left _ (List.mem_of_getElem? (i := 135) rfl)))
theorem ts_619 : (Cond.stringRef "StateObserver" (185 : Nat) "no such number of a state") ∈ tables_1 := List.mem_append_right _ (List.mem_append_right _ (List.mem_append_left _ (List.mem_of_getElem? (i := 139) rfl)))
theorem ts_627 : (Cond.stringRef "StateObserver" (187 : Nat) "no such output") ∈ tables_1 := List.mem_append_right _ (List.mem_append_right _ (List.mem_append_left _ (List.mem_of_getElem? (i := 147) rfl)))
theorem ts_628 : (Cond.stringRef "StateObserver" (189 : Nat) "no such number of an output") ∈ tables_1 := List.mem_append_right _ (List.mem_append_right _ (List.mem_append_left _ (List.mem_of_getElem? (i := 148) rfl)))
theorem ts_629 : (Cond.stringRef "StateObserver" (194 : Nat) "the output was never read") ∈ tables_1 := List.mem_append_right _ (List.mem_append_right _ (List.mem_append_left _ (List.mem_of_getElem? (i := 149) rfl)))
theorem tn_638 : (Cond.methodLinkNest "StateObserver$Plant" (52 : Nat) ({ cls := "StateObserver", name := "floorQuotient", desc := "(JJ)J" } : MethodName) "StateObserver") ∈ tables_1 := List.mem_append_right _ (List.mem_append_right _ (List.mem_append_left _ (List.mem_of_getElem? (i := 158) rfl)))
theorem ts_656 : (Cond.stringRef "StateObserver" (219 : Nat) "the state cannot have this value") ∈ tables_1 := List.mem_append_right _ (List.mem_append_right _ (List.mem_append_left _ (List.mem_of_getElem? (i := 176) rfl)))
theorem ts_673 : (Cond.stringRef "StateObserver" (227 : Nat) "an input is out of its range") ∈ tables_1 := List.mem_append_right _ (List.mem_append_right _ (List.mem_append_left _ (List.mem_of_getElem? (i := 193) rfl)))
theorem tn_689 : (Cond.methodLinkNest "StateObserver$Motion" (69 : Nat) ({ cls := "StateObserver", name := "floorQuotient", desc := "(JJ)J" } : MethodName) "StateObserver") ∈ tables_1 := List.mem_append_right _ (List.mem_append_right _ (List.mem_append_left _ (List.mem_of_getElem? (i := 209) rfl)))
theorem tn_691 : (Cond.methodLinkNest "StateObserver$Motion" (80 : Nat) ({ cls := "StateObserver", name := "limited", desc := "(JI)I" } : MethodName) "StateObserver") ∈ tables_1 := List.mem_append_right _ (List.mem_append_right _ (List.mem_append_left _ (List.mem_of_getElem? (i := 211) rfl)))
theorem tn_700 : (Cond.methodLinkNest "StateObserver$Motion" (84 : Nat) ({ cls := "StateObserver", name := "copyRow", desc := "([I[I)V" } : MethodName) "StateObserver") ∈ tables_1 := List.mem_append_right _ (List.mem_append_right _ (List.mem_append_left _ (List.mem_of_getElem? (i := 220) rfl)))
theorem ts_749 : (Cond.stringRef "StateObserver" (237 : Nat) "no such number of values") ∈ tables_1 := List.mem_append_right _ (List.mem_append_right _ (List.mem_append_right _ (List.mem_append_left _ (List.mem_of_getElem? (i := 29) rfl))))
theorem ts_762 : (Cond.stringRef "StateObserver" (243 : Nat) "no such state or output") ∈ tables_1 := List.mem_append_right _ (List.mem_append_right _ (List.mem_append_right _ (List.mem_append_left _ (List.mem_of_getElem? (i := 42) rfl))))
theorem ts_763 : (Cond.stringRef "StateObserver" (245 : Nat) "no such gain") ∈ tables_1 := List.mem_append_right _ (List.mem_append_right _ (List.mem_append_right _ (List.mem_append_left _ (List.mem_of_getElem? (i := 43) rfl))))
theorem ts_771 : (Cond.stringRef "StateObserver" (247 : Nat) "no such hold") ∈ tables_1 := List.mem_append_right _ (List.mem_append_right _ (List.mem_append_right _ (List.mem_append_left _ (List.mem_of_getElem? (i := 51) rfl))))
theorem ts_779 : (Cond.stringRef "StateObserver" (249 : Nat) "no such bound") ∈ tables_1 := List.mem_append_right _ (List.mem_append_right _ (List.mem_append_right _ (List.mem_append_left _ (List.mem_of_getElem? (i := 59) rfl))))
theorem ts_787 : (Cond.stringRef "StateObserver" (254 : Nat) "no state is remembered") ∈ tables_1 := List.mem_append_right _ (List.mem_append_right _ (List.mem_append_right _ (List.mem_append_left _ (List.mem_of_getElem? (i := 67) rfl))))
theorem ts_799 : (Cond.stringRef "StateObserver" (259 : Nat) "a value for a state that does not exist") ∈ tables_1 := List.mem_append_right _ (List.mem_append_right _ (List.mem_append_right _ (List.mem_append_left _ (List.mem_of_getElem? (i := 79) rfl))))
theorem ts_809 : (Cond.stringRef "StateObserver" (263 : Nat) "no such reading") ∈ tables_1 := List.mem_append_right _ (List.mem_append_right _ (List.mem_append_right _ (List.mem_append_left _ (List.mem_of_getElem? (i := 89) rfl))))
theorem ts_817 : (Cond.stringRef "StateObserver" (269 : Nat) "steps or input out of range") ∈ tables_1 := List.mem_append_right _ (List.mem_append_right _ (List.mem_append_right _ (List.mem_append_left _ (List.mem_of_getElem? (i := 97) rfl))))
theorem ts_825 : (Cond.stringRef "StateObserver" (271 : Nat) "the input is out of its range") ∈ tables_1 := List.mem_append_right _ (List.mem_append_right _ (List.mem_append_right _ (List.mem_append_left _ (List.mem_of_getElem? (i := 105) rfl))))
theorem ts_833 : (Cond.stringRef "StateObserver" (273 : Nat) "there was no step") ∈ tables_1 := List.mem_append_right _ (List.mem_append_right _ (List.mem_append_right _ (List.mem_append_left _ (List.mem_of_getElem? (i := 113) rfl))))
theorem ts_840 : (Cond.stringRef "StateObserver" (282 : Nat) "no unknown input fits the intervals") ∈ tables_1 := List.mem_append_right _ (List.mem_append_right _ (List.mem_append_right _ (List.mem_append_left _ (List.mem_of_getElem? (i := 120) rfl))))
theorem ts_848 : (Cond.stringRef "StateObserver" (284 : Nat) "no such rank") ∈ tables_1 := List.mem_append_right _ (List.mem_append_right _ (List.mem_append_right _ (List.mem_append_left _ (List.mem_of_getElem? (i := 128) rfl))))
theorem ts_856 : (Cond.stringRef "StateObserver" (290 : Nat) "no such hidden dimension") ∈ tables_1 := List.mem_append_right _ (List.mem_append_right _ (List.mem_append_right _ (List.mem_append_left _ (List.mem_of_getElem? (i := 136) rfl))))
theorem tn_869 : (Cond.methodLinkNest "StateObserver$Ranks" (82 : Nat) ({ cls := "StateObserver", name := "removeLead", desc := "([JJ[JJI)V" } : MethodName) "StateObserver") ∈ tables_1 := List.mem_append_right _ (List.mem_append_right _ (List.mem_append_right _ (List.mem_append_left _ (List.mem_of_getElem? (i := 149) rfl))))
theorem ts_889 : (Cond.stringRef "StateObserver" (302 : Nat) "no such combination or state") ∈ tables_1 := List.mem_append_right _ (List.mem_append_right _ (List.mem_append_right _ (List.mem_append_left _ (List.mem_of_getElem? (i := 169) rfl))))
theorem tn_894 : (Cond.methodLinkNest "StateObserver$Plant" (81 : Nat) ({ cls := "StateObserver", name := "commonDivisor", desc := "(II)I" } : MethodName) "StateObserver") ∈ tables_1 := List.mem_append_right _ (List.mem_append_right _ (List.mem_append_right _ (List.mem_append_left _ (List.mem_of_getElem? (i := 174) rfl))))
theorem tn_898 : (Cond.methodLinkNest "StateObserver$Plant" (91 : Nat) ({ cls := "StateObserver", name := "quotient", desc := "(II)I" } : MethodName) "StateObserver") ∈ tables_1 := List.mem_append_right _ (List.mem_append_right _ (List.mem_append_right _ (List.mem_append_left _ (List.mem_of_getElem? (i := 178) rfl))))
theorem ts_908 : (Cond.stringRef "StateObserver" (308 : Nat) "no such combination") ∈ tables_1 := List.mem_append_right _ (List.mem_append_right _ (List.mem_append_right _ (List.mem_append_left _ (List.mem_of_getElem? (i := 188) rfl))))
theorem ts_916 : (Cond.stringRef "StateObserver" (310 : Nat) "no such number of commands") ∈ tables_1 := List.mem_append_right _ (List.mem_append_right _ (List.mem_append_right _ (List.mem_append_left _ (List.mem_of_getElem? (i := 196) rfl))))
theorem ts_918 : (Cond.stringRef "StateObserver" (314 : Nat) "the script has too many digits") ∈ tables_1 := List.mem_append_right _ (List.mem_append_right _ (List.mem_append_right _ (List.mem_append_left _ (List.mem_of_getElem? (i := 198) rfl))))
theorem ts_935 : (Cond.stringRef "StateObserver" (321 : Nat) "no such number of rounds") ∈ tables_1 := List.mem_append_right _ (List.mem_append_right _ (List.mem_append_right _ (List.mem_append_left _ (List.mem_of_getElem? (i := 215) rfl))))
theorem ts_949 : (Cond.stringRef "StateObserver" (331 : Nat) "no such slot") ∈ tables_1 := List.mem_append_right _ (List.mem_append_right _ (List.mem_append_right _ (List.mem_append_left _ (List.mem_of_getElem? (i := 229) rfl))))
theorem ts_957 : (Cond.stringRef "StateObserver" (341 : Nat) "the slot is empty") ∈ tables_1 := List.mem_append_right _ (List.mem_append_right _ (List.mem_append_right _ (List.mem_append_left _ (List.mem_of_getElem? (i := 237) rfl))))
/-- a contract out of a body, for a method whose class has natives of its own but which is none of them -/
theorem wMetF {l : Launch} {y : MethodName} {cc : ByteArray} {nL : Nat} {ret : Option FieldType} {rm : Room} {G : wG} {M : wM} {av : List Value} {lc : List (Nat × Value)} {Qc : Array Value → State → Outcome → State → Prop} {mc ms : Nat} (hy : plainFor y = true) (hlen : (lg_sl av).length ≤ nL) (hlc : lv_args 0 av = lc)
    (body : ∀ (p : Program) (e : Env) (s : State) (m : MethodId) (args : Array Value) (below : List Frame) (meth : Method) (c : Code), wX p s m args meth c G nL y.cls cc → meth.sig.returnType = ret → wV p l e rm s m args below meth c G nL M 0 0 (MQ below Qc args s mc ms (wA G)) 0 lc []) :
    Met l y (gws y cc nL ret) rm (wPc G M av) Qc mc ms (wA G) := by
  refine MetFree.of_bodySF (code := cc) (maxLocals := nL) (ret := ret) hy ?_ ?_
  · intro args s m h hn
    obtain ⟨meth, c, h1, h2, h3, h4, h5, h6, -, -⟩ := Cond.code_spec hn (atoms_spec (ws := gws y cc nL ret) h _ List.mem_cons_self)
    exact ⟨meth, c, h1, h2, h3, h4, h5, h6⟩
  · intro p e s m args below meth c s₁ B hml hv _
    obtain ⟨rfl, hW, hSt, hL, hz⟩ := hv
    have hts := atoms_spec (ws := gws y cc nL ret) B.pre
    have X : wX p s m av.toArray meth c G nL y.cls cc := ⟨B.exec, B.bytes, hml, findClass_of_methodNamed B.named, fun w hw => hts w (List.mem_cons_of_mem _ hw), hSt, hL, hz, B.notSynchronized⟩
    have hl := lv_entry av (n := nL) hlen
    have hh0 : s₁.heap = s.heap := by rw [B.state]; rfl
    have K : W p l e rm s m av.toArray below meth c s.heap [] 0 0 (MQ below Qc av.toArray s mc ms (wA G)) (entryFrame m av.toArray nL) := by
      rw [lg_entry_eq]
      generalize (lg_sl av ++ List.replicate (nL - (lg_sl av).length) Slot.unset).toArray = ls at hl ⊢
      rw [hlc] at hl
      exact body p e s m av.toArray below meth c X B.returns s.heap [] ls hW va_S.rf hl
    obtain ⟨t, a1, o, b1, b2, b3⟩ := K s₁ hh0 (Stand.of_body B)
    exact ⟨t, o, a1, b1, b2, ⟨b3.1, b3.2⟩⟩
section WR2
variable {p : Program} {l : Launch} {e : Env} {R : Room} {s : State} {m : MethodId} {args : Array Value} {below : List Frame} {meth : Method} {c : Code} {k n : Nat} {Q : State → Prop} {G : wG} {M : wM} {nL : Nat} {own : String} {cc : ByteArray} {pc pc' tgt : Nat} {lc lc' : List (Nat × Value)} {st : List Value}
theorem r_dup2 (X : wX p s m args meth c G nL own cc) {v w : Value} (hd : decode cc pc = .ok (.dup2, 1)) (hv : v.category = 1) (hw : w.category = 1) (hp : pc + 1 = pc') (kk : wV p l e R s m args below meth c G nL M k n Q pc' lc (v :: w :: v :: w :: st)) : wV p l e R s m args below meth c G nL M k n Q pc lc (v :: w :: st) := by
  subst hp; intro H locs ls hW hS hl T hT Y
  obtain ⟨t, a, b⟩ := kk H locs ls hW hS hl T hT Y
  refine ⟨t, ?_, b⟩
  have hx := X.1
  have hb := X.2.1
  jvm_step Y.here [Y.here.top, hx, hb, hd, hv, hw]
  exact a
theorem q_xor_neg {a b : Int} (ha : rJ a) (hb : rJ b) : (Int64.ofInt a ^^^ Int64.ofInt b).toInt < 0 ↔ ((a < 0 ∧ ¬ b < 0) ∨ (¬ a < 0 ∧ b < 0)) := by
  have m : ∀ x : Int64, x.toInt < 0 ↔ x.toBitVec.msb = true := fun x => by
    rw [BitVec.msb_eq_toInt, decide_eq_true_eq]
    exact Iff.rfl
  rw [m, Int64.toBitVec_xor, BitVec.msb_xor]
  have h1 := m (Int64.ofInt a)
  have h2 := m (Int64.ofInt b)
  rw [q_J ha] at h1
  rw [q_J hb] at h2
  rw [h1, h2]
  cases (Int64.ofInt a).toBitVec.msb <;> cases (Int64.ofInt b).toBitVec.msb <;> simp
theorem r_lxor (X : wX p s m args meth c G nL own cc) {a b : Int} (hd : decode cc pc = .ok (.lxor, 1)) (ha : rJ a) (hb : rJ b) (hp : pc + 1 = pc') (kk : ∀ z : Int, rJ z → (z < 0 ↔ ((a < 0 ∧ ¬ b < 0) ∨ (¬ a < 0 ∧ b < 0))) → wV p l e R s m args below meth c G nL M k n Q pc' lc (vJ z :: st)) : wV p l e R s m args below meth c G nL M k n Q pc lc (vJ b :: vJ a :: st) := by
  subst hp; intro H locs ls hW hS hl
  refine lv_lxor X.1 X.2.1 hd ?_
  have h := kk (Int64.ofInt a ^^^ Int64.ofInt b).toInt ⟨by have := Int64.le_toInt (Int64.ofInt a ^^^ Int64.ofInt b); simpa using this, by have := Int64.toInt_lt (Int64.ofInt a ^^^ Int64.ofInt b); omega⟩ (q_xor_neg ha hb) H locs ls hW hS hl
  unfold vJ at h
  rw [Int64.ofInt_toInt] at h
  exact h
theorem r_tsw (X : wX p s m args meth c G nL own cc) {z v dflt lo hi off : Int} {offs : Array Int} {len : Nat} (hd : decode cc pc = .ok (.tableswitch dflt lo hi offs, len)) (hz : z = v) (hr : rI v) (h1 : ¬ v < lo) (h2 : ¬ hi < v) (ho : offs[(v - lo).toNat]? = some off) (ht : (pc : Int) + off = (tgt : Int)) (kk : wV p l e R s m args below meth c G nL M k n Q tgt lc st) : wV p l e R s m args below meth c G nL M k n Q pc lc (vI z :: st) := by
  subst hz; intro H locs ls hW hS hl
  exact lv_tableIn (x := Int32.ofInt z) X.1 X.2.1 hd (by rw [q_I hr]; exact h1) (by rw [q_I hr]; exact h2) (by rw [q_I hr]; exact ho) ht (kk H locs ls hW hS hl)
theorem r_tswD (X : wX p s m args meth c G nL own cc) {z dflt lo hi : Int} {offs : Array Int} {len : Nat} (hd : decode cc pc = .ok (.tableswitch dflt lo hi offs, len)) (h : z < lo ∨ hi < z) (hr : rI z) (ht : (pc : Int) + dflt = (tgt : Int)) (kk : wV p l e R s m args below meth c G nL M k n Q tgt lc st) : wV p l e R s m args below meth c G nL M k n Q pc lc (vI z :: st) := by
  intro H locs ls hW hS hl
  exact lv_tableOut (x := Int32.ofInt z) X.1 X.2.1 hd (by rw [q_I hr]; exact h) ht (kk H locs ls hW hS hl)
theorem q_arr_ext {cI : ClassId} {N : Nat} {f g : Nat → Value} (h : ∀ i, i < N → f i = g i) : arrV cI N f = arrV cI N g := by
  unfold arrV
  have e : (fun j : Fin N => f j.val) = fun j : Fin N => g j.val := funext fun j => h j.val j.isLt
  rw [e]
/-- one row copied into another of the same length: ints -/
theorem w_copy {t : Nat} (htt : t = 0 ∨ t = 1) (X : wX p s m args meth c G nL own cc) {o j o2 j2 N index : Nat} {rf rf2 : Nat → Nat × Nat} (hk : wkd o j = some (.inr (t, N, rf))) (hk2 : wkd o2 j2 = some (.inr (t, N, rf2))) (hN : N ≤ 100000) (hlink : Cond.methodLink own index arraycopyName ∈ GW) (hnat : Cond.native arraycopyName ∈ GW) (hstat : Cond.static arraycopyName ∈ GW) (hini : Cond.initialized "java/lang/System" ∈ GW) (hframes : 1 ≤ R.frames) (hlocals : (st.map fun v => v.category).sum + (nativeFrameWords "java/lang/System" "arraycopy" 5 + 11) ≤ R.locals) (hd : decode cc pc = .ok (.invokestatic index, 3)) (hp : pc + 3 = pc')
    (kk : ∀ M1 : wM, M1 = wr M o2 j2 (M o j) → wV p l e R s m args below meth c G nL M1 k n Q pc' lc st) : wV p l e R s m args below meth c G nL M k n Q pc lc (vI (N : Int) :: vI 0 :: vR G (o2, j2) :: vI 0 :: vR G (o, j) :: st) := by
  subst hp; intro H locs ls hW hS hl T hT Y
  have hc0 : H[G.2.2.1 o j]? = some (arrV (G.1 t) N (wAr G (M o j) t rf)) := hW o j _ hk
  have hc1 : H[G.2.2.1 o2 j2]? = some (arrV (G.1 t) N (wAr G (M o2 j2) t rf2)) := hW o2 j2 _ hk2
  have ht7 : t < 7 := by omega
  have hprim : refKind (wty t) = false := by rcases htt with rfl | rfl <;> rfl
  obtain ⟨-, k0, hk0, cm0, hkk0⟩ := X.arr (t := t) ht7 N (wAr G (M o j) t rf)
  obtain ⟨-, k1, hk1, cm1, hkk1⟩ := X.arr (t := t) ht7 N (wAr G (M o2 j2) t rf2)
  have hn : (Int32.ofInt (N : Int)).toInt = (N : Int) := q_I ⟨by omega, by omega⟩
  have hn0 : (Int32.ofInt (0 : Int)).toInt = 0 := rfl
  have hcl : (Int32.ofInt (N : Int)).toNatClampNeg = N := by
    show (Int32.ofInt (N : Int)).toInt.toNat = N
    rw [hn]; rfl
  have hcl0 : (Int32.ofInt (0 : Int)).toNatClampNeg = 0 := rfl
  have neg : ∀ z : Nat, z ≤ 100000 → ¬ Int32.ofInt (z : Int) < 0 := fun z hz h => by
    rw [← q_I0, q_Ilt ⟨by omega, by omega⟩ ⟨by omega, by omega⟩] at h
    omega
  obtain ⟨vm', X', step⟩ := Y.arraycopy X.1 X.ownC (X.w hlink) (X.w hnat) (X.w hstat) (X.w hini) (src := G.2.2.1 o j) (dst := G.2.2.1 o2 j2) (cs := arrV (G.1 t) N (wAr G (M o j) t rf)) (cd := arrV (G.1 t) N (wAr G (M o2 j2) t rf2)) (srcPos := Int32.ofInt 0) (destPos := Int32.ofInt 0) (n := Int32.ofInt (N : Int)) (by rw [hT]; exact hc0) (by rw [hT]; exact hc1)
    (fun _ h => by cases h) (fun _ h => by cases h) (fun h => by cases h) (fun h => by cases h) hk0 hk1 hkk0 hkk1 (by simp [hprim]) (neg 0 (by omega)) (neg 0 (by omega)) (neg N hN)
    (by rw [hn0, hn]; show ¬ _ > ((arrV (G.1 t) N (wAr G (M o j) t rf)).slots.size : Int); rw [arrV_size]; omega)
    (by rw [hn0, hn]; show ¬ _ > ((arrV (G.1 t) N (wAr G (M o2 j2) t rf2)).slots.size : Int); rw [arrV_size]; omega)
    (fun vm₁ _ i hi => by
      rw [hcl] at hi
      have e : (arrV (G.1 t) N (wAr G (M o j) t rf)).slots.getD ((Int32.ofInt (0 : Int)).toNatClampNeg + i) .null = wAr G (M o j) t rf i := by
        rw [hcl0, Nat.zero_add, Array.getD_eq_getD_getElem?, arrV_read _ _ hi]
        rfl
      rw [e]
      rcases htt with rfl | rfl
      · exact ⟨rfl, trivial⟩
      · exact ⟨rfl, trivial⟩)
    (g := F0 m pc ls (vI (N : Int) :: vI 0 :: vR G (o2, j2) :: vI 0 :: vR G (o, j) :: st)) rfl (by rw [X.2.2.1]; exact hl.1) (rest := st) rfl (by rw [X.2.1]; exact hd) hframes (by show 2 * 0 + _ + _ ≤ _; omega)
  have e1 : copied (arrV (G.1 t) N (wAr G (M o j) t rf)) (arrV (G.1 t) N (wAr G (M o2 j2) t rf2)) (Int32.ofInt 0) (Int32.ofInt 0) (Int32.ofInt (N : Int)) = arrV (G.1 t) N (wAr G (M o j) t rf2) := by
    unfold copied
    rw [hcl, hcl0, va_copied (fun v => v) (G.1 t) (G.1 t) (wAr G (M o j) t rf) (wAr G (M o2 j2) t rf2) (by omega)]
    refine q_arr_ext fun i hi => ?_
    show va_cpy _ _ 0 0 N i = _
    unfold va_cpy
    rw [if_pos ⟨by omega, by omega⟩, show 0 + (i - 0) = i by omega]
    unfold wAr
    rcases htt with rfl | rfl <;> rfl
  rw [e1] at X' step
  have hlt : G.2.2.1 o2 j2 < H.size := (Array.getElem?_eq_some_iff.mp hc1).1
  have hheap : ((T.setVm vm').setCell (G.2.2.1 o2 j2) (arrV (G.1 t) N (wAr G (M o j) t rf2))).heap = H.setIfInBounds (G.2.2.1 o2 j2) (arrV (G.1 t) N (wAr G (M o j) t rf2)) := by rw [← hT]; rfl
  have oq : ∀ q : Nat, q ≠ G.2.2.1 o2 j2 → (H.setIfInBounds (G.2.2.1 o2 j2) (arrV (G.1 t) N (wAr G (M o j) t rf2)))[q]? = H[q]? := fun q hq => by simp [Array.getElem?_setIfInBounds, Ne.symm hq]
  have hA : wA G (G.2.2.1 o2 j2) := X.lay.2 o2 j2 (by rw [hk2]; rfl)
  obtain ⟨t2, a1, b1⟩ := kk _ rfl (H.setIfInBounds (G.2.2.1 o2 j2) (arrV (G.1 t) N (wAr G (M o j) t rf2))) _ ls (hW.set X.lay hk2 (by
      show (H.setIfInBounds _ _)[G.2.2.1 o2 j2]? = some (arrV (G.1 t) N (wAr G (wr M o2 j2 (M o j) o2 j2) t rf2))
      rw [wr_eq]
      simp [Array.getElem?_setIfInBounds, hlt]) oq (fun a b h => wr_ne h)) ⟨by simp; exact hS.1, fun q g1 g2 => by
      rw [oq q (fun e => g2 (by rw [e]; exact hA))]
      exact hS.2.1 q g1 g2, fun q hq => by
      rcases List.mem_append.mp hq with h | h
      · exact hS.2.2 q h
      · obtain ⟨z, -, hz⟩ := List.mem_map.mp h
        rw [← hz]
        exact hA⟩ hl _ hheap X'
  exact ⟨t2, step t2 a1, b1⟩
theorem r_copyI (X : wX p s m args meth c G nL own cc) {o j o2 j2 N index : Nat} (hk : wkd o j = some (.inr (0, N, wNr))) (hk2 : wkd o2 j2 = some (.inr (0, N, wNr))) (hN : N ≤ 100000) (hlink : Cond.methodLink own index arraycopyName ∈ GW) (hnat : Cond.native arraycopyName ∈ GW) (hstat : Cond.static arraycopyName ∈ GW) (hini : Cond.initialized "java/lang/System" ∈ GW) (hframes : 1 ≤ R.frames) (hlocals : (st.map fun v => v.category).sum + (nativeFrameWords "java/lang/System" "arraycopy" 5 + 11) ≤ R.locals) (hd : decode cc pc = .ok (.invokestatic index, 3)) (hp : pc + 3 = pc')
    (kk : ∀ M1 : wM, M1 = wr M o2 j2 (M o j) → wV p l e R s m args below meth c G nL M1 k n Q pc' lc st) : wV p l e R s m args below meth c G nL M k n Q pc lc (vI (N : Int) :: vI 0 :: vR G (o2, j2) :: vI 0 :: vR G (o, j) :: st) := w_copy (Or.inl rfl) X hk hk2 hN hlink hnat hstat hini hframes hlocals hd hp kk
theorem r_copyJ (X : wX p s m args meth c G nL own cc) {o j o2 j2 N index : Nat} (hk : wkd o j = some (.inr (1, N, wNr))) (hk2 : wkd o2 j2 = some (.inr (1, N, wNr))) (hN : N ≤ 100000) (hlink : Cond.methodLink own index arraycopyName ∈ GW) (hnat : Cond.native arraycopyName ∈ GW) (hstat : Cond.static arraycopyName ∈ GW) (hini : Cond.initialized "java/lang/System" ∈ GW) (hframes : 1 ≤ R.frames) (hlocals : (st.map fun v => v.category).sum + (nativeFrameWords "java/lang/System" "arraycopy" 5 + 11) ≤ R.locals) (hd : decode cc pc = .ok (.invokestatic index, 3)) (hp : pc + 3 = pc')
    (kk : ∀ M1 : wM, M1 = wr M o2 j2 (M o j) → wV p l e R s m args below meth c G nL M1 k n Q pc' lc st) : wV p l e R s m args below meth c G nL M k n Q pc lc (vI (N : Int) :: vI 0 :: vR G (o2, j2) :: vI 0 :: vR G (o, j) :: st) := w_copy (Or.inr rfl) X hk hk2 hN hlink hnat hstat hini hframes hlocals hd hp kk
/-- 'throw new E("text")' in StateObserver's own methods -/
abbrev wNm : List String := ["java/lang/RuntimeException", "java/lang/Exception"]
abbrev wBx (cls : String) : List Cond := [.declares (Bundle.initS "java/lang/RuntimeException"), .declares (Bundle.initS "java/lang/Exception"), .declares (Bundle.initS Bundle.tN), .castable cls cls]
theorem r_th {cls text : String} {ik is ic mc ms : Nat} {Qc : Array Value → State → Outcome → State → Prop} {P : String → wM → Prop} (X : wX p s m args meth c G nL RX8 cc) (hfl : l.stackTraces = false) (hex : ∀ x ∈ c.exceptionTable.toList, False) (hcls : Bundle.fit cls = true) (hini : Cond.initialized cls ∈ GW) (hg : ∀ w ∈ (vx_atS RX8 ic cls wNm).filter goodWord, w ∈ GW) (hB : ∀ w ∈ (vx_atS RX8 ic cls wNm).filter (fun w => !goodWord w), w ∈ wBx cls) (hot : ∀ w ∈ Cond.classLink RX8 ik cls :: Cond.initialized cls :: vx_atS RX8 ic cls wNm, vx_ot w = true) (hca : Cond.castable cls cls ∈ tables_1)
    (hk : Cond.classLink RX8 ik cls ∈ GW) (hst : Cond.stringRef RX8 is text ∈ tables_1)
    (d0 : decode cc pc = .ok (.new ik, 3)) (d3 : decode cc (pc + 3) = .ok (.dup, 1)) (d4 : (decode cc (pc + 4) = .ok (.ldc is, 2) ∧ decode cc (pc + 6) = .ok (.invokespecial ic, 3) ∧ decode cc (pc + 9) = .ok (.athrow, 1)) ∨ (decode cc (pc + 4) = .ok (.ldc_w is, 3) ∧ decode cc (pc + 7) = .ok (.invokespecial ic, 3) ∧ decode cc (pc + 10) = .ok (.athrow, 1)))
    (hf : 5 < R.frames) (hlo : (st.map fun v => v.category).sum + 82 ≤ R.locals) (hc : k + 1 ≤ mc ∧ mc ≤ R.cells) (hs : n + 6 ≤ ms ∧ ms ≤ R.slots) (h : P cls M) : wV p l e R s m args below meth c G nL M k n (vx_MQ below Qc (wQx G P) args s mc ms (wA G)) pc lc st := by
  intro H locs ls hW hS hl
  have hbs : ∀ w ∈ wBx cls, w.before args s = true := by
    intro w hw
    have he := X.sta.2.2.2.2
    simp only [wBx, List.mem_cons, List.not_mem_nil, or_false] at hw
    rcases hw with rfl | rfl | rfl | rfl
    · exact va_Nw.use rfl (he.2.2.2.1 _ to_445)
    · exact va_Nw.use rfl (he.2.2.2.1 _ to_447)
    · exact va_Nw.use rfl (he.2.2.2.1 _ to_449)
    · exact va_Nw.use rfl (he.2.2.1 _ _ hca)
  have hat : ∀ w ∈ vx_atS RX8 ic cls wNm, w.before args s = true := vx_hat (fun w hw => X.w (hg w hw)) hB hbs
  obtain ⟨sa, hsa⟩ := X.sta.2.2.2.2.1 is text hst
  have hfit : ∀ q ∈ wNm, Bundle.fit q = true := by decide
  have hx : ∀ t : State, s.vm.Alike t.vm → H.size ≤ t.heap.size → (∀ q : Nat, q < H.size → t.heap[q]? = H[q]?) → wQx G P cls s t := fun t _ hz hq =>
    ⟨⟨M, h, hW.kept hq⟩, Nat.le_trans hS.1 hz, fun q h1 h2 => (hq q (Nat.lt_of_lt_of_le h1 hS.1)).trans (hS.2.1 q h1 h2)⟩
  rcases d4 with ⟨d4, d6, d9⟩ | ⟨d4, d6, d9⟩
  · exact vx_throwS (A := wA G) (names := wNm) (sa := sa) X.1 X.2.1 hfl X.ownC hcls hfit (X.w hk) (X.w hini) hsa hat hot X.sta.2.2.1 X.sta.2.2.2.1 hS (hl.1.trans X.2.2.1.symm) d0 d3 d4 d6 d9 (fun x hx => (hex x hx).elim) (by show 2 + 3 < _; omega) (by show _ + (13 * (2 + 1) + 43) ≤ _; omega) (by omega) (by omega) X.locks hx hS.2.2 hc.1 hs.1
  · exact vx_throwSW (A := wA G) (names := wNm) (sa := sa) X.1 X.2.1 hfl X.ownC hcls hfit (X.w hk) (X.w hini) hsa hat hot X.sta.2.2.1 X.sta.2.2.2.1 hS (hl.1.trans X.2.2.1.symm) d0 d3 d4 d6 d9 (fun x hx => (hex x hx).elim) (by show 2 + 3 < _; omega) (by show _ + (13 * (2 + 1) + 43) ≤ _; omega) (by omega) (by omega) X.locks hx hS.2.2 hc.1 hs.1
end WR2
theorem hg_A0 : ∀ w ∈ (vx_atS RX8 69 "java/lang/IllegalArgumentException" wNm).filter goodWord, w ∈ lw_tbl := by decide +kernel
theorem hg_A : ∀ w ∈ (vx_atS RX8 69 "java/lang/IllegalArgumentException" wNm).filter goodWord, w ∈ GW := fun w h => List.mem_filter.mpr ⟨hg_A0 w h, (List.mem_filter.mp h).2⟩
theorem hB_A : ∀ w ∈ (vx_atS RX8 69 "java/lang/IllegalArgumentException" wNm).filter (fun w => !goodWord w), w ∈ wBx "java/lang/IllegalArgumentException" := by decide +kernel
theorem ho_A : ∀ w ∈ Cond.classLink RX8 65 "java/lang/IllegalArgumentException" :: Cond.initialized "java/lang/IllegalArgumentException" :: vx_atS RX8 69 "java/lang/IllegalArgumentException" wNm, vx_ot w = true := by decide +kernel
theorem r_thA {p : Program} {l : Launch} {e : Env} {R : Room} {s : State} {m : MethodId} {args : Array Value} {below : List Frame} {meth : Method} {c : Code} {k n : Nat} {G : wG} {M : wM} {nL : Nat} {cc : ByteArray} {pc : Nat} {lc : List (Nat × Value)} {st : List Value} {text : String} {is mc ms : Nat} {Qc : Array Value → State → Outcome → State → Prop} {P : String → wM → Prop} (X : wX p s m args meth c G nL RX8 cc) (hfl : l.stackTraces = false) (hex : ∀ x ∈ c.exceptionTable.toList, False) (hk : Cond.classLink RX8 65 "java/lang/IllegalArgumentException" ∈ GW) (hst : Cond.stringRef RX8 is text ∈ tables_1) (d0 : decode cc pc = .ok (.new 65, 3)) (d3 : decode cc (pc + 3) = .ok (.dup, 1)) (d4 : decode cc (pc + 4) = .ok (.ldc is, 2)) (d6 : decode cc (pc + 6) = .ok (.invokespecial 69, 3)) (d9 : decode cc (pc + 9) = .ok (.athrow, 1)) (hf : 5 < R.frames) (hlo : (st.map fun v => v.category).sum + 82 ≤ R.locals) (hc : k + 1 ≤ mc ∧ mc ≤ R.cells) (hs : n + 6 ≤ ms ∧ ms ≤ R.slots) (h : P "java/lang/IllegalArgumentException" M) : wV p l e R s m args below meth c G nL M k n (vx_MQ below Qc (wQx G P) args s mc ms (wA G)) pc lc st := r_th X hfl hex (by decide) gw_14 hg_A hB_A ho_A to_443 hk hst d0 d3 (Or.inl ⟨d4, d6, d9⟩) hf hlo hc hs h
theorem r_thAW {p : Program} {l : Launch} {e : Env} {R : Room} {s : State} {m : MethodId} {args : Array Value} {below : List Frame} {meth : Method} {c : Code} {k n : Nat} {G : wG} {M : wM} {nL : Nat} {cc : ByteArray} {pc : Nat} {lc : List (Nat × Value)} {st : List Value} {text : String} {is mc ms : Nat} {Qc : Array Value → State → Outcome → State → Prop} {P : String → wM → Prop} (X : wX p s m args meth c G nL RX8 cc) (hfl : l.stackTraces = false) (hex : ∀ x ∈ c.exceptionTable.toList, False) (hk : Cond.classLink RX8 65 "java/lang/IllegalArgumentException" ∈ GW) (hst : Cond.stringRef RX8 is text ∈ tables_1) (d0 : decode cc pc = .ok (.new 65, 3)) (d3 : decode cc (pc + 3) = .ok (.dup, 1)) (d4 : decode cc (pc + 4) = .ok (.ldc_w is, 3)) (d6 : decode cc (pc + 7) = .ok (.invokespecial 69, 3)) (d9 : decode cc (pc + 10) = .ok (.athrow, 1)) (hf : 5 < R.frames) (hlo : (st.map fun v => v.category).sum + 82 ≤ R.locals) (hc : k + 1 ≤ mc ∧ mc ≤ R.cells) (hs : n + 6 ≤ ms ∧ ms ≤ R.slots) (h : P "java/lang/IllegalArgumentException" M) : wV p l e R s m args below meth c G nL M k n (vx_MQ below Qc (wQx G P) args s mc ms (wA G)) pc lc st := r_th X hfl hex (by decide) gw_14 hg_A hB_A ho_A to_443 hk hst d0 d3 (Or.inr ⟨d4, d6, d9⟩) hf hlo hc hs h
theorem hg_S0 : ∀ w ∈ (vx_atS RX8 80 "java/lang/IllegalStateException" wNm).filter goodWord, w ∈ lw_tbl := by decide +kernel
theorem hg_S : ∀ w ∈ (vx_atS RX8 80 "java/lang/IllegalStateException" wNm).filter goodWord, w ∈ GW := fun w h => List.mem_filter.mpr ⟨hg_S0 w h, (List.mem_filter.mp h).2⟩
theorem hB_S : ∀ w ∈ (vx_atS RX8 80 "java/lang/IllegalStateException" wNm).filter (fun w => !goodWord w), w ∈ wBx "java/lang/IllegalStateException" := by decide +kernel
theorem ho_S : ∀ w ∈ Cond.classLink RX8 76 "java/lang/IllegalStateException" :: Cond.initialized "java/lang/IllegalStateException" :: vx_atS RX8 80 "java/lang/IllegalStateException" wNm, vx_ot w = true := by decide +kernel
theorem r_thS {p : Program} {l : Launch} {e : Env} {R : Room} {s : State} {m : MethodId} {args : Array Value} {below : List Frame} {meth : Method} {c : Code} {k n : Nat} {G : wG} {M : wM} {nL : Nat} {cc : ByteArray} {pc : Nat} {lc : List (Nat × Value)} {st : List Value} {text : String} {is mc ms : Nat} {Qc : Array Value → State → Outcome → State → Prop} {P : String → wM → Prop} (X : wX p s m args meth c G nL RX8 cc) (hfl : l.stackTraces = false) (hex : ∀ x ∈ c.exceptionTable.toList, False) (hk : Cond.classLink RX8 76 "java/lang/IllegalStateException" ∈ GW) (hst : Cond.stringRef RX8 is text ∈ tables_1) (d0 : decode cc pc = .ok (.new 76, 3)) (d3 : decode cc (pc + 3) = .ok (.dup, 1)) (d4 : decode cc (pc + 4) = .ok (.ldc is, 2)) (d6 : decode cc (pc + 6) = .ok (.invokespecial 80, 3)) (d9 : decode cc (pc + 9) = .ok (.athrow, 1)) (hf : 5 < R.frames) (hlo : (st.map fun v => v.category).sum + 82 ≤ R.locals) (hc : k + 1 ≤ mc ∧ mc ≤ R.cells) (hs : n + 6 ≤ ms ∧ ms ≤ R.slots) (h : P "java/lang/IllegalStateException" M) : wV p l e R s m args below meth c G nL M k n (vx_MQ below Qc (wQx G P) args s mc ms (wA G)) pc lc st := r_th X hfl hex (by decide) gw_15 hg_S hB_S ho_S to_511 hk hst d0 d3 (Or.inl ⟨d4, d6, d9⟩) hf hlo hc hs h
theorem r_thSW {p : Program} {l : Launch} {e : Env} {R : Room} {s : State} {m : MethodId} {args : Array Value} {below : List Frame} {meth : Method} {c : Code} {k n : Nat} {G : wG} {M : wM} {nL : Nat} {cc : ByteArray} {pc : Nat} {lc : List (Nat × Value)} {st : List Value} {text : String} {is mc ms : Nat} {Qc : Array Value → State → Outcome → State → Prop} {P : String → wM → Prop} (X : wX p s m args meth c G nL RX8 cc) (hfl : l.stackTraces = false) (hex : ∀ x ∈ c.exceptionTable.toList, False) (hk : Cond.classLink RX8 76 "java/lang/IllegalStateException" ∈ GW) (hst : Cond.stringRef RX8 is text ∈ tables_1) (d0 : decode cc pc = .ok (.new 76, 3)) (d3 : decode cc (pc + 3) = .ok (.dup, 1)) (d4 : decode cc (pc + 4) = .ok (.ldc_w is, 3)) (d6 : decode cc (pc + 7) = .ok (.invokespecial 80, 3)) (d9 : decode cc (pc + 10) = .ok (.athrow, 1)) (hf : 5 < R.frames) (hlo : (st.map fun v => v.category).sum + 82 ≤ R.locals) (hc : k + 1 ≤ mc ∧ mc ≤ R.cells) (hs : n + 6 ≤ ms ∧ ms ≤ R.slots) (h : P "java/lang/IllegalStateException" M) : wV p l e R s m args below meth c G nL M k n (vx_MQ below Qc (wQx G P) args s mc ms (wA G)) pc lc st := r_th X hfl hex (by decide) gw_15 hg_S hB_S ho_S to_511 hk hst d0 d3 (Or.inr ⟨d4, d6, d9⟩) hf hlo hc hs h
theorem hg_X0 : ∀ w ∈ (vx_atS RX8 136 "java/lang/IndexOutOfBoundsException" wNm).filter goodWord, w ∈ lw_tbl := by decide +kernel
theorem hg_X : ∀ w ∈ (vx_atS RX8 136 "java/lang/IndexOutOfBoundsException" wNm).filter goodWord, w ∈ GW := fun w h => List.mem_filter.mpr ⟨hg_X0 w h, (List.mem_filter.mp h).2⟩
theorem hB_X : ∀ w ∈ (vx_atS RX8 136 "java/lang/IndexOutOfBoundsException" wNm).filter (fun w => !goodWord w), w ∈ wBx "java/lang/IndexOutOfBoundsException" := by decide +kernel
theorem ho_X : ∀ w ∈ Cond.classLink RX8 132 "java/lang/IndexOutOfBoundsException" :: Cond.initialized "java/lang/IndexOutOfBoundsException" :: vx_atS RX8 136 "java/lang/IndexOutOfBoundsException" wNm, vx_ot w = true := by decide +kernel
theorem r_thX {p : Program} {l : Launch} {e : Env} {R : Room} {s : State} {m : MethodId} {args : Array Value} {below : List Frame} {meth : Method} {c : Code} {k n : Nat} {G : wG} {M : wM} {nL : Nat} {cc : ByteArray} {pc : Nat} {lc : List (Nat × Value)} {st : List Value} {text : String} {is mc ms : Nat} {Qc : Array Value → State → Outcome → State → Prop} {P : String → wM → Prop} (X : wX p s m args meth c G nL RX8 cc) (hfl : l.stackTraces = false) (hex : ∀ x ∈ c.exceptionTable.toList, False) (hk : Cond.classLink RX8 132 "java/lang/IndexOutOfBoundsException" ∈ GW) (hst : Cond.stringRef RX8 is text ∈ tables_1) (d0 : decode cc pc = .ok (.new 132, 3)) (d3 : decode cc (pc + 3) = .ok (.dup, 1)) (d4 : decode cc (pc + 4) = .ok (.ldc is, 2)) (d6 : decode cc (pc + 6) = .ok (.invokespecial 136, 3)) (d9 : decode cc (pc + 9) = .ok (.athrow, 1)) (hf : 5 < R.frames) (hlo : (st.map fun v => v.category).sum + 82 ≤ R.locals) (hc : k + 1 ≤ mc ∧ mc ≤ R.cells) (hs : n + 6 ≤ ms ∧ ms ≤ R.slots) (h : P "java/lang/IndexOutOfBoundsException" M) : wV p l e R s m args below meth c G nL M k n (vx_MQ below Qc (wQx G P) args s mc ms (wA G)) pc lc st := r_th X hfl hex (by decide) gw_18 hg_X hB_X ho_X to_589 hk hst d0 d3 (Or.inl ⟨d4, d6, d9⟩) hf hlo hc hs h
theorem r_thXW {p : Program} {l : Launch} {e : Env} {R : Room} {s : State} {m : MethodId} {args : Array Value} {below : List Frame} {meth : Method} {c : Code} {k n : Nat} {G : wG} {M : wM} {nL : Nat} {cc : ByteArray} {pc : Nat} {lc : List (Nat × Value)} {st : List Value} {text : String} {is mc ms : Nat} {Qc : Array Value → State → Outcome → State → Prop} {P : String → wM → Prop} (X : wX p s m args meth c G nL RX8 cc) (hfl : l.stackTraces = false) (hex : ∀ x ∈ c.exceptionTable.toList, False) (hk : Cond.classLink RX8 132 "java/lang/IndexOutOfBoundsException" ∈ GW) (hst : Cond.stringRef RX8 is text ∈ tables_1) (d0 : decode cc pc = .ok (.new 132, 3)) (d3 : decode cc (pc + 3) = .ok (.dup, 1)) (d4 : decode cc (pc + 4) = .ok (.ldc_w is, 3)) (d6 : decode cc (pc + 7) = .ok (.invokespecial 136, 3)) (d9 : decode cc (pc + 10) = .ok (.athrow, 1)) (hf : 5 < R.frames) (hlo : (st.map fun v => v.category).sum + 82 ≤ R.locals) (hc : k + 1 ≤ mc ∧ mc ≤ R.cells) (hs : n + 6 ≤ ms ∧ ms ≤ R.slots) (h : P "java/lang/IndexOutOfBoundsException" M) : wV p l e R s m args below meth c G nL M k n (vx_MQ below Qc (wQx G P) args s mc ms (wA G)) pc lc st := r_th X hfl hex (by decide) gw_18 hg_X hB_X ho_X to_589 hk hst d0 d3 (Or.inr ⟨d4, d6, d9⟩) hf hlo hc hs h
