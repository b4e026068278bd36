/-! CONSTRUCTORS: the reference *and its first row* -/
section CR2
variable {p : Program} {l : Launch} {e : Env} {R : Room} {s : State} {m : MethodId} {args : Array Value} {below : List Frame} {meth : Method} {c : Code} {k n : Nat} {Q : State → Prop} {G : wG} {nL : Nat} {own : String} {cc : ByteArray} {pc pc' tgt : Nat} {lc lc' : List (Nat × Value)} {st : List Value} {h nn : Nat} {T : Nat → cC} {H0 : Heap}
theorem cr_iadd (X : wX p s m args meth c G nL own cc) {a b : Int} (hd : decode cc pc = .ok (.iadd, 1)) (hp : pc + 1 = pc') (kk : cV p l e R s m args below meth c G nL h nn T H0 k n Q pc' lc (vI (a + b) :: st)) : cV p l e R s m args below meth c G nL h nn T H0 k n Q pc lc (vI b :: vI a :: st) := by
  subst hp; intro H locs ls hW hS hl
  refine lv_iadd X.1 X.2.1 hd ?_
  rw [← Int32.ofInt_add]
  exact kk H locs ls hW hS hl

theorem tU_tU {T : Nat → cC} {i : Nat} {x y : cC} : tU (tU T i x) i y = tU T i y := by
  funext j
  unfold tU
  by_cases q : j = i
  · rw [if_pos q, if_pos q]
  · rw [if_neg q, if_neg q, if_neg q]
theorem tU_at {T : Nat → cC} {i : Nat} {x : cC} : tU T i x i = x := if_pos rfl
theorem cr_vretE (X : wX p s m args meth c G nL own cc) {T' : Nat → cC} (hr : meth.sig.returnType = none) (hd : decode cc pc = .ok (.return_, 1)) (he : ∀ i, i < nn → ∀ a H, kCell G a H (T i) → kCell G a H (T' i)) : cV p l e R s m args below meth c G nL h nn T H0 k n (MQ below (cQv G h nn T' H0) args s k n (wA G)) pc lc [] := by
  intro H locs ls hW hS hl
  exact W.vret X.1 X.2.1 hr (fun t ht hWm => ⟨⟨(), rfl, trivial, by show cW G h nn T' t.heap H0; rw [ht]; exact ⟨hW.1, fun i hi => he i hi _ _ (hW.2.1 i hi), hW.2.2⟩⟩, hS.F ht⟩) hS.2.2 hd X.locks
theorem cMetS {y : MethodName} {rm : Room} {av : List Value} {Qc : Array Value → State → Outcome → State → Prop} {mc ms : Nat} (hy : plainName y.cls = true) (hlen : (lg_sl av).length ≤ nL) (hlc : lv_args 0 av = lc)
    (body : ∀ (p : Program) (e : Env) (s : State) (m : MethodId) (args : Array Value) (below : List Frame) (meth : Method) (c : Code), wX p s m args meth c G nL y.cls cc → cN G s → G.2.2.2 ≤ h → meth.sig.returnType = none → cV p l e rm s m args below meth c G nL h nn T H0 0 0 (MQ below Qc args s mc ms (wA G)) 0 lc []) :
    Met l y (gws y cc nL none) rm (cPc G h nn T H0 av) Qc mc ms (wA G) := by
  refine Met.ofW (cc := cc) (maxL := nL) (ret := none) hy rfl ?_
  intro p e s m args below meth c s₁ B hml hv
  obtain ⟨rfl, hW, hSt, hcN, hL, hz⟩ := hv
  have hts := atoms_spec (ws := gws y cc nL none) B.pre
  have X : wX p s m av.toArray meth c G nL y.cls cc := ⟨B.exec, B.bytes, hml, findClass_of_methodNamed B.named, fun w hw => hts w (List.mem_cons_of_mem _ hw), hSt, hL, by have := hW.1; omega, B.notSynchronized⟩
  have hl := lv_entry av (n := nL) hlen
  rw [lg_entry_eq]
  generalize (lg_sl av ++ List.replicate (nL - (lg_sl av).length) Slot.unset).toArray = ls at hl ⊢
  rw [hlc] at hl
  exact body p e s m av.toArray below meth c X hcN hz B.returns s.heap [] ls hW va_S.rf hl
theorem cr_runS (X : wX p s m args meth c G nL own cc) (hN : cN G s) (hb : G.2.2.2 ≤ h) {index maxL N : Nat} {y : MethodName} {bytes : ByteArray} {rm : Room} {T' : Nat → cC} {As : List Value} (hM : Met l y (gws y bytes maxL none) rm (cPc G h nn T H0 As) (cQv G h nn T' H0) 0 0 (wA G)) (hy : wCal y bytes maxL none N) (hstat : Cond.static y ∈ GW) (hrc : rm.cells = 0) (hrs : rm.slots = 0) (hR : rm.frames + 1 ≤ R.frames ∧ 8 + (maxL + 11) + rm.locals ≤ R.locals) (hn : As.length = N) (hcat : (st.map fun v => v.category).sum ≤ 8) (hf : k + 0 ≤ R.cells ∧ n + 0 ≤ R.slots) (hlink : Cond.methodLink own index y ∈ GW) (hd : decode cc pc = .ok (.invokestatic index, 3)) (hp : pc + 3 = pc')
    (kk : cV p l e R s m args below meth c G nL h nn T' H0 k n Q pc' lc st) : cV p l e R s m args below meth c G nL h nn T H0 k n Q pc lc (As.reverse ++ st) := by
  subst hp; intro H locs ls hW hS hl
  have hr : va_Run p l e R s m args below meth c H locs k n 0 0 (F0 m pc ls (As.reverse ++ st)) st (cQv G h nn T' H0 As.toArray) (wA G) :=
    va_runS (As := As) (rest := st) X.fix hM ⟨X.callB hy hlink hrc hrs hR, X.w hstat⟩ ⟨cPc_blind, fun U hU hWm => ⟨rfl, by rw [hU]; exact hW, wSt.warm (locs := locs) hWm (by rw [hU]; exact hS) X.sta, hN.warm hWm, X.lay, hb⟩⟩ rfl hn hl.1 rfl (lv_room hcat) hd hf
  refine va_callv hr hS (fun q _ h => h) (fun q h => h) (fun u t H1 locs1 ht hvm hpo hB hz hk hS1 => ?_)
  rw [ht] at hB
  exact kk H1 locs1 ls hB hS1 hl
end CR2
set_option maxRecDepth 100000 in
set_option maxHeartbeats 4000000 in
theorem c2_layFirst (l : Launch) (G : wG) (h nn i : Nat) (T : Nat → cC) (H0 : Heap) (f0 : Nat → Value) (hk : T i = .inr (0, 48, f0)) (hi : i < nn) : Met l yX9_layFirst (gws yX9_layFirst cX9_layFirst 2 none) (wrm 0 0 0) (cPc G h nn T H0 [.ref (h + i)]) (cQv G h nn (tU T i (.inr (0, 48, fun x => vI (layF x)))) H0) 0 0 (wA G) := by
  refine cMetS (lc := [(0, .ref (h + i))]) (by decide) (Nat.le_of_ble_eq_true rfl) rfl ?_
  intro p e s m args below meth c X hN hb hr
  have X : wX p s m args meth c G 2 "StateObserverModel" cX9_layFirst := X
  have eT : T = tU T i (.inr (0, 48, f0)) := by
    funext j
    unfold tU
    by_cases q : j = i
    · rw [if_pos q, q, hk]
    · rw [if_neg q]
  have L50 : ∀ (fu k : Nat) (f : Nat → Value), 3 - k < fu → k ≤ 3 → (∀ x, x < 48 → f x = vI (if 4 ≤ x ∧ x < 8 then -1000 else if 8 ≤ x ∧ x < 12 then 1000 else if 34 ≤ x ∧ x < 34 + k then -1 else 0)) → cV p l e (wrm 0 0 0) s m args below meth c G 2 h nn (tU T i (.inr (0, 48, f))) H0 0 0 (MQ below (cQv G h nn (tU T i (.inr (0, 48, fun x => vI (layF x)))) H0) args s 0 0 (wA G)) 50 [(0, .ref (h + i)), (1, vI (k : Int))] [] := by
    intro fu
    induction fu with
    | zero => intro k f hfu; exact absurd hfu (Nat.not_lt_zero _)
    | succ fu ih =>
      intro k f hfu hk3 hf
      refine cr_iload_n (pc' := 51) X 1 dX9_layFirst_50 rfl rfl rfl ?_
      refine cr_iconst (pc' := 52) X dX9_layFirst_51 rfl ?_
      refine cr_icmp_ge (pc' := 55) (tgt := 68) X dX9_layFirst_52 rfl rfl (by omega) (by omega) (fun hh => ?_) (fun hh => ?_)
      · refine cr_vretE X hr dX9_layFirst_68 (fun j hj a H hc => ?_)
        unfold tU at hc ⊢
        by_cases q : j = i
        · rw [if_pos q] at hc ⊢
          show H[a]? = some (arrV (G.1 0) 48 _)
          have e : arrV (G.1 0) 48 f = arrV (G.1 0) 48 (fun x => vI (layF x)) := arr_below fun x hx => by
            rw [hf x hx, show k = 3 by omega]
            rfl
          exact (show H[a]? = some (arrV (G.1 0) 48 f) from hc).trans (congrArg some e)
        · rw [if_neg q] at hc ⊢; exact hc
      · refine cr_aload_n (pc' := 56) X 0 dX9_layFirst_55 rfl rfl rfl ?_
        refine cr_bipush (pc' := 58) X dX9_layFirst_56 rfl rfl ?_
        refine cr_iload_n (pc' := 59) X 1 dX9_layFirst_58 rfl rfl rfl ?_
        refine cr_iadd (pc' := 60) X dX9_layFirst_59 rfl ?_
        refine cr_iconst (pc' := 61) X dX9_layFirst_60 rfl ?_
        refine cr_iast (i := i) (N := 48) (j := 34 + k) (f := f) (pc' := 62) X rfl tU_at hi hb (by omega) (by omega) (by decide) dX9_layFirst_61 rfl ?_
        rw [tU_tU]
        refine cr_iinc (pc' := 65) (z' := ((k + 1 : Nat) : Int)) (lc' := [(0, .ref (h + i)), (1, vI ((k + 1 : Nat) : Int))]) X 1 [1, 0] dX9_layFirst_62 rfl (by omega) (by decide) rfl rfl ?_
        refine cr_goto (tgt := 50) X dX9_layFirst_65 rfl ?_
        refine ih (k + 1) _ (by omega) (by omega) (fun x hx => ?_)
        unfold updV
        by_cases q : x = 34 + k
        · rw [if_pos q, if_neg (by omega), if_neg (by omega), if_pos (by omega)]
        · rw [if_neg q, hf x hx]
          refine congrArg vI ?_
          split
          · rfl
          · split
            · rfl
            · by_cases c1 : 34 ≤ x ∧ x < 34 + k
              · rw [if_pos c1, if_pos (by omega)]
              · rw [if_neg c1, if_neg (by omega)]
  have L20 : ∀ (fu k : Nat) (f : Nat → Value), 4 - k < fu → k ≤ 4 → (∀ x, x < 48 → f x = vI (if 4 ≤ x ∧ x < 4 + k then -1000 else if 8 ≤ x ∧ x < 8 + k then 1000 else 0)) → cV p l e (wrm 0 0 0) s m args below meth c G 2 h nn (tU T i (.inr (0, 48, f))) H0 0 0 (MQ below (cQv G h nn (tU T i (.inr (0, 48, fun x => vI (layF x)))) H0) args s 0 0 (wA G)) 20 [(0, .ref (h + i)), (1, vI (k : Int))] [] := by
    intro fu
    induction fu with
    | zero => intro k f hfu; exact absurd hfu (Nat.not_lt_zero _)
    | succ fu ih =>
      intro k f hfu hk3 hf
      refine cr_iload_n (pc' := 21) X 1 dX9_layFirst_20 rfl rfl rfl ?_
      refine cr_iconst (pc' := 22) X dX9_layFirst_21 rfl ?_
      refine cr_icmp_ge (pc' := 25) (tgt := 48) X dX9_layFirst_22 rfl rfl (by omega) (by omega) (fun hh => ?_) (fun hh => ?_)
      · refine cr_iconst (pc' := 49) X dX9_layFirst_48 rfl ?_
        refine cr_istore_n (pc' := 50) (lc' := [(0, .ref (h + i)), (1, vI ((0 : Nat) : Int))]) X [1, 0] dX9_layFirst_49 rfl (by decide) rfl rfl ?_
        refine L50 4 0 f (by omega) (by omega) (fun x hx => ?_)
        rw [hf x hx, show k = 4 by omega]
        refine congrArg vI ?_
        by_cases c1 : 4 ≤ x ∧ x < 8
        · rw [if_pos c1, if_pos c1]
        · rw [if_neg c1, if_neg c1]
          by_cases c2 : 8 ≤ x ∧ x < 12
          · rw [if_pos c2, if_pos c2]
          · rw [if_neg c2, if_neg c2, if_neg (by omega)]
      · refine cr_aload_n (pc' := 26) X 0 dX9_layFirst_25 rfl rfl rfl ?_
        refine cr_iconst (pc' := 27) X dX9_layFirst_26 rfl ?_
        refine cr_iload_n (pc' := 28) X 1 dX9_layFirst_27 rfl rfl rfl ?_
        refine cr_iadd (pc' := 29) X dX9_layFirst_28 rfl ?_
        refine cr_sipush (pc' := 32) X dX9_layFirst_29 rfl rfl ?_
        refine cr_iast (i := i) (N := 48) (j := 4 + k) (f := f) (pc' := 33) X rfl tU_at hi hb (by omega) (by omega) (by decide) dX9_layFirst_32 rfl ?_
        rw [tU_tU]
        refine cr_aload_n (pc' := 34) X 0 dX9_layFirst_33 rfl rfl rfl ?_
        refine cr_bipush (pc' := 36) X dX9_layFirst_34 rfl rfl ?_
        refine cr_iload_n (pc' := 37) X 1 dX9_layFirst_36 rfl rfl rfl ?_
        refine cr_iadd (pc' := 38) X dX9_layFirst_37 rfl ?_
        refine cr_sipush (pc' := 41) X dX9_layFirst_38 rfl rfl ?_
        refine cr_iast (i := i) (N := 48) (j := 8 + k) (f := updV f (4 + k) (vI (-1000))) (pc' := 42) X rfl tU_at hi hb (by omega) (by omega) (by decide) dX9_layFirst_41 rfl ?_
        rw [tU_tU]
        refine cr_iinc (pc' := 45) (z' := ((k + 1 : Nat) : Int)) (lc' := [(0, .ref (h + i)), (1, vI ((k + 1 : Nat) : Int))]) X 1 [1, 0] dX9_layFirst_42 rfl (by omega) (by decide) rfl rfl ?_
        refine cr_goto (tgt := 20) X dX9_layFirst_45 rfl ?_
        refine ih (k + 1) _ (by omega) (by omega) (fun x hx => ?_)
        unfold updV
        by_cases q : x = 8 + k
        · rw [if_pos q, if_neg (by omega), if_pos (by omega)]
        · rw [if_neg q]
          by_cases q2 : x = 4 + k
          · rw [if_pos q2, if_pos (by omega)]
          · rw [if_neg q2, hf x hx]
            refine congrArg vI ?_
            by_cases c1 : 4 ≤ x ∧ x < 4 + k
            · rw [if_pos c1, if_pos (by omega)]
            · rw [if_neg c1, if_neg (show ¬ (4 ≤ x ∧ x < 4 + (k + 1)) by omega)]
              by_cases c2 : 8 ≤ x ∧ x < 8 + k
              · rw [if_pos c2, if_pos (by omega)]
              · rw [if_neg c2, if_neg (by omega)]
  have L2 : ∀ (fu k : Nat) (f : Nat → Value), 48 - k < fu → k ≤ 48 → (∀ x, x < k → f x = vI 0) → cV p l e (wrm 0 0 0) s m args below meth c G 2 h nn (tU T i (.inr (0, 48, f))) H0 0 0 (MQ below (cQv G h nn (tU T i (.inr (0, 48, fun x => vI (layF x)))) H0) args s 0 0 (wA G)) 2 [(0, .ref (h + i)), (1, vI (k : Int))] [] := by
    intro fu
    induction fu with
    | zero => intro k f hfu; exact absurd hfu (Nat.not_lt_zero _)
    | succ fu ih =>
      intro k f hfu hk3 hf
      refine cr_iload_n (pc' := 3) X 1 dX9_layFirst_2 rfl rfl rfl ?_
      refine cr_bipush (pc' := 5) X dX9_layFirst_3 rfl rfl ?_
      refine cr_icmp_ge (pc' := 8) (tgt := 18) X dX9_layFirst_5 rfl rfl (by omega) (by omega) (fun hh => ?_) (fun hh => ?_)
      · refine cr_iconst (pc' := 19) X dX9_layFirst_18 rfl ?_
        refine cr_istore_n (pc' := 20) (lc' := [(0, .ref (h + i)), (1, vI ((0 : Nat) : Int))]) X [1, 0] dX9_layFirst_19 rfl (by decide) rfl rfl ?_
        refine L20 5 0 f (by omega) (by omega) (fun x hx => ?_)
        rw [hf x (by omega), if_neg (by omega), if_neg (by omega)]
      · refine cr_aload_n (pc' := 9) X 0 dX9_layFirst_8 rfl rfl rfl ?_
        refine cr_iload_n (pc' := 10) X 1 dX9_layFirst_9 rfl rfl rfl ?_
        refine cr_iconst (pc' := 11) X dX9_layFirst_10 rfl ?_
        refine cr_iast (i := i) (N := 48) (j := k) (f := f) (pc' := 12) X rfl tU_at hi hb (by omega) (by omega) (by decide) dX9_layFirst_11 rfl ?_
        rw [tU_tU]
        refine cr_iinc (pc' := 15) (z' := ((k + 1 : Nat) : Int)) (lc' := [(0, .ref (h + i)), (1, vI ((k + 1 : Nat) : Int))]) X 1 [1, 0] dX9_layFirst_12 rfl (by omega) (by decide) rfl rfl ?_
        refine cr_goto (tgt := 2) X dX9_layFirst_15 rfl ?_
        refine ih (k + 1) _ (by omega) (by omega) (fun x hx => ?_)
        unfold updV
        by_cases q : x = k
        · rw [if_pos q]
        · rw [if_neg q]; exact hf x (by omega)
  refine cr_iconst (pc' := 1) X dX9_layFirst_0 rfl ?_
  refine cr_istore_n (pc' := 2) (lc' := [(0, .ref (h + i)), (1, vI ((0 : Nat) : Int))]) X [1, 0] dX9_layFirst_1 rfl (by decide) rfl rfl ?_
  have key := L2 49 0 f0 (by omega) (by omega) (fun x hx => absurd hx (Nat.not_lt_zero x))
  rw [← eT] at key
  exact key
