/-! the skeleton's own text -/
/-! THE CLAIM OUT OF ONE WALK OF THE LAW'S BODY. Your part is whole_start (and what it stands on); all else here is the same for every law, but numbers. -/
def R_law : String := "StateObserverLaw"
def lw_P (b : Addr) (xs : List Int32) (args : Array Value) (s : State) : Prop := args = #[.ref b] ∧ s.IntsAt b xs ∧ xs.length ≤ 2560 ∧ (Jvm.Cond.and given_1 narrow_1).before args s = true
def lw_Q (_ : Array Value) (s : State) (o : Outcome) (t : State) : Prop := o = .returned (some (.int 1)) ∧ Framed s o t [] 622674 7228083
def lw_Z (below : List Frame) (a : Array Value) (s : State) : State → Prop := fun t => ∃ o, t.status = .running ∧ Ended t below o ∧ lw_Q a s o t
/-- the law's own end, with 1 on the stack, nothing written that was there before, its room as the claim has it -/
theorem lw_ret {p : Program} {l : Launch} {e : Env} {s : State} {m : MethodId} {below : List Frame} {meth : Method} {c : Code} {b : Nat} (hx : p.tables.exec = Jvm.exec) (hb : c.code = code) (hr : meth.sig.returnType = ret) (hlocks : meth.locks = false) {pc : Nat} {H : Heap} {ls : Array Slot} (hdg : decode code pc = .ok (.ireturn, 1)) : W p l e room_1 s m #[Value.ref b] below meth c H [] 622674 7228083 (lw_Z below #[Value.ref b] s) (F0 m pc ls [.int 1]) := by
  intro T hT X
  obtain ⟨fs, hret, hrun, hended, hW, hframe⟩ := X.leave (v := some (.int 1)) (hlocks := hlocks) (fun h => by rw [hr] at h; cases h)
  have hmeth' : T.vm.method? m = some meth := X.method'
  refine ⟨T.setFrames fs, ?_, .returned (some (.int 1)), hrun, hended, rfl, ⟨_, rfl⟩, hW, hframe⟩
  jvm_step X.here [X.here.top, hx, hb, hdg, hmeth', hr, ret, narrow_b1]
  (try refine ⟨rfl, ?_⟩); (try refine ⟨rfl, ?_⟩)
  first | (intro acts; rw [hret _ acts rfl rfl rfl]) | rw [hret _ _ rfl rfl rfl]
  exact Steps.refl _
/-- what holds at the law's entry: the machine, the code, the tables' words (any of lw_tbl by 'hts w (by decide +kernel)'), the script of L ints xs at the cell b, what the Statement gives of the start (any of its parts by flat_of_before) -/
def lw_At (p : Program) (s : State) (m : MethodId) (meth : Method) (c : Code) (b L : Nat) (xs : Nat → Int32) : Prop :=
  p.tables.exec = Jvm.exec ∧ c.code = code ∧ meth.sig.returnType = ret ∧ c.maxLocals = 8 ∧ s.vm.findClass R_law = some m.cls ∧ (∀ w ∈ lw_tbl, w.before #[Value.ref b] s = true) ∧ va_X b L xs s s.heap ∧ b < s.heap.size ∧ meth.locks = false ∧ (Jvm.Cond.and given_1 narrow_1).before #[Value.ref b] s = true
/-! THE LAW: its end, its loop, its start -/
theorem hfl_of {l : Launch} (h : l.flags = flags0) : l.stackTraces = false := by
  unfold Launch.stackTraces
  rw [h]
  decide
section WZC
variable {p : Program} {l : Launch} {e : Env} {R : Room} {s : State} {m : MethodId} {args : Array Value} {below : List Frame} {meth : Method} {c : Code} {k n : Nat} {Q : State → Prop} {G : wG} {nL : Nat} {own : String} {cc : ByteArray} {pc pc' tgt : Nat} {lc lc' : List (Nat × Value)} {st : List Value} {h nn : Nat} {T : Nat → cC} {H0 : Heap}
theorem cr_astore_n (X : wX p s m args meth c G nL own cc) {f : Fin 4} {i z : Nat} (ps : List Nat) (hd : decode cc pc = .ok (.astore_n f, 1)) (hi : (f : Nat) = i) (hn : i < nL) (hl : lv_pick (w_st1 lc i (.ref z)) ps = lc') (hp : pc + 1 = pc') (kk : cV p l e R s m args below meth c G nL h nn T H0 k n Q pc' lc' st) : cV p l e R s m args below meth c G nL h nn T H0 k n Q pc lc (.ref z :: st) := by
  subst hp; intro H locs ls hW hS hl0
  exact lv_astore_n X.1 X.2.1 hd hi hl0 hn rfl (fun ls' h' => kk H locs ls' hW hS (lv_sub h' ps hl))
theorem cr_istore (X : wX p s m args meth c G nL own cc) {i : Nat} {z : Int} (ps : List Nat) (hd : decode cc pc = .ok (.istore i, 2)) (hn : i < nL) (hl : lv_pick (w_st1 lc i (vI z)) ps = lc') (hp : pc + 2 = pc') (kk : cV p l e R s m args below meth c G nL h nn T H0 k n Q pc' lc' st) : cV p l e R s m args below meth c G nL h nn T H0 k n Q pc lc (vI z :: st) := by
  subst hp; intro H locs ls hW hS hl0
  exact lv_istore X.1 X.2.1 hd hl0 hn rfl (fun ls' h' => kk H locs ls' hW hS (lv_sub h' ps hl))
end WZC
section WZ
variable {p : Program} {l : Launch} {e : Env} {s : State} {m : MethodId} {below : List Frame} {meth : Method} {c : Code} {G : wG} {b Ls : Nat} {xs : Nat → Int32}
theorem w_end {M : wM} {k n : Nat} {lc : List (Nat × Value)} (hbase : G.2.2.2 = s.heap.size) (X : wX p s m #[Value.ref b] meth c G 8 "StateObserverLaw" cL_law) (hr : meth.sig.returnType = ret) (hk : k ≤ 622674) (hn : n ≤ 7228083) : wV p l e room_1 s m #[Value.ref b] below meth c G 8 M k n (lw_Z below #[Value.ref b] s) 2150 lc [vI 1] := by
  intro H locs ls hW hS hl
  refine va_forget (fun q hq => by rw [← hbase]; exact hS.2.2 q hq) ?_
  refine W.widen (k := 622674) (n := 7228083) hk hn ?_
  exact lw_ret X.1 X.2.1 hr X.locks dL_law_2150
set_option maxRecDepth 100000 in
set_option maxHeartbeats 4000000 in
theorem law_loop (hbase : G.2.2.2 = s.heap.size) (X : wX p s m #[Value.ref b] meth c G 8 "StateObserverLaw" cL_law) (hfl : l.stackTraces = false) (hX : va_X b Ls xs s s.heap) (hbl : b < s.heap.size) (hLs : Ls ≤ 2560) (hr : meth.sig.returnType = ret) : ∀ (fu t : Nat) (M : wM), 512 < t + fu → t ≤ 512 → LR (t : Int) M → wV p l e room_1 s m #[Value.ref b] below meth c G 8 M (351 + t) (2973 + 44 + 6 * t) (lw_Z below #[Value.ref b] s) 23 [(0, .ref b), (1, vR G (28, 0)), (2, vR G (29, 0)), (3, vR G (30, 0)), (4, vI ((5 * t : Nat) : Int))] [] := by
  have hbA : ¬ wA G b := fun q => by
    unfold wA at q
    rw [hbase] at q
    exact absurd hbl (Nat.not_lt.mpr q)
  intro fu
  induction fu with
  | zero => intro t M h1 h2; exfalso; omega
  | succ fu ih =>
    intro t M h1 h2 hLR
    refine r_iload (pc' := 25) X 4 dL_law_23 rfl rfl ?_
    refine r_aloadB_n (pc' := 26) X 0 dL_law_25 rfl rfl rfl ?_
    refine r_slen (pc' := 27) X hX hbl hbA dL_law_26 rfl ?_
    refine r_iconst (pc' := 28) X dL_law_27 rfl ?_
    refine r_isub (pc' := 29) X dL_law_28 rfl ?_
    refine r_icmp_gt (pc' := 32) (tgt := 2149) X dL_law_29 rfl rfl (by omega) (by omega) (fun h29 => ?_) (fun h29 => ?_)
    · refine r_iconst (pc' := 2150) X dL_law_2149 rfl ?_
      exact w_end hbase X hr (by omega) (by omega)
    · have h5 : 5 * t + 5 ≤ Ls := by omega
      refine r_aloadB_n (pc' := 33) X 0 dL_law_32 rfl rfl rfl ?_
      refine r_iload (pc' := 35) X 4 dL_law_33 rfl rfl ?_
      refine r_sld (i := 5 * t) (pc' := 36) X hX hbl hbA rfl (by omega) (by omega) dL_law_35 rfl ?_
      refine r_bipush (pc' := 38) X dL_law_36 rfl rfl ?_
      refine r_iand31 (pc' := 39) X dL_law_38 rfl (fun z hz => ?_)
      have next : ∀ M1, LR ((t : Int) + 1) M1 → wV p l e room_1 s m #[Value.ref b] below meth c G 8 M1 (351 + t + 1) (2973 + 44 + 6 * t + 6) (lw_Z below #[Value.ref b] s) 2143 [(0, .ref b), (1, vR G (28, 0)), (2, vR G (29, 0)), (3, vR G (30, 0)), (4, vI ((5 * t : Nat) : Int))] [] := by
        intro M1 h3
        refine r_iinc (pc' := 2146) (z' := ((5 * (t + 1) : Nat) : Int)) (lc' := [(0, .ref b), (1, vR G (28, 0)), (2, vR G (29, 0)), (3, vR G (30, 0)), (4, vI ((5 * (t + 1) : Nat) : Int))]) X 4 [1, 2, 3, 4, 0] dL_law_2143 rfl (by omega) (by decide) rfl rfl ?_
        refine r_goto (tgt := 23) X dL_law_2146 rfl ?_
        exact ih (t + 1) M1 (by omega) (by omega) h3
      rcases (show z = 0 ∨ z = 1 ∨ z = 2 ∨ z = 3 ∨ z = 4 ∨ z = 5 ∨ z = 6 ∨ z = 7 ∨ z = 8 ∨ z = 9 ∨ z = 10 ∨ z = 11 ∨ z = 12 ∨ z = 13 ∨ z = 14 ∨ z = 15 ∨ z = 16 ∨ z = 17 ∨ z = 18 ∨ z = 19 ∨ z = 20 ∨ z = 21 ∨ z = 22 ∨ z = 23 ∨ z = 24 ∨ z = 25 ∨ z = 26 ∨ z = 27 ∨ z = 28 ∨ z = 29 ∨ z = 30 ∨ z = 31 by omega) with h9 | h9 | h9 | h9 | h9 | h9 | h9 | h9 | h9 | h9 | h9 | h9 | h9 | h9 | h9 | h9 | h9 | h9 | h9 | h9 | h9 | h9 | h9 | h9 | h9 | h9 | h9 | h9 | h9 | h9 | h9 | h9
      · refine r_tsw (v := 0) (tgt := 180) X dL_law_39 h9 (by decide) (by decide) (by decide) rfl rfl ?_
        exact lc_0 X hfl hX hbl hbA hLs h5 (by omega) hLR (by decide) (by decide) (by show _ ≤ 622674; omega) (by show _ ≤ 7228083; omega) next
      · refine r_tsw (v := 1) (tgt := 236) X dL_law_39 h9 (by decide) (by decide) (by decide) rfl rfl ?_
        exact lc_1 X hfl hX hbl hbA hLs h5 (by omega) hLR (by decide) (by decide) (by show _ ≤ 622674; omega) (by show _ ≤ 7228083; omega) next
      · refine r_tsw (v := 2) (tgt := 249) X dL_law_39 h9 (by decide) (by decide) (by decide) rfl rfl ?_
        exact lc_2 X hfl hX hbl hbA hLs h5 (by omega) hLR (by decide) (by decide) (by show _ ≤ 622674; omega) (by show _ ≤ 7228083; omega) next
      · refine r_tsw (v := 3) (tgt := 262) X dL_law_39 h9 (by decide) (by decide) (by decide) rfl rfl ?_
        exact lc_3 X hfl hX hbl hbA hLs h5 (by omega) hLR (by decide) (by decide) (by show _ ≤ 622674; omega) (by show _ ≤ 7228083; omega) next
      · refine r_tsw (v := 4) (tgt := 306) X dL_law_39 h9 (by decide) (by decide) (by decide) rfl rfl ?_
        exact lc_4 X hfl hX hbl hbA hLs h5 (by omega) hLR (by decide) (by decide) (by show _ ≤ 622674; omega) (by show _ ≤ 7228083; omega) next
      · refine r_tsw (v := 5) (tgt := 362) X dL_law_39 h9 (by decide) (by decide) (by decide) rfl rfl ?_
        exact lc_5 X hfl hX hbl hbA hLs h5 (by omega) hLR (by decide) (by decide) (by show _ ≤ 622674; omega) (by show _ ≤ 7228083; omega) next
      · refine r_tsw (v := 6) (tgt := 442) X dL_law_39 h9 (by decide) (by decide) (by decide) rfl rfl ?_
        exact lc_6 X hfl hX hbl hbA hLs h5 (by omega) hLR (by decide) (by decide) (by show _ ≤ 622674; omega) (by show _ ≤ 7228083; omega) next
      · refine r_tsw (v := 7) (tgt := 510) X dL_law_39 h9 (by decide) (by decide) (by decide) rfl rfl ?_
        exact lc_7 X hfl hX hbl hbA hLs h5 (by omega) hLR (by decide) (by decide) (by show _ ≤ 622674; omega) (by show _ ≤ 7228083; omega) next
      · refine r_tsw (v := 8) (tgt := 578) X dL_law_39 h9 (by decide) (by decide) (by decide) rfl rfl ?_
        exact lc_8 X hfl hX hbl hbA hLs h5 (by omega) hLR (by decide) (by decide) (by show _ ≤ 622674; omega) (by show _ ≤ 7228083; omega) next
      · refine r_tsw (v := 9) (tgt := 591) X dL_law_39 h9 (by decide) (by decide) (by decide) rfl rfl ?_
        exact lc_9 X hfl hX hbl hbA hLs h5 (by omega) hLR (by decide) (by decide) (by show _ ≤ 622674; omega) (by show _ ≤ 7228083; omega) next
      · refine r_tsw (v := 10) (tgt := 659) X dL_law_39 h9 (by decide) (by decide) (by decide) rfl rfl ?_
        exact lc_10 X hfl hX hbl hbA hLs h5 (by omega) hLR (by decide) (by decide) (by show _ ≤ 622674; omega) (by show _ ≤ 7228083; omega) next
      · refine r_tsw (v := 11) (tgt := 727) X dL_law_39 h9 (by decide) (by decide) (by decide) rfl rfl ?_
        exact lc_11 X hfl hX hbl hbA hLs h5 (by omega) hLR (by decide) (by decide) (by show _ ≤ 622674; omega) (by show _ ≤ 7228083; omega) next
      · refine r_tsw (v := 12) (tgt := 783) X dL_law_39 h9 (by decide) (by decide) (by decide) rfl rfl ?_
        exact lc_12 X hfl hX hbl hbA hLs h5 (by omega) hLR (by decide) (by decide) (by show _ ≤ 622674; omega) (by show _ ≤ 7228083; omega) next
      · refine r_tsw (v := 13) (tgt := 851) X dL_law_39 h9 (by decide) (by decide) (by decide) rfl rfl ?_
        exact lc_13 X hfl hX hbl hbA hLs h5 (by omega) hLR (by decide) (by decide) (by show _ ≤ 622674; omega) (by show _ ≤ 7228083; omega) next
      · refine r_tsw (v := 14) (tgt := 931) X dL_law_39 h9 (by decide) (by decide) (by decide) rfl rfl ?_
        exact lc_14 X hfl hX hbl hbA hLs h5 (by omega) hLR (by decide) (by decide) (by show _ ≤ 622674; omega) (by show _ ≤ 7228083; omega) next
      · refine r_tsw (v := 15) (tgt := 987) X dL_law_39 h9 (by decide) (by decide) (by decide) rfl rfl ?_
        exact lc_15 X hfl hX hbl hbA hLs h5 (by omega) hLR (by decide) (by decide) (by show _ ≤ 622674; omega) (by show _ ≤ 7228083; omega) next
      · refine r_tsw (v := 16) (tgt := 1043) X dL_law_39 h9 (by decide) (by decide) (by decide) rfl rfl ?_
        exact lc_16 X hfl hX hbl hbA hLs h5 (by omega) hLR (by decide) (by decide) (by show _ ≤ 622674; omega) (by show _ ≤ 7228083; omega) next
      · refine r_tsw (v := 17) (tgt := 1087) X dL_law_39 h9 (by decide) (by decide) (by decide) rfl rfl ?_
        exact lc_17 X hfl hX hbl hbA hLs h5 (by omega) hLR (by decide) (by decide) (by show _ ≤ 622674; omega) (by show _ ≤ 7228083; omega) next
      · refine r_tsw (v := 18) (tgt := 1186) X dL_law_39 h9 (by decide) (by decide) (by decide) rfl rfl ?_
        exact lc_18 X hfl hX hbl hbA hLs h5 (by omega) hLR (by decide) (by decide) (by show _ ≤ 622674; omega) (by show _ ≤ 7228083; omega) next
      · refine r_tsw (v := 19) (tgt := 1254) X dL_law_39 h9 (by decide) (by decide) (by decide) rfl rfl ?_
        exact lc_19 X hfl hX hbl hbA hLs h5 (by omega) hLR (by decide) (by decide) (by show _ ≤ 622674; omega) (by show _ ≤ 7228083; omega) next
      · refine r_tsw (v := 20) (tgt := 1362) X dL_law_39 h9 (by decide) (by decide) (by decide) rfl rfl ?_
        exact lc_20 X hfl hX hbl hbA hLs h5 (by omega) hLR (by decide) (by decide) (by show _ ≤ 622674; omega) (by show _ ≤ 7228083; omega) next
      · refine r_tsw (v := 21) (tgt := 1470) X dL_law_39 h9 (by decide) (by decide) (by decide) rfl rfl ?_
        exact lc_21 X hfl hX hbl hbA hLs h5 (by omega) hLR (by decide) (by decide) (by show _ ≤ 622674; omega) (by show _ ≤ 7228083; omega) next
      · refine r_tsw (v := 22) (tgt := 1542) X dL_law_39 h9 (by decide) (by decide) (by decide) rfl rfl ?_
        exact lc_22 X hfl hX hbl hbA hLs h5 (by omega) hLR (by decide) (by decide) (by show _ ≤ 622674; omega) (by show _ ≤ 7228083; omega) next
      · refine r_tsw (v := 23) (tgt := 1598) X dL_law_39 h9 (by decide) (by decide) (by decide) rfl rfl ?_
        exact lc_23 X hfl hX hbl hbA hLs h5 (by omega) hLR (by decide) (by decide) (by show _ ≤ 622674; omega) (by show _ ≤ 7228083; omega) next
      · refine r_tsw (v := 24) (tgt := 1611) X dL_law_39 h9 (by decide) (by decide) (by decide) rfl rfl ?_
        exact lc_24 X hfl hX hbl hbA hLs h5 (by omega) hLR (by decide) (by decide) (by show _ ≤ 622674; omega) (by show _ ≤ 7228083; omega) next
      · refine r_tsw (v := 25) (tgt := 1667) X dL_law_39 h9 (by decide) (by decide) (by decide) rfl rfl ?_
        exact lc_25 X hfl hX hbl hbA hLs h5 (by omega) hLR (by decide) (by decide) (by show _ ≤ 622674; omega) (by show _ ≤ 7228083; omega) next
      · refine r_tsw (v := 26) (tgt := 1680) X dL_law_39 h9 (by decide) (by decide) (by decide) rfl rfl ?_
        exact lc_26 X hfl hX hbl hbA hLs h5 (by omega) hLR (by decide) (by decide) (by show _ ≤ 622674; omega) (by show _ ≤ 7228083; omega) next
      · refine r_tsw (v := 27) (tgt := 1748) X dL_law_39 h9 (by decide) (by decide) (by decide) rfl rfl ?_
        exact lc_27 X hfl hX hbl hbA hLs h5 (by omega) hLR (by decide) (by decide) (by show _ ≤ 622674; omega) (by show _ ≤ 7228083; omega) next
      · refine r_tsw (v := 28) (tgt := 1832) X dL_law_39 h9 (by decide) (by decide) (by decide) rfl rfl ?_
        exact lc_28 X hfl hX hbl hbA hLs h5 (by omega) hLR (by decide) (by decide) (by show _ ≤ 622674; omega) (by show _ ≤ 7228083; omega) next
      · refine r_tsw (v := 29) (tgt := 1932) X dL_law_39 h9 (by decide) (by decide) (by decide) rfl rfl ?_
        exact lc_29 X hfl hX hbl hbA hLs h5 (by omega) hLR (by decide) (by decide) (by show _ ≤ 622674; omega) (by show _ ≤ 7228083; omega) next
      · refine r_tsw (v := 30) (tgt := 2031) X dL_law_39 h9 (by decide) (by decide) (by decide) rfl rfl ?_
        exact lc_30 X hfl hX hbl hbA hLs h5 (by omega) hLR (by decide) (by decide) (by show _ ≤ 622674; omega) (by show _ ≤ 7228083; omega) next
      · refine r_tsw (v := 31) (tgt := 2087) X dL_law_39 h9 (by decide) (by decide) (by decide) rfl rfl ?_
        exact lc_31 X hfl hX hbl hbA hLs h5 (by omega) hLR (by decide) (by decide) (by show _ ≤ 622674; omega) (by show _ ≤ 7228083; omega) next
end WZ
theorem M0_lr : LR ((0 : Nat) : Int) M0 := by
  refine ⟨1, 1, 0, 0, 0, ?_, ?_, ?_, ?_, ?_, rfl, rfl, rfl, by decide, rfl, rfl, by decide, fun t h => absurd h (Nat.not_lt_zero t), fun s hs => ?_, ?_⟩
  · refine ⟨rfl, by decide, by decide, rfl, by decide, by decide, fun a i ha hi => ?_, fun i hi => ?_, fun i hi => ?_, fun k i hk hi => ?_, fun k hk => ?_⟩
    · rw [show a = 0 by omega, show i = 0 by omega]; decide
    · rw [show i = 0 by omega]; decide
    · rw [show i = 0 by omega]; decide
    · rw [show k = 0 by omega, show i = 0 by omega]; decide
    · rw [show k = 0 by omega]; decide
  · refine ⟨rfl, rfl, fun a i ha hi => ?_, fun i hi => ?_, fun i hi => ?_, fun k i hk hi => ?_, fun k hk => ?_⟩
    · rw [show a = 0 by omega, show i = 0 by omega]; rfl
    · rw [show i = 0 by omega]; rfl
    · rw [show i = 0 by omega]; rfl
    · rw [show k = 0 by omega, show i = 0 by omega]; rfl
    · rw [show k = 0 by omega]; rfl
  · refine ⟨fun i j hi hj hj4 => ?_, fun k j hk hj hj4 => ?_⟩
    · rcases (show j = 1 ∨ j = 2 ∨ j = 3 by omega) with rfl | rfl | rfl <;> rw [show i = 0 by omega] <;> rfl
    · rcases (show j = 1 ∨ j = 2 ∨ j = 3 by omega) with rfl | rfl | rfl <;> rw [show k = 0 by omega] <;> rfl
  · refine MR.first (by decide) (by decide) (by decide) ⟨fun i _ => ⟨rfl, rfl, rfl, rfl, rfl, rfl⟩, fun k _ => ⟨rfl, rfl⟩, rfl, rfl, rfl⟩ (by decide) (by decide) (fun x y hx _ => ?_) rfl rfl (fun x y hx hy => ?_) (fun i _ _ => rfl)
    · rcases (show x = 0 ∨ x = 1 ∨ x = 2 ∨ x = 3 by omega) with rfl | rfl | rfl | rfl <;> exact (show (-99 : Int) ≤ 0 ∧ (0 : Int) ≤ 99 by decide)
    · show layF (16 + 3 * x + y) = _
      rw [layF_g (by omega)]
      rcases (show x = 0 ∨ x = 1 ∨ x = 2 ∨ x = 3 by omega) with rfl | rfl | rfl | rfl <;> rfl
  · exact ⟨rfl, by decide, fun i _ => (show (0 : Int) ≤ 0 ∧ (0 : Int) ≤ 65535 by decide)⟩
  · rcases (show s = 0 ∨ s = 1 by omega) with rfl | rfl
    · exact ⟨Or.inl rfl, rfl, fun q => absurd q (by decide)⟩
    · exact ⟨Or.inl rfl, rfl, fun q => absurd q (by decide)⟩
  · exact ⟨fun i _ => ⟨rfl, rfl, rfl, rfl, rfl, rfl⟩, fun k _ => ⟨rfl, rfl⟩, rfl, rfl, rfl⟩
set_option maxHeartbeats 4000000 in
set_option maxRecDepth 100000 in
/-- THE LAW, from its entry -/
theorem whole_start {p : Program} {e : Env} {s : State} {m : MethodId} {below : List Frame} {meth : Method} {c : Code} (l : Launch) (hflags : l.flags = flags0) {b L : Nat} {xs : Nat → Int32} (hL : L ≤ 2560) (C0 : lw_At p s m meth c b L xs) : W p l e room_1 s m #[Value.ref b] below meth c s.heap [] 0 0 (lw_Z below #[Value.ref b] s) (entryFrame m ([Value.ref b] : List Value).toArray 8) := by
  obtain ⟨hx, hb, hr, hml, hown, hts, hX, hbl, hlocks, hgv⟩ := id C0
  have hfl : l.stackTraces = false := hfl_of hflags
  obtain ⟨cl, va, hSt, hcN⟩ := w_begin hts hgv
  obtain ⟨h, hh⟩ : ∃ h, h = s.heap.size := ⟨_, rfl⟩
  rw [← hh] at hSt hcN
  have hgw : ∀ w ∈ GW, w.before #[Value.ref b] s = true := fun w hw => hts w (List.mem_filter.mp hw).1
  have X : wX p s m #[Value.ref b] meth c (oG cl va h) 8 "StateObserverLaw" cL_law := ⟨hx, hb, hml, hown, hgw, hSt, oG_lay cl va h, by rw [← hh]; exact Nat.le_refl h, hlocks⟩
  have hl := lv_entry ([.ref b]) (n := 8) (Nat.le_of_ble_eq_true rfl)
  rw [lg_entry_eq]
  generalize (lg_sl ([.ref b]) ++ List.replicate (8 - (lg_sl ([.ref b])).length) Slot.unset).toArray = ls at hl ⊢
  have hl : lv_has ls 8 [(0, .ref b)] := hl
  have hb0 : (oG cl va h).2.2.2 ≤ h := Nat.le_refl h
  have K : cV p l e room_1 s m #[Value.ref b] below meth c (oG cl va h) 8 h 0 (fun _ => .inl (8, [(.null : Value), (.null : Value), (.null : Value), (.null : Value), (.null : Value), (.null : Value), (.null : Value), (.null : Value), (.null : Value)])) s.heap 0 0 (lw_Z below #[Value.ref b] s) 0 [(0, .ref b)] [] := by
    refine cr_new (ci := 8) (N := 9) (C := RX8) (Tc := TX8) (fs := [(.null : Value), (.null : Value), (.null : Value), (.null : Value), (.null : Value), (.null : Value), (.null : Value), (.null : Value), (.null : Value)]) (pc' := 3) X tyX8 tyX8_ok rfl inW8 (fun j hj => by rcases (show j = 0 ∨ j = 1 ∨ j = 2 ∨ j = 3 ∨ j = 4 ∨ j = 5 ∨ j = 6 ∨ j = 7 ∨ j = 8 by omega) with rfl | rfl | rfl | rfl | rfl | rfl | rfl | rfl | rfl <;> rfl) gw_19 gw_20 gw_1 (Nat.le_of_ble_eq_true rfl) (Nat.le_of_ble_eq_true rfl) dL_law_0 rfl ?_
    refine cr_dup (pc' := 4) X dL_law_3 rfl rfl ?_
    refine cr_init (nn := 0) (n2 := 324) (pc' := 7) X hcN hb0 (fun H => c_X8_init l _ (h + 0) H) cf_X8_init rfl gw_22 rfl rfl ⟨(Nat.le_of_ble_eq_true rfl), (Nat.le_of_ble_eq_true rfl)⟩ (Nat.le_of_ble_eq_true rfl) ⟨(Nat.le_of_ble_eq_true rfl), (Nat.le_of_ble_eq_true rfl)⟩ gw_21 dL_law_4 rfl ?_
    refine cr_astore_n (pc' := 8) (lc' := [(0, .ref b), (1, .ref (h + 0))]) X [1, 0] dL_law_7 rfl (by decide) rfl rfl ?_
    refine cr_new (ci := 9) (N := 35) (C := RX9) (Tc := TX9) (fs := [vI 0, (.null : Value), vI 0, vI 0, vI 0, vI 0, vI 0, (.null : Value), (.null : Value), (.null : Value), (.null : Value), (.null : Value), vI 0, vI 0, (.null : Value), (.null : Value), (.null : Value), (.null : Value), (.null : Value), (.null : Value), (.null : Value), (.null : Value), (.null : Value), (.null : Value), vI 0, (.null : Value), (.null : Value), (.null : Value), (.null : Value), (.null : Value), (.null : Value), (.null : Value), (.null : Value), vI 0, (.null : Value)]) (pc' := 11) X tyX9 tyX9_ok rfl inW9 (fun j hj => by rcases (show j = 0 ∨ j = 1 ∨ j = 2 ∨ j = 3 ∨ j = 4 ∨ j = 5 ∨ j = 6 ∨ j = 7 ∨ j = 8 ∨ j = 9 ∨ j = 10 ∨ j = 11 ∨ j = 12 ∨ j = 13 ∨ j = 14 ∨ j = 15 ∨ j = 16 ∨ j = 17 ∨ j = 18 ∨ j = 19 ∨ j = 20 ∨ j = 21 ∨ j = 22 ∨ j = 23 ∨ j = 24 ∨ j = 25 ∨ j = 26 ∨ j = 27 ∨ j = 28 ∨ j = 29 ∨ j = 30 ∨ j = 31 ∨ j = 32 ∨ j = 33 ∨ j = 34 by omega) with rfl | rfl | rfl | rfl | rfl | rfl | rfl | rfl | rfl | rfl | rfl | rfl | rfl | rfl | rfl | rfl | rfl | rfl | rfl | rfl | rfl | rfl | rfl | rfl | rfl | rfl | rfl | rfl | rfl | rfl | rfl | rfl | rfl | rfl | rfl <;> rfl) gw_958 gw_959 gw_10 (Nat.le_of_ble_eq_true rfl) (Nat.le_of_ble_eq_true rfl) dL_law_8 rfl ?_
    refine cr_dup (pc' := 12) X dL_law_11 rfl rfl ?_
    refine cr_init (nn := 0 + 324) (n2 := 26) (pc' := 15) X hcN hb0 (fun H => c_X9_init l _ (h + (0 + 324)) H) cf_X9_init rfl gw_961 rfl rfl ⟨(Nat.le_of_ble_eq_true rfl), (Nat.le_of_ble_eq_true rfl)⟩ (Nat.le_of_ble_eq_true rfl) ⟨(Nat.le_of_ble_eq_true rfl), (Nat.le_of_ble_eq_true rfl)⟩ gw_960 dL_law_12 rfl ?_
    refine cr_astore_n (pc' := 16) (lc' := [(0, .ref b), (1, .ref (h + 0)), (2, .ref (h + (0 + 324)))]) X [1, 2, 0] dL_law_15 rfl (by decide) rfl rfl ?_
    refine cr_iconst (pc' := 17) X dL_law_16 rfl ?_
    refine cr_newa (atype := .long) (t := 1) (N := 1) (pc' := 19) X hcN (by decide) rfl gw_253 rfl (by decide) (by decide) (Nat.le_of_ble_eq_true rfl) (Nat.le_of_ble_eq_true rfl) dL_law_17 rfl ?_
    refine cr_astore_n (pc' := 20) (lc' := [(0, .ref b), (1, .ref (h + 0)), (2, .ref (h + (0 + 324))), (3, .ref (h + (0 + 324 + 26)))]) X [1, 2, 3, 0] dL_law_19 rfl (by decide) rfl rfl ?_
    refine cr_iconst (pc' := 21) X dL_law_20 rfl ?_
    refine cr_istore (pc' := 23) (lc' := [(0, .ref b), (1, .ref (h + 0)), (2, .ref (h + (0 + 324))), (3, .ref (h + (0 + 324 + 26))), (4, vI 0)]) X [1, 2, 3, 4, 0] dL_law_21 (by decide) rfl rfl ?_
    intro H locs ls hW hS hl
    have hW2 : cW (oG cl va h) h 351 (Tall h) H s.heap := hW.eqT fun i hi => by
      simp only [Tall, tU, tB, Nat.zero_add, Nat.add_zero, Nat.sub_zero, Nat.zero_le, if_true, Nat.reduceAdd]
    have hS2 : va_S (wA (oG cl va h)) s.heap H locs := hS
    have := law_loop (e := e) (G := oG cl va h) (below := below) hh X hfl hX hbl hL hr 600 0 M0 (by omega) (by omega) M0_lr H locs ls (w_start hW2) hS2 hl
    exact W.widen (k := 351 + 0) (n := 2973 + 44 + 6 * 0) (Nat.le_of_ble_eq_true rfl) (Nat.le_of_ble_eq_true rfl) this
  exact K s.heap [] ls ⟨by rw [hh]; rfl, fun i hi => absurd hi (Nat.not_lt_zero i), fun _ _ => rfl⟩ va_S.rf hl
