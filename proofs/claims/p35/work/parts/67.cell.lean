/-! THE SCRIPT'S NUMBERS -/
def sc (xs : Nat → Int32) (i : Nat) : Int := (xs i).toInt
theorem i32_rng (x : Int32) : rI x.toInt := by
  have h := iw_rng x.toInt
  unfold iw at h
  rw [Int32.ofInt_toInt] at h
  exact h
def andI (a b : Int) : Int := (Int32.ofInt a &&& Int32.ofInt b).toInt
theorem andI_pos (a : Int) : 0 ≤ andI a 2147483647 ∧ andI a 2147483647 ≤ 2147483647 := by
  unfold andI
  generalize Int32.ofInt a = x
  have h1 : (x &&& Int32.ofInt 2147483647).toBitVec.toNat ≤ 2147483647 := by
    show (x.toBitVec &&& 2147483647#32).toNat ≤ 2147483647
    rw [BitVec.toNat_and]
    exact Nat.and_le_right
  have h2 : (x &&& Int32.ofInt 2147483647).toInt = ((x &&& Int32.ofInt 2147483647).toBitVec.toNat : Int) := BitVec.toInt_eq_toNat_of_lt (by omega)
  omega
/-- what is asked for a script's number -/
def cellPc (G : wG) (b Ls : Nat) (xs : Nat → Int32) (k : Int) : Array Value → State → Prop := fun v U => v = ([.ref b, vI k] : List Value).toArray ∧ va_X b Ls xs U U.heap ∧ b < U.heap.size ∧ wSt G U ∧ wLay G
theorem cellPc_blind {G : wG} {b Ls : Nat} {xs : Nat → Int32} {k : Int} : FrameBlind (cellPc G b Ls xs k) := fun a U g mk h => ⟨h.1, va_X.moved (u := U) (U := U.calling g mk a) (Vm.Alike.refl _) h.2.1, h.2.2.1, wSt.same (s := U) (U := U.calling g mk a) rfl rfl h.2.2.2.1, h.2.2.2.2⟩
def cellQ : Array Value → State → Outcome → State → Prop := va_Qi (S := Int) (fun r u => r = Int32.ofInt u ∧ 0 ≤ u ∧ u ≤ 2147483647) (fun _ _ => True) (fun _ => False)
section CE
variable {p : Program} {l : Launch} {e : Env} {R : Room} {s : State} {m : MethodId} {args : Array Value} {below : List Frame} {meth : Method} {c : Code} {k n : Nat} {Q : State → Prop} {A : Nat → Prop} {F : Heap → Prop} {G G1 G2 : wG} {M V : wM} {nL : Nat} {own : String} {cc : ByteArray} {pc pc' tgt : Nat} {lc lc' : List (Nat × Value)} {st st0 : List Value}
theorem e_slen (X : wX p s m args meth c G nL own cc) {b L : Nat} {xs : Nat → Int32} (hX : va_X b L xs s s.heap) (hbl : b < s.heap.size) (hbA : ¬ A b) (hd : decode cc pc = .ok (.arraylength, 1)) (hp : pc + 1 = pc') (kk : eV p l e R s m args below meth c A F nL k n Q pc' lc (vI (L : Int) :: st)) : eV p l e R s m args below meth c A F nL k n Q pc lc (.ref b :: st) := by
  subst hp; intro H locs ls hW hS hl
  have h := kk H locs ls hW hS hl
  exact va_slen X.1 X.2.1 hX hbl hbA hS hd h
theorem e_sld (X : wX p s m args meth c G nL own cc) {b L i : Nat} {z : Int} {xs : Nat → Int32} (hX : va_X b L xs s s.heap) (hbl : b < s.heap.size) (hbA : ¬ A b) (hz : z = (i : Int)) (hi : i < L) (hL : L ≤ 100000) (hd : decode cc pc = .ok (.iaload, 1)) (hp : pc + 1 = pc') (kk : eV p l e R s m args below meth c A F nL k n Q pc' lc (vI (sc xs i) :: st)) : eV p l e R s m args below meth c A F nL k n Q pc lc (vI z :: .ref b :: st) := by
  subst hp; intro H locs ls hW hS hl
  obtain ⟨h1, h2⟩ := q_in hz hi hL
  have h := kk H locs ls hW hS hl
  refine va_sld X.1 X.2.1 hX hbl hbA hS (i := Int32.ofInt z) h1 hd ?_
  rw [h2]
  have e : vI (sc xs i) = .int (xs i) := congrArg Value.int (Int32.ofInt_toInt _)
  rw [← e]
  exact h
theorem e_iand (X : wX p s m args meth c G nL own cc) {a b : Int} (hd : decode cc pc = .ok (.iand, 1)) (hp : pc + 1 = pc') (kk : eV p l e R s m args below meth c A F nL k n Q pc' lc (vI (andI a b) :: st)) : eV p l e R s m args below meth c A F nL k n Q pc lc (vI b :: vI a :: st) := by
  subst hp; intro H locs ls hW hS hl
  have h := kk H locs ls hW hS hl
  unfold andI vI at h
  rw [Int32.ofInt_toInt] at h
  exact lv_iand X.1 X.2.1 hd h
theorem e_celret (X : wX p s m args meth c G nL own cc) {z : Int} (hr : meth.sig.returnType = some .int) (hz : 0 ≤ z ∧ z ≤ 2147483647) (hd : decode cc pc = .ok (.ireturn, 1)) : eV p l e R s m args below meth c (fun _ => False) F nL k n (MQ below cellQ args s k n (fun _ => False)) pc lc [vI z] := by
  intro H locs ls hW hS hl
  exact W.iret X.1 X.2.1 hr (fun t ht hWm => ⟨⟨Int32.ofInt z, z, rfl, ⟨rfl, hz⟩, trivial⟩, hS.F ht⟩) hS.2.2 hd X.locks
end CE
theorem cf_L_cell : wCal yL_cell cL_cell 2 (some .int) 2 := ⟨gw_571, gw_0, by decide, by decide, by rfl⟩
set_option maxHeartbeats 4000000 in
theorem c_L_cell (l : Launch) (G : wG) (b Ls : Nat) (xs : Nat → Int32) (k : Nat) (hk : k ≤ 1000) (hLs : Ls ≤ 100000) : Met l yL_cell (gws yL_cell cL_cell 2 (some .int)) (wrm 0 0 0) (cellPc G b Ls xs (k : Int)) cellQ 0 0 (fun _ => False) := by
  refine Met.ofW (cc := cL_cell) (maxL := 2) (ret := some .int) (by decide) rfl ?_
  intro p e s m args below meth c s₁ B hml hv
  obtain ⟨rfl, hX, hbl, hSt, hL⟩ := hv
  have hts := atoms_spec (ws := gws yL_cell cL_cell 2 (some .int)) B.pre
  have X : wX p s m ([.ref b, vI (k : Int)] : List Value).toArray meth c G 2 "StateObserverLaw" cL_cell := ⟨B.exec, B.bytes, hml, findClass_of_methodNamed B.named, fun w hw => hts w (List.mem_cons_of_mem _ hw), hSt, hL, trivial, B.notSynchronized⟩
  have hr := B.returns
  have hl := lv_entry ([.ref b, vI (k : Int)] : List Value) (n := 2) (Nat.le_of_ble_eq_true rfl)
  rw [lg_entry_eq]
  generalize (lg_sl ([.ref b, vI (k : Int)] : List Value) ++ List.replicate (2 - (lg_sl ([.ref b, vI (k : Int)] : List Value)).length) Slot.unset).toArray = ls at hl ⊢
  have hl : lv_has ls 2 [(0, .ref b), (1, vI (k : Int))] := hl
  have K : eV p l e (wrm 0 0 0) s m ([.ref b, vI (k : Int)] : List Value).toArray below meth c (fun _ => False) (fun _ => True) 2 0 0 (MQ below cellQ ([.ref b, vI (k : Int)] : List Value).toArray s 0 0 (fun _ => False)) 0 [(0, .ref b), (1, vI (k : Int))] [] := by
    have hj : ∀ z : Int, eV p l e (wrm 0 0 0) s m ([.ref b, vI (k : Int)] : List Value).toArray below meth c (fun _ => False) (fun _ => True) 2 0 0 (MQ below cellQ ([.ref b, vI (k : Int)] : List Value).toArray s 0 0 (fun _ => False)) 22 [(0, .ref b), (1, vI (k : Int))] [vI z] := by
      intro z
      refine e_ldc (pc' := 24) (z := 2147483647) X gw_573 dL_cell_22 rfl rfl ?_
      refine e_iand (pc' := 25) X dL_cell_24 rfl ?_
      exact e_celret X hr (andI_pos z) dL_cell_25
    refine e_iload_n (pc' := 1) X 1 dL_cell_0 rfl rfl rfl ?_
    refine e_aloadQ_n (pc' := 2) X 0 dL_cell_1 rfl rfl rfl ?_
    refine e_slen (pc' := 3) X hX hbl (fun h => h) dL_cell_2 rfl ?_
    refine e_icmp_ge (pc' := 6) (tgt := 12) X dL_cell_3 rfl rfl (by omega) (by omega) (fun h3 => ?_) (fun h3 => ?_)
    · refine e_ldc (pc' := 14) (z := 15511571) X gw_572 dL_cell_12 rfl rfl ?_
      refine e_iload_n (pc' := 15) X 1 dL_cell_14 rfl rfl rfl ?_
      refine e_iconst (pc' := 16) X dL_cell_15 rfl ?_
      refine e_iadd (pc' := 17) X dL_cell_16 rfl ?_
      refine e_imul (pc' := 18) X dL_cell_17 rfl ?_
      refine e_sipush (pc' := 21) X dL_cell_18 rfl rfl ?_
      refine e_iadd (pc' := 22) X dL_cell_21 rfl ?_
      exact hj _
    · refine e_aloadQ_n (pc' := 7) X 0 dL_cell_6 rfl rfl rfl ?_
      refine e_iload_n (pc' := 8) X 1 dL_cell_7 rfl rfl rfl ?_
      refine e_sld (i := k) (pc' := 9) X hX hbl (fun h => h) rfl (by omega) hLs dL_cell_8 rfl ?_
      refine e_goto (tgt := 22) X dL_cell_9 rfl ?_
      exact hj _
  exact K s.heap [] ls trivial va_S.rf hl
section CR2
variable {p : Program} {l : Launch} {e : Env} {R : Room} {s : State} {m : MethodId} {args : Array Value} {below : List Frame} {meth : Method} {c : Code} {k n : Nat} {Q : State → Prop} {A : Nat → Prop} {G G1 G2 : wG} {M V : wM} {nL : Nat} {cc : ByteArray} {pc pc' : Nat} {lc : List (Nat × Value)} {st : List Value}
/-- a script's number, asked for beside both worlds -/
theorem e_cell (X : wX p s m args meth c (gA G1 A) nL "StateObserverLaw" cc) {b Ls : Nat} {xs : Nat → Int32} {i : Nat} (hX : va_X b Ls xs s s.heap) (hbl : b < s.heap.size) (hbA : ¬ A b) (hi : i ≤ 1000) (hLs : Ls ≤ 100000) (hR : 1 ≤ R.frames ∧ 21 ≤ R.locals) (hcat : (st.map fun v => v.category).sum ≤ 8) (hf : k ≤ R.cells ∧ n ≤ R.slots) (hd : decode cc pc = .ok (.invokestatic 120, 3)) (hp : pc + 3 = pc')
    (kk : ∀ z : Int, 0 ≤ z → z ≤ 2147483647 → eV p l e R s m args below meth c A (dF G1 G2 M V) nL k n Q pc' lc (vI z :: st)) : eV p l e R s m args below meth c A (dF G1 G2 M V) nL k n Q pc lc (vI (i : Int) :: .ref b :: st) := by
  subst hp; intro H locs ls hW hS hl
  have hrun : va_Run p l e R s m args below meth c H locs k n 0 0 (F0 m pc ls (vI (i : Int) :: .ref b :: st)) st (cellQ (([.ref b, vI (i : Int)] : List Value)).toArray) (fun _ => False) :=
    va_runS (As := [.ref b, vI (i : Int)]) (rest := st) X.fix (c_L_cell l (gA G1 A) b Ls xs i hi hLs) ⟨X.callB cf_L_cell gw_569 rfl rfl ⟨hR.1, hR.2⟩, X.w gw_570⟩ ⟨cellPc_blind, fun U hU hWm => ⟨rfl, by
      have h1 : va_X b Ls xs s H := hX.kept (hS.2.1 b hbl hbA)
      rw [hU]
      exact h1.moved hWm.alike, by rw [hU]; exact Nat.lt_of_lt_of_le hbl hS.1, wSt.warm (G := gA G1 A) (locs := locs) hWm (by rw [hU]; exact hS) X.sta, X.lay⟩⟩ rfl rfl hl.1 rfl (lv_room hcat) hd hf
  refine va_calli hrun hS (fun q _ h => h.elim) (fun q h => h.elim) (fun r u t H1 locs1 ht hvm hpo hB hz hk hS1 => ?_)
  obtain ⟨rfl, h1, h2⟩ := hpo
  exact kk u h1 h2 H1 locs1 ls ⟨hW.1.kept fun q hq => hk q hq (fun z => z), hW.2.kept fun q hq => hk q hq (fun z => z)⟩ hS1 hl
end CR2
