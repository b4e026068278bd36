/-! ROWS for what the object shows; words for its answers -/
section WR4
variable {p : Program} {l : Launch} {e : Env} {R : Room} {s : State} {m : MethodId} {args : Array Value} {below : List Frame} {meth : Method} {c : Code} {k n : Nat} {Q : State → Prop} {G : wG} {M : wM} {nL : Nat} {own : String} {cc : ByteArray} {pc pc' tgt : Nat} {lc : List (Nat × Value)} {st : List Value}
theorem r_lsw (X : wX p s m args meth c G nL own cc) {z dflt off : Int} {ps : Array (Int × Int)} {len : Nat} (hd : decode cc pc = .ok (.lookupswitch dflt ps, len)) (hr : rI z) (hp : (ps.toList.zip (ps.toList.drop 1)).all (fun (a, next) => a.1 < next.1) = true) (ho : Op.lookupswitch.offset ps.toList dflt z = off) (ht : (pc : Int) + off = (tgt : Int)) (kk : wV p l e R s m args below meth c G nL M k n Q tgt lc st) : wV p l e R s m args below meth c G nL M k n Q pc lc (vI z :: st) := by
  intro H locs ls hW hS hl
  exact lv_lookup (x := Int32.ofInt z) X.1 X.2.1 hd hp (by rw [q_I hr]; exact ho) ht (kk H locs ls hW hS hl)
theorem r_ldcw (X : wX p s m args meth c G nL own cc) {index : Nat} {v : Int32} {z : Int} (hw : Cond.constant own index v ∈ GW) (hd : decode cc pc = .ok (.ldc_w index, 3)) (hv : v = Int32.ofInt z) (hp : pc + 3 = pc') (kk : wV p l e R s m args below meth c G nL M k n Q pc' lc (vI z :: st)) : wV p l e R s m args below meth c G nL M k n Q pc lc st := by
  subst hp; subst hv; intro H locs ls hW hS hl
  exact lv_ldcw X.1 X.2.1 X.2.2.2.1 (X.2.2.2.2.1 _ hw) hd (kk H locs ls hW hS hl)
end WR4
def in01 (z : Int) : Prop := z = 0 ∨ z = 1
/-- all but what a call may use for itself -/
def ScrEq (M M1 : wM) : Prop := ∀ a, a ≠ 1 → a ≠ 21 → a ≠ 22 → a ≠ 23 → a ≠ 24 → a ≠ 28 → M1 a = M a
theorem ScrEq.rfl {M : wM} : ScrEq M M := fun _ _ _ _ _ _ _ => Eq.refl _
/-- an act: the moment before it is remembered -/
def Noted (M M1 : wM) (nx ct : Nat) : Prop := M1 (5 + nx) = M 0 ∧ M1 26 0 1 = (((nx + 1) % 14 : Nat) : Int) ∧ M1 26 0 2 = ((min (ct + 1) 14 : Nat) : Int) ∧ ∀ a, a ≠ 0 → a ≠ 26 → a ≠ 5 + nx → a ≠ 1 → a ≠ 21 → a ≠ 22 → a ≠ 23 → a ≠ 24 → a ≠ 28 → M1 a = M a
def stateF (v : Nat → Nat → Int) (i : Nat) (w : Int) : Int := if w = 0 then v 1 i else if w = 1 then v 2 i else if w = 2 then v 3 i else if w = 3 then v 4 i else max (16 * v 2 i) (min (16 * v 3 i) (v 4 i))
def aboutF (N P : Nat) (v : Nat → Nat → Int) (w : Int) : Int := if w = 0 then N else if w = 1 then P else if w = 2 then v 0 8 else if w = 3 then v 0 7 else v 0 9
def coefF (pv v : Nat → Nat → Int) (w : Int) (i j : Nat) : Int := if w = 0 then pv (2 + i) j else if w = 1 then pv 6 i else if w = 2 then pv 7 i else if w = 3 then pv (9 + i) j else if w = 4 then pv 12 i else v (6 + i) j
def outF (N : Nat) (pv v : Nat → Nat → Int) (k : Nat) (w : Int) : Int := if w = 0 then v 10 k else if w = 1 then v 11 k else (ext N (pv (9 + k)) (v 2) (v 3) (-1) (if w = 3 then 1 else 0)).fdiv (pv 12 k)
def colsF (N P : Nat) (w : Int) : Int := if w = 0 ∨ w = 3 then N else if w = 5 then P else 1
theorem lsw_d2 {z a o a' o' d : Int} (h1 : ¬ z = a) (h2 : ¬ z = a') : Op.lookupswitch.offset [(a, o), (a', o')] d z = d := by
  rw [Op.lookupswitch.offset_cons, if_neg (fun q => h1 q.symm), Op.lookupswitch.offset_cons, if_neg (fun q => h2 q.symm)]
  rfl
/-- the observer's numbers, as they may be -/
def COk (M : wM) (N P : Nat) (T : Int) : Prop := PlOk (M 19) N P ∧ MoOk (M 0) N P T ∧ BoxOk N (M 0 2) (M 0 3)
