/-! rows of the law: the script, bits, equal numbers compared -/
theorem and31 (x : Int32) : 0 ≤ (x &&& Int32.ofInt 31).toInt ∧ (x &&& Int32.ofInt 31).toInt ≤ 31 := by
  have h1 : (x &&& Int32.ofInt 31).toBitVec.toNat ≤ 31 := by
    rw [Int32.toBitVec_and, BitVec.toNat_and]
    exact Nat.and_le_right
  have h2 : (x &&& Int32.ofInt 31).toInt = ((x &&& Int32.ofInt 31).toBitVec.toNat : Int) := BitVec.toInt_eq_toNat_of_lt (by omega)
  omega
/-- the script's numbers -/
def sc (xs : Nat → Int32) (i : Nat) : Int := (xs i).toInt
theorem i32_rng (x : Int32) : rI x.toInt := by
  have h := iw_rng x.toInt
  unfold iw at h
  rw [Int32.ofInt_toInt] at h
  exact h
theorem sc_rng (xs : Nat → Int32) (i : Nat) : rI (sc xs i) := i32_rng _
theorem i64_rng (x : Int64) : rJ x.toInt := by
  have e : (Int64.ofInt x.toInt).toInt = x.toInt.bmod 18446744073709551616 := by
    have e2 : Int64.size = 18446744073709551616 := rfl
    rw [Int64.toInt_ofInt, e2]
  rw [Int64.ofInt_toInt] at e
  have h1 := Int.le_bmod (x := x.toInt) (m := 18446744073709551616) (by decide)
  have h2 := Int.bmod_lt (x := x.toInt) (m := 18446744073709551616) (by decide)
  omega
def shlJ (a b : Int) : Int := (Int64.ofInt a <<< ((Int32.ofInt b).toInt64 &&& 63)).toInt
def andJ (a b : Int) : Int := (Int64.ofInt a &&& Int64.ofInt b).toInt
def orJ (a b : Int) : Int := (Int64.ofInt a ||| Int64.ofInt b).toInt
def jw (a : Int) : Int := (Int64.ofInt a).toInt
theorem vJ_jw (a : Int) : vJ a = vJ (jw a) := congrArg Value.long (Int64.ofInt_toInt _).symm
theorem rmR {R : Room} {d maxL mc ms : Nat} (hRf : 10 ≤ R.frames) (hRl : 430 ≤ R.locals) (h1 : d + 1 ≤ 10) (h2 : 19 + maxL + 43 * d ≤ 430) : (wrm d mc ms).frames + 1 ≤ R.frames ∧ 8 + (maxL + 11) + (wrm d mc ms).locals ≤ R.locals := ⟨by show d + 1 ≤ _; omega, by show 8 + (maxL + 11) + 43 * d ≤ _; omega⟩
section WN
variable {p : Program} {l : Launch} {e : Env} {R : Room} {s : State} {m : MethodId} {args : Array Value} {below : List Frame} {meth : Method} {c : Code} {k n : Nat} {Q : State → Prop} {G : wG} {M : wM} {nL : Nat} {own : String} {cc : ByteArray} {pc pc' tgt : Nat} {lc lc' : List (Nat × Value)} {st st0 : List Value}
theorem r_aloadB_n (X : wX p s m args meth c G nL own cc) {f : Fin 4} {i b : Nat} (q : Nat) (hd : decode cc pc = .ok (.aload_n f, 1)) (hi : (f : Nat) = i) (hk : lc[q]? = some (i, .ref b)) (hp : pc + 1 = pc') (kk : wV p l e R s m args below meth c G nL M k n Q pc' lc (.ref b :: st)) : wV p l e R s m args below meth c G nL M k n Q pc lc st := by
  subst hp; intro H locs ls hW hS hl
  exact lv_aload_n X.1 X.2.1 hd hi (lv_at hl q hk) (kk H locs ls hW hS hl)
theorem r_slen (X : wX p s m args meth c G nL own cc) {b L : Nat} {xs : Nat → Int32} (hX : va_X b L xs s s.heap) (hbl : b < s.heap.size) (hbA : ¬ wA G b) (hd : decode cc pc = .ok (.arraylength, 1)) (hp : pc + 1 = pc') (kk : wV p l e R s m args below meth c G nL M k n Q pc' lc (vI (L : Int) :: st)) : wV p l e R s m args below meth c G nL M k n Q pc lc (.ref b :: st) := by
  subst hp; intro H locs ls hW hS hl
  have h := kk H locs ls hW hS hl
  exact va_slen X.1 X.2.1 hX hbl hbA hS hd h
theorem r_sld (X : wX p s m args meth c G nL own cc) {b L i : Nat} {z : Int} {xs : Nat → Int32} (hX : va_X b L xs s s.heap) (hbl : b < s.heap.size) (hbA : ¬ wA G b) (hz : z = (i : Int)) (hi : i < L) (hL : L ≤ 100000) (hd : decode cc pc = .ok (.iaload, 1)) (hp : pc + 1 = pc') (kk : wV p l e R s m args below meth c G nL M k n Q pc' lc (vI (sc xs i) :: st)) : wV p l e R s m args below meth c G nL M k n Q pc lc (vI z :: .ref b :: st) := by
  subst hp; intro H locs ls hW hS hl
  obtain ⟨h1, h2⟩ := q_in hz hi hL
  have h := kk H locs ls hW hS hl
  refine va_sld X.1 X.2.1 hX hbl hbA hS (i := Int32.ofInt z) h1 hd ?_
  rw [h2]
  have e : vI (sc xs i) = .int (xs i) := congrArg Value.int (Int32.ofInt_toInt _)
  rw [e] at h
  exact h
theorem r_iand31 (X : wX p s m args meth c G nL own cc) {a : Int} (hd : decode cc pc = .ok (.iand, 1)) (hp : pc + 1 = pc') (kk : ∀ z : Int, 0 ≤ z ∧ z ≤ 31 → wV p l e R s m args below meth c G nL M k n Q pc' lc (vI z :: st)) : wV p l e R s m args below meth c G nL M k n Q pc lc (vI 31 :: vI a :: st) := by
  subst hp; intro H locs ls hW hS hl
  have h := kk _ (and31 (Int32.ofInt a)) H locs ls hW hS hl
  unfold vI at h
  rw [Int32.ofInt_toInt] at h
  exact lv_iand X.1 X.2.1 hd h
theorem r_lshl (X : wX p s m args meth c G nL own cc) {a b : Int} (hd : decode cc pc = .ok (.lshl, 1)) (hp : pc + 1 = pc') (kk : wV p l e R s m args below meth c G nL M k n Q pc' lc (vJ (shlJ a b) :: st)) : wV p l e R s m args below meth c G nL M k n Q pc lc (vI b :: vJ a :: st) := by
  subst hp; intro H locs ls hW hS hl
  have h := kk H locs ls hW hS hl
  have e : vJ (shlJ a b) = .long (Int64.ofInt a <<< ((Int32.ofInt b).toInt64 &&& 63)) := congrArg Value.long (Int64.ofInt_toInt _)
  rw [e] at h
  exact lv_lshl X.1 X.2.1 hd rfl h
theorem r_land (X : wX p s m args meth c G nL own cc) {a b : Int} (hd : decode cc pc = .ok (.land, 1)) (hp : pc + 1 = pc') (kk : wV p l e R s m args below meth c G nL M k n Q pc' lc (vJ (andJ a b) :: st)) : wV p l e R s m args below meth c G nL M k n Q pc lc (vJ b :: vJ a :: st) := by
  subst hp; intro H locs ls hW hS hl
  have h := kk H locs ls hW hS hl
  have e : vJ (andJ a b) = .long (Int64.ofInt a &&& Int64.ofInt b) := congrArg Value.long (Int64.ofInt_toInt _)
  rw [e] at h
  exact lv_land X.1 X.2.1 hd h
theorem r_lor (X : wX p s m args meth c G nL own cc) {a b : Int} (hd : decode cc pc = .ok (.lor, 1)) (hp : pc + 1 = pc') (kk : wV p l e R s m args below meth c G nL M k n Q pc' lc (vJ (orJ a b) :: st)) : wV p l e R s m args below meth c G nL M k n Q pc lc (vJ b :: vJ a :: st) := by
  subst hp; intro H locs ls hW hS hl
  have h := kk H locs ls hW hS hl
  have e : vJ (orJ a b) = .long (Int64.ofInt a ||| Int64.ofInt b) := congrArg Value.long (Int64.ofInt_toInt _)
  rw [e] at h
  exact lv_lor X.1 X.2.1 hd h
/-- equal ints: the jump is taken -/
theorem r_icmp_eqE (X : wX p s m args meth c G nL own cc) {a b off : Int} (hab : a = b) (hd : decode cc pc = .ok (.if_icmp .eq off, 3)) (ht : (pc : Int) + off = (tgt : Int)) (kt : wV p l e R s m args below meth c G nL M k n Q tgt lc st) : wV p l e R s m args below meth c G nL M k n Q pc lc (vI b :: vI a :: st) := by
  subst hab
  rw [vI_iw a]
  exact r_icmp_eq (pc' := pc + 3) X hd ht rfl (iw_rng a) (iw_rng a) (fun _ => kt) (fun h => absurd rfl h)
theorem r_lcmpE (X : wX p s m args meth c G nL own cc) {a b : Int} (hab : a = b) (hd : decode cc pc = .ok (.lcmp, 1)) (hp : pc + 1 = pc') (kk : wV p l e R s m args below meth c G nL M k n Q pc' lc (vI 0 :: st)) : wV p l e R s m args below meth c G nL M k n Q pc lc (vJ b :: vJ a :: st) := by
  subst hab
  rw [vJ_jw a]
  refine r_lcmp X hd (i64_rng _) (i64_rng _) hp (fun z zr zl ze zg => ?_)
  have hz : z = 0 := ze.mpr rfl
  rw [hz]
  exact kk
theorem w_wid {k' n' : Nat} (h1 : k ≤ k') (h2 : n ≤ n') (kk : wV p l e R s m args below meth c G nL M k' n' Q pc lc st) : wV p l e R s m args below meth c G nL M k n Q pc lc st := fun H locs ls hW hS hl => W.widen h1 h2 (kk H locs ls hW hS hl)
end WN
