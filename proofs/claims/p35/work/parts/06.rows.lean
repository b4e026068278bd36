/-! ROWS: an instruction each, over worlds of integers -/
abbrev rI (a : Int) : Prop := -2147483648 ≤ a ∧ a ≤ 2147483647
abbrev rJ (a : Int) : Prop := -9223372036854775808 ≤ a ∧ a ≤ 9223372036854775807
theorem q_I {a : Int} (h : rI a) : (Int32.ofInt a).toInt = a := by
  have e : Int32.size = 4294967296 := rfl
  rw [Int32.toInt_ofInt, e, Int.bmod_eq_of_le (by omega) (by omega)]
theorem q_J {a : Int} (h : rJ a) : (Int64.ofInt a).toInt = a := by
  have e : Int64.size = 18446744073709551616 := rfl
  rw [Int64.toInt_ofInt, e, Int.bmod_eq_of_le (by omega) (by omega)]
theorem q_Ilt {a b : Int} (ha : rI a) (hb : rI b) : Int32.ofInt a < Int32.ofInt b ↔ a < b := by rw [Int32.lt_iff_toInt_lt, q_I ha, q_I hb]
theorem q_Ile {a b : Int} (ha : rI a) (hb : rI b) : Int32.ofInt a ≤ Int32.ofInt b ↔ a ≤ b := by rw [Int32.le_iff_toInt_le, q_I ha, q_I hb]
theorem q_Ieq {a b : Int} (ha : rI a) (hb : rI b) : Int32.ofInt a = Int32.ofInt b ↔ a = b := by
  constructor
  · intro h
    rw [← q_I ha, ← q_I hb, h]
  · intro h; rw [h]
theorem q_Jlt {a b : Int} (ha : rJ a) (hb : rJ b) : Int64.ofInt a < Int64.ofInt b ↔ a < b := by rw [Int64.lt_iff_toInt_lt, q_J ha, q_J hb]
theorem q_Jeq {a b : Int} (ha : rJ a) (hb : rJ b) : Int64.ofInt a = Int64.ofInt b ↔ a = b := by
  constructor
  · intro h
    rw [← q_J ha, ← q_J hb, h]
  · intro h; rw [h]
theorem q_Idiv {a b : Int} (ha : rI a) (hb : rI b) : Int32.ofInt a / Int32.ofInt b = Int32.ofInt (a.tdiv b) := by
  apply Int32.toInt_inj.mp
  rw [Int32.toInt_div, q_I ha, q_I hb, Int32.toInt_ofInt]
theorem q_Jdiv {a b : Int} (ha : rJ a) (hb : rJ b) : Int64.ofInt a / Int64.ofInt b = Int64.ofInt (a.tdiv b) := by
  apply Int64.toInt_inj.mp
  rw [Int64.toInt_div, q_J ha, q_J hb, Int64.toInt_ofInt]
theorem q_tmul (a b : Int) : a - a.tdiv b * b = a.tmod b := by
  have := Int.tmod_add_tdiv_mul a b
  omega
theorem q_Irem {a b : Int} (ha : rI a) (hb : rI b) : Int32.ofInt a - Int32.ofInt a / Int32.ofInt b * Int32.ofInt b = Int32.ofInt (a.tmod b) := by
  rw [q_Idiv ha hb, ← Int32.ofInt_mul, ← Int32.ofInt_sub, q_tmul]
theorem q_Jrem {a b : Int} (ha : rJ a) (hb : rJ b) : Int64.ofInt a - Int64.ofInt a / Int64.ofInt b * Int64.ofInt b = Int64.ofInt (a.tmod b) := by
  rw [q_Jdiv ha hb, ← Int64.ofInt_mul, ← Int64.ofInt_sub, q_tmul]
theorem q_I2J {a : Int} (ha : rI a) : (Int32.ofInt a).toInt64 = Int64.ofInt a := by
  apply Int64.toInt_inj.mp
  rw [Int32.toInt_toInt64, q_I ha, q_J ⟨by omega, by omega⟩]
theorem q_J2I (a : Int) : (Int64.ofInt a).toInt32 = Int32.ofInt a := by
  apply Int32.toInt_inj.mp
  rw [Int64.toInt_toInt32, Int64.toInt_ofInt, Int32.toInt_ofInt]
  exact Int.bmod_bmod_of_dvd (by decide)
theorem q_I0 : Int32.ofInt 0 = 0 := rfl
theorem q_J0 : Int64.ofInt 0 = 0 := rfl
theorem q_I2 {a : Int} (h : 0 ≤ a) (h2 : a < 2147483648) : (Int32.ofInt a).toNatClampNeg = a.toNat := by
  show (Int32.ofInt a).toInt.toNat = a.toNat
  rw [q_I ⟨by omega, by omega⟩]
theorem q_in {a : Int} {i N : Nat} (ha : a = (i : Int)) (hi : i < N) (hN : N ≤ 100000) : ¬ (Int32.ofInt a < 0 ∨ N ≤ (Int32.ofInt a).toNatClampNeg) ∧ (Int32.ofInt a).toNatClampNeg = i := by
  subst ha
  have h := q_I2 (a := (i : Int)) (by omega) (by omega)
  refine ⟨?_, by rw [h]; rfl⟩
  rintro (h1 | h1)
  · rw [← q_I0, q_Ilt ⟨by omega, by omega⟩ ⟨by omega, by omega⟩] at h1
    omega
  · rw [h] at h1
    have : ((i : Int)).toNat = i := rfl
    omega
theorem q_cmp_lt {a b : Int} (ha : rJ a) (hb : rJ b) : (lg_cmp (Int64.ofInt a) (Int64.ofInt b)) = if b < a then 1 else if a = b then 0 else -1 := by
  unfold lg_cmp
  by_cases h : b < a
  · rw [if_pos ((q_Jlt hb ha).mpr h), if_pos h]
  · rw [if_neg (fun q => h ((q_Jlt hb ha).mp q)), if_neg h]
    by_cases h2 : a = b
    · rw [if_pos ((q_Jeq ha hb).mpr h2), if_pos h2]
    · rw [if_neg (fun q => h2 ((q_Jeq ha hb).mp q)), if_neg h2]
section WR
variable {p : Program} {l : Launch} {e : Env} {R : Room} {s : State} {m : MethodId} {args : Array Value} {below : List Frame} {meth : Method} {c : Code} {k n : Nat} {Q : State → Prop} {G : wG} {M : wM} {nL : Nat} {own : String} {cc : ByteArray} {pc pc' tgt : Nat} {lc lc' : List (Nat × Value)} {st : List Value}
/-- a name for a number -/
theorem w_nm {z : Int} (kk : ∀ x : Int, x = z → wV p l e R s m args below meth c G nL M k n Q pc lc (vI x :: st)) : wV p l e R s m args below meth c G nL M k n Q pc lc (vI z :: st) := kk z rfl
theorem w_nmJ {z : Int} (kk : ∀ x : Int, x = z → wV p l e R s m args below meth c G nL M k n Q pc lc (vJ x :: st)) : wV p l e R s m args below meth c G nL M k n Q pc lc (vJ z :: st) := kk z rfl
theorem w_eqI {z z' : Int} (h : z = z') (kk : wV p l e R s m args below meth c G nL M k n Q pc lc (vI z' :: st)) : wV p l e R s m args below meth c G nL M k n Q pc lc (vI z :: st) := by rw [h]; exact kk
theorem w_eqJ {z z' : Int} (h : z = z') (kk : wV p l e R s m args below meth c G nL M k n Q pc lc (vJ z' :: st)) : wV p l e R s m args below meth c G nL M k n Q pc lc (vJ z :: st) := by rw [h]; exact kk
/-- fewer locals -/
theorem w_sub (ps : List Nat) (h : lv_pick lc ps = lc') (kk : wV p l e R s m args below meth c G nL M k n Q pc lc' st) : wV p l e R s m args below meth c G nL M k n Q pc lc st := fun H locs ls hW hS hl => kk H locs ls hW hS (lv_sub hl ps h)
theorem w_widen {k' n' : Nat} (h1 : k ≤ k') (h2 : n ≤ n') (kk : wV p l e R s m args below meth c G nL M k' n' Q pc lc st) : wV p l e R s m args below meth c G nL M k n Q pc lc st := fun H locs ls hW hS hl => W.widen (k := k') (n := n') h1 h2 (kk H locs ls hW hS hl)
theorem r_iconst (X : wX p s m args meth c G nL own cc) {z : Int} (hd : decode cc pc = .ok (.iconst z, 1)) (hp : pc + 1 = pc') (kk : wV p l e R s m args below meth c G nL M k n Q pc' lc (vI z :: st)) : wV p l e R s m args below meth c G nL M k n Q pc lc st := by
  subst hp; intro H locs ls hW hS hl
  exact lv_iconst X.1 X.2.1 hd rfl (kk H locs ls hW hS hl)
theorem r_bipush (X : wX p s m args meth c G nL own cc) {z : Int} (hd : decode cc pc = .ok (.bipush z, 2)) (hv : (Int8.ofInt z).toInt32 = Int32.ofInt z) (hp : pc + 2 = pc') (kk : wV p l e R s m args below meth c G nL M k n Q pc' lc (vI z :: st)) : wV p l e R s m args below meth c G nL M k n Q pc lc st := by
  subst hp; intro H locs ls hW hS hl
  exact lv_bipush X.1 X.2.1 hd hv (kk H locs ls hW hS hl)
theorem r_sipush (X : wX p s m args meth c G nL own cc) {z : Int} (hd : decode cc pc = .ok (.sipush z, 3)) (hv : (Int16.ofInt z).toInt32 = Int32.ofInt z) (hp : pc + 3 = pc') (kk : wV p l e R s m args below meth c G nL M k n Q pc' lc (vI z :: st)) : wV p l e R s m args below meth c G nL M k n Q pc lc st := by
  subst hp; intro H locs ls hW hS hl
  exact lv_sipush X.1 X.2.1 hd hv (kk H locs ls hW hS hl)
theorem r_lconst (X : wX p s m args meth c G nL own cc) {f : Fin 2} {z : Int} (hd : decode cc pc = .ok (.lconst f, 1)) (hv : Int64.ofNat (f : Nat) = Int64.ofInt z) (hp : pc + 1 = pc') (kk : wV p l e R s m args below meth c G nL M k n Q pc' lc (vJ z :: st)) : wV p l e R s m args below meth c G nL M k n Q pc lc st := by
  subst hp; intro H locs ls hW hS hl
  exact lv_lconst X.1 X.2.1 hd hv (kk H locs ls hW hS hl)
theorem r_ldc (X : wX p s m args meth c G nL own cc) {index : Nat} {v : Int32} {z : Int} (hw : Cond.constant own index v ∈ GW) (hd : decode cc pc = .ok (.ldc index, 2)) (hv : v = Int32.ofInt z) (hp : pc + 2 = pc') (kk : wV p l e R s m args below meth c G nL M k n Q pc' lc (vI z :: st)) : wV p l e R s m args below meth c G nL M k n Q pc lc st := by
  subst hp; subst hv; intro H locs ls hW hS hl
  exact lv_ldc X.1 X.2.1 X.2.2.2.1 (X.2.2.2.2.1 _ hw) hd (kk H locs ls hW hS hl)
theorem r_ldc2 (X : wX p s m args meth c G nL own cc) {index : Nat} {v : Int64} {z : Int} (hw : Cond.constantLong own index v ∈ GW) (hd : decode cc pc = .ok (.ldc2_w index, 3)) (hv : v = Int64.ofInt z) (hp : pc + 3 = pc') (kk : wV p l e R s m args below meth c G nL M k n Q pc' lc (vJ z :: st)) : wV p l e R s m args below meth c G nL M k n Q pc lc st := by
  subst hp; subst hv; intro H locs ls hW hS hl
  exact lv_ldc2 X.1 X.2.1 X.2.2.2.1 (X.2.2.2.2.1 _ hw) hd (kk H locs ls hW hS hl)
theorem r_iload_n (X : wX p s m args meth c G nL own cc) {f : Fin 4} {i : Nat} {z : Int} (q : Nat) (hd : decode cc pc = .ok (.iload_n f, 1)) (hi : (f : Nat) = i) (hk : lc[q]? = some (i, vI z)) (hp : pc + 1 = pc') (kk : wV p l e R s m args below meth c G nL M k n Q pc' lc (vI z :: st)) : wV p l e R s m args below meth c G nL M k n Q pc lc st := by
  subst hp; intro H locs ls hW hS hl
  exact lv_iload_n X.1 X.2.1 hd hi (lv_at hl q hk) (kk H locs ls hW hS hl)
theorem r_iload (X : wX p s m args meth c G nL own cc) {i : Nat} {z : Int} (q : Nat) (hd : decode cc pc = .ok (.iload i, 2)) (hk : lc[q]? = some (i, vI z)) (hp : pc + 2 = pc') (kk : wV p l e R s m args below meth c G nL M k n Q pc' lc (vI z :: st)) : wV p l e R s m args below meth c G nL M k n Q pc lc st := by
  subst hp; intro H locs ls hW hS hl
  exact lv_iload X.1 X.2.1 hd (lv_at hl q hk) (kk H locs ls hW hS hl)
theorem r_lload_n (X : wX p s m args meth c G nL own cc) {f : Fin 4} {i : Nat} {z : Int} (q : Nat) (hd : decode cc pc = .ok (.lload_n f, 1)) (hi : (f : Nat) = i) (hk : lc[q]? = some (i, vJ z)) (hp : pc + 1 = pc') (kk : wV p l e R s m args below meth c G nL M k n Q pc' lc (vJ z :: st)) : wV p l e R s m args below meth c G nL M k n Q pc lc st := by
  subst hp; intro H locs ls hW hS hl
  exact lv_lload_n X.1 X.2.1 hd hi (lv_at hl q hk) (kk H locs ls hW hS hl)
theorem r_lload (X : wX p s m args meth c G nL own cc) {i : Nat} {z : Int} (q : Nat) (hd : decode cc pc = .ok (.lload i, 2)) (hk : lc[q]? = some (i, vJ z)) (hp : pc + 2 = pc') (kk : wV p l e R s m args below meth c G nL M k n Q pc' lc (vJ z :: st)) : wV p l e R s m args below meth c G nL M k n Q pc lc st := by
  subst hp; intro H locs ls hW hS hl
  exact lv_lload X.1 X.2.1 hd (lv_at hl q hk) (kk H locs ls hW hS hl)
theorem r_aload_n (X : wX p s m args meth c G nL own cc) {f : Fin 4} {i : Nat} {z : Nat × Nat} (q : Nat) (hd : decode cc pc = .ok (.aload_n f, 1)) (hi : (f : Nat) = i) (hk : lc[q]? = some (i, vR G z)) (hp : pc + 1 = pc') (kk : wV p l e R s m args below meth c G nL M k n Q pc' lc (vR G z :: st)) : wV p l e R s m args below meth c G nL M k n Q pc lc st := by
  subst hp; intro H locs ls hW hS hl
  exact lv_aload_n X.1 X.2.1 hd hi (lv_at hl q hk) (kk H locs ls hW hS hl)
theorem r_aload (X : wX p s m args meth c G nL own cc) {i : Nat} {z : Nat × Nat} (q : Nat) (hd : decode cc pc = .ok (.aload i, 2)) (hk : lc[q]? = some (i, vR G z)) (hp : pc + 2 = pc') (kk : wV p l e R s m args below meth c G nL M k n Q pc' lc (vR G z :: st)) : wV p l e R s m args below meth c G nL M k n Q pc lc st := by
  subst hp; intro H locs ls hW hS hl
  exact lv_aload X.1 X.2.1 hd (lv_at hl q hk) (kk H locs ls hW hS hl)
/-- the locals behind a store: of one slot, of two -/
abbrev w_st1 (lc : List (Nat × Value)) (i : Nat) (v : Value) : List (Nat × Value) := (i, v) :: lc.filter (fun q => !(q.1 == i) && !(q.1 + 1 == i && q.2.category == 2))
abbrev w_st2 (lc : List (Nat × Value)) (i : Nat) (v : Value) : List (Nat × Value) := (i, v) :: lc.filter (fun q => !(q.1 == i) && (!(q.1 == i + 1) && !(q.1 + 1 == i && q.2.category == 2)))
theorem r_istore_n (X : wX p s m args meth c G nL own cc) {f : Fin 4} {i : Nat} {z : Int} (ps : List Nat) (hd : decode cc pc = .ok (.istore_n f, 1)) (hi : (f : Nat) = i) (hn : i < nL) (hl : lv_pick (w_st1 lc i (vI z)) ps = lc') (hp : pc + 1 = pc') (kk : wV p l e R s m args below meth c G nL M k n Q pc' lc' st) : wV p l e R s m args below meth c G nL M k n Q pc lc (vI z :: st) := by
  subst hp; intro H locs ls hW hS h
  exact lv_istore_n X.1 X.2.1 hd hi h hn rfl (fun ls' h' => kk H locs ls' hW hS (lv_sub h' ps hl))
theorem r_istore (X : wX p s m args meth c G nL own cc) {i : Nat} {z : Int} (ps : List Nat) (hd : decode cc pc = .ok (.istore i, 2)) (hn : i < nL) (hl : lv_pick (w_st1 lc i (vI z)) ps = lc') (hp : pc + 2 = pc') (kk : wV p l e R s m args below meth c G nL M k n Q pc' lc' st) : wV p l e R s m args below meth c G nL M k n Q pc lc (vI z :: st) := by
  subst hp; intro H locs ls hW hS h
  exact lv_istore X.1 X.2.1 hd h hn rfl (fun ls' h' => kk H locs ls' hW hS (lv_sub h' ps hl))
theorem r_astore_n (X : wX p s m args meth c G nL own cc) {f : Fin 4} {i : Nat} {z : Nat × Nat} (ps : List Nat) (hd : decode cc pc = .ok (.astore_n f, 1)) (hi : (f : Nat) = i) (hn : i < nL) (hl : lv_pick (w_st1 lc i (vR G z)) ps = lc') (hp : pc + 1 = pc') (kk : wV p l e R s m args below meth c G nL M k n Q pc' lc' st) : wV p l e R s m args below meth c G nL M k n Q pc lc (vR G z :: st) := by
  subst hp; intro H locs ls hW hS h
  exact lv_astore_n X.1 X.2.1 hd hi h hn rfl (fun ls' h' => kk H locs ls' hW hS (lv_sub h' ps hl))
theorem r_astore (X : wX p s m args meth c G nL own cc) {i : Nat} {z : Nat × Nat} (ps : List Nat) (hd : decode cc pc = .ok (.astore i, 2)) (hn : i < nL) (hl : lv_pick (w_st1 lc i (vR G z)) ps = lc') (hp : pc + 2 = pc') (kk : wV p l e R s m args below meth c G nL M k n Q pc' lc' st) : wV p l e R s m args below meth c G nL M k n Q pc lc (vR G z :: st) := by
  subst hp; intro H locs ls hW hS h
  exact lv_astore X.1 X.2.1 hd h hn rfl (fun ls' h' => kk H locs ls' hW hS (lv_sub h' ps hl))
theorem r_lstore_n (X : wX p s m args meth c G nL own cc) {f : Fin 4} {i : Nat} {z : Int} (ps : List Nat) (hd : decode cc pc = .ok (.lstore_n f, 1)) (hi : (f : Nat) = i) (hn : i + 1 < nL) (hl : lv_pick (w_st2 lc i (vJ z)) ps = lc') (hp : pc + 1 = pc') (kk : wV p l e R s m args below meth c G nL M k n Q pc' lc' st) : wV p l e R s m args below meth c G nL M k n Q pc lc (vJ z :: st) := by
  subst hp; intro H locs ls hW hS h
  exact lv_lstore_n X.1 X.2.1 hd hi h hn rfl (fun ls' h' => kk H locs ls' hW hS (lv_sub h' ps hl))
theorem r_lstore (X : wX p s m args meth c G nL own cc) {i : Nat} {z : Int} (ps : List Nat) (hd : decode cc pc = .ok (.lstore i, 2)) (hn : i + 1 < nL) (hl : lv_pick (w_st2 lc i (vJ z)) ps = lc') (hp : pc + 2 = pc') (kk : wV p l e R s m args below meth c G nL M k n Q pc' lc' st) : wV p l e R s m args below meth c G nL M k n Q pc lc (vJ z :: st) := by
  subst hp; intro H locs ls hW hS h
  exact lv_lstore X.1 X.2.1 hd h hn rfl (fun ls' h' => kk H locs ls' hW hS (lv_sub h' ps hl))
theorem r_iinc (X : wX p s m args meth c G nL own cc) {i : Nat} {z d z' : Int} (q : Nat) (ps : List Nat) (hd : decode cc pc = .ok (.iinc i d, 3)) (hk : lc[q]? = some (i, vI z)) (hz : z + d = z') (hn : i < nL) (hl : lv_pick (w_st1 lc i (vI z')) ps = lc') (hp : pc + 3 = pc') (kk : wV p l e R s m args below meth c G nL M k n Q pc' lc' st) : wV p l e R s m args below meth c G nL M k n Q pc lc st := by
  subst hp; intro H locs ls hW hS h
  exact lv_iinc (v := Int32.ofInt z') X.1 X.2.1 hd h hk (by rw [← hz, Int32.ofInt_add]) hn rfl (fun ls' h' => kk H locs ls' hW hS (lv_sub h' ps hl))
theorem r_iadd (X : wX p s m args meth c G nL own cc) {a b : Int} (hd : decode cc pc = .ok (.iadd, 1)) (hp : pc + 1 = pc') (kk : wV p l e R s m args below meth c G nL M k n Q pc' lc (vI (a + b) :: st)) : wV p l e R s m args below meth c G nL M k n Q pc lc (vI b :: vI a :: st) := by
  subst hp; intro H locs ls hW hS hl
  refine lv_iadd X.1 X.2.1 hd ?_
  rw [← Int32.ofInt_add]
  exact kk H locs ls hW hS hl
theorem r_isub (X : wX p s m args meth c G nL own cc) {a b : Int} (hd : decode cc pc = .ok (.isub, 1)) (hp : pc + 1 = pc') (kk : wV p l e R s m args below meth c G nL M k n Q pc' lc (vI (a - b) :: st)) : wV p l e R s m args below meth c G nL M k n Q pc lc (vI b :: vI a :: st) := by
  subst hp; intro H locs ls hW hS hl
  refine lv_isub X.1 X.2.1 hd ?_
  rw [← Int32.ofInt_sub]
  exact kk H locs ls hW hS hl
theorem r_imul (X : wX p s m args meth c G nL own cc) {a b : Int} (hd : decode cc pc = .ok (.imul, 1)) (hp : pc + 1 = pc') (kk : wV p l e R s m args below meth c G nL M k n Q pc' lc (vI (a * b) :: st)) : wV p l e R s m args below meth c G nL M k n Q pc lc (vI b :: vI a :: st) := by
  subst hp; intro H locs ls hW hS hl
  refine lv_imul X.1 X.2.1 hd ?_
  rw [← Int32.ofInt_mul]
  exact kk H locs ls hW hS hl
theorem r_ineg (X : wX p s m args meth c G nL own cc) {a : Int} (hd : decode cc pc = .ok (.ineg, 1)) (hp : pc + 1 = pc') (kk : wV p l e R s m args below meth c G nL M k n Q pc' lc (vI (-a) :: st)) : wV p l e R s m args below meth c G nL M k n Q pc lc (vI a :: st) := by
  subst hp; intro H locs ls hW hS hl
  refine lv_ineg X.1 X.2.1 hd ?_
  rw [← Int32.ofInt_neg]
  exact kk H locs ls hW hS hl
theorem r_idiv (X : wX p s m args meth c G nL own cc) {a b : Int} (hd : decode cc pc = .ok (.idiv, 1)) (ha : rI a) (hb : rI b) (h0 : b ≠ 0) (hp : pc + 1 = pc') (kk : wV p l e R s m args below meth c G nL M k n Q pc' lc (vI (a.tdiv b) :: st)) : wV p l e R s m args below meth c G nL M k n Q pc lc (vI b :: vI a :: st) := by
  subst hp; intro H locs ls hW hS hl
  refine lv_idiv X.1 X.2.1 hd (fun q => h0 ((q_Ieq hb ⟨by omega, by omega⟩).mp (q.trans q_I0.symm))) ?_
  rw [q_Idiv ha hb]
  exact kk H locs ls hW hS hl
theorem r_irem (X : wX p s m args meth c G nL own cc) {a b : Int} (hd : decode cc pc = .ok (.irem, 1)) (ha : rI a) (hb : rI b) (h0 : b ≠ 0) (hp : pc + 1 = pc') (kk : wV p l e R s m args below meth c G nL M k n Q pc' lc (vI (a.tmod b) :: st)) : wV p l e R s m args below meth c G nL M k n Q pc lc (vI b :: vI a :: st) := by
  subst hp; intro H locs ls hW hS hl
  refine lv_irem X.1 X.2.1 hd (fun q => h0 ((q_Ieq hb ⟨by omega, by omega⟩).mp (q.trans q_I0.symm))) ?_
  rw [q_Irem ha hb]
  exact kk H locs ls hW hS hl
theorem r_ladd (X : wX p s m args meth c G nL own cc) {a b : Int} (hd : decode cc pc = .ok (.ladd, 1)) (hp : pc + 1 = pc') (kk : wV p l e R s m args below meth c G nL M k n Q pc' lc (vJ (a + b) :: st)) : wV p l e R s m args below meth c G nL M k n Q pc lc (vJ b :: vJ a :: st) := by
  subst hp; intro H locs ls hW hS hl
  refine lv_ladd X.1 X.2.1 hd ?_
  rw [← Int64.ofInt_add]
  exact kk H locs ls hW hS hl
theorem r_lsub (X : wX p s m args meth c G nL own cc) {a b : Int} (hd : decode cc pc = .ok (.lsub, 1)) (hp : pc + 1 = pc') (kk : wV p l e R s m args below meth c G nL M k n Q pc' lc (vJ (a - b) :: st)) : wV p l e R s m args below meth c G nL M k n Q pc lc (vJ b :: vJ a :: st) := by
  subst hp; intro H locs ls hW hS hl
  refine lv_lsub X.1 X.2.1 hd ?_
  rw [← Int64.ofInt_sub]
  exact kk H locs ls hW hS hl
theorem r_lmul (X : wX p s m args meth c G nL own cc) {a b : Int} (hd : decode cc pc = .ok (.lmul, 1)) (hp : pc + 1 = pc') (kk : wV p l e R s m args below meth c G nL M k n Q pc' lc (vJ (a * b) :: st)) : wV p l e R s m args below meth c G nL M k n Q pc lc (vJ b :: vJ a :: st) := by
  subst hp; intro H locs ls hW hS hl
  refine lv_lmul X.1 X.2.1 hd ?_
  rw [← Int64.ofInt_mul]
  exact kk H locs ls hW hS hl
theorem r_lneg (X : wX p s m args meth c G nL own cc) {a : Int} (hd : decode cc pc = .ok (.lneg, 1)) (hp : pc + 1 = pc') (kk : wV p l e R s m args below meth c G nL M k n Q pc' lc (vJ (-a) :: st)) : wV p l e R s m args below meth c G nL M k n Q pc lc (vJ a :: st) := by
  subst hp; intro H locs ls hW hS hl
  refine lv_lneg X.1 X.2.1 hd ?_
  rw [← Int64.ofInt_neg]
  exact kk H locs ls hW hS hl
theorem r_ldiv (X : wX p s m args meth c G nL own cc) {a b : Int} (hd : decode cc pc = .ok (.ldiv, 1)) (ha : rJ a) (hb : rJ b) (h0 : b ≠ 0) (hp : pc + 1 = pc') (kk : wV p l e R s m args below meth c G nL M k n Q pc' lc (vJ (a.tdiv b) :: st)) : wV p l e R s m args below meth c G nL M k n Q pc lc (vJ b :: vJ a :: st) := by
  subst hp; intro H locs ls hW hS hl
  refine lv_ldiv X.1 X.2.1 hd (fun q => h0 ((q_Jeq hb ⟨by omega, by omega⟩).mp (q.trans q_J0.symm))) ?_
  rw [q_Jdiv ha hb]
  exact kk H locs ls hW hS hl
theorem r_lrem (X : wX p s m args meth c G nL own cc) {a b : Int} (hd : decode cc pc = .ok (.lrem, 1)) (ha : rJ a) (hb : rJ b) (h0 : b ≠ 0) (hp : pc + 1 = pc') (kk : wV p l e R s m args below meth c G nL M k n Q pc' lc (vJ (a.tmod b) :: st)) : wV p l e R s m args below meth c G nL M k n Q pc lc (vJ b :: vJ a :: st) := by
  subst hp; intro H locs ls hW hS hl
  refine lv_lrem X.1 X.2.1 hd (fun q => h0 ((q_Jeq hb ⟨by omega, by omega⟩).mp (q.trans q_J0.symm))) ?_
  rw [q_Jrem ha hb]
  exact kk H locs ls hW hS hl
theorem r_i2l (X : wX p s m args meth c G nL own cc) {a : Int} (hd : decode cc pc = .ok (.i2l, 1)) (ha : rI a) (hp : pc + 1 = pc') (kk : wV p l e R s m args below meth c G nL M k n Q pc' lc (vJ a :: st)) : wV p l e R s m args below meth c G nL M k n Q pc lc (vI a :: st) := by
  subst hp; intro H locs ls hW hS hl
  exact lv_i2l X.1 X.2.1 hd (q_I2J ha) (kk H locs ls hW hS hl)
theorem r_l2i (X : wX p s m args meth c G nL own cc) {a : Int} (hd : decode cc pc = .ok (.l2i, 1)) (hp : pc + 1 = pc') (kk : wV p l e R s m args below meth c G nL M k n Q pc' lc (vI a :: st)) : wV p l e R s m args below meth c G nL M k n Q pc lc (vJ a :: st) := by
  subst hp; intro H locs ls hW hS hl
  exact lv_l2i X.1 X.2.1 hd (q_J2I a) (kk H locs ls hW hS hl)
theorem r_dup (X : wX p s m args meth c G nL own cc) {v : Value} (hd : decode cc pc = .ok (.dup, 1)) (hv : v.category = 1) (hp : pc + 1 = pc') (kk : wV p l e R s m args below meth c G nL M k n Q pc' lc (v :: v :: st)) : wV p l e R s m args below meth c G nL M k n Q pc lc (v :: st) := by
  subst hp; intro H locs ls hW hS hl
  exact lv_dup X.1 X.2.1 hd hv (kk H locs ls hW hS hl)
theorem r_pop (X : wX p s m args meth c G nL own cc) {v : Value} (hd : decode cc pc = .ok (.pop, 1)) (hv : v.category = 1) (hp : pc + 1 = pc') (kk : wV p l e R s m args below meth c G nL M k n Q pc' lc st) : wV p l e R s m args below meth c G nL M k n Q pc lc (v :: st) := by
  subst hp; intro H locs ls hW hS hl
  exact lv_pop X.1 X.2.1 hd hv (kk H locs ls hW hS hl)
theorem r_goto (X : wX p s m args meth c G nL own cc) {off : Int} (hd : decode cc pc = .ok (.goto off, 3)) (ht : (pc : Int) + off = (tgt : Int)) (kk : wV p l e R s m args below meth c G nL M k n Q tgt lc st) : wV p l e R s m args below meth c G nL M k n Q pc lc st := by
  intro H locs ls hW hS hl
  exact lv_goto X.1 X.2.1 hd ht (kk H locs ls hW hS hl)
theorem r_icmp_lt (X : wX p s m args meth c G nL own cc) {a b off : Int} (hd : decode cc pc = .ok (.if_icmp .lt off, 3)) (ht : (pc : Int) + off = (tgt : Int)) (hp : pc + 3 = pc') (ha : rI a) (hb : rI b) (kt : a < b → wV p l e R s m args below meth c G nL M k n Q tgt lc st) (kf : ¬ a < b → wV p l e R s m args below meth c G nL M k n Q pc' lc st) : wV p l e R s m args below meth c G nL M k n Q pc lc (vI b :: vI a :: st) := by
  subst hp; intro H locs ls hW hS hl
  exact lv_icmp_lt X.1 X.2.1 hd ht (fun h => kt ((q_Ilt ha hb).mp h) H locs ls hW hS hl) (fun h => kf (fun q => h ((q_Ilt ha hb).mpr q)) H locs ls hW hS hl)
theorem r_icmp_ge (X : wX p s m args meth c G nL own cc) {a b off : Int} (hd : decode cc pc = .ok (.if_icmp .ge off, 3)) (ht : (pc : Int) + off = (tgt : Int)) (hp : pc + 3 = pc') (ha : rI a) (hb : rI b) (kt : b ≤ a → wV p l e R s m args below meth c G nL M k n Q tgt lc st) (kf : ¬ b ≤ a → wV p l e R s m args below meth c G nL M k n Q pc' lc st) : wV p l e R s m args below meth c G nL M k n Q pc lc (vI b :: vI a :: st) := by
  subst hp; intro H locs ls hW hS hl
  exact lv_icmp_ge X.1 X.2.1 hd ht (fun h => kt ((q_Ile hb ha).mp h) H locs ls hW hS hl) (fun h => kf (fun q => h ((q_Ile hb ha).mpr q)) H locs ls hW hS hl)
theorem r_icmp_gt (X : wX p s m args meth c G nL own cc) {a b off : Int} (hd : decode cc pc = .ok (.if_icmp .gt off, 3)) (ht : (pc : Int) + off = (tgt : Int)) (hp : pc + 3 = pc') (ha : rI a) (hb : rI b) (kt : b < a → wV p l e R s m args below meth c G nL M k n Q tgt lc st) (kf : ¬ b < a → wV p l e R s m args below meth c G nL M k n Q pc' lc st) : wV p l e R s m args below meth c G nL M k n Q pc lc (vI b :: vI a :: st) := by
  subst hp; intro H locs ls hW hS hl
  exact lv_icmp_gt X.1 X.2.1 hd ht (fun h => kt ((q_Ilt hb ha).mp h) H locs ls hW hS hl) (fun h => kf (fun q => h ((q_Ilt hb ha).mpr q)) H locs ls hW hS hl)
theorem r_icmp_le (X : wX p s m args meth c G nL own cc) {a b off : Int} (hd : decode cc pc = .ok (.if_icmp .le off, 3)) (ht : (pc : Int) + off = (tgt : Int)) (hp : pc + 3 = pc') (ha : rI a) (hb : rI b) (kt : a ≤ b → wV p l e R s m args below meth c G nL M k n Q tgt lc st) (kf : ¬ a ≤ b → wV p l e R s m args below meth c G nL M k n Q pc' lc st) : wV p l e R s m args below meth c G nL M k n Q pc lc (vI b :: vI a :: st) := by
  subst hp; intro H locs ls hW hS hl
  exact lv_icmp_le X.1 X.2.1 hd ht (fun h => kt ((q_Ile ha hb).mp h) H locs ls hW hS hl) (fun h => kf (fun q => h ((q_Ile ha hb).mpr q)) H locs ls hW hS hl)
theorem r_icmp_eq (X : wX p s m args meth c G nL own cc) {a b off : Int} (hd : decode cc pc = .ok (.if_icmp .eq off, 3)) (ht : (pc : Int) + off = (tgt : Int)) (hp : pc + 3 = pc') (ha : rI a) (hb : rI b) (kt : a = b → wV p l e R s m args below meth c G nL M k n Q tgt lc st) (kf : ¬ a = b → wV p l e R s m args below meth c G nL M k n Q pc' lc st) : wV p l e R s m args below meth c G nL M k n Q pc lc (vI b :: vI a :: st) := by
  subst hp; intro H locs ls hW hS hl
  exact lv_icmp_eq X.1 X.2.1 hd ht (fun h => kt ((q_Ieq ha hb).mp h) H locs ls hW hS hl) (fun h => kf (fun q => h ((q_Ieq ha hb).mpr q)) H locs ls hW hS hl)
theorem r_icmp_ne (X : wX p s m args meth c G nL own cc) {a b off : Int} (hd : decode cc pc = .ok (.if_icmp .ne off, 3)) (ht : (pc : Int) + off = (tgt : Int)) (hp : pc + 3 = pc') (ha : rI a) (hb : rI b) (kt : ¬ a = b → wV p l e R s m args below meth c G nL M k n Q tgt lc st) (kf : a = b → wV p l e R s m args below meth c G nL M k n Q pc' lc st) : wV p l e R s m args below meth c G nL M k n Q pc lc (vI b :: vI a :: st) := by
  subst hp; intro H locs ls hW hS hl
  exact lv_icmp_ne X.1 X.2.1 hd ht (fun h => kt (fun q => h ((q_Ieq ha hb).mpr q)) H locs ls hW hS hl) (fun h => kf ((q_Ieq ha hb).mp h) H locs ls hW hS hl)
theorem r_if_lt (X : wX p s m args meth c G nL own cc) {a off : Int} (hd : decode cc pc = .ok (.ifCond .lt off, 3)) (ht : (pc : Int) + off = (tgt : Int)) (hp : pc + 3 = pc') (ha : rI a) (kt : a < 0 → wV p l e R s m args below meth c G nL M k n Q tgt lc st) (kf : ¬ a < 0 → wV p l e R s m args below meth c G nL M k n Q pc' lc st) : wV p l e R s m args below meth c G nL M k n Q pc lc (vI a :: st) := by
  subst hp; intro H locs ls hW hS hl
  exact lv_if_lt X.1 X.2.1 hd ht (fun h => kt ((q_Ilt ha (by decide)).mp h) H locs ls hW hS hl) (fun h => kf (fun q => h ((q_Ilt ha (by decide)).mpr q)) H locs ls hW hS hl)
theorem r_if_ge (X : wX p s m args meth c G nL own cc) {a off : Int} (hd : decode cc pc = .ok (.ifCond .ge off, 3)) (ht : (pc : Int) + off = (tgt : Int)) (hp : pc + 3 = pc') (ha : rI a) (kt : 0 ≤ a → wV p l e R s m args below meth c G nL M k n Q tgt lc st) (kf : ¬ 0 ≤ a → wV p l e R s m args below meth c G nL M k n Q pc' lc st) : wV p l e R s m args below meth c G nL M k n Q pc lc (vI a :: st) := by
  subst hp; intro H locs ls hW hS hl
  exact lv_if_ge X.1 X.2.1 hd ht (fun h => kt ((q_Ile (by decide) ha).mp h) H locs ls hW hS hl) (fun h => kf (fun q => h ((q_Ile (by decide) ha).mpr q)) H locs ls hW hS hl)
theorem r_if_gt (X : wX p s m args meth c G nL own cc) {a off : Int} (hd : decode cc pc = .ok (.ifCond .gt off, 3)) (ht : (pc : Int) + off = (tgt : Int)) (hp : pc + 3 = pc') (ha : rI a) (kt : 0 < a → wV p l e R s m args below meth c G nL M k n Q tgt lc st) (kf : ¬ 0 < a → wV p l e R s m args below meth c G nL M k n Q pc' lc st) : wV p l e R s m args below meth c G nL M k n Q pc lc (vI a :: st) := by
  subst hp; intro H locs ls hW hS hl
  exact lv_if_gt X.1 X.2.1 hd ht (fun h => kt ((q_Ilt (by decide) ha).mp h) H locs ls hW hS hl) (fun h => kf (fun q => h ((q_Ilt (by decide) ha).mpr q)) H locs ls hW hS hl)
theorem r_if_le (X : wX p s m args meth c G nL own cc) {a off : Int} (hd : decode cc pc = .ok (.ifCond .le off, 3)) (ht : (pc : Int) + off = (tgt : Int)) (hp : pc + 3 = pc') (ha : rI a) (kt : a ≤ 0 → wV p l e R s m args below meth c G nL M k n Q tgt lc st) (kf : ¬ a ≤ 0 → wV p l e R s m args below meth c G nL M k n Q pc' lc st) : wV p l e R s m args below meth c G nL M k n Q pc lc (vI a :: st) := by
  subst hp; intro H locs ls hW hS hl
  exact lv_if_le X.1 X.2.1 hd ht (fun h => kt ((q_Ile ha (by decide)).mp h) H locs ls hW hS hl) (fun h => kf (fun q => h ((q_Ile ha (by decide)).mpr q)) H locs ls hW hS hl)
theorem r_if_eq (X : wX p s m args meth c G nL own cc) {a off : Int} (hd : decode cc pc = .ok (.ifCond .eq off, 3)) (ht : (pc : Int) + off = (tgt : Int)) (hp : pc + 3 = pc') (ha : rI a) (kt : a = 0 → wV p l e R s m args below meth c G nL M k n Q tgt lc st) (kf : ¬ a = 0 → wV p l e R s m args below meth c G nL M k n Q pc' lc st) : wV p l e R s m args below meth c G nL M k n Q pc lc (vI a :: st) := by
  subst hp; intro H locs ls hW hS hl
  exact lv_if_eq X.1 X.2.1 hd ht (fun h => kt ((q_Ieq ha (by decide)).mp h) H locs ls hW hS hl) (fun h => kf (fun q => h ((q_Ieq ha (by decide)).mpr q)) H locs ls hW hS hl)
theorem r_if_ne (X : wX p s m args meth c G nL own cc) {a off : Int} (hd : decode cc pc = .ok (.ifCond .ne off, 3)) (ht : (pc : Int) + off = (tgt : Int)) (hp : pc + 3 = pc') (ha : rI a) (kt : ¬ a = 0 → wV p l e R s m args below meth c G nL M k n Q tgt lc st) (kf : a = 0 → wV p l e R s m args below meth c G nL M k n Q pc' lc st) : wV p l e R s m args below meth c G nL M k n Q pc lc (vI a :: st) := by
  subst hp; intro H locs ls hW hS hl
  exact lv_if_ne X.1 X.2.1 hd ht (fun h => kt (fun q => h ((q_Ieq ha (by decide)).mpr q)) H locs ls hW hS hl) (fun h => kf ((q_Ieq ha (by decide)).mp h) H locs ls hW hS hl)
/-- a comparison of longs, as a number -/
theorem r_lcmp (X : wX p s m args meth c G nL own cc) {a b : Int} (hd : decode cc pc = .ok (.lcmp, 1)) (ha : rJ a) (hb : rJ b) (hp : pc + 1 = pc') (kk : ∀ z : Int, (z = -1 ∨ z = 0 ∨ z = 1) → (z < 0 ↔ a < b) → (z = 0 ↔ a = b) → (0 < z ↔ b < a) → wV p l e R s m args below meth c G nL M k n Q pc' lc (vI z :: st)) : wV p l e R s m args below meth c G nL M k n Q pc lc (vJ b :: vJ a :: st) := by
  subst hp; intro H locs ls hW hS hl
  refine W.lcmp X.1 X.2.1 hd ?_
  rw [q_cmp_lt ha hb]
  by_cases h : b < a
  · rw [if_pos h]
    exact kk 1 (by omega) (by omega) (by omega) (by omega) H locs ls hW hS hl
  · rw [if_neg h]
    by_cases h2 : a = b
    · rw [if_pos h2]
      exact kk 0 (by omega) (by omega) (by omega) (by omega) H locs ls hW hS hl
    · rw [if_neg h2]
      exact kk (-1) (by omega) (by omega) (by omega) (by omega) H locs ls hW hS hl
end WR
