section WR6
variable {p : Program} {l : Launch} {e : Env} {R : Room} {s : State} {m : MethodId} {args : Array Value} {below : List Frame} {meth : Method} {c : Code} {k n : Nat} {Q : State → Prop} {G : wG} {M : wM} {nL : Nat} {own : String} {cc : ByteArray} {pc pc' tgt : Nat} {lc : List (Nat × Value)} {st : List Value}
def shrJ (a b : Int) : Int := ((Int64.ofInt a).toUInt64 >>> ((Int32.ofInt b).toInt64.toUInt64 &&& Int64.toUInt64 63)).toInt64.toInt
theorem r_lushr (X : wX p s m args meth c G nL own cc) {a b : Int} (hd : decode cc pc = .ok (.lushr, 1)) (hp : pc + 1 = pc') (kk : wV p l e R s m args below meth c G nL M k n Q pc' lc (vJ (shrJ a b) :: st)) : wV p l e R s m args below meth c G nL M k n Q pc lc (vI b :: vJ a :: st) := by
  subst hp; intro H locs ls hW hS hl
  have h := kk H locs ls hW hS hl
  unfold shrJ vJ at h
  rw [Int64.ofInt_toInt] at h
  exact lv_lushr X.1 X.2.1 hd rfl h
end WR6
theorem shr33 (a : Int) : 0 ≤ shrJ a 33 ∧ shrJ a 33 < 2147483648 := by
  unfold shrJ
  rw [show ((Int32.ofInt 33).toInt64.toUInt64 &&& Int64.toUInt64 63) = 33 by decide]
  generalize (Int64.ofInt a).toUInt64 = u
  have h1 : (u >>> 33).toNat = u.toNat / 8589934592 := by
    rw [UInt64.toNat_shiftRight]
    show u.toNat >>> 33 = _
    rw [Nat.shiftRight_eq_div_pow]
  have h2 := u.toNat_lt
  have h3 : (u >>> 33).toNat < 2147483648 := by omega
  have h4 : (u >>> 33).toInt64.toInt = ((u >>> 33).toNat : Int) := by
    show (u >>> 33).toBitVec.toInt = ((u >>> 33).toBitVec.toNat : Int)
    exact BitVec.toInt_eq_toNat_of_lt (by show 2 * (u >>> 33).toNat < _; omega)
  omega
/-- rounds of a simulation -/
def simV (N P : Nat) (pv v : Nat → Nat → Int) (r : Nat) : Nat → Nat → Int :=
  if r / 8192 % 4 = 0 then stepF N P pv v (((r % 21 : Nat) : Int) - 10) ((((r / 32 : Nat) : Int)).tmod (2 * v 0 8 + 1) - v 0 8)
  else obsV N P pv (stepF N P pv v (((r % 21 : Nat) : Int) - 10) ((((r / 32 : Nat) : Int)).tmod (2 * v 0 8 + 1) - v 0 8)) (r / 32768 % P)
def simF (N P : Nat) (pv : Nat → Nat → Int) : Nat → Int → (Nat → Nat → Int) → Int
  | 0, _, _ => 0
  | m + 1, x, v => wid N (simV N P pv v (shrJ (x * 6364136223846793005 + 1442695040888963407) 33).toNat 2) (simV N P pv v (shrJ (x * 6364136223846793005 + 1442695040888963407) 33).toNat 3) + simF N P pv m (x * 6364136223846793005 + 1442695040888963407) (simV N P pv v (shrJ (x * 6364136223846793005 + 1442695040888963407) 33).toNat)
theorem wid_bd {lo hi : Nat → Int} : ∀ {n : Nat}, BoxOk n lo hi → 0 ≤ wid n lo hi ∧ wid n lo hi ≤ n * 2000000
  | 0, _ => ⟨Int.le_refl 0, Int.le_refl 0⟩
  | n + 1, h => by
    have h1 := wid_bd (n := n) (fun i hi => h i (by omega))
    have h2 := h n (by omega)
    unfold wid
    omega
