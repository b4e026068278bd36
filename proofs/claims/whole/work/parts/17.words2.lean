/-! ROWS that the parts before lack; the words of the text, of combinations -/
section WR3
variable {p : Program} {l : Launch} {e : Env} {R : Room} {s : State} {m : MethodId} {args : Array Value} {below : List Frame} {meth : Method} {c : Code} {k n : Nat} {Q : State → Prop} {G : wG} {M : wM} {nL : Nat} {own : String} {cc : ByteArray} {pc pc' : Nat} {lc : List (Nat × Value)} {st : List Value}
theorem q_i2c {a : Int} (h : 0 ≤ a ∧ a ≤ 65535) : ((Int32.ofInt a).toUInt32 % 65536).toInt32 = Int32.ofInt a := by
  obtain ⟨n, rfl⟩ : ∃ n : Nat, a = n := ⟨a.toNat, by omega⟩
  apply Int32.toBitVec_inj.mp
  show ((Int32.ofInt (n : Int)).toUInt32 % 65536).toBitVec = (Int32.ofInt (n : Int)).toBitVec
  rw [UInt32.toBitVec_mod]
  show (Int32.ofInt (n : Int)).toBitVec % 65536#32 = (Int32.ofInt (n : Int)).toBitVec
  rw [Int32.toBitVec_ofInt]
  apply BitVec.eq_of_toNat_eq
  simp
  omega
theorem r_i2c (X : wX p s m args meth c G nL own cc) {a : Int} (hd : decode cc pc = .ok (.i2c, 1)) (ha : 0 ≤ a ∧ a ≤ 65535) (hp : pc + 1 = pc') (kk : wV p l e R s m args below meth c G nL M k n Q pc' lc (vI a :: st)) : wV p l e R s m args below meth c G nL M k n Q pc lc (vI a :: st) := by
  subst hp; intro H locs ls hW hS hl
  exact lv_i2c (x := Int32.ofInt a) X.1 X.2.1 hd (q_i2c ha) (kk H locs ls hW hS hl)
end WR3
/-- a place in the text, and whether something was wrong -/
abbrev pS : Type := Nat × Int
def pC (ch : Nat → Int) (L : Nat) (a b : Int) (s : pS) : pS := if s.2 = 0 ∧ s.1 < L ∧ a ≤ ch s.1 ∧ ch s.1 ≤ b then (s.1 + 1, 0) else (s.1, 1)
def pD (ch : Nat → Int) (L : Nat) (a b : Int) (s : pS) : Int × pS := (if (pC ch L (48 + a) (48 + b) s).2 = 0 then ch s.1 - 48 else 0, pC ch L (48 + a) (48 + b) s)
def pT (ch : Nat → Int) (L : Nat) (a : Int) (s : pS) : Int × pS := (10 * (pD ch L 0 9 s).1 + (pD ch L (if (pD ch L 0 9 s).1 = 0 then a else 0) 9 (pD ch L 0 9 s).2).1, (pD ch L (if (pD ch L 0 9 s).1 = 0 then a else 0) 9 (pD ch L 0 9 s).2).2)
/-- the sign at a place: '-' or '+' -/
def pZ (ch : Nat → Int) (L : Nat) (s : pS) : Int := if s.1 < L ∧ ch s.1 = 45 then 45 else 43
def pN (ch : Nat → Int) (L : Nat) (s : pS) : Int × pS := (if pZ ch L s = 45 then -(pT ch L 0 (pC ch L (pZ ch L s) (pZ ch L s) s)).1 else (pT ch L 0 (pC ch L (pZ ch L s) (pZ ch L s) s)).1, (pT ch L 0 (pC ch L (pZ ch L s) (pZ ch L s) s)).2)
/-- behind n numbers -/
def pI (ch : Nat → Int) (L : Nat) : Nat → pS → pS
  | 0, s => s
  | n + 1, s => (pN ch L (pI ch L n s)).2
def pOk (L : Nat) (s : pS) : Prop := s.1 ≤ L ∧ (s.2 = 0 ∨ s.2 = 1)
theorem pC_ok {ch : Nat → Int} {L : Nat} {a b : Int} {s : pS} (h : pOk L s) : pOk L (pC ch L a b s) := by
  unfold pC
  split
  · exact ⟨by show s.1 + 1 ≤ L; omega, Or.inl rfl⟩
  · exact ⟨h.1, Or.inr rfl⟩
theorem pD_ok {ch : Nat → Int} {L : Nat} {a b : Int} {s : pS} (h : pOk L s) : pOk L (pD ch L a b s).2 := pC_ok h
theorem pT_ok {ch : Nat → Int} {L : Nat} {a : Int} {s : pS} (h : pOk L s) : pOk L (pT ch L a s).2 := pD_ok (pD_ok h)
theorem pN_ok {ch : Nat → Int} {L : Nat} {s : pS} (h : pOk L s) : pOk L (pN ch L s).2 := pT_ok (pC_ok h)
theorem pI_ok {ch : Nat → Int} {L : Nat} {s : pS} (h : pOk L s) : ∀ n, pOk L (pI ch L n s)
  | 0 => h
  | n + 1 => pN_ok (pI_ok h n)
theorem pC_0 {ch : Nat → Int} {L : Nat} {a b : Int} {s : pS} (h : (pC ch L a b s).2 = 0) : s.2 = 0 ∧ s.1 < L ∧ (a ≤ ch s.1 ∧ ch s.1 ≤ b) ∧ (pC ch L a b s).1 = s.1 + 1 := by
  unfold pC at h ⊢
  by_cases c : s.2 = 0 ∧ s.1 < L ∧ a ≤ ch s.1 ∧ ch s.1 ≤ b
  · rw [if_pos c]; exact ⟨c.1, c.2.1, c.2.2, rfl⟩
  · rw [if_neg c] at h
    exact absurd h (show ¬ (1 : Int) = 0 by decide)
/-- what is wrong stays so, and the place stays -/
theorem pC_1 {ch : Nat → Int} {L : Nat} {a b : Int} {s : pS} (h : s.2 = 1) : pC ch L a b s = s := by
  unfold pC
  rw [if_neg (by omega)]
  exact Prod.ext rfl h.symm
theorem pD_1 {ch : Nat → Int} {L : Nat} {a b : Int} {s : pS} (h : s.2 = 1) : pD ch L a b s = (0, s) := by
  unfold pD
  rw [pC_1 h, if_neg (by omega)]
theorem pT_1 {ch : Nat → Int} {L : Nat} {a : Int} {s : pS} (h : s.2 = 1) : pT ch L a s = (0, s) := by
  unfold pT
  rw [pD_1 h, pD_1 (s := (0, s).2) h]
  rfl
theorem pN_1 {ch : Nat → Int} {L : Nat} {s : pS} (h : s.2 = 1) : pN ch L s = (0, s) := by
  unfold pN
  rw [pC_1 h, pT_1 h]
  split <;> rfl
theorem pI_1 {ch : Nat → Int} {L : Nat} {s : pS} (h : s.2 = 1) : ∀ n, pI ch L n s = s
  | 0 => rfl
  | n + 1 => by
    show (pN ch L (pI ch L n s)).2 = s
    rw [pI_1 h n, pN_1 h]
theorem pD_rng {ch : Nat → Int} {L : Nat} {a b : Int} {s : pS} : ((pD ch L a b s).2.2 = 0 → a ≤ (pD ch L a b s).1 ∧ (pD ch L a b s).1 ≤ b) ∧ (¬ (pD ch L a b s).2.2 = 0 → (pD ch L a b s).1 = 0) := by
  unfold pD
  dsimp only
  by_cases c : (pC ch L (48 + a) (48 + b) s).2 = 0
  · rw [if_pos c]
    have := pC_0 c
    exact ⟨fun _ => by omega, fun h => absurd c h⟩
  · rw [if_neg c]
    exact ⟨fun h => absurd h c, fun _ => rfl⟩
theorem pD_bd {ch : Nat → Int} {L : Nat} {a b : Int} {s : pS} (ha : 0 ≤ a) (hb : 0 ≤ b) : 0 ≤ (pD ch L a b s).1 ∧ (pD ch L a b s).1 ≤ b := by
  have h := pD_rng (ch := ch) (L := L) (a := a) (b := b) (s := s)
  by_cases c : (pD ch L a b s).2.2 = 0
  · have := h.1 c; omega
  · have := h.2 c; omega
theorem pT_bd {ch : Nat → Int} {L : Nat} {a : Int} {s : pS} (ha : 0 ≤ a) : 0 ≤ (pT ch L a s).1 ∧ (pT ch L a s).1 ≤ 99 := by
  unfold pT
  dsimp only
  have h1 := pD_bd (ch := ch) (L := L) (a := 0) (b := 9) (s := s) (by decide) (by decide)
  have h2 := pD_bd (ch := ch) (L := L) (a := if (pD ch L 0 9 s).1 = 0 then a else 0) (b := 9) (s := (pD ch L 0 9 s).2) (by split <;> omega) (by decide)
  omega
theorem pN_bd {ch : Nat → Int} {L : Nat} {s : pS} : -99 ≤ (pN ch L s).1 ∧ (pN ch L s).1 ≤ 99 := by
  unfold pN
  dsimp only
  have h := pT_bd (ch := ch) (L := L) (a := 0) (s := pC ch L (pZ ch L s) (pZ ch L s) s) (by decide)
  split <;> omega
/-- a reader's numbers -/
def TxOk (v : Nat → Nat → Int) (L : Nat) (s : pS) : Prop := v 0 1 = L ∧ L ≤ 200 ∧ v 0 4 = s.1 ∧ v 0 5 = s.2 ∧ pOk L s ∧ ∀ i, i < 200 → 0 ≤ v 1 i ∧ v 1 i ≤ 65535
def setS (M : wM) (s : pS) : wM := wu (wu M 27 0 5 s.2) 27 0 4 s.1
theorem setS_ne {M : wM} {s : pS} {a b : Nat} (h : ¬ (a = 27 ∧ b = 0)) : setS M s a b = M a b := by
  unfold setS
  rw [wu_ne h, wu_ne h]
theorem setS_o {M : wM} {s : pS} {a : Nat} (h : a ≠ 27) : setS M s a = M a := funext fun _ => setS_ne (fun q => h q.1)
theorem setS_1 {M : wM} {s : pS} : setS M s 27 1 = M 27 1 := setS_ne (by omega)
theorem setS_ok {M : wM} {s t : pS} {L : Nat} (h : TxOk (M 27) L s) (ht : pOk L t) : TxOk (setS M t 27) L t := by
  obtain ⟨h1, h2, -, -, -, h6⟩ := h
  exact ⟨by unfold setS wu; simp; exact h1, h2, by unfold setS wu; simp, by unfold setS wu; simp, ht, by rw [setS_1]; exact h6⟩
theorem setS_setS {M : wM} {s t : pS} : setS (setS M s) t = setS M t := by
  funext a b
  by_cases c : a = 27 ∧ b = 0
  · obtain ⟨rfl, rfl⟩ := c
    funext i
    unfold setS wu
    by_cases c1 : i = 4
    · simp [c1]
    · by_cases c2 : i = 5
      · simp [c2]
      · simp [c1, c2]
  · rw [setS_ne c, setS_ne c, setS_ne c]
theorem setS_self {M : wM} {L : Nat} {s : pS} (h : TxOk (M 27) L s) : setS M s = M := by
  obtain ⟨-, -, h3, h4, -⟩ := h
  funext a b i
  unfold setS wu
  split
  · rename_i q
    rw [q.1, q.2.1, q.2.2, h3]
  · split
    · rename_i q
      rw [q.1, q.2.1, q.2.2, h4]
    · rfl
theorem setS_w {M : wM} {s : pS} {v : Int} (h : M 27 0 4 = s.1) : setS M (s.1, v) = wu M 27 0 5 v := by
  funext a b i
  unfold setS wu
  by_cases c : a = 27 ∧ b = 0 ∧ i = 4
  · rw [if_pos c, c.1, c.2.1, c.2.2, if_neg (by decide)]
    exact h.symm
  · rw [if_neg c]
theorem setS_wr {M : wM} {s : pS} {o j : Nat} {f : Nat → Int} (h : o ≠ 27) : wr (setS M s) o j f = setS (wr M o j f) s := by
  funext a b i
  unfold setS wu wr
  by_cases c : a = o ∧ b = j
  · simp [c, h]
  · simp [c]
theorem setS_wu {M : wM} {s : pS} {o j x : Nat} {v : Int} (h : o ≠ 27) : wu (setS M s) o j x v = setS (wu M o j x v) s := by
  funext a b i
  unfold setS wu
  by_cases c : a = o ∧ b = j ∧ i = x
  · simp [c, h]
  · simp [c]
/-- f below n, g from n on -/
def fillF (n : Nat) (f g : Nat → Int) : Nat → Int := fun x => if x < n then f x else g x
theorem fill_0 {f g : Nat → Int} : fillF 0 f g = g := rfl
theorem fill_s {M : wM} {o j n : Nat} {f g : Nat → Int} : wu (wr M o j (fillF n f g)) o j n (f n) = wr M o j (fillF (n + 1) f g) := by
  funext a b i
  unfold wu wr fillF
  by_cases c : a = o ∧ b = j
  · obtain ⟨rfl, rfl⟩ := c
    by_cases d : i = n
    · subst d; simp
    · simp [d]
      by_cases e : i < n
      · rw [if_pos e, if_pos (by omega)]
      · rw [if_neg e, if_neg (by omega)]
  · rw [if_neg c, if_neg c, if_neg (fun q => c ⟨q.1, q.2.1⟩)]
/-- a combination on which the unknown input does not act -/
def combF (e : Nat → Int) (N q i : Nat) : Int :=
  if firstE e N 0 = -1 then (if i = q then 1 else 0)
  else if (i : Int) = firstE e N 0 then (if 0 < e i then -e (if (q : Int) < firstE e N 0 then q else q + 1) else e (if (q : Int) < firstE e N 0 then q else q + 1)).tdiv (Int.gcd (e (if (q : Int) < firstE e N 0 then q else q + 1)) (e i))
  else if i = (if (q : Int) < firstE e N 0 then q else q + 1) then ((e (firstE e N 0).toNat).natAbs : Int).tdiv (Int.gcd (e i) (e (firstE e N 0).toNat)) else 0
theorem gcd_at {x y : Int} {g : Nat} (hx : x.natAbs ≤ 99) (hy : y.natAbs ≤ 99) (h0 : ¬ (x = 0 ∧ y = 0)) (hg : 1 ≤ g) (h1 : x.tmod g = 0 ∧ y.tmod g = 0) (h2 : ∀ d : Nat, g < d → d ≤ 99 → ¬ (x.tmod d = 0 ∧ y.tmod d = 0)) : (Int.gcd x y : Int) = g := by
  have a1 : g ∣ Int.gcd x y := Int.dvd_gcd (Int.dvd_of_tmod_eq_zero h1.1) (Int.dvd_of_tmod_eq_zero h1.2)
  have a2 : 0 < Int.gcd x y := by
    rcases Nat.eq_zero_or_pos (Int.gcd x y) with h | h
    · exact absurd (Int.gcd_eq_zero_iff.mp h) h0
    · exact h
  have a3 := Nat.le_of_dvd a2 a1
  have a4 : Int.gcd x y ≤ 99 := by
    by_cases c : x = 0
    · have hy0 : y ≠ 0 := fun h => h0 ⟨c, h⟩
      exact Nat.le_trans (Nat.le_of_dvd (by omega) (Int.natAbs_dvd_natAbs.mpr (Int.gcd_dvd_right (a := x) (b := y)))) hy
    · exact Nat.le_trans (Nat.le_of_dvd (by omega) (Int.natAbs_dvd_natAbs.mpr (Int.gcd_dvd_left (a := x) (b := y)))) hx
  rcases Nat.lt_or_ge g (Int.gcd x y) with h | h
  · exact absurd ⟨Int.tmod_eq_zero_of_dvd (Int.gcd_dvd_left (a := x) (b := y)), Int.tmod_eq_zero_of_dvd (Int.gcd_dvd_right (a := x) (b := y))⟩ (h2 _ h a4)
  · omega
