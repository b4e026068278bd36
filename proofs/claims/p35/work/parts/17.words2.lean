/-! ROWS that the parts before lack; the words of the text, of combinations -/
section WR3
variable {p : Program} {l : Launch} {e : Env} {R : Room} {s : State} {m : MethodId} {args : Array Value} {below : List Frame} {meth : Method} {c : Code} {k n : Nat} {Q : State → Prop} {G : wG} {M : wM} {nL : Nat} {own : String} {cc : ByteArray} {pc pc' : Nat} {lc : List (Nat × Value)} {st : List Value}
theorem q_i2c {a : Int} (h : 0 ≤ a ∧ a ≤ 65535) : ((Int32.ofInt a).toUInt32 % 65536).toInt32 = Int32.ofInt a := by
  obtain ⟨n, rfl⟩ : ∃ n : Nat, a = n := ⟨a.toNat, by omega⟩
  apply Int32.toBitVec_inj.mp
  show ((Int32.ofInt (n : Int)).toUInt32 % 65536).toBitVec = (Int32.ofInt (n : Int)).toBitVec
  rw [UInt32.toBitVec_mod]
  show (Int32.ofInt (n : Int)).toBitVec % 65536#32 = (Int32.ofInt (n : Int)).toBitVec
  rw [Int32.toBitVec_ofInt]
  apply BitVec.eq_of_toNat_eq
  simp
  omega
theorem r_i2c (X : wX p s m args meth c G nL own cc) {a : Int} (hd : decode cc pc = .ok (.i2c, 1)) (ha : 0 ≤ a ∧ a ≤ 65535) (hp : pc + 1 = pc') (kk : wV p l e R s m args below meth c G nL M k n Q pc' lc (vI a :: st)) : wV p l e R s m args below meth c G nL M k n Q pc lc (vI a :: st) := by
  subst hp; intro H locs ls hW hS hl
  exact lv_i2c (x := Int32.ofInt a) X.1 X.2.1 hd (q_i2c ha) (kk H locs ls hW hS hl)
end WR3
/-- a place in the text, and whether something was wrong -/
abbrev pS : Type := Nat × Int
def pC (ch : Nat → Int) (L : Nat) (a b : Int) (s : pS) : pS := if s.2 = 0 ∧ s.1 < L ∧ a ≤ ch s.1 ∧ ch s.1 ≤ b then (s.1 + 1, 0) else (s.1, 1)
def pD (ch : Nat → Int) (L : Nat) (a b : Int) (s : pS) : Int × pS := (if (pC ch L (48 + a) (48 + b) s).2 = 0 then ch s.1 - 48 else 0, pC ch L (48 + a) (48 + b) s)
def pT (ch : Nat → Int) (L : Nat) (a : Int) (s : pS) : Int × pS := (10 * (pD ch L 0 9 s).1 + (pD ch L (if (pD ch L 0 9 s).1 = 0 then a else 0) 9 (pD ch L 0 9 s).2).1, (pD ch L (if (pD ch L 0 9 s).1 = 0 then a else 0) 9 (pD ch L 0 9 s).2).2)
/-- the sign at a place: '-' or '+' -/
def pZ (ch : Nat → Int) (L : Nat) (s : pS) : Int := if s.1 < L ∧ ch s.1 = 45 then 45 else 43
def pN (ch : Nat → Int) (L : Nat) (s : pS) : Int × pS := (if pZ ch L s = 45 then -(pT ch L 0 (pC ch L (pZ ch L s) (pZ ch L s) s)).1 else (pT ch L 0 (pC ch L (pZ ch L s) (pZ ch L s) s)).1, (pT ch L 0 (pC ch L (pZ ch L s) (pZ ch L s) s)).2)
/-- behind n numbers -/
def pI (ch : Nat → Int) (L : Nat) : Nat → pS → pS
  | 0, s => s
  | n + 1, s => (pN ch L (pI ch L n s)).2
def pOk (L : Nat) (s : pS) : Prop := s.1 ≤ L ∧ (s.2 = 0 ∨ s.2 = 1)
theorem pC_ok {ch : Nat → Int} {L : Nat} {a b : Int} {s : pS} (h : pOk L s) : pOk L (pC ch L a b s) := by
  unfold pC
  split
  · exact ⟨by show s.1 + 1 ≤ L; omega, Or.inl rfl⟩
  · exact ⟨h.1, Or.inr rfl⟩
theorem pD_ok {ch : Nat → Int} {L : Nat} {a b : Int} {s : pS} (h : pOk L s) : pOk L (pD ch L a b s).2 := pC_ok h
theorem pT_ok {ch : Nat → Int} {L : Nat} {a : Int} {s : pS} (h : pOk L s) : pOk L (pT ch L a s).2 := pD_ok (pD_ok h)
theorem pN_ok {ch : Nat → Int} {L : Nat} {s : pS} (h : pOk L s) : pOk L (pN ch L s).2 := pT_ok (pC_ok h)
theorem pI_ok {ch : Nat → Int} {L : Nat} {s : pS} (h : pOk L s) : ∀ n, pOk L (pI ch L n s)
  | 0 => h
  | n + 1 => pN_ok (pI_ok h n)
theorem pC_0 {ch : Nat → Int} {L : Nat} {a b : Int} {s : pS} (h : (pC ch L a b s).2 = 0) : s.2 = 0 ∧ s.1 < L ∧ (a ≤ ch s.1 ∧ ch s.1 ≤ b) ∧ (pC ch L a b s).1 = s.1 + 1 := by
  unfold pC at h ⊢
  by_cases c : s.2 = 0 ∧ s.1 < L ∧ a ≤ ch s.1 ∧ ch s.1 ≤ b
  · rw [if_pos c]; exact ⟨c.1, c.2.1, c.2.2, rfl⟩
  · rw [if_neg c] at h
    exact absurd h (show ¬ (1 : Int) = 0 by decide)
/-- what is wrong stays so, and the place stays -/
theorem pC_1 {ch : Nat → Int} {L : Nat} {a b : Int} {s : pS} (h : s.2 = 1) : pC ch L a b s = s := by
  unfold pC
  rw [if_neg (by omega)]
  exact Prod.ext rfl h.symm
theorem pD_1 {ch : Nat → Int} {L : Nat} {a b : Int} {s : pS} (h : s.2 = 1) : pD ch L a b s = (0, s) := by
  unfold pD
  rw [pC_1 h, if_neg (by omega)]
theorem pT_1 {ch : Nat → Int} {L : Nat} {a : Int} {s : pS} (h : s.2 = 1) : pT ch L a s = (0, s) := by
  unfold pT
  rw [pD_1 h, pD_1 (s := (0, s).2) h]
  rfl
theorem pN_1 {ch : Nat → Int} {L : Nat} {s : pS} (h : s.2 = 1) : pN ch L s = (0, s) := by
  unfold pN
  rw [pC_1 h, pT_1 h]
  split <;> rfl
theorem pI_1 {ch : Nat → Int} {L : Nat} {s : pS} (h : s.2 = 1) : ∀ n, pI ch L n s = s
  | 0 => rfl
  | n + 1 => by
    show (pN ch L (pI ch L n s)).2 = s
    rw [pI_1 h n, pN_1 h]
theorem pD_rng {ch : Nat → Int} {L : Nat} {a b : Int} {s : pS} : ((pD ch L a b s).2.2 = 0 → a ≤ (pD ch L a b s).1 ∧ (pD ch L a b s).1 ≤ b) ∧ (¬ (pD ch L a b s).2.2 = 0 → (pD ch L a b s).1 = 0) := by
  unfold pD
  dsimp only
  by_cases c : (pC ch L (48 + a) (48 + b) s).2 = 0
  · rw [if_pos c]
    have := pC_0 c
    exact ⟨fun _ => by omega, fun h => absurd c h⟩
  · rw [if_neg c]
    exact ⟨fun h => absurd h c, fun _ => rfl⟩
theorem pD_bd {ch : Nat → Int} {L : Nat} {a b : Int} {s : pS} (ha : 0 ≤ a) (hb : 0 ≤ b) : 0 ≤ (pD ch L a b s).1 ∧ (pD ch L a b s).1 ≤ b := by
  have h := pD_rng (ch := ch) (L := L) (a := a) (b := b) (s := s)
  by_cases c : (pD ch L a b s).2.2 = 0
  · have := h.1 c; omega
  · have := h.2 c; omega
theorem pT_bd {ch : Nat → Int} {L : Nat} {a : Int} {s : pS} (ha : 0 ≤ a) : 0 ≤ (pT ch L a s).1 ∧ (pT ch L a s).1 ≤ 99 := by
  unfold pT
  dsimp only
  have h1 := pD_bd (ch := ch) (L := L) (a := 0) (b := 9) (s := s) (by decide) (by decide)
  have h2 := pD_bd (ch := ch) (L := L) (a := if (pD ch L 0 9 s).1 = 0 then a else 0) (b := 9) (s := (pD ch L 0 9 s).2) (by split <;> omega) (by decide)
  omega
theorem pN_bd {ch : Nat → Int} {L : Nat} {s : pS} : -99 ≤ (pN ch L s).1 ∧ (pN ch L s).1 ≤ 99 := by
  unfold pN
  dsimp only
  have h := pT_bd (ch := ch) (L := L) (a := 0) (s := pC ch L (pZ ch L s) (pZ ch L s) s) (by decide)
  split <;> omega
/-- a reader's numbers -/
def TxOk (v : Nat → Nat → Int) (L : Nat) (s : pS) : Prop := v 0 1 = L ∧ L ≤ 200 ∧ v 0 4 = s.1 ∧ v 0 5 = s.2 ∧ pOk L s ∧ ∀ i, i < 200 → 0 ≤ v 1 i ∧ v 1 i ≤ 65535
def setS (M : wM) (s : pS) : wM := wu (wu M 27 0 5 s.2) 27 0 4 s.1
theorem setS_ne {M : wM} {s : pS} {a b : Nat} (h : ¬ (a = 27 ∧ b = 0)) : setS M s a b = M a b := by
  unfold setS
  rw [wu_ne h, wu_ne h]
theorem setS_o {M : wM} {s : pS} {a : Nat} (h : a ≠ 27) : setS M s a = M a := funext fun _ => setS_ne (fun q => h q.1)
theorem setS_1 {M : wM} {s : pS} : setS M s 27 1 = M 27 1 := setS_ne (by omega)
theorem setS_ok {M : wM} {s t : pS} {L : Nat} (h : TxOk (M 27) L s) (ht : pOk L t) : TxOk (setS M t 27) L t := by
  obtain ⟨h1, h2, -, -, -, h6⟩ := h
  exact ⟨by unfold setS wu; simp; exact h1, h2, by unfold setS wu; simp, by unfold setS wu; simp, ht, by rw [setS_1]; exact h6⟩
theorem setS_setS {M : wM} {s t : pS} : setS (setS M s) t = setS M t := by
  funext a b
  by_cases c : a = 27 ∧ b = 0
  · obtain ⟨rfl, rfl⟩ := c
    funext i
    unfold setS wu
    by_cases c1 : i = 4
    · simp [c1]
    · by_cases c2 : i = 5
      · simp [c2]
      · simp [c1, c2]
  · rw [setS_ne c, setS_ne c, setS_ne c]
theorem setS_self {M : wM} {L : Nat} {s : pS} (h : TxOk (M 27) L s) : setS M s = M := by
  obtain ⟨-, -, h3, h4, -⟩ := h
  funext a b i
  unfold setS wu
  split
  · rename_i q
    rw [q.1, q.2.1, q.2.2, h3]
  · split
    · rename_i q
      rw [q.1, q.2.1, q.2.2, h4]
    · rfl
theorem setS_w {M : wM} {s : pS} {v : Int} (h : M 27 0 4 = s.1) : setS M (s.1, v) = wu M 27 0 5 v := by
  funext a b i
  unfold setS wu
  by_cases c : a = 27 ∧ b = 0 ∧ i = 4
  · rw [if_pos c, c.1, c.2.1, c.2.2, if_neg (by decide)]
    exact h.symm
  · rw [if_neg c]
theorem setS_wr {M : wM} {s : pS} {o j : Nat} {f : Nat → Int} (h : o ≠ 27) : wr (setS M s) o j f = setS (wr M o j f) s := by
  funext a b i
  unfold setS wu wr
  by_cases c : a = o ∧ b = j
  · simp [c, h]
  · simp [c]
theorem setS_wu {M : wM} {s : pS} {o j x : Nat} {v : Int} (h : o ≠ 27) : wu (setS M s) o j x v = setS (wu M o j x v) s := by
  funext a b i
  unfold setS wu
  by_cases c : a = o ∧ b = j ∧ i = x
  · simp [c, h]
  · simp [c]
/-- f below n, g from n on -/
def fillF (n : Nat) (f g : Nat → Int) : Nat → Int := fun x => if x < n then f x else g x
theorem fill_0 {f g : Nat → Int} : fillF 0 f g = g := rfl
theorem fill_s {M : wM} {o j n : Nat} {f g : Nat → Int} : wu (wr M o j (fillF n f g)) o j n (f n) = wr M o j (fillF (n + 1) f g) := by
  funext a b i
  unfold wu wr fillF
  by_cases c : a = o ∧ b = j
  · obtain ⟨rfl, rfl⟩ := c
    by_cases d : i = n
    · subst d; simp
    · simp [d]
      by_cases e : i < n
      · rw [if_pos e, if_pos (by omega)]
      · rw [if_neg e, if_neg (by omega)]
  · rw [if_neg c, if_neg c, if_neg (fun q => c ⟨q.1, q.2.1⟩)]
/-- a combination on which the unknown input does not act -/
def combF (e : Nat → Int) (N q i : Nat) : Int :=
  if firstE e N 0 = -1 then (if i = q then 1 else 0)
  else if (i : Int) = firstE e N 0 then (if 0 < e i then -e (if (q : Int) < firstE e N 0 then q else q + 1) else e (if (q : Int) < firstE e N 0 then q else q + 1)).tdiv (Int.gcd (e (if (q : Int) < firstE e N 0 then q else q + 1)) (e i))
  else if i = (if (q : Int) < firstE e N 0 then q else q + 1) then ((e (firstE e N 0).toNat).natAbs : Int).tdiv (Int.gcd (e i) (e (firstE e N 0).toNat)) else 0
theorem gcd_at {x y : Int} {g : Nat} (hx : x.natAbs ≤ 99) (hy : y.natAbs ≤ 99) (h0 : ¬ (x = 0 ∧ y = 0)) (hg : 1 ≤ g) (h1 : x.tmod g = 0 ∧ y.tmod g = 0) (h2 : ∀ d : Nat, g < d → d ≤ 99 → ¬ (x.tmod d = 0 ∧ y.tmod d = 0)) : (Int.gcd x y : Int) = g := by
  have a1 : g ∣ Int.gcd x y := Int.dvd_gcd (Int.dvd_of_tmod_eq_zero h1.1) (Int.dvd_of_tmod_eq_zero h1.2)
  have a2 : 0 < Int.gcd x y := by
    rcases Nat.eq_zero_or_pos (Int.gcd x y) with h | h
    · exact absurd (Int.gcd_eq_zero_iff.mp h) h0
    · exact h
  have a3 := Nat.le_of_dvd a2 a1
  have a4 : Int.gcd x y ≤ 99 := by
    by_cases c : x = 0
    · have hy0 : y ≠ 0 := fun h => h0 ⟨c, h⟩
      exact Nat.le_trans (Nat.le_of_dvd (by omega) (Int.natAbs_dvd_natAbs.mpr (Int.gcd_dvd_right (a := x) (b := y)))) hy
    · exact Nat.le_trans (Nat.le_of_dvd (by omega) (Int.natAbs_dvd_natAbs.mpr (Int.gcd_dvd_left (a := x) (b := y)))) hx
  rcases Nat.lt_or_ge g (Int.gcd x y) with h | h
  · exact absurd ⟨Int.tmod_eq_zero_of_dvd (Int.gcd_dvd_left (a := x) (b := y)), Int.tmod_eq_zero_of_dvd (Int.gcd_dvd_right (a := x) (b := y))⟩ (h2 _ h a4)
  · omega
theorem wu_o {M : wM} {o j i a : Nat} {v : Int} (h : a ≠ o) : wu M o j i v a = M a := funext fun _ => wu_ne (fun q => h q.1)
theorem wr_o {M : wM} {o j a : Nat} {f : Nat → Int} (h : a ≠ o) : wr M o j f a = M a := funext fun _ => wr_ne (fun q => h q.1)
/-- numbers in a row -/
def rowF (ch : Nat → Int) (L : Nat) (s : pS) (j : Nat) : Int := (pN ch L (pI ch L j s)).1
theorem rowF_bd {ch : Nat → Int} {L : Nat} {s : pS} {j : Nat} : -99 ≤ rowF ch L s j ∧ rowF ch L s j ≤ 99 := pN_bd
/-- the head -/
def hdN (ch : Nat → Int) (L : Nat) (s : pS) : Int × pS := pD ch L 1 4 (pC ch L 78 78 s)
def hdP (ch : Nat → Int) (L : Nat) (s : pS) : Int × pS := pD ch L 1 3 (hdN ch L s).2
def hdB (ch : Nat → Int) (L : Nat) (s : pS) : Int × pS := pT ch L 0 (hdP ch L s).2
def hdH (ch : Nat → Int) (L : Nat) (s : pS) : Int × pS := pD ch L 0 9 (hdB ch L s).2
/-- before the row of state i, behind its letter -/
def sS (ch : Nat → Int) (L N : Nat) (s : pS) : Nat → pS
  | 0 => s
  | i + 1 => pI ch L (N + 2) (pC ch L 114 114 (sS ch L N s i))
def sO (ch : Nat → Int) (L N : Nat) (s : pS) : Nat → pS
  | 0 => s
  | k + 1 => (pT ch L 1 (pI ch L N (pC ch L 111 111 (sO ch L N s k)))).2
def gI (ch : Nat → Int) (L N : Nat) (s : pS) : Int × pS := pD ch L 0 ((N : Int) - 1) (pC ch L 103 103 s)
def gK (ch : Nat → Int) (L N P : Nat) (s : pS) : Int × pS := pD ch L 0 ((P : Int) - 1) (gI ch L N s).2
def gV (ch : Nat → Int) (L N P : Nat) (s : pS) : Int × pS := pN ch L (gK ch L N P s).2
def gUp (ch : Nat → Int) (L N P : Nat) (s : pS) (g : Nat → Nat → Int) : Nat → Nat → Int := fun a b => if a = (gI ch L N s).1.toNat ∧ b = (gK ch L N P s).1.toNat then (gV ch L N P s).1 else g a b
def gG (ch : Nat → Int) (L N P : Nat) : Nat → pS → (Nat → Nat → Int) → pS × (Nat → Nat → Int)
  | 0, s, g => (s, g)
  | n + 1, s, g => if s.2 = 0 ∧ s.1 < L then gG ch L N P n (gV ch L N P s).2 (gUp ch L N P s g) else (s, g)
theorem sS_ok {ch : Nat → Int} {L N : Nat} {s : pS} (h : pOk L s) : ∀ i, pOk L (sS ch L N s i)
  | 0 => h
  | i + 1 => pI_ok (pC_ok (sS_ok h i)) _
theorem sO_ok {ch : Nat → Int} {L N : Nat} {s : pS} (h : pOk L s) : ∀ i, pOk L (sO ch L N s i)
  | 0 => h
  | i + 1 => pT_ok (pI_ok (pC_ok (sO_ok h i)) _)
theorem gV_ok {ch : Nat → Int} {L N P : Nat} {s : pS} (h : pOk L s) : pOk L (gV ch L N P s).2 := pN_ok (pD_ok (pD_ok (pC_ok h)))
theorem sS_1 {ch : Nat → Int} {L N : Nat} {s : pS} {i : Nat} (h : (sS ch L N s i).2 = 1) : ∀ n, sS ch L N s (i + n) = sS ch L N s i
  | 0 => rfl
  | n + 1 => by
    show pI ch L (N + 2) (pC ch L 114 114 (sS ch L N s (i + n))) = _
    rw [sS_1 h n, pC_1 h, pI_1 h]
theorem sO_1 {ch : Nat → Int} {L N : Nat} {s : pS} {i : Nat} (h : (sO ch L N s i).2 = 1) : ∀ n, sO ch L N s (i + n) = sO ch L N s i
  | 0 => rfl
  | n + 1 => by
    show (pT ch L 1 (pI ch L N (pC ch L 111 111 (sO ch L N s (i + n))))).2 = _
    rw [sO_1 h n, pC_1 h, pI_1 h, pT_1 h]
theorem gG_stop {ch : Nat → Int} {L N P n : Nat} {s : pS} {g : Nat → Nat → Int} (h : ¬ (s.2 = 0 ∧ s.1 < L)) : gG ch L N P n s g = (s, g) := by
  cases n with
  | zero => rfl
  | succ n => unfold gG; rw [if_neg h]
/-- a reader's memory, behind i states and k outputs -/
def TxF (M Ma : wM) (L N P : Nat) (hb hh : Int) (s : pS) (i k : Nat) : Prop :=
  (∀ a, a ≠ 2 → a ≠ 20 → a ≠ 27 → Ma a = M a) ∧ Ma 27 1 = M 27 1 ∧ (∀ b x, ¬ (b = 0 ∧ (x = 7 ∨ x = 8)) → ¬ (6 ≤ b ∧ b < 10) → Ma 2 b x = M 2 b x) ∧ Ma 20 0 0 = N ∧ Ma 20 0 1 = P ∧ Ma 2 0 8 = hb ∧ Ma 2 0 7 = hh ∧
  (∀ x, x < i → (∀ j, j < N → Ma 20 (2 + x) j = rowF (M 27 1) L (pC (M 27 1) L 114 114 (sS (M 27 1) L N s x)) j) ∧ Ma 20 6 x = rowF (M 27 1) L (pC (M 27 1) L 114 114 (sS (M 27 1) L N s x)) N ∧ Ma 20 7 x = rowF (M 27 1) L (pC (M 27 1) L 114 114 (sS (M 27 1) L N s x)) (N + 1)) ∧
  ∀ x, x < k → (∀ j, j < N → Ma 20 (9 + x) j = rowF (M 27 1) L (pC (M 27 1) L 111 111 (sO (M 27 1) L N (sS (M 27 1) L N s N) x)) j) ∧ Ma 20 12 x = (pT (M 27 1) L 1 (pI (M 27 1) L N (pC (M 27 1) L 111 111 (sO (M 27 1) L N (sS (M 27 1) L N s N) x)))).1
theorem TxF_state {M Ma M1 : wM} {L N P i : Nat} {hb hh : Int} {s : pS} (hN : N ≤ 4) (hi : i < 4) (h : TxF M Ma L N P hb hh s i 0) {c : pS} {t : pS} (hc : c = pC (Ma 27 1) L 114 114 (sS (M 27 1) L N s i)) (e : M1 = setS (wu (wu (wr Ma 20 (2 + i) (fillF N (rowF (Ma 27 1) L c) (Ma 20 (2 + i)))) 20 6 i (rowF (Ma 27 1) L c N)) 20 7 i (rowF (Ma 27 1) L c (N + 1))) t) : TxF M M1 L N P hb hh s (i + 1) 0 := by
  obtain ⟨h1, h2, h3, h4, h5, h6, h7, h8, -⟩ := h
  rw [h2] at hc e
  subst e
  have o20 : ∀ b, b ≠ 2 + i → b ≠ 6 → b ≠ 7 → setS (wu (wu (wr Ma 20 (2 + i) (fillF N (rowF (M 27 1) L c) (Ma 20 (2 + i)))) 20 6 i (rowF (M 27 1) L c N)) 20 7 i (rowF (M 27 1) L c (N + 1))) t 20 b = Ma 20 b := fun b q1 q2 q3 => by
    rw [setS_ne (by omega), wu_ne (by omega), wu_ne (by omega), wr_ne (by omega)]
  refine ⟨fun a a1 a2 a3 => by rw [setS_o a3, wu_o a2, wu_o a2, wr_o a2]; exact h1 a a1 a2 a3, by rw [setS_1, wu_o (by decide), wu_o (by decide), wr_o (by decide)]; exact h2, fun b x q1 q2 => by rw [setS_o (by decide), wu_o (by decide), wu_o (by decide), wr_o (by decide)]; exact h3 b x q1 q2, by rw [o20 0 (by omega) (by omega) (by omega)]; exact h4, by rw [o20 0 (by omega) (by omega) (by omega)]; exact h5, by rw [setS_o (by decide), wu_o (by decide), wu_o (by decide), wr_o (by decide)]; exact h6, by rw [setS_o (by decide), wu_o (by decide), wu_o (by decide), wr_o (by decide)]; exact h7, fun x hx => ?_, fun x hx => absurd hx (Nat.not_lt_zero x)⟩
  by_cases q : x = i
  · subst q
    rw [← hc]
    refine ⟨fun j hj => ?_, ?_, ?_⟩
    · rw [setS_ne (by omega), wu_ne (by omega), wu_ne (by omega), wr_eq]
      unfold fillF
      rw [if_pos hj]
    · rw [setS_ne (by omega), wu_ne (by omega)]
      unfold wu
      rw [if_pos ⟨rfl, rfl, rfl⟩]
    · rw [setS_ne (by omega)]
      unfold wu
      rw [if_pos ⟨rfl, rfl, rfl⟩]
  · have := h8 x (by omega)
    refine ⟨fun j hj => ?_, ?_, ?_⟩
    · rw [setS_ne (by omega), wu_ne (by omega), wu_ne (by omega), wr_ne (by omega)]
      exact this.1 j hj
    · rw [setS_ne (by omega), wu_ne (by omega)]
      unfold wu
      rw [if_neg (by omega), wr_ne (by omega)]
      exact this.2.1
    · rw [setS_ne (by omega)]
      unfold wu
      rw [if_neg (by omega), if_neg (by omega), wr_ne (by omega)]
      exact this.2.2
theorem TxF_out {M Ma M1 : wM} {L N P i k : Nat} {hb hh : Int} {s : pS} (hi : i ≤ 4) (hk : k < 3) (h : TxF M Ma L N P hb hh s i k) {c : pS} {t : pS} (hc : c = pC (Ma 27 1) L 111 111 (sO (M 27 1) L N (sS (M 27 1) L N s N) k)) (e : M1 = setS (wu (wr Ma 20 (9 + k) (fillF N (rowF (Ma 27 1) L c) (Ma 20 (9 + k)))) 20 12 k (pT (Ma 27 1) L 1 (pI (Ma 27 1) L N c)).1) t) : TxF M M1 L N P hb hh s i (k + 1) := by
  obtain ⟨h1, h2, h3, h4, h5, h6, h7, h8, h9⟩ := h
  rw [h2] at hc e
  subst e
  have o20 : ∀ b, b ≠ 9 + k → b ≠ 12 → setS (wu (wr Ma 20 (9 + k) (fillF N (rowF (M 27 1) L c) (Ma 20 (9 + k)))) 20 12 k (pT (M 27 1) L 1 (pI (M 27 1) L N c)).1) t 20 b = Ma 20 b := fun b q1 q2 => by
    rw [setS_ne (by omega), wu_ne (by omega), wr_ne (by omega)]
  refine ⟨fun a a1 a2 a3 => by rw [setS_o a3, wu_o a2, wr_o a2]; exact h1 a a1 a2 a3, by rw [setS_1, wu_o (by decide), wr_o (by decide)]; exact h2, fun b x q1 q2 => by rw [setS_o (by decide), wu_o (by decide), wr_o (by decide)]; exact h3 b x q1 q2, by rw [o20 0 (by omega) (by omega)]; exact h4, by rw [o20 0 (by omega) (by omega)]; exact h5, by rw [setS_o (by decide), wu_o (by decide), wr_o (by decide)]; exact h6, by rw [setS_o (by decide), wu_o (by decide), wr_o (by decide)]; exact h7, fun x hx => ?_, fun x hx => ?_⟩
  · rw [o20 (2 + x) (by omega) (by omega), o20 6 (by omega) (by omega), o20 7 (by omega) (by omega)]
    exact h8 x hx
  · by_cases q : x = k
    · subst q
      rw [← hc]
      refine ⟨fun j hj => ?_, ?_⟩
      · rw [setS_ne (by omega), wu_ne (by omega), wr_eq]
        unfold fillF
        rw [if_pos hj]
      · rw [setS_ne (by omega)]
        unfold wu
        rw [if_pos ⟨rfl, rfl, rfl⟩]
    · have := h9 x (by omega)
      refine ⟨fun j hj => ?_, ?_⟩
      · rw [setS_ne (by omega), wu_ne (by omega), wr_ne (by omega)]
        exact this.1 j hj
      · rw [setS_ne (by omega)]
        unfold wu
        rw [if_neg (by omega), wr_ne (by omega)]
        exact this.2
/-- what leaves plant and characters as they are, and of the start all but gains -/
theorem TxF_keep {M Ma M1 : wM} {L N P i k : Nat} {hb hh : Int} {s : pS} (h : TxF M Ma L N P hb hh s i k) (h1 : ∀ a, a ≠ 2 → a ≠ 27 → M1 a = Ma a) (h2 : M1 27 1 = Ma 27 1) (h3 : ∀ b, ¬ (6 ≤ b ∧ b < 10) → M1 2 b = Ma 2 b) : TxF M M1 L N P hb hh s i k := by
  obtain ⟨g1, g2, g3, g4, g5, g6, g7, g8, g9⟩ := h
  have e20 : M1 20 = Ma 20 := h1 20 (by decide) (by decide)
  exact ⟨fun a a1 a2 a3 => (h1 a a1 a3).trans (g1 a a1 a2 a3), h2.trans g2, fun b x q1 q2 => by rw [h3 b q2]; exact g3 b x q1 q2, by rw [e20]; exact g4, by rw [e20]; exact g5, by rw [h3 0 (by omega)]; exact g6, by rw [h3 0 (by omega)]; exact g7, by rw [e20]; exact g8, by rw [e20]; exact g9⟩
theorem wr_self {M : wM} {o j : Nat} : wr M o j (M o j) = M := by
  funext a b
  unfold wr
  by_cases c : a = o ∧ b = j
  · rw [if_pos c, c.1, c.2]
  · rw [if_neg c]
def rdN (ch : Nat → Int) (L : Nat) : Nat := (hdN ch L (0, 0)).1.toNat
def rdP (ch : Nat → Int) (L : Nat) : Nat := (hdP ch L (0, 0)).1.toNat
def rdS (ch : Nat → Int) (L : Nat) : pS := (hdH ch L (0, 0)).2
def rdO (ch : Nat → Int) (L : Nat) : pS := sO ch L (rdN ch L) (sS ch L (rdN ch L) (rdS ch L) (rdN ch L)) (rdP ch L)
/-- a text read: the place where it ends or is wrong; the gains -/
def rdE (ch : Nat → Int) (L : Nat) : pS × (Nat → Nat → Int) := gG ch L (rdN ch L) (rdP ch L) 200 (rdO ch L) (fun _ _ => 0)
def TxB (v : Nat → Nat → Int) (L : Nat) : Prop := v 0 1 = L ∧ L ≤ 200 ∧ ∀ i, i < 200 → 0 ≤ v 1 i ∧ v 1 i ≤ 65535
theorem rd0 {L : Nat} : pOk L (0, 0) := ⟨Nat.zero_le _, Or.inl rfl⟩
theorem rdS_ok {ch : Nat → Int} {L : Nat} : pOk L (rdS ch L) := pD_ok (pT_ok (pD_ok (pD_ok (pC_ok rd0))))
theorem rd_n {ch : Nat → Int} {L : Nat} : (hdN ch L (0, 0)).1 = (rdN ch L : Int) ∧ rdN ch L ≤ 4 := by
  have h := pD_bd (ch := ch) (L := L) (a := 1) (b := 4) (s := pC ch L 78 78 (0, 0)) (by decide) (by decide)
  unfold rdN hdN
  omega
theorem rd_p {ch : Nat → Int} {L : Nat} : (hdP ch L (0, 0)).1 = (rdP ch L : Int) ∧ rdP ch L ≤ 3 := by
  have h := pD_bd (ch := ch) (L := L) (a := 1) (b := 3) (s := (hdN ch L (0, 0)).2) (by decide) (by decide)
  unfold rdP hdP
  omega
theorem p01 {L : Nat} {s : pS} (h : pOk L s) : ¬ s.2 = 1 ↔ s.2 = 0 := by
  have := h.2
  omega
theorem pD_0 {ch : Nat → Int} {L : Nat} {a b : Int} {s : pS} (h : (pD ch L a b s).2.2 = 0) : s.2 = 0 := (pC_0 h).1
theorem pT_0 {ch : Nat → Int} {L : Nat} {a : Int} {s : pS} (h : (pT ch L a s).2.2 = 0) : s.2 = 0 := pD_0 (pD_0 h)
theorem rdS_0 {ch : Nat → Int} {L : Nat} (h : (rdS ch L).2 = 0) : 1 ≤ rdN ch L ∧ 1 ≤ rdP ch L := by
  have h1 := pT_0 (pD_0 h)
  have h2 := pD_0 h1
  have a := (pD_rng (ch := ch) (L := L) (a := 1) (b := 4) (s := pC ch L 78 78 (0, 0))).1 h2
  have b := (pD_rng (ch := ch) (L := L) (a := 1) (b := 3) (s := (hdN ch L (0, 0)).2)).1 h1
  unfold rdN rdP hdP
  unfold hdN
  unfold hdN at b
  omega
theorem setS_0 {M : wM} : wu (wu M 27 0 4 0) 27 0 5 0 = setS M (0, 0) := by
  funext a b i
  unfold setS wu
  by_cases c1 : a = 27 ∧ b = 0 ∧ i = 4
  · simp [c1]
  · by_cases c2 : a = 27 ∧ b = 0 ∧ i = 5
    · simp [c2]
    · simp only [if_neg c1, if_neg c2]
theorem TxB.ok {M : wM} {L : Nat} {s : pS} (h : TxB (M 27) L) (hs : pOk L s) : TxOk (setS M s 27) L s := by
  obtain ⟨h1, h2, h3⟩ := h
  exact ⟨by unfold setS wu; simp; exact h1, h2, by unfold setS wu; simp, by unfold setS wu; simp, hs, by rw [setS_1]; exact h3⟩
theorem gG_s {ch : Nat → Int} {L N P n : Nat} {s : pS} {g : Nat → Nat → Int} (h : s.2 = 0 ∧ s.1 < L) : gG ch L N P (n + 1) s g = gG ch L N P n (gV ch L N P s).2 (gUp ch L N P s g) := by
  show (if s.2 = 0 ∧ s.1 < L then _ else _) = _
  rw [if_pos h]
theorem q_narC {x : Int} (h : 0 ≤ x ∧ x ≤ 65535) : narrow .char (vI x) = vI x := congrArg Value.int (q_i2c h)
