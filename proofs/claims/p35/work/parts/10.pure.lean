/-! NUMBERS: the words in which both systems are told -/
def dot : Nat → (Nat → Int) → (Nat → Int) → Int
  | 0, _, _ => 0
  | n + 1, f, g => dot n f g + f n * g n
theorem dot_congr {f f' g g' : Nat → Int} : ∀ {n : Nat}, (∀ i, i < n → f i = f' i) → (∀ i, i < n → g i = g' i) → dot n f g = dot n f' g'
  | 0, _, _ => rfl
  | n + 1, h1, h2 => by
    unfold dot
    rw [dot_congr (fun i hi => h1 i (by omega)) (fun i hi => h2 i (by omega)), h1 n (by omega), h2 n (by omega)]
theorem mul_bd {a b A B : Int} (hA : 0 ≤ A) (ha : -A ≤ a ∧ a ≤ A) (hb : -B ≤ b ∧ b ≤ B) : -(A * B) ≤ a * b ∧ a * b ≤ A * B := by
  have h1 : a.natAbs ≤ A.natAbs := by omega
  have h2 : b.natAbs ≤ B.natAbs := by omega
  have h3 := Nat.mul_le_mul h1 h2
  rw [← Int.natAbs_mul, ← Int.natAbs_mul] at h3
  have hB : 0 ≤ B := by omega
  have h4 : 0 ≤ A * B := Int.mul_nonneg hA hB
  omega
theorem dot_bd {f g : Nat → Int} {A B : Int} (hA : 0 ≤ A) (hB : 0 ≤ B) : ∀ {n : Nat}, (∀ i, i < n → -A ≤ f i ∧ f i ≤ A) → (∀ i, i < n → -B ≤ g i ∧ g i ≤ B) → -(n * (A * B)) ≤ dot n f g ∧ dot n f g ≤ n * (A * B)
  | 0, _, _ => by simp [dot]
  | n + 1, h1, h2 => by
    have h3 := dot_bd hA hB (n := n) (fun i hi => h1 i (by omega)) (fun i hi => h2 i (by omega))
    have h4 := mul_bd hA (h1 n (by omega)) (h2 n (by omega))
    unfold dot
    generalize A * B = Z at h3 h4 ⊢
    have e : ((n + 1 : Nat) : Int) * Z = n * Z + Z := by rw [Int.natCast_add, Int.add_mul]; simp
    rw [e]
    generalize (n : Int) * Z = Y at h3 ⊢
    omega
/-- the floor of a quotient, from the machine's -/
theorem fdiv_of {a b q : Int} (hb : b ≠ 0) (hq : q = a.tdiv b) : a.fdiv b = if ((a < 0 ∧ ¬ b < 0) ∨ (¬ a < 0 ∧ b < 0)) ∧ q * b ≠ a then q - 1 else q := by
  subst hq
  have e := Int.tmod_add_tdiv_mul a b
  have h0 : a.tdiv b * b = a - a.tmod b := by omega
  have key : ∀ q : Int, (0 < b → q * b ≤ a ∧ a < q * b + b) → (b < 0 → a ≤ q * b ∧ q * b + b < a) → a.fdiv b = q := by
    intro q h1 h2
    rcases Int.lt_or_gt_of_ne hb with h | h
    · have := h2 h
      rw [← Int.neg_fdiv_neg, Int.fdiv_eq_ediv_of_nonneg _ (by omega)]
      refine Int.le_antisymm (Int.lt_add_one_iff.mp ((Int.ediv_lt_iff_lt_mul (by omega)).mpr ?_)) ((Int.le_ediv_iff_mul_le (by omega)).mpr ?_)
      · rw [Int.add_mul, Int.mul_neg]; omega
      · rw [Int.mul_neg]; omega
    · have := h1 h
      rw [Int.fdiv_eq_ediv_of_nonneg _ (by omega)]
      refine Int.le_antisymm (Int.lt_add_one_iff.mp ((Int.ediv_lt_iff_lt_mul h).mpr ?_)) ((Int.le_ediv_iff_mul_le h).mpr ?_)
      · rw [Int.add_mul]; omega
      · omega
  have sg : (a < 0 → a.tmod b ≤ 0) ∧ (0 ≤ a → 0 ≤ a.tmod b) := by
    constructor
    · intro h
      have := Int.tmod_nonneg b (a := -a) (by omega)
      rw [Int.neg_tmod] at this
      omega
    · intro h
      exact Int.tmod_nonneg b h
  have bd : (a.tmod b).natAbs < b.natAbs := by
    rw [Int.natAbs_tmod]
    exact Nat.mod_lt _ (by omega)
  by_cases c : ((a < 0 ∧ ¬ b < 0) ∨ (¬ a < 0 ∧ b < 0)) ∧ a.tdiv b * b ≠ a
  · rw [if_pos c]
    apply key
    · intro h
      rw [Int.sub_mul]; omega
    · intro h
      rw [Int.sub_mul]; omega
  · rw [if_neg c]
    apply key
    · intro h
      omega
    · intro h
      omega
theorem fdiv_small {a b B : Int} (hb : 0 < b) (h : -B ≤ a ∧ a ≤ B) (hB : 0 ≤ B) : -B ≤ a.fdiv b ∧ a.fdiv b ≤ B := by
  rw [Int.fdiv_eq_ediv_of_nonneg _ (by omega)]
  constructor
  · refine (Int.le_ediv_iff_mul_le hb).mpr ?_
    have : B * 1 ≤ B * b := Int.mul_le_mul_of_nonneg_left (by omega) hB
    rw [Int.neg_mul]; omega
  · have := Int.ediv_le_ediv hb h.2
    have h2 : B / b ≤ B := Int.ediv_le_self b hB
    omega
/-- a number between -m and m -/
def lim (v m : Int) : Int := if m < v then m else if v < -m then -m else v
theorem q_tdiv {a b : Int} (hb : b ≠ 0) : (-(a.natAbs : Int) ≤ a.tdiv b ∧ a.tdiv b ≤ a.natAbs) ∧ (-(a.natAbs : Int) ≤ a.tdiv b * b ∧ a.tdiv b * b ≤ a.natAbs) := by
  have e := Int.tmod_add_tdiv_mul a b
  have h1 : (a.tdiv b).natAbs ≤ a.natAbs := by
    rw [Int.natAbs_tdiv]
    exact Nat.div_le_self _ _
  have h2 : (a.tdiv b * b).natAbs ≤ a.natAbs := by
    rw [Int.natAbs_mul, Int.natAbs_tdiv]
    exact Nat.div_mul_le_self _ _
  omega
theorem tmod_bd {a b : Int} (hb : 0 < b) : (-b < a.tmod b ∧ a.tmod b < b) ∧ (a < 0 → a.tmod b ≤ 0) ∧ (0 ≤ a → 0 ≤ a.tmod b) := by
  have bd : (a.tmod b).natAbs < b.natAbs := by
    rw [Int.natAbs_tmod]
    exact Nat.mod_lt _ (by omega)
  refine ⟨by omega, ?_, fun h => Int.tmod_nonneg b h⟩
  intro h
  have := Int.tmod_nonneg b (a := -a) (by omega)
  rw [Int.neg_tmod] at this
  omega
theorem emod_of {a b : Int} (hb : 0 < b) : a % b = if a < 0 ∧ a.tmod b ≠ 0 then a.tmod b + b else a.tmod b := by
  have e := Int.tmod_add_tdiv_mul a b
  have h1 := tmod_bd (a := a) hb
  have key : ∀ r q : Int, a = r + q * b → 0 ≤ r → r < b → a % b = r := by
    intro r q h h2 h3
    rw [h, Int.add_mul_emod_self_right]
    exact Int.emod_eq_of_lt h2 h3
  by_cases c : a < 0 ∧ a.tmod b ≠ 0
  · rw [if_pos c]
    exact key _ (a.tdiv b - 1) (by rw [Int.sub_mul]; omega) (by omega) (by omega)
  · rw [if_neg c]
    exact key _ (a.tdiv b) (by omega) (by omega) (by omega)
/-- the least (gr 0) or the greatest (gr 1) value of a combination, without the state 'but' -/
def ext : Nat → (Nat → Int) → (Nat → Int) → (Nat → Int) → Int → Int → Int
  | 0, _, _, _, _, _ => 0
  | n + 1, f, lo, hi, but, gr => ext n f lo hi but gr + if (n : Int) = but then 0 else f n * (if 0 < f n ↔ gr = 1 then hi n else lo n)
theorem ext_but {n : Nat} {f lo hi : Nat → Int} {but gr : Int} (h : (n : Int) = but) : ext (n + 1) f lo hi but gr = ext n f lo hi but gr := by
  show ext n f lo hi but gr + (if (n : Int) = but then 0 else _) = _
  rw [if_pos h, Int.add_zero]
theorem ext_hi {n : Nat} {f lo hi : Nat → Int} {but gr : Int} (h : ¬ (n : Int) = but) (h2 : 0 < f n ↔ gr = 1) : ext (n + 1) f lo hi but gr = ext n f lo hi but gr + f n * hi n := by
  show ext n f lo hi but gr + (if (n : Int) = but then 0 else f n * (if 0 < f n ↔ gr = 1 then hi n else lo n)) = _
  rw [if_neg h, if_pos h2]
theorem ext_lo {n : Nat} {f lo hi : Nat → Int} {but gr : Int} (h : ¬ (n : Int) = but) (h2 : ¬ (0 < f n ↔ gr = 1)) : ext (n + 1) f lo hi but gr = ext n f lo hi but gr + f n * lo n := by
  show ext n f lo hi but gr + (if (n : Int) = but then 0 else f n * (if 0 < f n ↔ gr = 1 then hi n else lo n)) = _
  rw [if_neg h, if_neg h2]
/-- the sum of the widths -/
def wid : Nat → (Nat → Int) → (Nat → Int) → Int
  | 0, _, _ => 0
  | n + 1, lo, hi => wid n lo hi + (hi n - lo n)
/-- a whole object set -/
def wo (M : wM) (o : Nat) (f : Nat → Nat → Int) : wM := fun a => if a = o then f else M a
/-- rows copied: n rows from (fo, fb) on to (to, tb) on -/
def wrs (M : wM) (to tb n fo fb : Nat) : wM := fun a b => if a = to ∧ tb ≤ b ∧ b < tb + n then M fo (fb + (b - tb)) else M a b
theorem wrs_0 {M : wM} {to tb fo fb : Nat} : wrs M to tb 0 fo fb = M := by
  funext a b
  unfold wrs
  rw [if_neg (by omega)]
theorem wrs_s {M : wM} {to tb n fo fb : Nat} (h : fo ≠ to) : wr (wrs M to tb n fo fb) to (tb + n) (wrs M to tb n fo fb fo (fb + n)) = wrs M to tb (n + 1) fo fb := by
  funext a b
  have e : wrs M to tb n fo fb fo (fb + n) = M fo (fb + n) := by
    unfold wrs
    rw [if_neg (fun q => h q.1)]
  rw [e]
  unfold wr wrs
  by_cases h1 : a = to ∧ b = tb + n
  · rw [if_pos h1, if_pos ⟨h1.1, by omega, by omega⟩, h1.2, show tb + n - tb = n by omega]
  · rw [if_neg h1]
    by_cases h2 : a = to ∧ tb ≤ b ∧ b < tb + n
    · rw [if_pos h2, if_pos ⟨h2.1, by omega, by omega⟩]
    · rw [if_neg h2, if_neg (fun q => by rcases Nat.lt_or_ge b (tb + n) with z | z; exact h2 ⟨q.1, q.2.1, z⟩; exact h1 ⟨q.1, by omega⟩)]
/-- what the world holds of the numbers -/
def wrel (o j i : Nat) : Prop := ∃ k : wKd, wkd o j = some k ∧ match k with
  | .inl q => q.2[i]? = some none
  | .inr q => q.1 < 4 ∧ i < q.2.1
theorem wFs_congr (G : wG) {g g' : Nat → Int} : ∀ (fs : List (Option (Nat × Nat))) (k : Nat), (∀ i, fs[i]? = some none → g (k + i) = g' (k + i)) → wFs G g fs k = wFs G g' fs k
  | [], _, _ => rfl
  | some q :: r, k, h => by
    show vR G q :: wFs G g r (k + 1) = vR G q :: wFs G g' r (k + 1)
    rw [wFs_congr G (g' := g') r (k + 1) (fun i hi => by have := h (i + 1) (by simpa using hi); rw [show k + 1 + i = k + (i + 1) by omega]; exact this)]
  | none :: r, k, h => by
    show vI (g k) :: wFs G g r (k + 1) = vI (g' k) :: wFs G g' r (k + 1)
    rw [wFs_congr G (g' := g') r (k + 1) (fun i hi => by have := h (i + 1) (by simpa using hi); rw [show k + 1 + i = k + (i + 1) by omega]; exact this), show g k = g' k from h 0 rfl]
theorem wW.congr {G : wG} {M M' : wM} {H : Heap} (h : wW G M H) (hM : ∀ o j i : Nat, wrel o j i → M o j i = M' o j i) : wW G M' H := by
  intro o j k hk
  have h1 := h o j k hk
  cases k with
  | inl q =>
    obtain ⟨r, h2, h3⟩ := h1
    refine ⟨r, h2, ?_⟩
    rw [← wFs_congr G (g := M o j) (g' := M' o j) q.2 0 (fun i hi => by rw [Nat.zero_add]; exact hM o j i ⟨_, hk, hi⟩)]
    exact h3
  | inr q =>
    show H[_]? = some (arrV _ _ (wAr G (M' o j) q.1 q.2.2))
    have h2 : H[G.2.2.1 o j]? = some (arrV (G.1 q.1) q.2.1 (wAr G (M o j) q.1 q.2.2)) := h1
    rw [h2]
    congr 1
    refine q_arr_ext fun i hi => ?_
    by_cases ht : q.1 < 4
    · unfold wAr
      rw [hM o j i ⟨_, hk, ht, hi⟩]
    · unfold wAr
      rw [if_neg (by omega), if_neg ht, if_neg (by omega), if_neg ht]
theorem w_mem {p : Program} {l : Launch} {e : Env} {R : Room} {s : State} {m : MethodId} {args : Array Value} {below : List Frame} {meth : Method} {c : Code} {k n : Nat} {Q : State → Prop} {G : wG} {M : wM} {nL : Nat} {pc : Nat} {lc : List (Nat × Value)} {st : List Value} (M' : wM) (hM : ∀ o j i : Nat, wrel o j i → M o j i = M' o j i) (kk : wV p l e R s m args below meth c G nL M' k n Q pc lc st) : wV p l e R s m args below meth c G nL M k n Q pc lc st := fun H locs ls hW hS hl => kk H locs ls (hW.congr hM) hS hl
theorem wrel_m {o j i : Nat} (ho : o < 19) (h : wrel o j i) : (j = 0 ∧ 7 ≤ i ∧ i ≤ 11) ∨ (1 ≤ j ∧ j ≤ 4 ∧ i < 4) ∨ (6 ≤ j ∧ j ≤ 11 ∧ i < 3) ∨ (12 ≤ j ∧ j ≤ 13 ∧ i < 4) := by
  obtain ⟨k, h1, h2⟩ := h
  rw [wkd_m ho] at h1
  match j, h1 with
  | 0, h1 =>
    cases h1
    refine Or.inl ⟨rfl, ?_⟩
    match i, h2 with
    | 7, _ => omega
    | 8, _ => omega
    | 9, _ => omega
    | 10, _ => omega
    | 11, _ => omega
    | n + 14, h2 => simp at h2
  | 1, h1 => cases h1; exact Or.inr (Or.inl ⟨by omega, by omega, h2.2⟩)
  | 2, h1 => cases h1; exact Or.inr (Or.inl ⟨by omega, by omega, h2.2⟩)
  | 3, h1 => cases h1; exact Or.inr (Or.inl ⟨by omega, by omega, h2.2⟩)
  | 4, h1 => cases h1; exact Or.inr (Or.inl ⟨by omega, by omega, h2.2⟩)
  | 5, h1 => cases h1; exact absurd h2.1 (show ¬ 4 < 4 by decide)
  | 6, h1 => cases h1; exact Or.inr (Or.inr (Or.inl ⟨by omega, by omega, h2.2⟩))
  | 7, h1 => cases h1; exact Or.inr (Or.inr (Or.inl ⟨by omega, by omega, h2.2⟩))
  | 8, h1 => cases h1; exact Or.inr (Or.inr (Or.inl ⟨by omega, by omega, h2.2⟩))
  | 9, h1 => cases h1; exact Or.inr (Or.inr (Or.inl ⟨by omega, by omega, h2.2⟩))
  | 10, h1 => cases h1; exact Or.inr (Or.inr (Or.inl ⟨by omega, by omega, h2.2⟩))
  | 11, h1 => cases h1; exact Or.inr (Or.inr (Or.inl ⟨by omega, by omega, h2.2⟩))
  | 12, h1 => cases h1; exact Or.inr (Or.inr (Or.inr ⟨by omega, by omega, h2.2⟩))
  | 13, h1 => cases h1; exact Or.inr (Or.inr (Or.inr ⟨by omega, by omega, h2.2⟩))
  | n + 14, h1 => cases h1
theorem wrel_p {o j i : Nat} (ho : o = 19 ∨ o = 20) (h : wrel o j i) : (j = 0 ∧ i ≤ 1) ∨ (2 ≤ j ∧ j ≤ 7 ∧ i < 4) ∨ (9 ≤ j ∧ j ≤ 11 ∧ i < 4) ∨ (j = 12 ∧ i < 3) := by
  obtain ⟨k, h1, h2⟩ := h
  rw [wkd_p ho] at h1
  match j, h1 with
  | 0, h1 =>
    cases h1
    refine Or.inl ⟨rfl, ?_⟩
    match i, h2 with
    | 0, _ => omega
    | 1, _ => omega
    | n + 7, h2 => simp at h2
  | 1, h1 => cases h1; exact absurd h2.1 (show ¬ 4 < 4 by decide)
  | 2, h1 => cases h1; exact Or.inr (Or.inl ⟨by omega, by omega, h2.2⟩)
  | 3, h1 => cases h1; exact Or.inr (Or.inl ⟨by omega, by omega, h2.2⟩)
  | 4, h1 => cases h1; exact Or.inr (Or.inl ⟨by omega, by omega, h2.2⟩)
  | 5, h1 => cases h1; exact Or.inr (Or.inl ⟨by omega, by omega, h2.2⟩)
  | 6, h1 => cases h1; exact Or.inr (Or.inl ⟨by omega, by omega, h2.2⟩)
  | 7, h1 => cases h1; exact Or.inr (Or.inl ⟨by omega, by omega, h2.2⟩)
  | 8, h1 => cases h1; exact absurd h2.1 (show ¬ 4 < 4 by decide)
  | 9, h1 => cases h1; exact Or.inr (Or.inr (Or.inl ⟨by omega, by omega, h2.2⟩))
  | 10, h1 => cases h1; exact Or.inr (Or.inr (Or.inl ⟨by omega, by omega, h2.2⟩))
  | 11, h1 => cases h1; exact Or.inr (Or.inr (Or.inl ⟨by omega, by omega, h2.2⟩))
  | 12, h1 => cases h1; exact Or.inr (Or.inr (Or.inr ⟨rfl, h2.2⟩))
  | n + 13, h1 => cases h1
/-- a plant's numbers, as they may be -/
def PlOk (v : Nat → Nat → Int) (N P : Nat) : Prop := v 0 0 = N ∧ 1 ≤ N ∧ N ≤ 4 ∧ v 0 1 = P ∧ 1 ≤ P ∧ P ≤ 3 ∧ (∀ a i, a < N → i < N → -99 ≤ v (2 + a) i ∧ v (2 + a) i ≤ 99) ∧ (∀ i, i < N → -99 ≤ v 6 i ∧ v 6 i ≤ 99) ∧ (∀ i, i < N → -99 ≤ v 7 i ∧ v 7 i ≤ 99) ∧ (∀ k i, k < P → i < N → -99 ≤ v (9 + k) i ∧ v (9 + k) i ≤ 99) ∧ ∀ k, k < P → 1 ≤ v 12 k ∧ v 12 k ≤ 99
/-- a moment's -/
def MoOk (v : Nat → Nat → Int) (N P : Nat) (T : Int) : Prop := (∀ i, i < N → -1000000 ≤ v 1 i ∧ v 1 i ≤ 1000000) ∧ (∀ i, i < N → -1000000 ≤ v 2 i ∧ v 2 i ≤ 1000000) ∧ (∀ i, i < N → -1000000 ≤ v 3 i ∧ v 3 i ≤ 1000000) ∧ (∀ i, i < N → -16000000 ≤ v 4 i ∧ v 4 i ≤ 16000000) ∧ (∀ i k, i < N → k < P → -99 ≤ v (6 + i) k ∧ v (6 + i) k ≤ 99) ∧ (∀ k, k < P → -400000000 ≤ v 10 k ∧ v 10 k ≤ 400000000) ∧ (∀ k, k < P → -1 ≤ v 11 k ∧ v 11 k ≤ T) ∧ (0 ≤ v 0 7 ∧ v 0 7 ≤ 9) ∧ (0 ≤ v 0 8 ∧ v 0 8 ≤ 99) ∧ (0 ≤ v 0 9 ∧ v 0 9 ≤ T) ∧ (-99 ≤ v 0 10 ∧ v 0 10 ≤ 99) ∧ (0 ≤ v 0 11 ∧ v 0 11 ≤ 99) ∧ (∀ i, i < N → -30000000 ≤ v 12 i ∧ v 12 i ≤ 30000000) ∧ ∀ i, i < N → -30000000 ≤ v 13 i ∧ v 13 i ≤ 30000000
theorem tm_nat (a b : Nat) : ((a : Int)).tmod (b : Int) = ((a % b : Nat) : Int) := rfl
/-- values that the fresh outputs allow -/
def meets (N P : Nat) (pv : Nat → Nat → Int) (vals y age : Nat → Int) : Prop := ∀ k, k < P → age k = 0 → (dot N (pv (9 + k)) vals).fdiv (pv 12 k) = y k
/-- an unknown input that the last step may have had -/
def expl (N : Nat) (pv v : Nat → Nat → Int) (d : Int) : Prop := ∀ i, i < N → pv 7 i ≠ 0 → ¬ (-1000000 < v 2 i ∧ pv 7 i * d < v 2 i - pv 6 i * v 0 10 - v 13 i) ∧ ¬ (v 3 i < 1000000 ∧ v 3 i - pv 6 i * v 0 10 - v 12 i < pv 7 i * d)
/-- the first state on which the unknown input acts, or -1 -/
def firstE (f : Nat → Int) : Nat → Nat → Int
  | 0, _ => -1
  | n + 1, i => if f i ≠ 0 then (i : Int) else firstE f n (i + 1)
theorem fdiv_bd {a c B : Int} (hc : c ≠ 0) (h : -B ≤ a ∧ a ≤ B) (hB : 0 ≤ B) : -B ≤ a.fdiv c ∧ a.fdiv c ≤ B := by
  rcases Int.lt_or_gt_of_ne hc with q | q
  · rw [← Int.neg_fdiv_neg]
    exact fdiv_small (by omega) (by omega) hB
  · exact fdiv_small q h hB
theorem ext_bd {f lo hi : Nat → Int} {but gr A B : Int} (hA : 0 ≤ A) (hB : 0 ≤ B) : ∀ {n : Nat}, (∀ i, i < n → -A ≤ f i ∧ f i ≤ A) → (∀ i, i < n → -B ≤ lo i ∧ lo i ≤ B) → (∀ i, i < n → -B ≤ hi i ∧ hi i ≤ B) → -(n * (A * B)) ≤ ext n f lo hi but gr ∧ ext n f lo hi but gr ≤ n * (A * B)
  | 0, _, _, _ => by simp [ext]
  | n + 1, h1, h2, h3 => by
    have h4 := ext_bd (but := but) (gr := gr) hA hB (n := n) (fun i hi => h1 i (by omega)) (fun i hi => h2 i (by omega)) (fun i hi => h3 i (by omega))
    have h5 := mul_bd hA (h1 n (by omega)) (h2 n (by omega))
    have h6 := mul_bd hA (h1 n (by omega)) (h3 n (by omega))
    have hz : 0 ≤ A * B := Int.mul_nonneg hA hB
    unfold ext
    generalize A * B = Z at h4 h5 h6 hz ⊢
    have e : ((n + 1 : Nat) : Int) * Z = n * Z + Z := by rw [Int.natCast_add, Int.add_mul]; simp
    rw [e]
    generalize (n : Int) * Z = Y at h4 ⊢
    split
    · omega
    · split <;> omega
theorem ext_congr {f f' lo lo' hi hi' : Nat → Int} {but gr : Int} : ∀ {n : Nat}, (∀ i, i < n → f i = f' i) → (∀ i, i < n → lo i = lo' i) → (∀ i, i < n → hi i = hi' i) → ext n f lo hi but gr = ext n f' lo' hi' but gr
  | 0, _, _, _ => rfl
  | n + 1, h1, h2, h3 => by
    unfold ext
    rw [ext_congr (fun i hi => h1 i (by omega)) (fun i hi => h2 i (by omega)) (fun i hi => h3 i (by omega)), h1 n (by omega), h2 n (by omega), h3 n (by omega)]
theorem lim_bd {a b : Int} (hb : 0 ≤ b) : -b ≤ lim a b ∧ lim a b ≤ b := by
  unfold lim
  split
  · omega
  · split <;> omega
/-- a step's truth, intervals, estimate: what state i becomes -/
def truthF (N : Nat) (pv : Nat → Nat → Int) (u d : Int) (tr : Nat → Int) (i : Nat) : Int := lim ((dot N (pv (2 + i)) tr).fdiv 16 + pv 6 i * u + pv 7 i * d) 1000000
def endF (N : Nat) (pv : Nat → Nat → Int) (lo hi : Nat → Int) (gr : Int) (i : Nat) : Int := (ext N (pv (2 + i)) lo hi (-1) gr).fdiv 16
def lowF (N : Nat) (pv : Nat → Nat → Int) (u bo : Int) (lo hi : Nat → Int) (i : Nat) : Int := lim (endF N pv lo hi 0 i + pv 6 i * u - ((pv 7 i).natAbs : Int) * bo) 1000000
def uppF (N : Nat) (pv : Nat → Nat → Int) (u bo : Int) (lo hi : Nat → Int) (i : Nat) : Int := lim (endF N pv lo hi 1 i + pv 6 i * u + ((pv 7 i).natAbs : Int) * bo) 1000000
def devF (N : Nat) (pv v : Nat → Nat → Int) (k : Nat) : Int := if v 11 k = -1 ∨ v 0 7 < v 11 k then 0 else 16 * pv 12 k * v 10 k + 8 * (pv 12 k - 1) - dot N (pv (9 + k)) (v 4)
def estF (N P : Nat) (pv v : Nat → Nat → Int) (u : Int) (i : Nat) : Int := lim ((dot N (pv (2 + i)) (v 4)).fdiv 16 + 16 * pv 6 i * u + (dot P (v (6 + i)) (devF N pv v)).fdiv 16) 16000000
/-- both bounds of a moment set -/
def setLH (M : wM) (om : Nat) (lo hi : Nat → Int) : wM := wr (wr M om 2 lo) om 3 hi
theorem setLH_2 {M : wM} {om : Nat} {lo hi : Nat → Int} : setLH M om lo hi om 2 = lo := by simp [setLH, wr]
theorem setLH_3 {M : wM} {om : Nat} {lo hi : Nat → Int} : setLH M om lo hi om 3 = hi := by simp [setLH, wr]
theorem setLH_ne {M : wM} {om : Nat} {lo hi : Nat → Int} {a b : Nat} (h : ¬ (a = om ∧ (b = 2 ∨ b = 3))) : setLH M om lo hi a b = M a b := by
  unfold setLH
  rw [wr_ne (fun q => h ⟨q.1, Or.inr q.2⟩), wr_ne (fun q => h ⟨q.1, Or.inl q.2⟩)]
theorem setLH_self {M : wM} {om : Nat} : setLH M om (M om 2) (M om 3) = M := by
  funext a b
  unfold setLH wr
  by_cases h : a = om ∧ b = 3
  · rw [if_pos h, h.1, h.2]
  · rw [if_neg h]
    by_cases h2 : a = om ∧ b = 2
    · rw [if_pos h2, h2.1, h2.2]
    · rw [if_neg h2]
theorem setLH_setLH {M : wM} {om : Nat} {lo hi lo' hi' : Nat → Int} : setLH (setLH M om lo hi) om lo' hi' = setLH M om lo' hi' := by
  funext a b
  unfold setLH wr
  by_cases h : a = om ∧ b = 3
  · rw [if_pos h, if_pos h]
  · rw [if_neg h, if_neg h]
    by_cases h2 : a = om ∧ b = 2
    · rw [if_pos h2, if_neg h, if_pos h2]
    · rw [if_neg h2, if_neg h, if_neg h2, if_neg h2]
/-- f, but v at j -/
def up1 (f : Nat → Int) (j : Nat) (v : Int) : Nat → Int := fun i => if i = j then v else f i
/-- the values that a condition leaves: from, to -/
def cutLo (c first last : Int) : Int := if 0 < c then -((-first).fdiv c) else -((-last).fdiv c)
def cutHi (c first last : Int) : Int := if 0 < c then last.fdiv c else first.fdiv c
def cutA (N : Nat) (f : Nat → Int) (q y : Int) (j : Nat) (lo hi : Nat → Int) : Int := max (cutLo (f j) (q * y - ext N f lo hi j 1) (q * y + q - 1 - ext N f lo hi j 0)) (lo j)
def cutB (N : Nat) (f : Nat → Int) (q y : Int) (j : Nat) (lo hi : Nat → Int) : Int := min (cutHi (f j) (q * y - ext N f lo hi j 1) (q * y + q - 1 - ext N f lo hi j 0)) (hi j)
abbrev tS : Type := Int × (Nat → Int) × (Nat → Int)
/-- one cut: 0 nothing, 1 something, 2 nothing left -/
def cut1 (N : Nat) (f : Nat → Int) (q y : Int) (j : Nat) (s : tS) : tS :=
  if s.1 = 2 then s else if f j = 0 then s else
  if cutB N f q y j s.2.1 s.2.2 < cutA N f q y j s.2.1 s.2.2 then (2, s.2.1, s.2.2) else
  if cutA N f q y j s.2.1 s.2.2 = s.2.1 j ∧ cutB N f q y j s.2.1 s.2.2 = s.2.2 j then s else (1, up1 s.2.1 j (cutA N f q y j s.2.1 s.2.2), up1 s.2.2 j (cutB N f q y j s.2.1 s.2.2))
def passRow (N : Nat) (f : Nat → Int) (q y : Int) : Nat → tS → tS
  | 0, s => s
  | j + 1, s => cut1 N f q y j (passRow N f q y j s)
def passK (N : Nat) (pv : Nat → Nat → Int) (y age : Nat → Int) : Nat → tS → tS
  | 0, s => s
  | k + 1, s => if age k = 0 then passRow N (pv (9 + k)) (pv 12 k) (y k) N (passK N pv y age k s) else passK N pv y age k s
def tight (N P : Nat) (pv : Nat → Nat → Int) (y age : Nat → Int) : Nat → (Nat → Int) → (Nat → Int) → tS
  | 0, lo, hi => (1, lo, hi)
  | n + 1, lo, hi => if (passK N pv y age P (0, lo, hi)).1 = 1 then tight N P pv y age n (passK N pv y age P (0, lo, hi)).2.1 (passK N pv y age P (0, lo, hi)).2.2 else passK N pv y age P (0, lo, hi)
/-- bounds in their range, none empty -/
def BoxOk (N : Nat) (lo hi : Nat → Int) : Prop := ∀ i, i < N → -1000000 ≤ lo i ∧ lo i ≤ hi i ∧ hi i ≤ 1000000
def stOk (N : Nat) (s : tS) : Prop := (s.1 = 0 ∨ s.1 = 1 ∨ s.1 = 2) ∧ BoxOk N s.2.1 s.2.2
theorem cut1_ok {N : Nat} {f : Nat → Int} {q y : Int} {j : Nat} {s : tS} (h : stOk N s) : stOk N (cut1 N f q y j s) := by
  obtain ⟨h1, h2⟩ := h
  unfold cut1
  by_cases c1 : s.1 = 2
  · rw [if_pos c1]; exact ⟨h1, h2⟩
  · rw [if_neg c1]
    by_cases c2 : f j = 0
    · rw [if_pos c2]; exact ⟨h1, h2⟩
    · rw [if_neg c2]
      by_cases c3 : cutB N f q y j s.2.1 s.2.2 < cutA N f q y j s.2.1 s.2.2
      · rw [if_pos c3]; exact ⟨Or.inr (Or.inr rfl), h2⟩
      · rw [if_neg c3]
        by_cases c4 : cutA N f q y j s.2.1 s.2.2 = s.2.1 j ∧ cutB N f q y j s.2.1 s.2.2 = s.2.2 j
        · rw [if_pos c4]; exact ⟨h1, h2⟩
        · rw [if_neg c4]
          refine ⟨Or.inr (Or.inl rfl), fun i hi => ?_⟩
          have hb := h2 i hi
          show -1000000 ≤ up1 _ _ _ i ∧ up1 _ _ _ i ≤ up1 _ _ _ i ∧ up1 _ _ _ i ≤ 1000000
          unfold up1
          by_cases e : i = j
          · subst e
            simp only [if_pos]
            have a1 : s.2.1 i ≤ cutA N f q y i s.2.1 s.2.2 := by unfold cutA; omega
            have a2 : cutB N f q y i s.2.1 s.2.2 ≤ s.2.2 i := by unfold cutB; omega
            omega
          · simp only [if_neg e]
            exact hb
theorem passRow_ok {N : Nat} {f : Nat → Int} {q y : Int} : ∀ {j : Nat} {s : tS}, stOk N s → stOk N (passRow N f q y j s)
  | 0, _, h => h
  | j + 1, _, h => cut1_ok (passRow_ok (j := j) h)
theorem passK_ok {N : Nat} {pv : Nat → Nat → Int} {y age : Nat → Int} : ∀ {k : Nat} {s : tS}, stOk N s → stOk N (passK N pv y age k s)
  | 0, _, h => h
  | k + 1, s, h => by
    unfold passK
    split
    · exact passRow_ok (passK_ok (k := k) h)
    · exact passK_ok (k := k) h
theorem tight_ok {N P : Nat} {pv : Nat → Nat → Int} {y age : Nat → Int} : ∀ {n : Nat} {lo hi : Nat → Int}, BoxOk N lo hi → stOk N (tight N P pv y age n lo hi)
  | 0, lo, hi, h => ⟨Or.inr (Or.inl rfl), h⟩
  | n + 1, lo, hi, h => by
    have h1 : stOk N (passK N pv y age P (0, lo, hi)) := passK_ok ⟨Or.inl rfl, h⟩
    unfold tight
    split
    · exact tight_ok h1.2
    · exact h1
theorem cut1_2 {N : Nat} {f : Nat → Int} {q y : Int} {j : Nat} {s : tS} (h : s.1 = 2) : cut1 N f q y j s = s := by unfold cut1; rw [if_pos h]
theorem passRow_2 {N : Nat} {f : Nat → Int} {q y : Int} : ∀ {j : Nat} {s : tS}, s.1 = 2 → passRow N f q y j s = s
  | 0, _, _ => rfl
  | j + 1, s, h => by
    show cut1 N f q y j (passRow N f q y j s) = s
    rw [passRow_2 (j := j) h, cut1_2 h]
theorem passRow_stay {N : Nat} {f : Nat → Int} {q y : Int} {j : Nat} {s : tS} (h : (passRow N f q y j s).1 = 2) : ∀ n, passRow N f q y (j + n) s = passRow N f q y j s
  | 0 => rfl
  | n + 1 => by
    show cut1 N f q y (j + n) (passRow N f q y (j + n) s) = _
    rw [passRow_stay h n, cut1_2 h]
theorem passK_stay {N : Nat} {pv : Nat → Nat → Int} {y age : Nat → Int} {k : Nat} {s : tS} (h : (passK N pv y age k s).1 = 2) : ∀ n, passK N pv y age (k + n) s = passK N pv y age k s
  | 0 => rfl
  | n + 1 => by
    show (if age (k + n) = 0 then passRow N _ _ _ N (passK N pv y age (k + n) s) else passK N pv y age (k + n) s) = _
    rw [passK_stay h n]
    split
    · exact passRow_2 h
    · rfl
/-- one cut begun with nothing changed, put behind what was -/
theorem cut1_max {N : Nat} {f : Nat → Int} {q y : Int} {j : Nat} {s : tS} (h : s.1 = 0 ∨ s.1 = 1) : cut1 N f q y j s = (max s.1 (cut1 N f q y j (0, s.2)).1, (cut1 N f q y j (0, s.2)).2) := by
  obtain ⟨a, lo, hi⟩ := s
  have h : a = 0 ∨ a = 1 := h
  unfold cut1
  rw [if_neg (show ¬ a = 2 by omega), if_neg (show ¬ (0 : Int) = 2 by decide)]
  by_cases c2 : f j = 0
  · rw [if_pos c2, if_pos c2]
    show (a, lo, hi) = (max a 0, lo, hi)
    rw [show max a 0 = a by omega]
  · rw [if_neg c2, if_neg c2]
    dsimp only
    by_cases c3 : cutB N f q y j lo hi < cutA N f q y j lo hi
    · rw [if_pos c3, if_pos c3]
      show (2, lo, hi) = (max a 2, lo, hi)
      rw [show max a 2 = 2 by omega]
    · rw [if_neg c3, if_neg c3]
      by_cases c4 : cutA N f q y j lo hi = lo j ∧ cutB N f q y j lo hi = hi j
      · rw [if_pos c4, if_pos c4]
        show (a, lo, hi) = (max a 0, lo, hi)
        rw [show max a 0 = a by omega]
      · rw [if_neg c4, if_neg c4]
        show (1, _, _) = (max a 1, _, _)
        rw [show max a 1 = 1 by omega]
theorem firstE_bd (f : Nat → Int) : ∀ n i : Nat, (firstE f n i = -1 ∧ ∀ x, i ≤ x → x < i + n → f x = 0) ∨ (∃ x : Nat, firstE f n i = (x : Int) ∧ i ≤ x ∧ x < i + n ∧ f x ≠ 0 ∧ ∀ y, i ≤ y → y < x → f y = 0)
  | 0, i => Or.inl ⟨rfl, fun x h1 h2 => absurd h2 (by omega)⟩
  | n + 1, i => by
    unfold firstE
    by_cases h : f i ≠ 0
    · rw [if_pos h]
      exact Or.inr ⟨i, rfl, by omega, by omega, h, fun y h1 h2 => absurd h2 (by omega)⟩
    · rw [if_neg h]
      have h0 : f i = 0 := Classical.not_not.mp h
      rcases firstE_bd f n (i + 1) with ⟨a, b⟩ | ⟨x, a, b, c, d, e⟩
      · refine Or.inl ⟨a, fun x h1 h2 => ?_⟩
        by_cases q : x = i
        · rw [q]; exact h0
        · exact b x (by omega) (by omega)
      · refine Or.inr ⟨x, a, by omega, by omega, d, fun y h1 h2 => ?_⟩
        by_cases q : y = i
        · rw [q]; exact h0
        · exact e y (by omega) h2
/-- a row filled from its start, one place more -/
theorem up_s {M2 : wM} {o j i x : Nat} {v : Int} {F : Nat → Int} (h : ∀ y, y < i → M2 o j y = F y) (hv : v = F i) (hx : x < i + 1) : wu M2 o j i v o j x = F x := by
  unfold wu
  by_cases e : x = i
  · rw [if_pos ⟨rfl, rfl, e⟩, e]; exact hv
  · rw [if_neg (fun q => e q.2.2)]; exact h x (by omega)
theorem firstE_rng (f : Nat → Int) (n : Nat) : -1 ≤ firstE f n 0 ∧ firstE f n 0 < n := by
  rcases firstE_bd f n 0 with ⟨a, -⟩ | ⟨x, a, -, b, -⟩
  · omega
  · omega
theorem wu_wr {M : wM} {o j i : Nat} {v : Int} : wu M o j i v = wr M o j (up1 (M o j) i v) := by
  funext a b
  by_cases h : a = o ∧ b = j
  · obtain ⟨rfl, rfl⟩ := h
    rw [wu_eq, wr_eq]
    rfl
  · rw [wu_ne h, wr_ne h]
theorem setLH_up {M : wM} {om j : Nat} {a b : Int} : wu (wu M om 2 j a) om 3 j b = setLH M om (up1 (M om 2) j a) (up1 (M om 3) j b) := by
  rw [wu_wr, wu_wr]
  unfold setLH
  rw [wr_ne (by omega)]
theorem cut1_zero {N : Nat} {f : Nat → Int} {q y : Int} {j : Nat} {s : Int} {lo hi : Nat → Int} (h : f j = 0) : cut1 N f q y j (s, lo, hi) = (s, lo, hi) := by
  unfold cut1
  by_cases c : s = 2
  · rw [if_pos c]
  · rw [if_neg c, if_pos h]
theorem cut1_empty {N : Nat} {f : Nat → Int} {q y : Int} {j : Nat} {lo hi : Nat → Int} (h : f j ≠ 0) (h2 : cutB N f q y j lo hi < cutA N f q y j lo hi) : cut1 N f q y j (0, lo, hi) = (2, lo, hi) := by
  unfold cut1
  rw [if_neg (show ¬ (0 : Int) = 2 by decide), if_neg h, if_pos h2]
theorem cut1_same {N : Nat} {f : Nat → Int} {q y : Int} {j : Nat} {lo hi : Nat → Int} (h : f j ≠ 0) (h2 : ¬ cutB N f q y j lo hi < cutA N f q y j lo hi) (h3 : cutA N f q y j lo hi = lo j ∧ cutB N f q y j lo hi = hi j) : cut1 N f q y j (0, lo, hi) = (0, lo, hi) := by
  unfold cut1
  rw [if_neg (show ¬ (0 : Int) = 2 by decide), if_neg h, if_neg h2, if_pos h3]
theorem cut1_new {N : Nat} {f : Nat → Int} {q y : Int} {j : Nat} {lo hi : Nat → Int} (h : f j ≠ 0) (h2 : ¬ cutB N f q y j lo hi < cutA N f q y j lo hi) (h3 : ¬ (cutA N f q y j lo hi = lo j ∧ cutB N f q y j lo hi = hi j)) : cut1 N f q y j (0, lo, hi) = (1, up1 lo j (cutA N f q y j lo hi), up1 hi j (cutB N f q y j lo hi)) := by
  unfold cut1
  rw [if_neg (show ¬ (0 : Int) = 2 by decide), if_neg h, if_neg h2, if_neg h3]
theorem MoOk_box {M : wM} {om N P : Nat} {T : Int} {lo hi : Nat → Int} (h : MoOk (M om) N P T) (hb : BoxOk N lo hi) : MoOk (setLH M om lo hi om) N P T := by
  obtain ⟨hT, hL, hU, hS, hG, hY, hAg, hHo, hBo, hTi, hLi, hLb, hLl, hLh⟩ := h
  have e : ∀ b, ¬ (b = 2 ∨ b = 3) → setLH M om lo hi om b = M om b := fun b hb => setLH_ne (fun q => hb q.2)
  refine ⟨by rw [e 1 (by omega)]; exact hT, by rw [setLH_2]; exact fun i hi => by have := hb i hi; omega, by rw [setLH_3]; exact fun i hi => by have := hb i hi; omega, by rw [e 4 (by omega)]; exact hS, fun i k hi hk => by rw [e (6 + i) (by omega)]; exact hG i k hi hk, by rw [e 10 (by omega)]; exact hY, by rw [e 11 (by omega)]; exact hAg, by rw [e 0 (by omega)]; exact hHo, by rw [e 0 (by omega)]; exact hBo, by rw [e 0 (by omega)]; exact hTi, by rw [e 0 (by omega)]; exact hLi, by rw [e 0 (by omega)]; exact hLb, by rw [e 12 (by omega)]; exact hLl, by rw [e 13 (by omega)]; exact hLh⟩
theorem devF_bd {pv v : Nat → Nat → Int} {N P : Nat} {T : Int} (hp : PlOk pv N P) (hm : MoOk v N P T) {k : Nat} (hk : k < P) : -1000000000000 ≤ devF N pv v k ∧ devF N pv v k ≤ 1000000000000 := by
  obtain ⟨hN, hN1, hN4, hP, hP1, hP3, hA, hB, hE, hC, hQ⟩ := hp
  obtain ⟨hT, hL, hU, hS, hG, hY, hAg, hHo, hBo, hTi, hLi, hLb, hLl, hLh⟩ := hm
  unfold devF
  split
  · omega
  · have h1 := dot_bd (A := 99) (B := 16000000) (by decide) (by decide) (n := N) (f := pv (9 + k)) (g := v 4) (fun i hi => hC k i hk hi) hS
    have h2 := hQ k hk
    have h3 := mul_bd (A := 1584) (B := 400000000) (a := 16 * pv 12 k) (b := v 10 k) (by decide) (by omega) (hY k hk)
    omega
/-- what a step makes of a moment -/
def StepV (N P : Nat) (pv v w : Nat → Nat → Int) (u d : Int) : Prop :=
  (∀ i, i < N → w 1 i = truthF N pv u d (v 1) i) ∧
  (∀ i, i < N → w 12 i = endF N pv (v 2) (v 3) 0 i ∧ w 13 i = endF N pv (v 2) (v 3) 1 i ∧ w 2 i = lowF N pv u (v 0 8) (v 2) (v 3) i ∧ w 3 i = uppF N pv u (v 0 8) (v 2) (v 3) i) ∧
  (∀ i, i < N → w 4 i = estF N P pv v u i) ∧ (∀ k, k < P → w 11 k = if v 11 k = -1 then -1 else v 11 k + 1) ∧ (∀ i k, i < N → k < P → w (6 + i) k = v (6 + i) k) ∧ (∀ k, k < P → w 10 k = v 10 k) ∧
  w 0 7 = v 0 7 ∧ w 0 8 = v 0 8 ∧ w 0 9 = v 0 9 + 1 ∧ w 0 10 = u ∧ w 0 11 = v 0 8
theorem cutX_bd {c x y B : Int} (hc : c ≠ 0) (hx : -B ≤ x ∧ x ≤ B) (hy : -B ≤ y ∧ y ≤ B) (hB : 0 ≤ B) : (-B ≤ cutLo c x y ∧ cutLo c x y ≤ B) ∧ (-B ≤ cutHi c x y ∧ cutHi c x y ≤ B) := by
  have h1 := fdiv_bd (a := -x) (c := c) (B := B) hc (by omega) hB
  have h2 := fdiv_bd (a := -y) (c := c) (B := B) hc (by omega) hB
  have h3 := fdiv_bd (a := y) (c := c) (B := B) hc hy hB
  have h4 := fdiv_bd (a := x) (c := c) (B := B) hc hx hB
  unfold cutLo cutHi
  split <;> omega
/-- the row k of a pass, j states on -/
def rowJ (N : Nat) (pv : Nat → Nat → Int) (y age : Nat → Int) (k j : Nat) (s : tS) : tS := if age k = 0 then passRow N (pv (9 + k)) (pv 12 k) (y k) j (passK N pv y age k s) else passK N pv y age k s
theorem rowJ_ok {N : Nat} {pv : Nat → Nat → Int} {y age : Nat → Int} {k j : Nat} {s : tS} (h : stOk N s) : stOk N (rowJ N pv y age k j s) := by
  unfold rowJ
  split
  · exact passRow_ok (passK_ok h)
  · exact passK_ok h
theorem rowJ_0 {N : Nat} {pv : Nat → Nat → Int} {y age : Nat → Int} {k : Nat} {s : tS} : rowJ N pv y age k 0 s = passK N pv y age k s := by
  unfold rowJ
  split <;> rfl
theorem rowJ_s {N : Nat} {pv : Nat → Nat → Int} {y age : Nat → Int} {k j : Nat} {s : tS} (h : age k = 0) : rowJ N pv y age k (j + 1) s = cut1 N (pv (9 + k)) (pv 12 k) (y k) j (rowJ N pv y age k j s) := by
  unfold rowJ
  rw [if_pos h, if_pos h]
  rfl
theorem rowJ_no {N : Nat} {pv : Nat → Nat → Int} {y age : Nat → Int} {k j : Nat} {s : tS} (h : age k ≠ 0) : rowJ N pv y age k j s = passK N pv y age (k + 1) s := by
  show (if age k = 0 then _ else passK N pv y age k s) = (if age k = 0 then _ else passK N pv y age k s)
  rw [if_neg h, if_neg h]
theorem rowJ_N {N : Nat} {pv : Nat → Nat → Int} {y age : Nat → Int} {k : Nat} {s : tS} : rowJ N pv y age k N s = passK N pv y age (k + 1) s := rfl
/-- where a row fails, the pass has failed -/
theorem rowJ_2 {N P : Nat} {pv : Nat → Nat → Int} {y age : Nat → Int} {k j : Nat} {s : tS} (hk : k < P) (hj : j ≤ N) (h : (rowJ N pv y age k j s).1 = 2) : passK N pv y age P s = rowJ N pv y age k j s := by
  have e : passK N pv y age (k + 1) s = rowJ N pv y age k j s := by
    by_cases ha : age k = 0
    · rw [← rowJ_N]
      unfold rowJ at h ⊢
      rw [if_pos ha] at h
      rw [if_pos ha, if_pos ha]
      have := passRow_stay h (N - j)
      rw [show j + (N - j) = N by omega] at this
      exact this
    · rw [rowJ_no ha]
  have h2 := passK_stay (k := k + 1) (N := N) (pv := pv) (y := y) (age := age) (s := s) (by rw [e]; exact h) (P - (k + 1))
  rw [show k + 1 + (P - (k + 1)) = P by omega] at h2
  rw [h2, e]
