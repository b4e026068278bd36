/-! NUMBERS: the words in which both systems are told -/
def dot : Nat → (Nat → Int) → (Nat → Int) → Int
  | 0, _, _ => 0
  | n + 1, f, g => dot n f g + f n * g n
theorem dot_congr {f f' g g' : Nat → Int} : ∀ {n : Nat}, (∀ i, i < n → f i = f' i) → (∀ i, i < n → g i = g' i) → dot n f g = dot n f' g'
  | 0, _, _ => rfl
  | n + 1, h1, h2 => by
    unfold dot
    rw [dot_congr (fun i hi => h1 i (by omega)) (fun i hi => h2 i (by omega)), h1 n (by omega), h2 n (by omega)]
theorem mul_bd {a b A B : Int} (hA : 0 ≤ A) (ha : -A ≤ a ∧ a ≤ A) (hb : -B ≤ b ∧ b ≤ B) : -(A * B) ≤ a * b ∧ a * b ≤ A * B := by
  have h1 : a.natAbs ≤ A.natAbs := by omega
  have h2 : b.natAbs ≤ B.natAbs := by omega
  have h3 := Nat.mul_le_mul h1 h2
  rw [← Int.natAbs_mul, ← Int.natAbs_mul] at h3
  have hB : 0 ≤ B := by omega
  have h4 : 0 ≤ A * B := Int.mul_nonneg hA hB
  omega
theorem dot_bd {f g : Nat → Int} {A B : Int} (hA : 0 ≤ A) (hB : 0 ≤ B) : ∀ {n : Nat}, (∀ i, i < n → -A ≤ f i ∧ f i ≤ A) → (∀ i, i < n → -B ≤ g i ∧ g i ≤ B) → -(n * (A * B)) ≤ dot n f g ∧ dot n f g ≤ n * (A * B)
  | 0, _, _ => by simp [dot]
  | n + 1, h1, h2 => by
    have h3 := dot_bd hA hB (n := n) (fun i hi => h1 i (by omega)) (fun i hi => h2 i (by omega))
    have h4 := mul_bd hA (h1 n (by omega)) (h2 n (by omega))
    unfold dot
    generalize A * B = Z at h3 h4 ⊢
    have e : ((n + 1 : Nat) : Int) * Z = n * Z + Z := by rw [Int.natCast_add, Int.add_mul]; simp
    rw [e]
    generalize (n : Int) * Z = Y at h3 ⊢
    omega
/-- the floor of a quotient, from the machine's -/
theorem fdiv_of {a b q : Int} (hb : b ≠ 0) (hq : q = a.tdiv b) : a.fdiv b = if ((a < 0 ∧ ¬ b < 0) ∨ (¬ a < 0 ∧ b < 0)) ∧ q * b ≠ a then q - 1 else q := by
  subst hq
  have e := Int.tmod_add_tdiv_mul a b
  have h0 : a.tdiv b * b = a - a.tmod b := by omega
  have key : ∀ q : Int, (0 < b → q * b ≤ a ∧ a < q * b + b) → (b < 0 → a ≤ q * b ∧ q * b + b < a) → a.fdiv b = q := by
    intro q h1 h2
    rcases Int.lt_or_gt_of_ne hb with h | h
    · have := h2 h
      rw [← Int.neg_fdiv_neg, Int.fdiv_eq_ediv_of_nonneg _ (by omega)]
      refine Int.le_antisymm (Int.lt_add_one_iff.mp ((Int.ediv_lt_iff_lt_mul (by omega)).mpr ?_)) ((Int.le_ediv_iff_mul_le (by omega)).mpr ?_)
      · rw [Int.add_mul, Int.mul_neg]; omega
      · rw [Int.mul_neg]; omega
    · have := h1 h
      rw [Int.fdiv_eq_ediv_of_nonneg _ (by omega)]
      refine Int.le_antisymm (Int.lt_add_one_iff.mp ((Int.ediv_lt_iff_lt_mul h).mpr ?_)) ((Int.le_ediv_iff_mul_le h).mpr ?_)
      · rw [Int.add_mul]; omega
      · omega
  have sg : (a < 0 → a.tmod b ≤ 0) ∧ (0 ≤ a → 0 ≤ a.tmod b) := by
    constructor
    · intro h
      have := Int.tmod_nonneg b (a := -a) (by omega)
      rw [Int.neg_tmod] at this
      omega
    · intro h
      exact Int.tmod_nonneg b h
  have bd : (a.tmod b).natAbs < b.natAbs := by
    rw [Int.natAbs_tmod]
    exact Nat.mod_lt _ (by omega)
  by_cases c : ((a < 0 ∧ ¬ b < 0) ∨ (¬ a < 0 ∧ b < 0)) ∧ a.tdiv b * b ≠ a
  · rw [if_pos c]
    apply key
    · intro h
      rw [Int.sub_mul]; omega
    · intro h
      rw [Int.sub_mul]; omega
  · rw [if_neg c]
    apply key
    · intro h
      omega
    · intro h
      omega
theorem fdiv_small {a b B : Int} (hb : 0 < b) (h : -B ≤ a ∧ a ≤ B) (hB : 0 ≤ B) : -B ≤ a.fdiv b ∧ a.fdiv b ≤ B := by
  rw [Int.fdiv_eq_ediv_of_nonneg _ (by omega)]
  constructor
  · refine (Int.le_ediv_iff_mul_le hb).mpr ?_
    have : B * 1 ≤ B * b := Int.mul_le_mul_of_nonneg_left (by omega) hB
    rw [Int.neg_mul]; omega
  · have := Int.ediv_le_ediv hb h.2
    have h2 : B / b ≤ B := Int.ediv_le_self b hB
    omega
/-- a number between -m and m -/
def lim (v m : Int) : Int := if m < v then m else if v < -m then -m else v
theorem q_tdiv {a b : Int} (hb : b ≠ 0) : (-(a.natAbs : Int) ≤ a.tdiv b ∧ a.tdiv b ≤ a.natAbs) ∧ (-(a.natAbs : Int) ≤ a.tdiv b * b ∧ a.tdiv b * b ≤ a.natAbs) := by
  have e := Int.tmod_add_tdiv_mul a b
  have h1 : (a.tdiv b).natAbs ≤ a.natAbs := by
    rw [Int.natAbs_tdiv]
    exact Nat.div_le_self _ _
  have h2 : (a.tdiv b * b).natAbs ≤ a.natAbs := by
    rw [Int.natAbs_mul, Int.natAbs_tdiv]
    exact Nat.div_mul_le_self _ _
  omega
theorem tmod_bd {a b : Int} (hb : 0 < b) : (-b < a.tmod b ∧ a.tmod b < b) ∧ (a < 0 → a.tmod b ≤ 0) ∧ (0 ≤ a → 0 ≤ a.tmod b) := by
  have bd : (a.tmod b).natAbs < b.natAbs := by
    rw [Int.natAbs_tmod]
    exact Nat.mod_lt _ (by omega)
  refine ⟨by omega, ?_, fun h => Int.tmod_nonneg b h⟩
  intro h
  have := Int.tmod_nonneg b (a := -a) (by omega)
  rw [Int.neg_tmod] at this
  omega
theorem emod_of {a b : Int} (hb : 0 < b) : a % b = if a < 0 ∧ a.tmod b ≠ 0 then a.tmod b + b else a.tmod b := by
  have e := Int.tmod_add_tdiv_mul a b
  have h1 := tmod_bd (a := a) hb
  have key : ∀ r q : Int, a = r + q * b → 0 ≤ r → r < b → a % b = r := by
    intro r q h h2 h3
    rw [h, Int.add_mul_emod_self_right]
    exact Int.emod_eq_of_lt h2 h3
  by_cases c : a < 0 ∧ a.tmod b ≠ 0
  · rw [if_pos c]
    exact key _ (a.tdiv b - 1) (by rw [Int.sub_mul]; omega) (by omega) (by omega)
  · rw [if_neg c]
    exact key _ (a.tdiv b) (by omega) (by omega) (by omega)
/-- the least (gr 0) or the greatest (gr 1) value of a combination, without the state 'but' -/
def ext : Nat → (Nat → Int) → (Nat → Int) → (Nat → Int) → Int → Int → Int
  | 0, _, _, _, _, _ => 0
  | n + 1, f, lo, hi, but, gr => ext n f lo hi but gr + if (n : Int) = but then 0 else f n * (if 0 < f n ↔ gr = 1 then hi n else lo n)
theorem ext_but {n : Nat} {f lo hi : Nat → Int} {but gr : Int} (h : (n : Int) = but) : ext (n + 1) f lo hi but gr = ext n f lo hi but gr := by
  show ext n f lo hi but gr + (if (n : Int) = but then 0 else _) = _
  rw [if_pos h, Int.add_zero]
theorem ext_hi {n : Nat} {f lo hi : Nat → Int} {but gr : Int} (h : ¬ (n : Int) = but) (h2 : 0 < f n ↔ gr = 1) : ext (n + 1) f lo hi but gr = ext n f lo hi but gr + f n * hi n := by
  show ext n f lo hi but gr + (if (n : Int) = but then 0 else f n * (if 0 < f n ↔ gr = 1 then hi n else lo n)) = _
  rw [if_neg h, if_pos h2]
theorem ext_lo {n : Nat} {f lo hi : Nat → Int} {but gr : Int} (h : ¬ (n : Int) = but) (h2 : ¬ (0 < f n ↔ gr = 1)) : ext (n + 1) f lo hi but gr = ext n f lo hi but gr + f n * lo n := by
  show ext n f lo hi but gr + (if (n : Int) = but then 0 else f n * (if 0 < f n ↔ gr = 1 then hi n else lo n)) = _
  rw [if_neg h, if_neg h2]
/-- the sum of the widths -/
def wid : Nat → (Nat → Int) → (Nat → Int) → Int
  | 0, _, _ => 0
  | n + 1, lo, hi => wid n lo hi + (hi n - lo n)
/-- a whole object set -/
def wo (M : wM) (o : Nat) (f : Nat → Nat → Int) : wM := fun a => if a = o then f else M a
/-- rows copied: n rows from (fo, fb) on to (to, tb) on -/
def wrs (M : wM) (to tb n fo fb : Nat) : wM := fun a b => if a = to ∧ tb ≤ b ∧ b < tb + n then M fo (fb + (b - tb)) else M a b
theorem wrs_0 {M : wM} {to tb fo fb : Nat} : wrs M to tb 0 fo fb = M := by
  funext a b
  unfold wrs
  rw [if_neg (by omega)]
theorem wrs_s {M : wM} {to tb n fo fb : Nat} (h : fo ≠ to) : wr (wrs M to tb n fo fb) to (tb + n) (wrs M to tb n fo fb fo (fb + n)) = wrs M to tb (n + 1) fo fb := by
  funext a b
  have e : wrs M to tb n fo fb fo (fb + n) = M fo (fb + n) := by
    unfold wrs
    rw [if_neg (fun q => h q.1)]
  rw [e]
  unfold wr wrs
  by_cases h1 : a = to ∧ b = tb + n
  · rw [if_pos h1, if_pos ⟨h1.1, by omega, by omega⟩, h1.2, show tb + n - tb = n by omega]
  · rw [if_neg h1]
    by_cases h2 : a = to ∧ tb ≤ b ∧ b < tb + n
    · rw [if_pos h2, if_pos ⟨h2.1, by omega, by omega⟩]
    · rw [if_neg h2, if_neg (fun q => by rcases Nat.lt_or_ge b (tb + n) with z | z; exact h2 ⟨q.1, q.2.1, z⟩; exact h1 ⟨q.1, by omega⟩)]
/-- what the world holds of the numbers -/
def wrel (o j i : Nat) : Prop := ∃ k : wKd, wkd o j = some k ∧ match k with
  | .inl q => q.2[i]? = some none
  | .inr q => q.1 < 4 ∧ i < q.2.1
theorem wFs_congr (G : wG) {g g' : Nat → Int} : ∀ (fs : List (Option (Nat × Nat))) (k : Nat), (∀ i, fs[i]? = some none → g (k + i) = g' (k + i)) → wFs G g fs k = wFs G g' fs k
  | [], _, _ => rfl
  | some q :: r, k, h => by
    show vR G q :: wFs G g r (k + 1) = vR G q :: wFs G g' r (k + 1)
    rw [wFs_congr G (g' := g') r (k + 1) (fun i hi => by have := h (i + 1) (by simpa using hi); rw [show k + 1 + i = k + (i + 1) by omega]; exact this)]
  | none :: r, k, h => by
    show vI (g k) :: wFs G g r (k + 1) = vI (g' k) :: wFs G g' r (k + 1)
    rw [wFs_congr G (g' := g') r (k + 1) (fun i hi => by have := h (i + 1) (by simpa using hi); rw [show k + 1 + i = k + (i + 1) by omega]; exact this), show g k = g' k from h 0 rfl]
theorem wW.congr {G : wG} {M M' : wM} {H : Heap} (h : wW G M H) (hM : ∀ o j i : Nat, wrel o j i → M o j i = M' o j i) : wW G M' H := by
  intro o j k hk
  have h1 := h o j k hk
  cases k with
  | inl q =>
    obtain ⟨r, h2, h3⟩ := h1
    refine ⟨r, h2, ?_⟩
    rw [← wFs_congr G (g := M o j) (g' := M' o j) q.2 0 (fun i hi => by rw [Nat.zero_add]; exact hM o j i ⟨_, hk, hi⟩)]
    exact h3
  | inr q =>
    show H[_]? = some (arrV _ _ (wAr G (M' o j) q.1 q.2.2))
    have h2 : H[G.2.2.1 o j]? = some (arrV (G.1 q.1) q.2.1 (wAr G (M o j) q.1 q.2.2)) := h1
    rw [h2]
    congr 1
    refine q_arr_ext fun i hi => ?_
    by_cases ht : q.1 < 4
    · unfold wAr
      rw [hM o j i ⟨_, hk, ht, hi⟩]
    · unfold wAr
      rw [if_neg (by omega), if_neg ht, if_neg (by omega), if_neg ht]
theorem w_mem {p : Program} {l : Launch} {e : Env} {R : Room} {s : State} {m : MethodId} {args : Array Value} {below : List Frame} {meth : Method} {c : Code} {k n : Nat} {Q : State → Prop} {G : wG} {M : wM} {nL : Nat} {pc : Nat} {lc : List (Nat × Value)} {st : List Value} (M' : wM) (hM : ∀ o j i : Nat, wrel o j i → M o j i = M' o j i) (kk : wV p l e R s m args below meth c G nL M' k n Q pc lc st) : wV p l e R s m args below meth c G nL M k n Q pc lc st := fun H locs ls hW hS hl => kk H locs ls (hW.congr hM) hS hl
theorem wrel_m {o j i : Nat} (ho : o < 19) (h : wrel o j i) : (j = 0 ∧ 7 ≤ i ∧ i ≤ 11) ∨ (1 ≤ j ∧ j ≤ 4 ∧ i < 4) ∨ (6 ≤ j ∧ j ≤ 11 ∧ i < 3) ∨ (12 ≤ j ∧ j ≤ 13 ∧ i < 4) := by
  obtain ⟨k, h1, h2⟩ := h
  rw [wkd_m ho] at h1
  match j, h1 with
  | 0, h1 =>
    cases h1
    refine Or.inl ⟨rfl, ?_⟩
    match i, h2 with
    | 7, _ => omega
    | 8, _ => omega
    | 9, _ => omega
    | 10, _ => omega
    | 11, _ => omega
    | n + 14, h2 => simp at h2
  | 1, h1 => cases h1; exact Or.inr (Or.inl ⟨by omega, by omega, h2.2⟩)
  | 2, h1 => cases h1; exact Or.inr (Or.inl ⟨by omega, by omega, h2.2⟩)
  | 3, h1 => cases h1; exact Or.inr (Or.inl ⟨by omega, by omega, h2.2⟩)
  | 4, h1 => cases h1; exact Or.inr (Or.inl ⟨by omega, by omega, h2.2⟩)
  | 5, h1 => cases h1; exact absurd h2.1 (show ¬ 4 < 4 by decide)
  | 6, h1 => cases h1; exact Or.inr (Or.inr (Or.inl ⟨by omega, by omega, h2.2⟩))
  | 7, h1 => cases h1; exact Or.inr (Or.inr (Or.inl ⟨by omega, by omega, h2.2⟩))
  | 8, h1 => cases h1; exact Or.inr (Or.inr (Or.inl ⟨by omega, by omega, h2.2⟩))
  | 9, h1 => cases h1; exact Or.inr (Or.inr (Or.inl ⟨by omega, by omega, h2.2⟩))
  | 10, h1 => cases h1; exact Or.inr (Or.inr (Or.inl ⟨by omega, by omega, h2.2⟩))
  | 11, h1 => cases h1; exact Or.inr (Or.inr (Or.inl ⟨by omega, by omega, h2.2⟩))
  | 12, h1 => cases h1; exact Or.inr (Or.inr (Or.inr ⟨by omega, by omega, h2.2⟩))
  | 13, h1 => cases h1; exact Or.inr (Or.inr (Or.inr ⟨by omega, by omega, h2.2⟩))
  | n + 14, h1 => cases h1
theorem wrel_p {o j i : Nat} (ho : o = 19 ∨ o = 20) (h : wrel o j i) : (j = 0 ∧ i ≤ 1) ∨ (2 ≤ j ∧ j ≤ 7 ∧ i < 4) ∨ (9 ≤ j ∧ j ≤ 11 ∧ i < 4) ∨ (j = 12 ∧ i < 3) := by
  obtain ⟨k, h1, h2⟩ := h
  rw [wkd_p ho] at h1
  match j, h1 with
  | 0, h1 =>
    cases h1
    refine Or.inl ⟨rfl, ?_⟩
    match i, h2 with
    | 0, _ => omega
    | 1, _ => omega
    | n + 7, h2 => simp at h2
  | 1, h1 => cases h1; exact absurd h2.1 (show ¬ 4 < 4 by decide)
  | 2, h1 => cases h1; exact Or.inr (Or.inl ⟨by omega, by omega, h2.2⟩)
  | 3, h1 => cases h1; exact Or.inr (Or.inl ⟨by omega, by omega, h2.2⟩)
  | 4, h1 => cases h1; exact Or.inr (Or.inl ⟨by omega, by omega, h2.2⟩)
  | 5, h1 => cases h1; exact Or.inr (Or.inl ⟨by omega, by omega, h2.2⟩)
  | 6, h1 => cases h1; exact Or.inr (Or.inl ⟨by omega, by omega, h2.2⟩)
  | 7, h1 => cases h1; exact Or.inr (Or.inl ⟨by omega, by omega, h2.2⟩)
  | 8, h1 => cases h1; exact absurd h2.1 (show ¬ 4 < 4 by decide)
  | 9, h1 => cases h1; exact Or.inr (Or.inr (Or.inl ⟨by omega, by omega, h2.2⟩))
  | 10, h1 => cases h1; exact Or.inr (Or.inr (Or.inl ⟨by omega, by omega, h2.2⟩))
  | 11, h1 => cases h1; exact Or.inr (Or.inr (Or.inl ⟨by omega, by omega, h2.2⟩))
  | 12, h1 => cases h1; exact Or.inr (Or.inr (Or.inr ⟨rfl, h2.2⟩))
  | n + 13, h1 => cases h1
/-- a plant's numbers, as they may be -/
def PlOk (v : Nat → Nat → Int) (N P : Nat) : Prop := v 0 0 = N ∧ 1 ≤ N ∧ N ≤ 4 ∧ v 0 1 = P ∧ 1 ≤ P ∧ P ≤ 3 ∧ (∀ a i, a < N → i < N → -99 ≤ v (2 + a) i ∧ v (2 + a) i ≤ 99) ∧ (∀ i, i < N → -99 ≤ v 6 i ∧ v 6 i ≤ 99) ∧ (∀ i, i < N → -99 ≤ v 7 i ∧ v 7 i ≤ 99) ∧ (∀ k i, k < P → i < N → -99 ≤ v (9 + k) i ∧ v (9 + k) i ≤ 99) ∧ ∀ k, k < P → 1 ≤ v 12 k ∧ v 12 k ≤ 99
/-- a moment's -/
def MoOk (v : Nat → Nat → Int) (N P : Nat) (T : Int) : Prop := (∀ i, i < N → -1000000 ≤ v 1 i ∧ v 1 i ≤ 1000000) ∧ (∀ i, i < N → -1000000 ≤ v 2 i ∧ v 2 i ≤ 1000000) ∧ (∀ i, i < N → -1000000 ≤ v 3 i ∧ v 3 i ≤ 1000000) ∧ (∀ i, i < N → -16000000 ≤ v 4 i ∧ v 4 i ≤ 16000000) ∧ (∀ i k, i < N → k < P → -99 ≤ v (6 + i) k ∧ v (6 + i) k ≤ 99) ∧ (∀ k, k < P → -400000000 ≤ v 10 k ∧ v 10 k ≤ 400000000) ∧ (∀ k, k < P → -1 ≤ v 11 k ∧ v 11 k ≤ T) ∧ (0 ≤ v 0 7 ∧ v 0 7 ≤ 9) ∧ (0 ≤ v 0 8 ∧ v 0 8 ≤ 99) ∧ (0 ≤ v 0 9 ∧ v 0 9 ≤ T) ∧ (-99 ≤ v 0 10 ∧ v 0 10 ≤ 99) ∧ (0 ≤ v 0 11 ∧ v 0 11 ≤ 99) ∧ (∀ i, i < N → -30000000 ≤ v 12 i ∧ v 12 i ≤ 30000000) ∧ ∀ i, i < N → -30000000 ≤ v 13 i ∧ v 13 i ≤ 30000000
theorem tm_nat (a b : Nat) : ((a : Int)).tmod (b : Int) = ((a % b : Nat) : Int) := rfl
/-- values that the fresh outputs allow -/
def meets (N P : Nat) (pv : Nat → Nat → Int) (vals y age : Nat → Int) : Prop := ∀ k, k < P → age k = 0 → (dot N (pv (9 + k)) vals).fdiv (pv 12 k) = y k
/-- an unknown input that the last step may have had -/
def expl (N : Nat) (pv v : Nat → Nat → Int) (d : Int) : Prop := ∀ i, i < N → pv 7 i ≠ 0 → ¬ (-1000000 < v 2 i ∧ pv 7 i * d < v 2 i - pv 6 i * v 0 10 - v 13 i) ∧ ¬ (v 3 i < 1000000 ∧ v 3 i - pv 6 i * v 0 10 - v 12 i < pv 7 i * d)
/-- the first state on which the unknown input acts, or -1 -/
def firstE (f : Nat → Int) : Nat → Nat → Int
  | 0, _ => -1
  | n + 1, i => if f i ≠ 0 then (i : Int) else firstE f n (i + 1)
