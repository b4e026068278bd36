/-! NUMBERS: the words in which both systems are told -/
def dot : Nat → (Nat → Int) → (Nat → Int) → Int
  | 0, _, _ => 0
  | n + 1, f, g => dot n f g + f n * g n
theorem dot_congr {f f' g g' : Nat → Int} : ∀ {n : Nat}, (∀ i, i < n → f i = f' i) → (∀ i, i < n → g i = g' i) → dot n f g = dot n f' g'
  | 0, _, _ => rfl
  | n + 1, h1, h2 => by
    unfold dot
    rw [dot_congr (fun i hi => h1 i (by omega)) (fun i hi => h2 i (by omega)), h1 n (by omega), h2 n (by omega)]
theorem mul_bd {a b A B : Int} (hA : 0 ≤ A) (ha : -A ≤ a ∧ a ≤ A) (hb : -B ≤ b ∧ b ≤ B) : -(A * B) ≤ a * b ∧ a * b ≤ A * B := by
  have h1 : a.natAbs ≤ A.natAbs := by omega
  have h2 : b.natAbs ≤ B.natAbs := by omega
  have h3 := Nat.mul_le_mul h1 h2
  rw [← Int.natAbs_mul, ← Int.natAbs_mul] at h3
  have hB : 0 ≤ B := by omega
  have h4 : 0 ≤ A * B := Int.mul_nonneg hA hB
  omega
theorem dot_bd {f g : Nat → Int} {A B : Int} (hA : 0 ≤ A) (hB : 0 ≤ B) : ∀ {n : Nat}, (∀ i, i < n → -A ≤ f i ∧ f i ≤ A) → (∀ i, i < n → -B ≤ g i ∧ g i ≤ B) → -(n * (A * B)) ≤ dot n f g ∧ dot n f g ≤ n * (A * B)
  | 0, _, _ => by simp [dot]
  | n + 1, h1, h2 => by
    have h3 := dot_bd hA hB (n := n) (fun i hi => h1 i (by omega)) (fun i hi => h2 i (by omega))
    have h4 := mul_bd hA (h1 n (by omega)) (h2 n (by omega))
    unfold dot
    generalize A * B = Z at h3 h4 ⊢
    have e : ((n + 1 : Nat) : Int) * Z = n * Z + Z := by rw [Int.natCast_add, Int.add_mul]; simp
    rw [e]
    generalize (n : Int) * Z = Y at h3 ⊢
    omega
/-- the floor of a quotient, from the machine's -/
theorem fdiv_of {a b q : Int} (hb : b ≠ 0) (hq : q = a.tdiv b) : a.fdiv b = if ((a < 0 ∧ ¬ b < 0) ∨ (¬ a < 0 ∧ b < 0)) ∧ q * b ≠ a then q - 1 else q := by
  subst hq
  have e := Int.tmod_add_tdiv_mul a b
  have h0 : a.tdiv b * b = a - a.tmod b := by omega
  have key : ∀ q : Int, (0 < b → q * b ≤ a ∧ a < q * b + b) → (b < 0 → a ≤ q * b ∧ q * b + b < a) → a.fdiv b = q := by
    intro q h1 h2
    rcases Int.lt_or_gt_of_ne hb with h | h
    · have := h2 h
      rw [← Int.neg_fdiv_neg, Int.fdiv_eq_ediv_of_nonneg _ (by omega)]
      refine Int.le_antisymm (Int.lt_add_one_iff.mp ((Int.ediv_lt_iff_lt_mul (by omega)).mpr ?_)) ((Int.le_ediv_iff_mul_le (by omega)).mpr ?_)
      · rw [Int.add_mul, Int.mul_neg]; omega
      · rw [Int.mul_neg]; omega
    · have := h1 h
      rw [Int.fdiv_eq_ediv_of_nonneg _ (by omega)]
      refine Int.le_antisymm (Int.lt_add_one_iff.mp ((Int.ediv_lt_iff_lt_mul h).mpr ?_)) ((Int.le_ediv_iff_mul_le h).mpr ?_)
      · rw [Int.add_mul]; omega
      · omega
  have sg : (a < 0 → a.tmod b ≤ 0) ∧ (0 ≤ a → 0 ≤ a.tmod b) := by
    constructor
    · intro h
      have := Int.tmod_nonneg b (a := -a) (by omega)
      rw [Int.neg_tmod] at this
      omega
    · intro h
      exact Int.tmod_nonneg b h
  have bd : (a.tmod b).natAbs < b.natAbs := by
    rw [Int.natAbs_tmod]
    exact Nat.mod_lt _ (by omega)
  by_cases c : ((a < 0 ∧ ¬ b < 0) ∨ (¬ a < 0 ∧ b < 0)) ∧ a.tdiv b * b ≠ a
  · rw [if_pos c]
    apply key
    · intro h
      rw [Int.sub_mul]; omega
    · intro h
      rw [Int.sub_mul]; omega
  · rw [if_neg c]
    apply key
    · intro h
      omega
    · intro h
      omega
theorem fdiv_small {a b B : Int} (hb : 0 < b) (h : -B ≤ a ∧ a ≤ B) (hB : 0 ≤ B) : -B ≤ a.fdiv b ∧ a.fdiv b ≤ B := by
  rw [Int.fdiv_eq_ediv_of_nonneg _ (by omega)]
  constructor
  · refine (Int.le_ediv_iff_mul_le hb).mpr ?_
    have : B * 1 ≤ B * b := Int.mul_le_mul_of_nonneg_left (by omega) hB
    rw [Int.neg_mul]; omega
  · have := Int.ediv_le_ediv hb h.2
    have h2 : B / b ≤ B := Int.ediv_le_self b hB
    omega
/-- a number between -m and m -/
def lim (v m : Int) : Int := if m < v then m else if v < -m then -m else v
theorem q_tdiv {a b : Int} (hb : b ≠ 0) : (-(a.natAbs : Int) ≤ a.tdiv b ∧ a.tdiv b ≤ a.natAbs) ∧ (-(a.natAbs : Int) ≤ a.tdiv b * b ∧ a.tdiv b * b ≤ a.natAbs) := by
  have e := Int.tmod_add_tdiv_mul a b
  have h1 : (a.tdiv b).natAbs ≤ a.natAbs := by
    rw [Int.natAbs_tdiv]
    exact Nat.div_le_self _ _
  have h2 : (a.tdiv b * b).natAbs ≤ a.natAbs := by
    rw [Int.natAbs_mul, Int.natAbs_tdiv]
    exact Nat.div_mul_le_self _ _
  omega
theorem tmod_bd {a b : Int} (hb : 0 < b) : (-b < a.tmod b ∧ a.tmod b < b) ∧ (a < 0 → a.tmod b ≤ 0) ∧ (0 ≤ a → 0 ≤ a.tmod b) := by
  have bd : (a.tmod b).natAbs < b.natAbs := by
    rw [Int.natAbs_tmod]
    exact Nat.mod_lt _ (by omega)
  refine ⟨by omega, ?_, fun h => Int.tmod_nonneg b h⟩
  intro h
  have := Int.tmod_nonneg b (a := -a) (by omega)
  rw [Int.neg_tmod] at this
  omega
theorem emod_of {a b : Int} (hb : 0 < b) : a % b = if a < 0 ∧ a.tmod b ≠ 0 then a.tmod b + b else a.tmod b := by
  have e := Int.tmod_add_tdiv_mul a b
  have h1 := tmod_bd (a := a) hb
  have key : ∀ r q : Int, a = r + q * b → 0 ≤ r → r < b → a % b = r := by
    intro r q h h2 h3
    rw [h, Int.add_mul_emod_self_right]
    exact Int.emod_eq_of_lt h2 h3
  by_cases c : a < 0 ∧ a.tmod b ≠ 0
  · rw [if_pos c]
    exact key _ (a.tdiv b - 1) (by rw [Int.sub_mul]; omega) (by omega) (by omega)
  · rw [if_neg c]
    exact key _ (a.tdiv b) (by omega) (by omega) (by omega)
/-- the least (gr 0) or the greatest (gr 1) value of a combination, without the state 'but' -/
def ext : Nat → (Nat → Int) → (Nat → Int) → (Nat → Int) → Int → Int → Int
  | 0, _, _, _, _, _ => 0
  | n + 1, f, lo, hi, but, gr => ext n f lo hi but gr + if (n : Int) = but then 0 else f n * (if 0 < f n ↔ gr = 1 then hi n else lo n)
theorem ext_but {n : Nat} {f lo hi : Nat → Int} {but gr : Int} (h : (n : Int) = but) : ext (n + 1) f lo hi but gr = ext n f lo hi but gr := by
  show ext n f lo hi but gr + (if (n : Int) = but then 0 else _) = _
  rw [if_pos h, Int.add_zero]
theorem ext_hi {n : Nat} {f lo hi : Nat → Int} {but gr : Int} (h : ¬ (n : Int) = but) (h2 : 0 < f n ↔ gr = 1) : ext (n + 1) f lo hi but gr = ext n f lo hi but gr + f n * hi n := by
  show ext n f lo hi but gr + (if (n : Int) = but then 0 else f n * (if 0 < f n ↔ gr = 1 then hi n else lo n)) = _
  rw [if_neg h, if_pos h2]
theorem ext_lo {n : Nat} {f lo hi : Nat → Int} {but gr : Int} (h : ¬ (n : Int) = but) (h2 : ¬ (0 < f n ↔ gr = 1)) : ext (n + 1) f lo hi but gr = ext n f lo hi but gr + f n * lo n := by
  show ext n f lo hi but gr + (if (n : Int) = but then 0 else f n * (if 0 < f n ↔ gr = 1 then hi n else lo n)) = _
  rw [if_neg h, if_neg h2]
/-- the sum of the widths -/
def wid : Nat → (Nat → Int) → (Nat → Int) → Int
  | 0, _, _ => 0
  | n + 1, lo, hi => wid n lo hi + (hi n - lo n)
