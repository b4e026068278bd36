/-! the reference's ranks: inverses by powers, one step of the elimination -/
def lpr : List Nat → Nat
  | [] => 1
  | x :: a => x * lpr a
theorem lpr_erase {x : Nat} : ∀ {b : List Nat}, x ∈ b → lpr b = x * lpr (b.erase x)
  | [], h => absurd h List.not_mem_nil
  | y :: b, h => by
    by_cases e : y = x
    · subst e
      rw [List.erase_cons_head]
      rfl
    · have hx : x ∈ b := by
        rcases List.mem_cons.mp h with q | q
        · exact absurd q.symm e
        · exact q
      rw [List.erase_cons_tail (by simpa using e)]
      show y * lpr b = x * (y * lpr (b.erase x))
      rw [lpr_erase hx, Nat.mul_left_comm]
theorem lpr_perm : ∀ {a b : List Nat}, a.Nodup → (∀ x ∈ a, x ∈ b) → a.length = b.length → lpr a = lpr b
  | [], b, _, _, h3 => by
    have : b = [] := List.length_eq_zero_iff.mp h3.symm
    rw [this]
  | x :: a, b, h1, h2, h3 => by
    have hx := h2 x List.mem_cons_self
    have h4 := List.nodup_cons.mp h1
    have h5 := List.length_erase_of_mem hx
    have h6 : a.length + 1 = b.length := h3
    have h7 := lpr_perm (a := a) (b := b.erase x) h4.2 (fun y hy => by
      have hne : y ≠ x := fun e => h4.1 (e ▸ hy)
      exact (List.mem_erase_of_ne hne).mpr (h2 y (List.mem_cons_of_mem _ hy))) (by omega)
    rw [lpr_erase hx, ← h7]
    rfl
theorem lpr_map {n p : Nat} : ∀ {a : List Nat}, lpr (a.map fun i => n * i % p) % p = n ^ a.length * lpr a % p
  | [] => by
    show 1 % p = n ^ 0 * 1 % p
    rw [Nat.pow_zero, Nat.mul_one]
  | x :: a => by
    show (n * x % p) * lpr (a.map fun i => n * i % p) % p = n ^ (a.length + 1) * (x * lpr a) % p
    rw [Nat.mul_mod, Nat.mod_mod, lpr_map (a := a), ← Nat.mul_mod, Nat.pow_succ, Nat.mul_assoc n x, Nat.mul_assoc (n ^ a.length) n, Nat.mul_left_comm x, Nat.mul_left_comm n]
theorem lpr_not {p : Nat} (h1 : 1 < p) (hp : ∀ a b : Nat, p ∣ a * b → p ∣ a ∨ p ∣ b) : ∀ {a : List Nat}, (∀ x ∈ a, ¬ p ∣ x) → ¬ p ∣ lpr a
  | [], _ => fun q => by
    have := Nat.le_of_dvd (by decide) (show p ∣ 1 from q)
    omega
  | x :: a, h => fun q => by
    rcases hp x (lpr a) q with z | z
    · exact h x List.mem_cons_self z
    · exact lpr_not h1 hp (fun y hy => h y (List.mem_cons_of_mem _ hy)) z
theorem fermat {p : Nat} (h1 : 1 < p) (hp : ∀ a b : Nat, p ∣ a * b → p ∣ a ∨ p ∣ b) {n : Nat} (hn : ¬ p ∣ n) : p ∣ n ^ (p - 1) - 1 ∧ 1 ≤ n ^ (p - 1) := by
  obtain ⟨L, hL⟩ : ∃ L, L = (List.range (p - 1)).map (fun i => i + 1) := ⟨_, rfl⟩
  have hm : ∀ x, x ∈ L ↔ 1 ≤ x ∧ x < p := fun x => by
    rw [hL, List.mem_map]
    constructor
    · rintro ⟨i, hi, rfl⟩
      have := List.mem_range.mp hi
      omega
    · intro q
      exact ⟨x - 1, List.mem_range.mpr (by omega), by omega⟩
  have hlen : L.length = p - 1 := by rw [hL, List.length_map, List.length_range]
  have hnd : L.Nodup := by
    rw [hL, List.nodup_iff_pairwise_ne, List.pairwise_map]
    refine List.Pairwise.imp_of_mem ?_ List.nodup_range
    intro x y _ _ hne
    omega
  have hnx : ∀ x ∈ L, ¬ p ∣ x := fun x hx q => by
    have h2 := (hm x).mp hx
    have := Nat.le_of_dvd (by omega) q
    omega
  have hsub : ∀ x y, x ∈ L → y ∈ L → x ≤ y → n * x % p = n * y % p → x = y := fun x y hx hy q he => by
    have h2 : p ∣ n * (y - x) := by
      rw [Nat.mul_sub]
      exact Nat.dvd_of_mod_eq_zero (Nat.sub_mod_eq_zero_of_mod_eq he.symm)
    rcases hp _ _ h2 with z | z
    · exact absurd z hn
    · have h3 := (hm x).mp hx
      have h4 := (hm y).mp hy
      have := Nat.eq_zero_of_dvd_of_lt z (by omega)
      omega
  have hnd2 : (L.map fun i => n * i % p).Nodup := by
    rw [List.nodup_iff_pairwise_ne, List.pairwise_map]
    refine List.Pairwise.imp_of_mem ?_ hnd
    intro x y hx hy hne he
    rcases Nat.le_total x y with q | q
    · exact hne (hsub x y hx hy q he)
    · exact hne (hsub y x hy hx q he.symm).symm
  have h2 := lpr_perm hnd2 (b := L) (fun x hx => by
    obtain ⟨i, hi, rfl⟩ := List.mem_map.mp hx
    refine (hm _).mpr ⟨?_, Nat.mod_lt _ (by omega)⟩
    refine Nat.pos_of_ne_zero fun q => ?_
    rcases hp _ _ (Nat.dvd_of_mod_eq_zero q) with z | z
    · exact hn z
    · exact hnx i hi z) (by rw [List.length_map])
  have h3 := lpr_map (n := n) (p := p) (a := L)
  rw [h2, hlen] at h3
  have hn1 : 1 ≤ n := Nat.pos_of_ne_zero fun q => hn (q ▸ Nat.dvd_zero p)
  have h4 : 1 ≤ n ^ (p - 1) := Nat.pow_pos hn1
  have h5 : p ∣ (n ^ (p - 1) - 1) * lpr L := by
    rw [Nat.sub_mul, Nat.one_mul]
    exact Nat.dvd_of_mod_eq_zero (Nat.sub_mod_eq_zero_of_mod_eq h3.symm)
  rcases hp _ _ h5 with z | z
  · exact ⟨z, h4⟩
  · exact absurd z (lpr_not h1 hp hnx)
/-- powers of numbers, by rounds -/
def ipw (a : Int) : Nat → Int
  | 0 => 1
  | k + 1 => a * ipw a k
theorem ipw_nat (n : Nat) : ∀ k : Nat, ipw (n : Int) k = ((n ^ k : Nat) : Int)
  | 0 => rfl
  | k + 1 => by
    show (n : Int) * ipw (n : Int) k = _
    rw [ipw_nat n k, Nat.pow_succ, Nat.mul_comm, Int.natCast_mul]
theorem ipw_sq (a : Int) : ∀ k : Nat, ipw (a * a) k = ipw a (2 * k)
  | 0 => rfl
  | k + 1 => by
    show a * a * ipw (a * a) k = a * (a * ipw a (2 * k))
    rw [ipw_sq a k, Int.mul_assoc]
theorem ipw_cg {a b : Int} (h : Z0 (a - b)) : ∀ k : Nat, Z0 (ipw a k - ipw b k)
  | 0 => Z0.zero
  | k + 1 => by
    have h1 := (ipw_cg h k).mul a
    have h2 := h.mulr (ipw b k)
    have := h1.add h2
    show Z0 (a * ipw a k - b * ipw b k)
    rw [Int.mul_sub, Int.sub_mul, show a * ipw a k - a * ipw b k + (a * ipw b k - b * ipw b k) = a * ipw a k - b * ipw b k by omega] at this
    exact this
theorem fermat_i {v : Int} (hv : 0 ≤ v) (h : ¬ Z0 v) : Z0 (v * ipw v 1000001 - 1) := by
  obtain ⟨n, rfl⟩ : ∃ n : Nat, v = (n : Int) := ⟨v.toNat, by omega⟩
  obtain ⟨k, hk⟩ : ∃ k : Nat, k = 1000001 := ⟨_, rfl⟩
  have h1 := fermat (p := 1000003) (by decide) (fun a b => prm_mulN) (n := n) (fun q => h (Int.natCast_dvd_natCast.mpr q))
  rw [show (1000003 : Nat) - 1 = k + 1 by omega] at h1
  rw [← hk]
  have h2 : (n : Int) * ipw (n : Int) k = ((n ^ (k + 1) : Nat) : Int) := ipw_nat n (k + 1)
  rw [h2]
  obtain ⟨e, he⟩ := h1.1
  exact ⟨(e : Int), by omega⟩
/-- one round of the power -/
theorem ipw_round {v r q : Int} {t K : Nat} (h : Z0 (r * ipw q t - ipw v K)) {r' q' : Int} (hq : Z0 (q' - q * q)) (hr : Z0 (r' - (if t % 2 = 1 then r * q else r))) : Z0 (r' * ipw q' (t / 2) - ipw v K) := by
  have h1 := (ipw_cg hq (t / 2)).mul r'
  have h2 := hr.mulr (ipw (q * q) (t / 2))
  have h3 : (if t % 2 = 1 then r * q else r) * ipw (q * q) (t / 2) = r * ipw q t := by
    rw [ipw_sq]
    split
    · rename_i w
      obtain ⟨x, hx⟩ : ∃ x, x = t / 2 := ⟨_, rfl⟩
      rw [← hx, show t = 2 * x + 1 by omega, Int.mul_assoc]
      rfl
    · rename_i w
      rw [show 2 * (t / 2) = t by omega]
  rw [Int.sub_mul, h3] at h2
  rw [Int.mul_sub] at h1
  have h4 := (h1.add h2).add h
  rw [show r' * ipw q' (t / 2) - r' * ipw (q * q) (t / 2) + (r' * ipw (q * q) (t / 2) - r * ipw q t) + (r * ipw q t - ipw v K) = r' * ipw q' (t / 2) - ipw v K by omega] at h4
  exact h4
theorem tm_pos {a : Int} (h : 0 ≤ a) : a.tmod 1000003 = a % 1000003 := Int.tmod_eq_emod_of_nonneg h
theorem res_of {a b : Int} (h : b = a.tmod 1000003) : (if b < 0 then b + 1000003 else b) = a % 1000003 := by
  rw [h]
  have h1 := Int.tmod_eq_emod (a := a) (b := 1000003)
  have h2 : (1000003 : Int) ∣ a ↔ a % 1000003 = 0 := Int.dvd_iff_emod_eq_zero
  by_cases c : 0 ≤ a ∨ (1000003 : Int) ∣ a
  · rw [if_pos c] at h1
    rw [if_neg (by omega)]
    omega
  · rw [if_neg c] at h1
    have h3 : (Int.natAbs 1000003 : Int) = 1000003 := rfl
    have : a % 1000003 ≠ 0 := fun q => c (Or.inr (h2.mpr q))
    rw [if_pos (by omega)]
    omega
/-- the rows of a list of numbers, four to a row -/
def mr (f : Nat → Int) (r : Nat) : Vc := fun j => f (4 * r + j)
/-- numbers of k rows, the columns from n on are 0 -/
def RwOk (n : Nat) (f : Nat → Int) (k : Nat) : Prop := ∀ r, r < k → ∀ j, j < 4 → (0 ≤ f (4 * r + j) ∧ f (4 * r + j) < 1000003) ∧ (n ≤ j → f (4 * r + j) = 0)
/-- how far an elimination is: rk rows done, the columns before c -/
def ElOk (n : Nat) (f : Nat → Int) (k rk c : Nat) : Prop := rk ≤ c ∧ rk ≤ k ∧ (∃ l : Nat → Nat, ∀ r, r < rk → l r < c ∧ l r < n ∧ f (4 * r + l r) = 1 ∧ (∀ j, j < l r → f (4 * r + j) = 0) ∧ ∀ r', r' < r → l r' < l r) ∧ ∀ r, rk ≤ r → r < k → ∀ j, j < c → f (4 * r + j) = 0
theorem ElOk.skip {n : Nat} {f : Nat → Int} {k rk c : Nat} (h : ElOk n f k rk c) (hz : ∀ r, rk ≤ r → r < k → f (4 * r + c) = 0) : ElOk n f k rk (c + 1) := by
  obtain ⟨h1, h2, ⟨l, h3⟩, h4⟩ := h
  refine ⟨by omega, h2, ⟨l, fun r hr => ?_⟩, fun r a b j hj => ?_⟩
  · obtain ⟨a1, a2⟩ := h3 r hr
    exact ⟨by omega, a2⟩
  · by_cases e : j = c
    · rw [e]; exact hz r a b
    · exact h4 r a b j (by omega)
theorem ElOk.ech {n : Nat} {f : Nat → Int} {k rk c : Nat} (h : ElOk n f k rk c) : ∃ l, Ech n rk (mr f) l := by
  obtain ⟨h1, h2, ⟨l, h3⟩, h4⟩ := h
  refine ⟨l, fun r hr => ?_⟩
  obtain ⟨a1, a2, a3, a4, a5⟩ := h3 r hr
  refine ⟨⟨a2, fun q => ?_, fun j hj => ?_⟩, fun r' hr' => by have := a5 r' hr'; omega⟩
  · unfold mr Z0 at q
    rw [a3] at q
    omega
  · unfold mr
    rw [a4 j hj]
    exact Z0.zero
/-- at its end -/
theorem ElOk.fin {n : Nat} {f : Nat → Int} {k rk : Nat} (hn : n ≤ 4) (h : ElOk n f k rk 4) (u : Vc) : Sp n (rws (mr f) rk) u ↔ Sp n (rws (mr f) k) u := by
  obtain ⟨h1, h2, -, h4⟩ := h
  refine Sp.eqv (fun x q => ?_) (fun x q => ?_) u
  · obtain ⟨r, hr, rfl⟩ := q
    exact Sp.of ⟨r, by omega, rfl⟩
  · obtain ⟨r, hr, rfl⟩ := q
    by_cases e : r < rk
    · exact Sp.of ⟨r, e, rfl⟩
    · refine Sp.z fun i hi => ?_
      unfold mr
      rw [h4 r (by omega) hr i (by omega)]
      exact Z0.zero
/-- a step: the pivot in row p, column c; v its inverse -/
theorem el_step {n : Nat} {f g : Nat → Int} {k rk c p : Nat} {v : Int} (hn : n ≤ 4) (hc : c < 4) (hf : RwOk n f k) (h : ElOk n f k rk c) (hp : rk ≤ p ∧ p < k) (hz : ∀ r, rk ≤ r → r < p → f (4 * r + c) = 0) (hpc : f (4 * p + c) ≠ 0) (hv : Z0 (f (4 * p + c) * v - 1))
    (hk : ∀ j, j < 4 → g (4 * rk + j) = f (4 * p + j) * v % 1000003)
    (hg : ∀ r, r < k → r ≠ rk → ∀ j, j < 4 → g (4 * r + j) = (f (4 * (if r = p then rk else r) + j) - f (4 * (if r = p then rk else r) + c) * g (4 * rk + j)) % 1000003) :
    RwOk n g k ∧ ElOk n g k (rk + 1) (c + 1) ∧ ∀ u, Sp n (rws (mr g) k) u ↔ Sp n (rws (mr f) k) u := by
  obtain ⟨h1, h2, ⟨l, h3⟩, h4⟩ := h
  have hcn : c < n := by
    rcases Nat.lt_or_ge c n with q | q
    · exact q
    · exact absurd ((hf p hp.2 c hc).2 q) hpc
  have zmul : ∀ a b : Int, a = 0 → a * b % 1000003 = 0 := fun a b q => by rw [q, Int.zero_mul]; rfl
  have hk0 : ∀ j, j < 4 → f (4 * p + j) = 0 → g (4 * rk + j) = 0 := fun j hj q => by rw [hk j hj]; exact zmul _ _ q
  have hkc : g (4 * rk + c) = 1 := by
    rw [hk c hc]
    unfold Z0 at hv
    omega
  have hg0 : ∀ r, r < k → r ≠ rk → ∀ j, j < 4 → f (4 * (if r = p then rk else r) + j) = 0 → f (4 * p + j) = 0 → g (4 * r + j) = 0 := fun r hr hne j hj q1 q2 => by
    rw [hg r hr hne j hj, hk0 j hj q2, q1, Int.mul_zero]
    rfl
  have hR : RwOk n g k := by
    intro r hr j hj
    refine ⟨?_, fun q => ?_⟩
    · by_cases e : r = rk
      · rw [e, hk j hj]; omega
      · rw [hg r hr e j hj]; omega
    · by_cases e : r = rk
      · rw [e]; exact hk0 j hj ((hf p hp.2 j hj).2 q)
      · refine hg0 r hr e j hj ?_ ((hf p hp.2 j hj).2 q)
        split
        · exact (hf rk (by omega) j hj).2 q
        · exact (hf r hr j hj).2 q
  refine ⟨hR, ⟨by omega, by omega, ⟨fun r => if r = rk then c else l r, fun r hr => ?_⟩, fun r a b j hj => ?_⟩, ?_⟩
  · dsimp only
    by_cases e : r = rk
    · subst e
      rw [if_pos rfl]
      refine ⟨by omega, hcn, hkc, fun j hj => hk0 j (by omega) (h4 p hp.1 hp.2 j hj), fun r' hr' => ?_⟩
      rw [if_neg (by omega)]
      exact (h3 r' hr').1
    · obtain ⟨a1, a2, a3, a4, a5⟩ := h3 r (by omega)
      rw [if_neg e]
      have e2 : (if r = p then rk else r) = r := if_neg (by omega)
      refine ⟨by omega, a2, ?_, fun j hj => hg0 r (by omega) e j (by omega) (by rw [e2]; exact a4 j hj) (h4 p hp.1 hp.2 j (by omega)), fun r' hr' => ?_⟩
      · rw [hg r (by omega) e (l r) (by omega), e2, a3, hk0 (l r) (by omega) (h4 p hp.1 hp.2 (l r) a1), Int.mul_zero]
        rfl
      · rw [if_neg (by omega)]
        exact a5 r' hr'
  · have hq : rk ≤ (if r = p then rk else r) ∧ (if r = p then rk else r) < k := by split <;> omega
    by_cases e : j = c
    · rw [e, hg r b (by omega) c hc, hkc, Int.mul_one, Int.sub_self]
      rfl
    · exact hg0 r b (by omega) j (by omega) (h4 _ hq.1 hq.2 j (by omega)) (h4 p hp.1 hp.2 j (by omega))
  · have hv0 : ¬ Z0 (f (4 * p + c)) := fun q => by
      have := hf p hp.2 c hc
      unfold Z0 at q
      omega
    refine Sp.eqv (fun x q => ?_) (fun x q => ?_)
    · obtain ⟨r, hr, rfl⟩ := q
      have hrk : Sp n (rws (mr f) k) (mr g rk) := Sp.smul v (Sp.of ⟨p, hp.2, rfl⟩) fun i hi => by
        unfold mr
        rw [hk i (by omega), Int.mul_comm v]
        exact Z0.emod _
      by_cases e : r = rk
      · rw [e]; exact hrk
      · refine Sp.add (-f (4 * (if r = p then rk else r) + c)) (Sp.of ⟨if r = p then rk else r, by split <;> omega, rfl⟩) hrk fun i hi => ?_
        unfold mr
        rw [Int.neg_mul, ← Int.sub_eq_add_neg, hg r hr e i (by omega)]
        exact Z0.emod _
    · obtain ⟨r, hr, rfl⟩ := q
      have hrk : Sp n (rws (mr g) k) (mr g rk) := Sp.of ⟨rk, by omega, rfl⟩
      have hpp : Sp n (rws (mr g) k) (mr f p) := Sp.smul (f (4 * p + c)) hrk fun i hi => by
        unfold mr
        have h5 := (Z0.emod (f (4 * p + i) * v)).mul (f (4 * p + c))
        rw [← hk i (by omega)] at h5
        have h6 := hv.mul (f (4 * p + i))
        have h7 := (h5.add h6).neg
        rw [Int.mul_sub, Int.mul_sub, show f (4 * p + i) * (f (4 * p + c) * v) = f (4 * p + c) * (f (4 * p + i) * v) from Int.mul_left_comm _ _ _, show -(f (4 * p + c) * g (4 * rk + i) - f (4 * p + c) * (f (4 * p + i) * v) + (f (4 * p + c) * (f (4 * p + i) * v) - f (4 * p + i) * 1)) = f (4 * p + i) - f (4 * p + c) * g (4 * rk + i) by omega] at h7
        exact h7
      have hq : ∀ y, y < k → y ≠ rk → Sp n (rws (mr g) k) (mr f (if y = p then rk else y)) := fun y hy e => by
        refine Sp.add (f (4 * (if y = p then rk else y) + c)) (Sp.of ⟨y, hy, rfl⟩) hrk fun i hi => ?_
        unfold mr
        have h5 := (Z0.emod (f (4 * (if y = p then rk else y) + i) - f (4 * (if y = p then rk else y) + c) * g (4 * rk + i))).neg
        rw [← hg y hy e i (by omega)] at h5
        rw [show f (4 * (if y = p then rk else y) + i) - (g (4 * y + i) + f (4 * (if y = p then rk else y) + c) * g (4 * rk + i)) = -(g (4 * y + i) - (f (4 * (if y = p then rk else y) + i) - f (4 * (if y = p then rk else y) + c) * g (4 * rk + i))) by omega]
        exact h5
      by_cases e : r = p
      · rw [e]; exact hpp
      · by_cases e2 : r = rk
        · have := hq p hp.2 (by omega)
          rw [if_pos rfl] at this
          rw [e2]; exact this
        · have := hq r hr e2
          rw [if_neg e] at this
          exact this
theorem td2 {t : Int} (h : 0 ≤ t) : (t.tdiv 2).toNat = t.toNat / 2 ∧ t.tdiv 2 = t / 2 ∧ t.tmod 2 = t % 2 := by
  have h1 := Int.tdiv_eq_ediv_of_nonneg (b := 2) h
  have h2 := Int.tmod_eq_emod_of_nonneg (b := 2) h
  exact ⟨by rw [h1]; omega, h1, h2⟩
/-- the columns beyond the states are 0 -/
def ZCo (N P : Nat) (v : Nat → Nat → Int) : Prop := (∀ i j, i < N → N ≤ j → j < 4 → v 2 (4 * i + j) = 0) ∧ ∀ k j, k < P → N ≤ j → j < 4 → v 5 (4 * k + j) = 0
theorem ZCo.keep {N P : Nat} {v v' : Nat → Nat → Int} (h : ZCo N P v) (e : ∀ b x, b = 2 ∨ b = 5 → v' b x = v b x) : ZCo N P v' := ⟨fun i j a b d => by rw [e 2 _ (Or.inl rfl)]; exact h.1 i j a b d, fun i j a b d => by rw [e 5 _ (Or.inr rfl)]; exact h.2 i j a b d⟩
theorem dot_cg {f f' g g' : Nat → Int} : ∀ {n : Nat}, (∀ i, i < n → f i = f' i ∧ g i = g' i) → dot n f g = dot n f' g'
  | 0, _ => rfl
  | n + 1, h => by
    unfold dot
    rw [dot_cg fun i hi => h i (by omega), (h n (Nat.lt_succ_self n)).1, (h n (Nat.lt_succ_self n)).2]
theorem dot_0 {f g : Nat → Int} : ∀ {n : Nat}, (∀ i, i < n → g i = 0) → dot n f g = 0
  | 0, _ => rfl
  | n + 1, h => by
    unfold dot
    rw [dot_0 fun i hi => h i (by omega), h n (Nat.lt_succ_self n), Int.mul_zero]
    rfl
/-- one row times the matrix, as the reference lays it -/
def lyT (N : Nat) (g : Nat → Int) (A : Nat → Int) (j : Nat) : Int := dot N g (fun i => A (4 * i + j)) % 1000003
theorem lyT_lt {N P : Nat} {pv v : Nat → Nat → Int} {g : Nat → Int} {j : Nat} (hq : PEq N P pv v) (hj : j < N) : lyT N g (v 2) j = mulF N pv g j % 1000003 := by
  unfold lyT mulF
  rw [dot_cg fun i hi => ⟨rfl, hq.2.2.1 i j hi hj⟩]
theorem lyT_ge {N P : Nat} {v : Nat → Nat → Int} {g : Nat → Int} {j : Nat} (hz : ZCo N P v) (hj : N ≤ j) (hj4 : j < 4) : lyT N g (v 2) j = 0 := by
  unfold lyT
  rw [dot_0 fun i hi => hz.1 i j hi hj hj4]
  rfl
theorem mx_bd {N P : Nat} {pv v : Nat → Nat → Int} (hA : ∀ a i, a < N → i < N → -99 ≤ pv (2 + a) i ∧ pv (2 + a) i ≤ 99) (hq : PEq N P pv v) (hz : ZCo N P v) {i j : Nat} (hi : i < N) (hj : j < 4) : -99 ≤ v 2 (4 * i + j) ∧ v 2 (4 * i + j) ≤ 99 := by
  by_cases e : j < N
  · rw [hq.2.2.1 i j hi e]; exact hA i j hi e
  · rw [hz.1 i j hi (by omega) hj]; omega
