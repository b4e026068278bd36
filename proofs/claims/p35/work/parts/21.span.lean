/-! ROWS of numbers modulo the prime: sums of multiples, first places, ranks -/
abbrev Vc : Type := Nat → Int
/-- a number that is 0 modulo the prime -/
def Z0 (x : Int) : Prop := (1000003 : Int) ∣ x
theorem Z0.add {a b : Int} (ha : Z0 a) (hb : Z0 b) : Z0 (a + b) := Int.dvd_add ha hb
theorem Z0.sub {a b : Int} (ha : Z0 a) (hb : Z0 b) : Z0 (a - b) := Int.dvd_sub ha hb
theorem Z0.mul {a : Int} (c : Int) (ha : Z0 a) : Z0 (c * a) := Int.dvd_mul_of_dvd_right ha
theorem Z0.mulr {a : Int} (c : Int) (ha : Z0 a) : Z0 (a * c) := Int.dvd_mul_of_dvd_left ha
theorem Z0.zero : Z0 0 := Int.dvd_zero _
theorem Z0.neg {a : Int} (ha : Z0 a) : Z0 (-a) := Int.dvd_neg.mpr ha
theorem Z0.emod (a : Int) : Z0 (a % 1000003 - a) := by unfold Z0; omega
theorem Z0.iff {a b : Int} (h : Z0 (a - b)) : Z0 a ↔ Z0 b := by unfold Z0 at *; omega
/-- the prime is one -/
theorem prm_small : ∀ d : Nat, d < 1001 → 2 ≤ d → 1000003 % d ≠ 0 := by decide +kernel
theorem prm_dvd {d : Nat} (h : d ∣ 1000003) : d = 1 ∨ d = 1000003 := by
  obtain ⟨e, he⟩ := h
  have hd0 : d ≠ 0 := fun h => by rw [h, Nat.zero_mul] at he; exact absurd he (by decide)
  have he0 : e ≠ 0 := fun h => by rw [h, Nat.mul_zero] at he; exact absurd he (by decide)
  by_cases h1 : d < 1001
  · by_cases h2 : 2 ≤ d
    · exact absurd (Nat.mod_eq_zero_of_dvd ⟨e, he⟩) (prm_small d h1 h2)
    · exact Or.inl (by omega)
  · by_cases h3 : e < 1001
    · by_cases h4 : 2 ≤ e
      · exact absurd (Nat.mod_eq_zero_of_dvd ⟨d, by rw [Nat.mul_comm]; exact he⟩) (prm_small e h3 h4)
      · refine Or.inr ?_
        rw [show e = 1 by omega, Nat.mul_one] at he
        exact he.symm
    · have := Nat.mul_le_mul (show 1001 ≤ d by omega) (show 1001 ≤ e by omega)
      omega
theorem prm_cop {a : Nat} (h : ¬ 1000003 ∣ a) : Nat.Coprime a 1000003 := by
  rcases prm_dvd (Nat.gcd_dvd_right a 1000003) with q | q
  · exact q
  · exact absurd (q ▸ Nat.gcd_dvd_left a 1000003) h
theorem prm_mulN {a b : Nat} (h : 1000003 ∣ a * b) : 1000003 ∣ a ∨ 1000003 ∣ b := by
  by_cases c : 1000003 ∣ a
  · exact Or.inl c
  · exact Or.inr (Nat.Coprime.dvd_of_dvd_mul_left (Nat.Coprime.symm (prm_cop c)) h)
theorem Z0.prime {a b : Int} (h : Z0 (a * b)) : Z0 a ∨ Z0 b := by
  have h1 : (1000003 : Nat) ∣ a.natAbs * b.natAbs := by
    rw [← Int.natAbs_mul]
    exact Int.natAbs_dvd_natAbs.mpr h
  rcases prm_mulN h1 with q | q
  · exact Or.inl (Int.natAbs_dvd_natAbs.mp q)
  · exact Or.inr (Int.natAbs_dvd_natAbs.mp q)
/-- a list without a number twice, within another -/
theorem nodup_len : ∀ {a b : List Nat}, a.Nodup → (∀ x ∈ a, x ∈ b) → a.length ≤ b.length
  | [], _, _, _ => Nat.zero_le _
  | x :: a, b, h1, h2 => by
    have hx := h2 x List.mem_cons_self
    have h3 := List.nodup_cons.mp h1
    have h4 := nodup_len (a := a) (b := b.erase x) h3.2 (fun y hy => by
      have hne : y ≠ x := fun e => h3.1 (e ▸ hy)
      exact (List.mem_erase_of_ne hne).mpr (h2 y (List.mem_cons_of_mem _ hy)))
    have h5 := List.length_erase_of_mem hx
    have h6 : 0 < b.length := List.length_pos_of_mem hx
    show a.length + 1 ≤ b.length
    omega
/-- an inverse of what is not 0 -/
theorem Z0.inv {a : Int} (h : ¬ Z0 a) : ∃ b : Int, Z0 (a * b - 1) := by
  have key : ∀ n : Nat, ¬ 1000003 ∣ n → ∃ b : Nat, n * b % 1000003 = 1 := by
    intro n hn
    have hnd : ((List.range 1000003).map fun i => n * i % 1000003).Nodup := by
      rw [List.nodup_iff_pairwise_ne, List.pairwise_map]
      refine List.Pairwise.imp_of_mem ?_ List.nodup_range
      intro x y hx hy hne he
      have hx := List.mem_range.mp hx
      have hy := List.mem_range.mp hy
      apply hne
      rcases Nat.le_total x y with q | q
      · have h1 : 1000003 ∣ n * (y - x) := by
          rw [Nat.mul_sub]
          exact Nat.dvd_of_mod_eq_zero (Nat.sub_mod_eq_zero_of_mod_eq he.symm)
        rcases prm_mulN h1 with z | z
        · exact absurd z hn
        · have := Nat.eq_zero_of_dvd_of_lt z (by omega)
          omega
      · have h1 : 1000003 ∣ n * (x - y) := by
          rw [Nat.mul_sub]
          exact Nat.dvd_of_mod_eq_zero (Nat.sub_mod_eq_zero_of_mod_eq he)
        rcases prm_mulN h1 with z | z
        · exact absurd z hn
        · have := Nat.eq_zero_of_dvd_of_lt z (by omega)
          omega
    by_cases c : 1 ∈ (List.range 1000003).map fun i => n * i % 1000003
    · obtain ⟨b, -, hb⟩ := List.mem_map.mp c
      exact ⟨b, hb⟩
    · exfalso
      have h2 := nodup_len (a := 1 :: (List.range 1000003).map fun i => n * i % 1000003) (b := List.range 1000003) (List.nodup_cons.mpr ⟨c, hnd⟩) (fun x hx => by
        rcases List.mem_cons.mp hx with q | q
        · rw [q]; exact List.mem_range.mpr (by omega)
        · obtain ⟨b, -, hb⟩ := List.mem_map.mp q
          rw [← hb]
          exact List.mem_range.mpr (Nat.mod_lt _ (by omega)))
      simp only [List.length_cons, List.length_map, List.length_range] at h2
      omega
  obtain ⟨b, hb⟩ := key a.natAbs (fun q => h (Int.natAbs_dvd_natAbs.mp q))
  have h1 : ((a.natAbs : Int) * (b : Int)) % 1000003 = 1 := by
    rw [← Int.natCast_mul]
    omega
  rcases Int.natAbs_eq a with q | q
  · refine ⟨b, ?_⟩
    rw [q]
    unfold Z0
    omega
  · refine ⟨-b, ?_⟩
    rw [q, Int.neg_mul_neg]
    unfold Z0
    omega
/-- sums of m multiples of rows of S -/
def SpN (n : Nat) (S : Vc → Prop) : Nat → Vc → Prop
  | 0, v => ∀ i, i < n → Z0 (v i)
  | m + 1, w => ∃ (v u : Vc) (c : Int), SpN n S m v ∧ S u ∧ ∀ i, i < n → Z0 (w i - (v i + c * u i))
def Sp (n : Nat) (S : Vc → Prop) (v : Vc) : Prop := ∃ m, SpN n S m v
theorem Sp.z {n : Nat} {S : Vc → Prop} {v : Vc} (h : ∀ i, i < n → Z0 (v i)) : Sp n S v := ⟨0, h⟩
theorem Sp.a {n : Nat} {S : Vc → Prop} {v u w : Vc} (c : Int) (hv : Sp n S v) (hu : S u) (h : ∀ i, i < n → Z0 (w i - (v i + c * u i))) : Sp n S w := by
  obtain ⟨m, hm⟩ := hv
  exact ⟨m + 1, v, u, c, hm, hu, h⟩
theorem Sp.ind {n : Nat} {S : Vc → Prop} {C : Vc → Prop} (hz : ∀ v, (∀ i, i < n → Z0 (v i)) → C v) (ha : ∀ v u w c, Sp n S v → C v → S u → (∀ i, i < n → Z0 (w i - (v i + c * u i))) → C w) {v : Vc} (h : Sp n S v) : C v := by
  obtain ⟨m, hm⟩ := h
  induction m generalizing v with
  | zero => exact hz v hm
  | succ m ih =>
    obtain ⟨v', u, c, h1, h2, h3⟩ := hm
    exact ha v' u v c ⟨m, h1⟩ (ih h1) h2 h3
theorem Sp.of {n : Nat} {S : Vc → Prop} {u : Vc} (h : S u) : Sp n S u := Sp.a 1 (Sp.z (v := fun _ => 0) fun _ _ => Z0.zero) h (fun i _ => by rw [show u i - (0 + 1 * u i) = 0 by omega]; exact Z0.zero)
/-- v and c times w -/
theorem Sp.add {n : Nat} {S : Vc → Prop} {v w x : Vc} (c : Int) (hv : Sp n S v) (hw : Sp n S w) (h : ∀ i, i < n → Z0 (x i - (v i + c * w i))) : Sp n S x := by
  revert x
  refine Sp.ind (C := fun w => ∀ {x : Vc}, (∀ i, i < n → Z0 (x i - (v i + c * w i))) → Sp n S x) ?_ ?_ hw
  · intro w hw x h
    obtain ⟨m, hm⟩ := hv
    have e : ∀ i, i < n → Z0 (x i - v i) := fun i hi => by
      have := (h i hi).add ((hw i hi).mul c)
      rw [show x i - (v i + c * w i) + c * w i = x i - v i by omega] at this
      exact this
    cases m with
    | zero => exact Sp.z fun i hi => ((e i hi).iff).mpr (hm i hi)
    | succ m =>
      obtain ⟨a, b, d, h1, h2, h3⟩ := hm
      exact Sp.a d ⟨m, h1⟩ h2 fun i hi => by
        have := (e i hi).add (h3 i hi)
        rw [show x i - v i + (v i - (a i + d * b i)) = x i - (a i + d * b i) by omega] at this
        exact this
  · intro a u w d ha hC hu hw x hx
    have h1 := hC (x := fun i => v i + c * a i) (fun i _ => by rw [show v i + c * a i - (v i + c * a i) = 0 by omega]; exact Z0.zero)
    refine Sp.a (c * d) h1 hu fun i hi => ?_
    have := (hx i hi).add ((hw i hi).mul c)
    rw [show x i - (v i + c * w i) + c * (w i - (a i + d * u i)) = x i - (v i + c * a i + c * d * u i) by rw [Int.mul_sub, Int.mul_add, Int.mul_assoc]; omega] at this
    exact this
theorem Sp.congr {n : Nat} {S : Vc → Prop} {v w : Vc} (hv : Sp n S v) (h : ∀ i, i < n → Z0 (w i - v i)) : Sp n S w := Sp.add (w := fun _ => 0) 0 hv (Sp.z fun _ _ => Z0.zero) fun i hi => by rw [show w i - (v i + 0 * 0) = w i - v i by omega]; exact h i hi
theorem Sp.mono {n : Nat} {S T : Vc → Prop} (h : ∀ u, S u → Sp n T u) {v : Vc} (hv : Sp n S v) : Sp n T v := Sp.ind (C := fun v => Sp n T v) (fun _ h => Sp.z h) (fun _ u _ c _ h1 h2 h3 => Sp.add c h1 (h u h2) h3) hv
/-- v times c -/
theorem Sp.smul {n : Nat} {S : Vc → Prop} {v w : Vc} (c : Int) (hv : Sp n S v) (h : ∀ i, i < n → Z0 (w i - c * v i)) : Sp n S w := Sp.add (v := fun _ => 0) c (Sp.z fun _ _ => Z0.zero) hv fun i hi => by rw [show w i - (0 + c * v i) = w i - c * v i by omega]; exact h i hi
/-- v is what c times v is, where c is not 0 -/
theorem Sp.unsmul {n : Nat} {S : Vc → Prop} {v w : Vc} {c : Int} (hc : ¬ Z0 c) (hv : Sp n S v) (h : ∀ i, i < n → Z0 (v i - c * w i)) : Sp n S w := by
  obtain ⟨b, hb⟩ := Z0.inv hc
  refine Sp.smul b hv fun i hi => ?_
  have h1 := (h i hi).mul b
  have h2 := hb.mul (w i)
  have e : w i - b * v i = -(b * (v i - c * w i)) - w i * (c * b - 1) := by
    rw [Int.mul_sub, Int.mul_sub, ← Int.mul_assoc, ← Int.mul_assoc, Int.mul_comm (w i * c) b, ← Int.mul_assoc, Int.mul_comm b (w i), Int.mul_assoc (w i) b c, Int.mul_comm (w i) (b * c)]
    omega
  rw [e]
  exact h1.neg.sub h2
/-- the rows of a table, k of them -/
def rws (f : Nat → Vc) (k : Nat) : Vc → Prop := fun u => ∃ r, r < k ∧ u = f r
/-- rows whose first places differ -/
def Ech (n k : Nat) (f : Nat → Vc) (l : Nat → Nat) : Prop := ∀ r, r < k → (l r < n ∧ ¬ Z0 (f r (l r)) ∧ ∀ j, j < l r → Z0 (f r j)) ∧ ∀ r', r' < r → l r' ≠ l r
theorem Sp.split {n k : Nat} {f : Nat → Vc} {v : Vc} (h : Sp n (rws f (k + 1)) v) : ∃ w c, Sp n (rws f k) w ∧ ∀ i, i < n → Z0 (v i - (w i + c * f k i)) := by
  refine Sp.ind (C := fun v => ∃ w c, Sp n (rws f k) w ∧ ∀ i, i < n → Z0 (v i - (w i + c * f k i))) ?_ ?_ h
  · exact fun v hv => ⟨v, 0, Sp.z hv, fun i _ => by rw [show v i - (v i + 0 * f k i) = 0 by omega]; exact Z0.zero⟩
  · rintro v u w c - ⟨a, d, h1, h2⟩ ⟨r, hr, rfl⟩ h3
    by_cases e : r = k
    · subst e
      refine ⟨a, d + c, h1, fun i hi => ?_⟩
      have := (h3 i hi).add (h2 i hi)
      rw [show w i - (v i + c * f r i) + (v i - (a i + d * f r i)) = w i - (a i + (d + c) * f r i) by rw [Int.add_mul]; omega] at this
      exact this
    · refine ⟨fun i => a i + c * f r i, d, Sp.a c h1 ⟨r, by omega, rfl⟩ (fun i _ => by rw [show a i + c * f r i - (a i + c * f r i) = 0 by omega]; exact Z0.zero), fun i hi => ?_⟩
      have := (h3 i hi).add (h2 i hi)
      rw [show w i - (v i + c * f r i) + (v i - (a i + d * f k i)) = w i - (a i + c * f r i + d * f k i) by omega] at this
      exact this
/-- what lies in such rows is 0, or its first place is one of theirs -/
theorem Ech.first {n : Nat} {f : Nat → Vc} {l : Nat → Nat} : ∀ {k : Nat}, Ech n k f l → ∀ {v : Vc}, Sp n (rws f k) v → (∀ i, i < n → Z0 (v i)) ∨ ∃ r, r < k ∧ ¬ Z0 (v (l r)) ∧ ∀ i, i < l r → Z0 (v i)
  | 0, _, v, hv => Or.inl (Sp.ind (C := fun v => ∀ i, i < n → Z0 (v i)) (fun _ h => h) (fun _ _ _ _ _ _ h => by obtain ⟨r, hr, -⟩ := h; exact absurd hr (Nat.not_lt_zero r)) hv)
  | k + 1, he, v, hv => by
    obtain ⟨w, c, hw, h⟩ := Sp.split hv
    obtain ⟨⟨a1, a2, a3⟩, a4⟩ := he k (Nat.lt_succ_self k)
    have hk : ∀ r, r < k → l r < n := fun r hr => (he r (by omega)).1.1
    have he' : Ech n k f l := fun r hr => he r (by omega)
    by_cases hc : Z0 c
    · have e : ∀ i, i < n → Z0 (v i - w i) := fun i hi => by
        have := (h i hi).add (hc.mulr (f k i))
        rw [show v i - (w i + c * f k i) + c * f k i = v i - w i by omega] at this
        exact this
      rcases Ech.first he' hw with q | ⟨r, q1, q2, q3⟩
      · exact Or.inl fun i hi => (e i hi).iff.mpr (q i hi)
      · have := hk r q1
        exact Or.inr ⟨r, by omega, fun z => q2 ((e _ this).iff.mp z), fun i hi => (e i (by omega)).iff.mpr (q3 i hi)⟩
    · have hck : ¬ Z0 (c * f k (l k)) := fun z => (Z0.prime z).elim hc a2
      rcases Ech.first he' hw with q | ⟨r, q1, q2, q3⟩
      · refine Or.inr ⟨k, Nat.lt_succ_self k, fun z => hck ?_, fun i hi => ?_⟩
        · have := z.sub ((h _ a1).add (q _ a1))
          rw [show v (l k) - (v (l k) - (w (l k) + c * f k (l k)) + w (l k)) = c * f k (l k) by omega] at this
          exact this
        · have := (h i (by omega)).add ((q i (by omega)).add ((a3 i hi).mul c))
          rw [show v i - (w i + c * f k i) + (w i + c * f k i) = v i by omega] at this
          exact this
      · have hr := hk r q1
        have hne := a4 r q1
        rcases Nat.lt_or_gt_of_ne hne with g | g
        · refine Or.inr ⟨r, by omega, fun z => q2 ?_, fun i hi => ?_⟩
          · have := z.sub ((h _ hr).add ((a3 _ g).mul c))
            rw [show v (l r) - (v (l r) - (w (l r) + c * f k (l r)) + c * f k (l r)) = w (l r) by omega] at this
            exact this
          · have := (h i (by omega)).add ((q3 i hi).add ((a3 i (by omega)).mul c))
            rw [show v i - (w i + c * f k i) + (w i + c * f k i) = v i by omega] at this
            exact this
        · refine Or.inr ⟨k, Nat.lt_succ_self k, fun z => hck ?_, fun i hi => ?_⟩
          · have := z.sub ((h _ a1).add (q3 _ g))
            rw [show v (l k) - (v (l k) - (w (l k) + c * f k (l k)) + w (l k)) = c * f k (l k) by omega] at this
            exact this
          · have := (h i (by omega)).add ((q3 i (by omega)).add ((a3 i hi).mul c))
            rw [show v i - (w i + c * f k i) + (w i + c * f k i) = v i by omega] at this
            exact this
/-- a space has k rows -/
def RankOf (n : Nat) (V : Vc → Prop) (k : Nat) : Prop := ∃ (f : Nat → Vc) (l : Nat → Nat), Ech n k f l ∧ ∀ u, Sp n (rws f k) u ↔ V u
theorem Ech.le {n k k' : Nat} {f f' : Nat → Vc} {l l' : Nat → Nat} (h : Ech n k f l) (h' : Ech n k' f' l') (hs : ∀ u, Sp n (rws f k) u → Sp n (rws f' k') u) : k ≤ k' := by
  have a : ∀ r, r < k → ∃ r', r' < k' ∧ l r = l' r' := fun r hr => by
    obtain ⟨⟨b1, b2, b3⟩, -⟩ := h r hr
    rcases Ech.first h' (hs _ (Sp.of ⟨r, hr, rfl⟩)) with q | ⟨r', q1, q2, q3⟩
    · exact absurd (q _ b1) b2
    · refine ⟨r', q1, ?_⟩
      rcases Nat.lt_trichotomy (l r) (l' r') with g | g | g
      · exact absurd (q3 _ g) b2
      · exact g
      · exact absurd (b3 _ g) q2
  have hn : ((List.range k).map l).Nodup := by
    rw [List.nodup_iff_pairwise_ne, List.pairwise_map]
    refine List.Pairwise.imp_of_mem ?_ List.nodup_range
    intro x y hx hy hne
    have hx := List.mem_range.mp hx
    have hy := List.mem_range.mp hy
    rcases Nat.lt_or_gt_of_ne hne with g | g
    · exact (h y hy).2 x g
    · exact fun e => (h x hx).2 y g e.symm
  have := nodup_len hn (b := (List.range k').map l') (fun x hx => by
    obtain ⟨r, hr, rfl⟩ := List.mem_map.mp hx
    obtain ⟨r', h1, h2⟩ := a r (List.mem_range.mp hr)
    exact List.mem_map.mpr ⟨r', List.mem_range.mpr h1, h2.symm⟩)
  simpa using this
theorem RankOf.unique {n k k' : Nat} {V : Vc → Prop} (h : RankOf n V k) (h' : RankOf n V k') : k = k' := by
  obtain ⟨f, l, h1, h2⟩ := h
  obtain ⟨f', l', h3, h4⟩ := h'
  exact Nat.le_antisymm (Ech.le h1 h3 fun u hu => (h4 u).mpr ((h2 u).mp hu)) (Ech.le h3 h1 fun u hu => (h2 u).mpr ((h4 u).mp hu))
