/-! spaces as both systems build them -/
def RowOk (n : Nat) (f : Vc) : Prop := ∀ j, j < n → 0 ≤ f j ∧ f j < 1000003
theorem RowOk.z {n : Nat} {f : Vc} (h : RowOk n f) {j : Nat} (hj : j < n) : Z0 (f j) ↔ f j = 0 := by
  have := h j hj
  unfold Z0
  omega
/-- how many of the first m rows have a number that is not 0 at their own place -/
def cntS (v : Nat → Nat → Int) : Nat → Nat
  | 0 => 0
  | m + 1 => cntS v m + (if v (2 + m) m = 0 then 0 else 1)
theorem cntS_congr {v v' : Nat → Nat → Int} : ∀ {m : Nat}, (∀ r, r < m → v' (2 + r) r = v (2 + r) r) → cntS v' m = cntS v m
  | 0, _ => rfl
  | m + 1, h => by
    unfold cntS
    rw [h m (Nat.lt_succ_self m), cntS_congr fun r hr => h r (by omega)]
theorem cntS_le {v : Nat → Nat → Int} : ∀ {m : Nat}, cntS v m ≤ m
  | 0 => Nat.le_refl 0
  | m + 1 => by
    have := cntS_le (v := v) (m := m)
    unfold cntS
    split <;> omega
theorem cntS_more {v v' : Nat → Nat → Int} {j n : Nat} (h0 : v (2 + j) j = 0) (h1 : v' (2 + j) j ≠ 0) (e : ∀ r, r < n → r ≠ j → v' (2 + r) r = v (2 + r) r) : ∀ {m : Nat}, m ≤ n → cntS v' m = cntS v m + (if j < m then 1 else 0)
  | 0, _ => by rw [if_neg (Nat.not_lt_zero j)]; rfl
  | m + 1, hm => by
    have ih := cntS_more h0 h1 e (m := m) (by omega)
    unfold cntS
    rw [ih]
    by_cases c : m = j
    · subst c
      rw [if_neg (Nat.lt_irrefl m), if_neg h1, if_pos h0, if_pos (Nat.lt_succ_self m)]
    · rw [e m (by omega) c]
      by_cases d : j < m
      · rw [if_pos d, if_pos (by omega : j < m + 1)]
        omega
      · rw [if_neg d, if_neg (by omega : ¬ j < m + 1)]
        omega
/-- row r is 0 before its place r; where it is 0 there, it is 0 -/
def SpcOk (v : Nat → Nat → Int) (n k : Nat) : Prop := v 0 1 = k ∧ (∀ r, r < n → RowOk n (v (2 + r))) ∧ (∀ r, r < n → ∀ i, i < r → v (2 + r) i = 0) ∧ (∀ r, r < n → v (2 + r) r = 0 → ∀ i, i < n → v (2 + r) i = 0) ∧ cntS v n = k
theorem Ech.le_n {n k : Nat} {f : Nat → Vc} {l : Nat → Nat} (h : Ech n k f l) : k ≤ n := by
  have hn : ((List.range k).map l).Nodup := by
    rw [List.nodup_iff_pairwise_ne, List.pairwise_map]
    refine List.Pairwise.imp_of_mem ?_ List.nodup_range
    intro x y hx hy hne
    have hx := List.mem_range.mp hx
    have hy := List.mem_range.mp hy
    rcases Nat.lt_or_gt_of_ne hne with g | g
    · exact (h y hy).2 x g
    · exact fun e => (h x hx).2 y g e.symm
  have := nodup_len hn (b := List.range n) (fun x hx => by
    obtain ⟨r, hr, rfl⟩ := List.mem_map.mp hx
    exact List.mem_range.mpr (h r (List.mem_range.mp hr)).1.1)
  simpa using this
/-- one row more -/
theorem Ech.more {n k : Nat} {f : Nat → Vc} {l : Nat → Nat} {w : Vc} {j : Nat} (h : Ech n k f l) (hw : ∀ r, r < k → Z0 (w (l r))) (hj : j < n) (hj1 : ¬ Z0 (w j)) (hj2 : ∀ i, i < j → Z0 (w i)) {f' : Nat → Vc} {l' : Nat → Nat} (ef : ∀ r, r < k → f' r = f r) (el : ∀ r, r < k → l' r = l r) (fk : f' k = w) (lk : l' k = j) : Ech n (k + 1) f' l' := by
  intro r hr
  by_cases e : r = k
  · subst e
    rw [fk, lk]
    refine ⟨⟨hj, hj1, hj2⟩, fun r' hr' => ?_⟩
    rw [el r' hr']
    intro e
    exact hj1 (e ▸ hw r' hr')
  · have hr' : r < k := by omega
    rw [ef r hr', el r hr']
    refine ⟨(h r hr').1, fun r' hr2 => ?_⟩
    rw [el r' (by omega)]
    exact (h r hr').2 r' hr2
/-- what a multiple of the other row takes off -/
theorem Sp.take {n : Nat} {S : Vc → Prop} {v o w : Vc} {a b : Int} (ho : Sp n S o) (h : ∀ i, i < n → w i = (v i * a - o i * b) % 1000003) : (Sp n S v → Sp n S w) ∧ (¬ Z0 a → Sp n S w → Sp n S v) := by
  have e : ∀ i, i < n → Z0 (w i - (v i * a - o i * b)) := fun i hi => by rw [h i hi]; exact Z0.emod _
  constructor
  · intro hv
    have h1 : Sp n S fun i => a * v i := Sp.smul a hv fun i _ => by rw [show a * v i - a * v i = 0 by omega]; exact Z0.zero
    refine Sp.add (-b) h1 ho fun i hi => ?_
    have := e i hi
    rw [Int.mul_comm (v i) a, Int.mul_comm (o i) b] at this
    rw [Int.neg_mul, show w i - (a * v i + -(b * o i)) = w i - (a * v i - b * o i) by omega]
    exact this
  · intro ha hw
    have h1 : Sp n S fun i => w i + b * o i := Sp.add b hw ho fun i _ => by rw [show w i + b * o i - (w i + b * o i) = 0 by omega]; exact Z0.zero
    refine Sp.unsmul ha h1 fun i hi => ?_
    have := e i hi
    rw [Int.mul_comm (v i) a, Int.mul_comm (o i) b] at this
    rw [show w i + b * o i - a * v i = w i - (a * v i - b * o i) by omega]
    exact this
def adj (S : Vc → Prop) (w : Vc) : Vc → Prop := fun x => S x ∨ x = w
theorem adj_of {n : Nat} {S : Vc → Prop} {w : Vc} : Sp n (adj S w) w := Sp.of (Or.inr rfl)
theorem adj_le {n : Nat} {S : Vc → Prop} {w : Vc} {u : Vc} (h : Sp n S u) : Sp n (adj S w) u := Sp.mono (fun _ q => Sp.of (Or.inl q)) h
theorem adj_sub {n : Nat} {S T : Vc → Prop} {w : Vc} (h1 : ∀ u, S u → Sp n T u) (h2 : Sp n T w) {u : Vc} (h : Sp n (adj S w) u) : Sp n T u := Sp.mono (fun x q => by
  rcases q with q | q
  · exact h1 x q
  · rw [q]; exact h2) h
theorem adj_zero {n : Nat} {S : Vc → Prop} {w : Vc} (h : ∀ i, i < n → Z0 (w i)) (u : Vc) : Sp n (adj S w) u ↔ Sp n S u := ⟨adj_sub (fun _ q => Sp.of q) (Sp.z h), adj_le⟩
theorem rws_more {n k : Nat} {f f' : Nat → Vc} {w : Vc} (ef : ∀ r, r < k → f' r = f r) (fk : f' k = w) (u : Vc) : Sp n (rws f' (k + 1)) u ↔ Sp n (adj (rws f k) w) u := by
  constructor
  · refine Sp.mono ?_
    rintro x ⟨r, hr, rfl⟩
    by_cases e : r = k
    · rw [e, fk]; exact adj_of
    · rw [ef r (by omega)]; exact Sp.of (Or.inl ⟨r, by omega, rfl⟩)
  · refine adj_sub ?_ (by rw [← fk]; exact Sp.of ⟨k, Nat.lt_succ_self k, rfl⟩)
    rintro x ⟨r, hr, rfl⟩
    rw [← ef r hr]
    exact Sp.of ⟨r, by omega, rfl⟩
theorem rws_congr {n k : Nat} {f f' : Nat → Vc} (h : ∀ r, r < k → ∀ i, i < n → f r i = f' r i) (u : Vc) : Sp n (rws f k) u ↔ Sp n (rws f' k) u := by
  constructor
  · refine Sp.mono ?_
    rintro x ⟨r, hr, rfl⟩
    exact Sp.congr (Sp.of ⟨r, hr, rfl⟩) fun i hi => by rw [h r hr i hi, Int.sub_self]; exact Z0.zero
  · refine Sp.mono ?_
    rintro x ⟨r, hr, rfl⟩
    exact Sp.congr (Sp.of ⟨r, hr, rfl⟩) fun i hi => by rw [h r hr i hi, Int.sub_self]; exact Z0.zero
theorem adj_congr {n : Nat} {S : Vc → Prop} {w w' : Vc} (h : ∀ i, i < n → Z0 (w i - w' i)) (u : Vc) : Sp n (adj S w) u ↔ Sp n (adj S w') u := by
  constructor
  · exact adj_sub (fun x q => Sp.of (Or.inl q)) (Sp.congr adj_of h)
  · exact adj_sub (fun x q => Sp.of (Or.inl q)) (Sp.congr adj_of fun i hi => by have := (h i hi).neg; rw [show -(w i - w' i) = w' i - w i by omega] at this; exact this)
/-- a row times A -/
def mulF (n : Nat) (pv : Nat → Nat → Int) (f : Vc) : Vc := fun j => dot n f (fun i => pv (2 + i) j)
theorem dot_lin {x v w g : Vc} {c : Int} : ∀ {n : Nat}, (∀ i, i < n → Z0 (x i - (v i + c * w i))) → Z0 (dot n x g - (dot n v g + c * dot n w g))
  | 0, _ => by
    show Z0 (0 - (0 + c * 0))
    rw [Int.mul_zero]
    exact Z0.zero
  | n + 1, h => by
    have h1 := dot_lin (g := g) (n := n) (fun i hi => h i (by omega))
    have h2 := (h n (Nat.lt_succ_self n)).mul (g n)
    have := h1.add h2
    unfold dot
    rw [show dot n x g + x n * g n - (dot n v g + v n * g n + c * (dot n w g + w n * g n)) = dot n x g - (dot n v g + c * dot n w g) + g n * (x n - (v n + c * w n)) by
      rw [Int.mul_sub, Int.mul_add, Int.mul_add, Int.mul_comm (g n) (x n), Int.mul_comm (g n) (v n), show g n * (c * w n) = c * (w n * g n) by rw [← Int.mul_assoc, Int.mul_comm (g n) c, Int.mul_assoc, Int.mul_comm (g n) (w n)]]
      omega]
    exact this
theorem dot_z {x g : Vc} {n : Nat} (h : ∀ i, i < n → Z0 (x i)) : Z0 (dot n x g) := by
  have := dot_lin (x := x) (v := fun _ => 0) (w := fun _ => 0) (g := g) (c := 0) (n := n) (fun i hi => by rw [show x i - (0 + 0 * 0) = x i by omega]; exact h i hi)
  have e : dot n (fun _ => 0) g = 0 := by
    clear this h
    induction n with
    | zero => rfl
    | succ n ih => unfold dot; rw [ih, Int.zero_mul]; rfl
  rw [e] at this
  rw [show dot n x g - (0 + 0 * 0) = dot n x g by omega] at this
  exact this
/-- the rows times A -/
theorem Sp.times {n : Nat} {pv : Nat → Nat → Int} {S T : Vc → Prop} (h : ∀ u, S u → Sp n T (mulF n pv u)) {v : Vc} (hv : Sp n S v) : Sp n T (mulF n pv v) := by
  refine Sp.ind (C := fun v => Sp n T (mulF n pv v)) ?_ ?_ hv
  · exact fun v hv => Sp.z fun j _ => dot_z hv
  · exact fun v u w c _ h1 h2 h3 => Sp.add c h1 (h u h2) fun j _ => dot_lin h3
/-- of the rows those combinations that e meets -/
def meetE (n : Nat) (e : Vc) (V : Vc → Prop) : Vc → Prop := fun w => V w ∧ Z0 (dot n w e)
theorem meetE_all {n k : Nat} {f : Nat → Vc} {e : Vc} (h : ∀ r, r < k → Z0 (dot n (f r) e)) {w : Vc} (hw : Sp n (rws f k) w) : Z0 (dot n w e) := by
  refine Sp.ind (C := fun w => Z0 (dot n w e)) (fun v hv => dot_z hv) ?_ hw
  rintro v u w c - h1 ⟨r, hr, rfl⟩ h3
  have h4 := (dot_lin (g := e) h3).add (h1.add ((h r hr).mul c))
  rw [show dot n w e - (dot n v e + c * dot n (f r) e) + (dot n v e + c * dot n (f r) e) = dot n w e by omega] at h4
  exact h4
/-- with a row that e does not meet: it is taken out of the others -/
theorem meetE_pivot {n k c : Nat} {f g : Nat → Vc} {e : Vc} {a : Int} {b : Nat → Int} (hc : c < k) (ha : Z0 (a - dot n (f c) e)) (hb : ∀ r, r < k → Z0 (b r - dot n (f r) e)) (h0 : ¬ Z0 a) (hg : ∀ r, r < k → r ≠ c → ∀ i, i < n → Z0 (g r i - (f r i * a - f c i * b r))) :
    (∀ r, r < k → r ≠ c → Sp n (rws f k) (g r) ∧ Z0 (dot n (g r) e)) ∧ ∀ w, Sp n (rws f k) w → Z0 (dot n w e) → Sp n (fun x => ∃ r, r < k ∧ r ≠ c ∧ x = g r) w := by
  have lin : ∀ r, r < k → r ≠ c → ∀ i, i < n → Z0 (g r i - (a * f r i + -(b r) * f c i)) := fun r hr hne i hi => by
    have := hg r hr hne i hi
    rw [Int.mul_comm (f r i) a, Int.mul_comm (f c i) (b r)] at this
    rw [Int.neg_mul, show g r i - (a * f r i + -(b r * f c i)) = g r i - (a * f r i - b r * f c i) by omega]
    exact this
  refine ⟨fun r hr hne => ?_, ?_⟩
  · have h1 : Sp n (rws f k) fun i => a * f r i := Sp.smul a (Sp.of ⟨r, hr, rfl⟩) fun i _ => by rw [Int.sub_self]; exact Z0.zero
    refine ⟨Sp.add (-(b r)) h1 (Sp.of ⟨c, hc, rfl⟩) (lin r hr hne), ?_⟩
    have h2 := dot_lin (g := e) (lin r hr hne)
    have h3 : Z0 (dot n (fun i => a * f r i) e - (dot n (fun _ => 0) e + a * dot n (f r) e)) := dot_lin fun i _ => by rw [show a * f r i - (0 + a * f r i) = 0 by omega]; exact Z0.zero
    have h4 := dot_z (n := n) (x := fun _ => 0) (g := e) fun _ _ => Z0.zero
    have h5 := (ha.mul (dot n (f r) e)).sub ((hb r hr).mul (dot n (f c) e))
    have h6 := (ha.mul (b r)).sub ((hb r hr).mul a)
    have h7 := h2.add (h3.add h4)
    have h8 : Z0 (dot n (g r) e - (a * dot n (f r) e + -(b r) * dot n (f c) e)) := by
      rw [show dot n (g r) e - (dot n (fun i => a * f r i) e + -(b r) * dot n (f c) e) + (dot n (fun i => a * f r i) e - (dot n (fun _ => 0) e + a * dot n (f r) e) + dot n (fun _ => 0) e) = dot n (g r) e - (a * dot n (f r) e + -(b r) * dot n (f c) e) by omega] at h7
      exact h7
    have h9 : Z0 (a * dot n (f r) e - b r * dot n (f c) e) := by
      have h10 := ((hb r hr).mul a).sub (ha.mul (b r))
      rw [Int.mul_sub, Int.mul_sub, Int.mul_comm (b r) a, show a * b r - a * dot n (f r) e - (a * b r - b r * dot n (f c) e) = -(a * dot n (f r) e - b r * dot n (f c) e) by omega] at h10
      have := h10.neg
      rw [Int.neg_neg] at this
      exact this
    have h11 := h8.add h9
    rw [Int.neg_mul, show dot n (g r) e - (a * dot n (f r) e + -(b r * dot n (f c) e)) + (a * dot n (f r) e - b r * dot n (f c) e) = dot n (g r) e by omega] at h11
    exact h11
  · have key : ∀ w, Sp n (rws f k) w → ∀ x : Vc, (∀ i, i < n → Z0 (x i - (a * w i - dot n w e * f c i))) → Sp n (fun x => ∃ r, r < k ∧ r ≠ c ∧ x = g r) x := by
      intro w hw
      refine Sp.ind (C := fun w => ∀ x : Vc, (∀ i, i < n → Z0 (x i - (a * w i - dot n w e * f c i))) → Sp n (fun x => ∃ r, r < k ∧ r ≠ c ∧ x = g r) x) ?_ ?_ hw
      · intro v hv x hx
        refine Sp.z fun i hi => ?_
        have := (hx i hi).add (((hv i hi).mul a).sub ((dot_z (g := e) hv).mulr (f c i)))
        rw [show x i - (a * v i - dot n v e * f c i) + (a * v i - dot n v e * f c i) = x i by omega] at this
        exact this
      · rintro v u w d - hC ⟨r, hr, rfl⟩ h3 x hx
        have h1 := hC (fun i => a * v i - dot n v e * f c i) fun i _ => by rw [Int.sub_self]; exact Z0.zero
        have hd := dot_lin (g := e) h3
        have main : ∀ i, i < n → Z0 (x i - (a * v i - dot n v e * f c i + d * (a * f r i - dot n (f r) e * f c i))) := fun i hi => by
          have h4 := (hx i hi).add (((h3 i hi).mul a).sub (hd.mulr (f c i)))
          rw [show x i - (a * w i - dot n w e * f c i) + (a * (w i - (v i + d * f r i)) - (dot n w e - (dot n v e + d * dot n (f r) e)) * f c i) = x i - (a * v i - dot n v e * f c i + d * (a * f r i - dot n (f r) e * f c i)) by
            rw [Int.mul_sub, Int.mul_add, Int.sub_mul, Int.add_mul, Int.mul_sub, show a * (d * f r i) = d * (a * f r i) by rw [← Int.mul_assoc, Int.mul_comm a d, Int.mul_assoc], Int.mul_assoc d (dot n (f r) e)]
            omega] at h4
          exact h4
        by_cases hrc : r = c
        · subst hrc
          refine Sp.congr h1 fun i hi => ?_
          have h5 := (main i hi).add ((ha.mulr (f r i)).mul d)
          rw [Int.sub_mul, show x i - (a * v i - dot n v e * f r i + d * (a * f r i - dot n (f r) e * f r i)) + d * (a * f r i - dot n (f r) e * f r i) = x i - (a * v i - dot n v e * f r i) by omega] at h5
          exact h5
        · refine Sp.a d h1 ⟨r, hr, hrc, rfl⟩ fun i hi => ?_
          have h5 := (main i hi).add ((((hb r hr).mulr (f c i)).sub (hg r hr hrc i hi)).mul d)
          rw [Int.sub_mul, Int.mul_comm (f r i) a, Int.mul_comm (f c i) (b r), show b r * f c i - dot n (f r) e * f c i - (g r i - (a * f r i - b r * f c i)) = (a * f r i - dot n (f r) e * f c i) - g r i by omega, Int.mul_sub d (a * f r i - dot n (f r) e * f c i) (g r i)] at h5
          rw [show x i - (a * v i - dot n v e * f c i + d * (a * f r i - dot n (f r) e * f c i)) + (d * (a * f r i - dot n (f r) e * f c i) - d * g r i) = x i - (a * v i - dot n v e * f c i + d * g r i) by omega] at h5
          exact h5
    intro w hw he
    refine Sp.unsmul h0 (key w hw (fun i => a * w i - dot n w e * f c i) fun i _ => by rw [Int.sub_self]; exact Z0.zero) fun i _ => ?_
    have := (he.mulr (f c i)).neg
    rw [show a * w i - dot n w e * f c i - a * w i = -(dot n w e * f c i) by omega]
    exact this
theorem adj_swap {n : Nat} {S : Vc → Prop} {w w' : Vc} (h1 : Sp n (adj S w) w') (h2 : Sp n (adj S w') w) (u : Vc) : Sp n (adj S w) u ↔ Sp n (adj S w') u := ⟨adj_sub (fun _ q => Sp.of (Or.inl q)) h2, adj_sub (fun _ q => Sp.of (Or.inl q)) h1⟩
theorem Ech.zero {n k : Nat} {f : Nat → Vc} {l : Nat → Nat} {w : Vc} (h : Ech n k f l) (hk : n ≤ k) (hw : ∀ r, r < k → Z0 (w (l r))) : ∀ i, i < n → Z0 (w i) := by
  intro i
  induction i using Nat.strongRecOn with
  | _ i ih =>
    intro hi
    by_cases c : Z0 (w i)
    · exact c
    · have := (Ech.more h hw hi c (fun x hx => ih x hx (by omega)) (f' := fun r => if r = k then w else f r) (l' := fun r => if r = k then i else l r) (fun r hr => if_neg (by omega)) (fun r hr => if_neg (by omega)) (if_pos rfl) (if_pos rfl)).le_n
      omega
theorem SpcOk.more {v v' : Nat → Nat → Int} {n k j : Nat} {w : Vc} (h : SpcOk v n k) (hw : RowOk n w) (hj : j < n) (hv0 : v (2 + j) j = 0) (hj1 : w j ≠ 0) (hj2 : ∀ i, i < j → w i = 0) (e0 : v' 0 1 = k + 1) (er : ∀ r, r < n → r ≠ j → v' (2 + r) = v (2 + r)) (ej : v' (2 + j) = w) : SpcOk v' n (k + 1) ∧ ∀ u, Sp n (rws (fun r => v' (2 + r)) n) u ↔ Sp n (adj (rws (fun r => v (2 + r)) n) w) u := by
  obtain ⟨a1, a2, a3, a4, a5⟩ := h
  refine ⟨⟨by rw [e0]; rfl, fun r hr => ?_, fun r hr i hi => ?_, fun r hr q => ?_, ?_⟩, fun u => ⟨?_, ?_⟩⟩
  · by_cases e : r = j
    · rw [e, ej]; exact hw
    · rw [er r hr e]; exact a2 r hr
  · by_cases e : r = j
    · subst e; rw [ej]; exact hj2 i hi
    · rw [er r hr e]; exact a3 r hr i hi
  · by_cases e : r = j
    · subst e; rw [ej] at q; exact absurd q hj1
    · rw [er r hr e] at q ⊢; exact a4 r hr q
  · rw [cntS_more (v := v) (v' := v') (j := j) (n := n) hv0 (by rw [ej]; exact hj1) (fun r hr e => by rw [er r hr e]) (Nat.le_refl n), if_pos hj, a5]
  · refine Sp.mono fun x q => ?_
    obtain ⟨r, hr, rfl⟩ := q
    by_cases e : r = j
    · exact Sp.of (Or.inr (by show v' (2 + r) = w; rw [e, ej]))
    · exact Sp.of (Or.inl ⟨r, hr, er r hr e⟩)
  · refine adj_sub (fun x q => ?_) (Sp.of ⟨j, hj, ej.symm⟩)
    obtain ⟨r, hr, rfl⟩ := q
    by_cases e : r = j
    · refine Sp.z fun i hi => ?_
      show Z0 (v (2 + r) i)
      rw [e, a4 j hj hv0 i hi]; exact Z0.zero
    · exact Sp.of ⟨r, hr, (er r hr e).symm⟩
/-- the rows C, C times A and so on -/
def pw (n : Nat) (pv : Nat → Nat → Int) (o : Nat) : Nat → Vc
  | 0 => pv (9 + o)
  | t + 1 => mulF n pv (pw n pv o t)
def Gp (n m : Nat) (pv : Nat → Nat → Int) (k : Nat) : Vc → Prop := fun u => ∃ t o, t < k ∧ o < m ∧ u = pw n pv o t
/-- what is seen of the states -/
def Vis (n m : Nat) (pv : Nat → Nat → Int) : Nat → Vc → Prop
  | 0 => Sp n (fun _ => False)
  | t + 1 => Sp n (fun x => (∃ o, o < m ∧ x = pv (9 + o)) ∨ ∃ w, meetE n (pv 7) (Vis n m pv t) w ∧ x = mulF n pv w)
