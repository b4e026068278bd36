theorem Sp.eqv {n : Nat} {S T : Vc → Prop} (h1 : ∀ u, S u → Sp n T u) (h2 : ∀ u, T u → Sp n S u) (u : Vc) : Sp n S u ↔ Sp n T u := ⟨Sp.mono h1, Sp.mono h2⟩
theorem adj_span {n : Nat} {S T : Vc → Prop} {w : Vc} (h : ∀ u, Sp n S u ↔ Sp n T u) (u : Vc) : Sp n (adj S w) u ↔ Sp n (adj T w) u := ⟨adj_sub (fun x q => adj_le ((h x).mp (Sp.of q))) adj_of, adj_sub (fun x q => adj_le ((h x).mpr (Sp.of q))) adj_of⟩
def genE (A : Vc → Prop) (m : Nat → Vc) (c r : Nat) : Vc → Prop := fun x => A x ∨ ∃ y, y < r ∧ y ≠ c ∧ x = m y
theorem genE_0 {n : Nat} {A : Vc → Prop} {m : Nat → Vc} {c : Nat} (u : Vc) : Sp n (genE A m c 0) u ↔ Sp n A u := Sp.eqv (fun x q => by
  rcases q with q | ⟨y, q, -⟩
  · exact Sp.of q
  · exact absurd q (Nat.not_lt_zero y)) (fun x q => Sp.of (Or.inl q)) u
theorem genE_s {n : Nat} {A : Vc → Prop} {m : Nat → Vc} {c r : Nat} (h : r ≠ c) (u : Vc) : Sp n (adj (genE A m c r) (m r)) u ↔ Sp n (genE A m c (r + 1)) u := Sp.eqv (fun x q => by
  rcases q with (q | ⟨y, q1, q2, q3⟩) | q
  · exact Sp.of (Or.inl q)
  · exact Sp.of (Or.inr ⟨y, by omega, q2, q3⟩)
  · exact Sp.of (Or.inr ⟨r, by omega, h, q⟩)) (fun x q => by
  rcases q with q | ⟨y, q1, q2, q3⟩
  · exact Sp.of (Or.inl (Or.inl q))
  · by_cases e : y = r
    · exact Sp.of (Or.inr (by rw [q3, e]))
    · exact Sp.of (Or.inl (Or.inr ⟨y, by omega, q2, q3⟩))) u
theorem genE_c {n : Nat} {A : Vc → Prop} {m : Nat → Vc} {c : Nat} (u : Vc) : Sp n (genE A m c c) u ↔ Sp n (genE A m c (c + 1)) u := Sp.eqv (fun x q => by
  rcases q with q | ⟨y, q1, q2, q3⟩
  · exact Sp.of (Or.inl q)
  · exact Sp.of (Or.inr ⟨y, by omega, q2, q3⟩)) (fun x q => by
  rcases q with q | ⟨y, q1, q2, q3⟩
  · exact Sp.of (Or.inl q)
  · exact Sp.of (Or.inr ⟨y, by omega, q2, q3⟩)) u
/-- A, and the rows times A of those that e meets -/
def genM (n : Nat) (pv : Nat → Nat → Int) (e : Vc) (A V : Vc → Prop) : Vc → Prop := fun x => A x ∨ ∃ w, meetE n e V w ∧ x = mulF n pv w
theorem genM_congr {n : Nat} {pv : Nat → Nat → Int} {e : Vc} {A A' V V' : Vc → Prop} (hA : ∀ u, Sp n A u ↔ Sp n A' u) (hV : ∀ u, V u ↔ V' u) (u : Vc) : Sp n (genM n pv e A V) u ↔ Sp n (genM n pv e A' V') u := Sp.eqv (fun x q => by
  rcases q with q | ⟨w, ⟨q1, q2⟩, q3⟩
  · exact Sp.mono (fun y z => Sp.of (Or.inl z)) ((hA x).mp (Sp.of q))
  · exact Sp.of (Or.inr ⟨w, ⟨(hV w).mp q1, q2⟩, q3⟩)) (fun x q => by
  rcases q with q | ⟨w, ⟨q1, q2⟩, q3⟩
  · exact Sp.mono (fun y z => Sp.of (Or.inl z)) ((hA x).mpr (Sp.of q))
  · exact Sp.of (Or.inr ⟨w, ⟨(hV w).mpr q1, q2⟩, q3⟩)) u
theorem genE_pivot {n k c : Nat} {pv : Nat → Nat → Int} {A : Vc → Prop} {f g : Nat → Vc} {e : Vc} {a : Int} {b : Nat → Int} (hc : c < k) (ha : Z0 (a - dot n (f c) e)) (hb : ∀ r, r < k → Z0 (b r - dot n (f r) e)) (h0 : ¬ Z0 a) (hg : ∀ r, r < k → r ≠ c → ∀ i, i < n → Z0 (g r i - (f r i * a - f c i * b r))) (u : Vc) : Sp n (genE A (fun r => mulF n pv (g r)) c k) u ↔ Sp n (genM n pv e A (Sp n (rws f k))) u := by
  have h := meetE_pivot hc ha hb h0 hg
  refine Sp.eqv (fun x q => ?_) (fun x q => ?_) u
  · rcases q with q | ⟨y, q1, q2, q3⟩
    · exact Sp.of (Or.inl q)
    · exact Sp.of (Or.inr ⟨g y, h.1 y q1 q2, q3⟩)
  · rcases q with q | ⟨w, ⟨q1, q2⟩, q3⟩
    · exact Sp.of (Or.inl q)
    · rw [q3]
      refine Sp.times (S := fun x => ∃ r, r < k ∧ r ≠ c ∧ x = g r) ?_ (h.2 w q1 q2)
      rintro x ⟨r, r1, r2, rfl⟩
      exact Sp.of (Or.inr ⟨r, r1, r2, rfl⟩)
theorem genE_none {n k c : Nat} {pv : Nat → Nat → Int} {A : Vc → Prop} {f g : Nat → Vc} {e : Vc} (hc : ¬ c < k) (h : ∀ r, r < k → Z0 (dot n (f r) e)) (hg : ∀ r, r < k → g r = f r) (u : Vc) : Sp n (genE A (fun r => mulF n pv (g r)) c k) u ↔ Sp n (genM n pv e A (Sp n (rws f k))) u := by
  refine Sp.eqv (fun x q => ?_) (fun x q => ?_) u
  · rcases q with q | ⟨y, q1, q2, q3⟩
    · exact Sp.of (Or.inl q)
    · exact Sp.of (Or.inr ⟨f y, ⟨Sp.of ⟨y, q1, rfl⟩, h y q1⟩, by rw [q3]; exact congrArg (mulF n pv) (hg y q1)⟩)
  · rcases q with q | ⟨w, ⟨q1, q2⟩, q3⟩
    · exact Sp.of (Or.inl q)
    · rw [q3]
      refine Sp.times (S := rws f k) ?_ q1
      rintro x ⟨r, r1, rfl⟩
      exact Sp.of (Or.inr ⟨r, r1, by omega, congrArg (mulF n pv) (hg r r1).symm⟩)
/-- a row times A, modulo the prime -/
theorem mulF_z {n : Nat} {pv : Nat → Nat → Int} {v w x : Vc} (h : ∀ i, i < n → Z0 (v i - w i)) (hx : ∀ j, j < n → x j = mulF n pv v j % 1000003) : ∀ j, j < n → Z0 (x j - mulF n pv w j) := fun j hj => by
  have h1 := dot_lin (x := v) (v := w) (w := fun _ => 0) (c := 0) (g := fun i => pv (2 + i) j) (n := n) fun i hi => by rw [show v i - (w i + 0 * 0) = v i - w i by omega]; exact h i hi
  have h2 := Z0.emod (mulF n pv v j)
  rw [← hx j hj] at h2
  have h3 := h2.add h1
  rw [Int.zero_mul, Int.add_zero, show x j - mulF n pv v j + (dot n v (fun i => pv (2 + i) j) - dot n w (fun i => pv (2 + i) j)) = x j - mulF n pv w j by unfold mulF; omega] at h3
  exact h3
theorem RowOk.mod {n : Nat} {f g : Vc} (h : ∀ j, j < n → f j = g j % 1000003) : RowOk n f := fun j hj => by rw [h j hj]; omega
theorem rws_0 {n : Nat} {f : Nat → Vc} {S : Vc → Prop} (hS : ∀ u, ¬ S u) (u : Vc) : Sp n (rws f 0) u ↔ Sp n S u := Sp.eqv (fun x q => by obtain ⟨r, hr, -⟩ := q; exact absurd hr (Nat.not_lt_zero r)) (fun x q => absurd q (hS x)) u
theorem rws_z {n : Nat} {v : Nat → Nat → Int} (hn : n ≤ 4) (hz : ∀ r i, r < 4 → i < 4 → v (2 + r) i = 0) {S : Vc → Prop} (hS : ∀ u, ¬ S u) (u : Vc) : Sp n (rws (fun r => v (2 + r)) n) u ↔ Sp n S u := Sp.eqv (fun x q => by
  obtain ⟨r, hr, rfl⟩ := q
  refine Sp.z fun i hi => ?_
  show Z0 (v (2 + r) i)
  rw [hz r i (by omega) (by omega)]; exact Z0.zero) (fun x q => absurd q (hS x)) u
theorem SpcOk.empty {v : Nat → Nat → Int} {n : Nat} (hn : n ≤ 4) (h : v 0 1 = 0) (hz : ∀ r i, r < 4 → i < 4 → v (2 + r) i = 0) : SpcOk v n 0 := by
  refine ⟨h, fun r hr i hi => by rw [hz r i (by omega) (by omega)]; decide, fun r hr i hi => hz r i (by omega) (by omega), fun r hr _ i hi => hz r i (by omega) (by omega), ?_⟩
  have key : ∀ m, m ≤ 4 → cntS v m = 0 := by
    intro m
    induction m with
    | zero => exact fun _ => rfl
    | succ m ih =>
      intro hm
      unfold cntS
      rw [ih (by omega), if_pos (hz m m (by omega) (by omega))]
  exact key n hn
theorem SpcOk.copy {v v' : Nat → Nat → Int} {n k : Nat} (h : SpcOk v n k) (e0 : v' 0 1 = v 0 1) (er : ∀ r, r < 4 → v' (2 + r) = v (2 + r)) (hn : n ≤ 4) : SpcOk v' n k ∧ ∀ u, Sp n (rws (fun r => v' (2 + r)) n) u ↔ Sp n (rws (fun r => v (2 + r)) n) u := by
  obtain ⟨a1, a2, a3, a4, a5⟩ := h
  exact ⟨⟨by rw [e0]; exact a1, fun r hr => by rw [er r (by omega)]; exact a2 r hr, fun r hr => by rw [er r (by omega)]; exact a3 r hr, fun r hr => by rw [er r (by omega)]; exact a4 r hr, by rw [cntS_congr fun r hr => by rw [er r (by omega)]]; exact a5⟩, rws_congr fun r hr i _ => congrFun (er r (by omega)) i⟩
/-- the rows that are not 0 have different first places -/
theorem cntS_ech {v : Nat → Nat → Int} {n : Nat} (h2 : ∀ r, r < n → RowOk n (v (2 + r))) (h3 : ∀ r, r < n → ∀ i, i < r → v (2 + r) i = 0) (h4 : ∀ r, r < n → v (2 + r) r = 0 → ∀ i, i < n → v (2 + r) i = 0) : ∀ m, m ≤ n → ∃ (f : Nat → Vc) (l : Nat → Nat), Ech n (cntS v m) f l ∧ (∀ r, r < cntS v m → l r < m) ∧ ∀ u, Sp n (rws f (cntS v m)) u ↔ Sp n (rws (fun r => v (2 + r)) m) u
  | 0, _ => ⟨fun _ _ => 0, fun _ => 0, fun r hr => absurd hr (Nat.not_lt_zero r), fun r hr => absurd hr (Nat.not_lt_zero r), rws_0 (fun u q => by obtain ⟨r, hr, -⟩ := q; exact absurd hr (Nat.not_lt_zero r))⟩
  | m + 1, hm => by
    obtain ⟨f, l, b1, b2, b3⟩ := cntS_ech h2 h3 h4 m (by omega)
    have hmore : ∀ u, Sp n (rws (fun r => v (2 + r)) (m + 1)) u ↔ Sp n (adj (rws (fun r => v (2 + r)) m) (v (2 + m))) u := rws_more (fun _ _ => rfl) rfl
    by_cases c : v (2 + m) m = 0
    · have e : cntS v (m + 1) = cntS v m := by show cntS v m + (if v (2 + m) m = 0 then 0 else 1) = _; rw [if_pos c]; rfl
      rw [e]
      exact ⟨f, l, b1, fun r hr => Nat.lt_succ_of_lt (b2 r hr), fun u => (b3 u).trans ((adj_zero (fun i hi => by rw [h4 m (by omega) c i hi]; exact Z0.zero) u).symm.trans (hmore u).symm)⟩
    · have e : cntS v (m + 1) = cntS v m + 1 := by show cntS v m + (if v (2 + m) m = 0 then 0 else 1) = _; rw [if_neg c]
      rw [e]
      have ef : ∀ r, r < cntS v m → (fun r => if r = cntS v m then v (2 + m) else f r) r = f r := fun r hr => if_neg (by omega)
      have el : ∀ r, r < cntS v m → (fun r => if r = cntS v m then m else l r) r = l r := fun r hr => if_neg (by omega)
      refine ⟨fun r => if r = cntS v m then v (2 + m) else f r, fun r => if r = cntS v m then m else l r, Ech.more b1 (w := v (2 + m)) (j := m) (fun r hr => by rw [h3 m (by omega) (l r) (b2 r hr)]; exact Z0.zero) (by omega) (fun z => c (((h2 m (by omega)).z (by omega)).mp z)) (fun i hi => by rw [h3 m (by omega) i hi]; exact Z0.zero) ef el (if_pos rfl) (if_pos rfl), fun r hr => ?_, fun u => ?_⟩
      · show (if r = cntS v m then m else l r) < m + 1
        split
        · omega
        · have := b2 r (by omega); omega
      · exact (rws_more (f := f) (w := v (2 + m)) ef (if_pos rfl) u).trans ((adj_span b3 u).trans (hmore u).symm)
theorem SpcOk.rank {v : Nat → Nat → Int} {n k : Nat} (h : SpcOk v n k) {V : Vc → Prop} (hV : ∀ u, Sp n (rws (fun r => v (2 + r)) n) u ↔ V u) : k ≤ n ∧ RankOf n V k := by
  obtain ⟨a1, a2, a3, a4, a5⟩ := h
  obtain ⟨f, l, b1, -, b3⟩ := cntS_ech a2 a3 a4 n (Nat.le_refl n)
  rw [a5] at b1 b3
  exact ⟨b1.le_n, f, l, b1, fun u => (b3 u).trans (hV u)⟩
/-- the rows of a power, the first o outputs' one power further -/
def Gq (n m : Nat) (pv : Nat → Nat → Int) (t o : Nat) : Vc → Prop := fun x => Gp n m pv t x ∨ ∃ y, y < o ∧ x = pw n pv y t
theorem Gq_s {n m : Nat} {pv : Nat → Nat → Int} {t o : Nat} (u : Vc) : Sp n (adj (Gq n m pv t o) (pw n pv o t)) u ↔ Sp n (Gq n m pv t (o + 1)) u := Sp.eqv (fun x q => by
  rcases q with (q | ⟨y, q1, q2⟩) | q
  · exact Sp.of (Or.inl q)
  · exact Sp.of (Or.inr ⟨y, by omega, q2⟩)
  · exact Sp.of (Or.inr ⟨o, by omega, q⟩)) (fun x q => by
  rcases q with q | ⟨y, q1, q2⟩
  · exact Sp.of (Or.inl (Or.inl q))
  · by_cases e : y = o
    · exact Sp.of (Or.inr (by rw [q2, e]))
    · exact Sp.of (Or.inl (Or.inr ⟨y, by omega, q2⟩))) u
theorem Gq_0 {n m : Nat} {pv : Nat → Nat → Int} {t : Nat} (u : Vc) : Sp n (Gp n m pv t) u ↔ Sp n (Gq n m pv t 0) u := Sp.eqv (fun x q => Sp.of (Or.inl q)) (fun x q => by
  rcases q with q | ⟨y, q, -⟩
  · exact Sp.of q
  · exact absurd q (Nat.not_lt_zero y)) u
theorem Gq_m {n m : Nat} {pv : Nat → Nat → Int} {t : Nat} (u : Vc) : Sp n (Gq n m pv t m) u ↔ Sp n (Gp n m pv (t + 1)) u := Sp.eqv (fun x q => by
  rcases q with ⟨t', o, q1, q2, q3⟩ | ⟨y, q1, q2⟩
  · exact Sp.of ⟨t', o, by omega, q2, q3⟩
  · exact Sp.of ⟨t, y, by omega, q1, q2⟩) (fun x q => by
  obtain ⟨t', o, q1, q2, q3⟩ := q
  by_cases e : t' = t
  · exact Sp.of (Or.inr ⟨o, q2, by rw [q3, e]⟩)
  · exact Sp.of (Or.inl ⟨t', o, by omega, q2, q3⟩)) u
theorem outs_s {n : Nat} {pv : Nat → Nat → Int} {o : Nat} (u : Vc) : Sp n (adj (fun x => ∃ y, y < o ∧ x = pv (9 + y)) (pv (9 + o))) u ↔ Sp n (fun x => ∃ y, y < o + 1 ∧ x = pv (9 + y)) u := Sp.eqv (fun x q => by
  rcases q with ⟨y, q1, q2⟩ | q
  · exact Sp.of ⟨y, by omega, q2⟩
  · exact Sp.of ⟨o, by omega, q⟩) (fun x q => by
  obtain ⟨y, q1, q2⟩ := q
  by_cases e : y = o
  · exact Sp.of (Or.inr (by rw [q2, e]))
  · exact Sp.of (Or.inl ⟨y, by omega, q2⟩)) u
