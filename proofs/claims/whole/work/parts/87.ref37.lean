/-! the reference's ranks: rows added, the push dropped, one round of what is seen -/
theorem Z0.tmod {a : Int} : Z0 (a.tmod 1000003 - a) := by
  have := Int.tmod_add_mul_tdiv a 1000003
  exact ⟨-(a.tdiv 1000003), by rw [Int.mul_neg]; omega⟩
theorem Z0.eqm {a b : Int} (h : Z0 (a - b)) : a % 1000003 = b % 1000003 := by unfold Z0 at h; omega
theorem Z0.modz {a : Int} : Z0 (a % 1000003) ↔ Z0 a := by unfold Z0; omega
theorem vw_bd {N P : Nat} {pv v : Nat → Nat → Int} (hC : ∀ k i, k < P → i < N → -99 ≤ pv (9 + k) i ∧ pv (9 + k) i ≤ 99) (hq : PEq N P pv v) (hz : ZCo N P v) {x : Nat} (hx : x < 4 * P) : -99 ≤ v 5 x ∧ v 5 x ≤ 99 := by
  obtain ⟨k, hk⟩ : ∃ k, k = x / 4 := ⟨_, rfl⟩
  obtain ⟨j, hj⟩ : ∃ j, j = x % 4 := ⟨_, rfl⟩
  have e : x = 4 * k + j := by omega
  rw [e]
  by_cases c : j < N
  · rw [hq.2.2.2.2.2.1 k j (by omega) c]; exact hC k j (by omega) c
  · rw [hz.2 k j (by omega) (by omega) (by omega)]; omega
/-- the rows of one more power -/
theorem rank_add {N P t cnt : Nat} {pv : Nat → Nat → Int} {f g h : Nat → Int} (hN : N ≤ 4) (hf : RwOk N f cnt) (hg : RwOk N g P) (hz : ∀ o, o < P → ∀ j, j < N → Z0 (g (4 * o + j) - pw N pv o t j)) (hs : ∀ u, Sp N (rws (mr f) cnt) u ↔ Sp N (Gp N P pv t) u) (h1 : ∀ x, x < 4 * cnt → h x = f x) (h2 : ∀ x, x < 4 * P → h (4 * cnt + x) = g x) :
    RwOk N h (cnt + P) ∧ ∀ u, Sp N (rws (mr h) (cnt + P)) u ↔ Sp N (Gp N P pv (t + 1)) u := by
  have e1 : ∀ r, r < cnt → ∀ j, j < 4 → h (4 * r + j) = f (4 * r + j) := fun r hr j hj => h1 _ (by omega)
  have e2 : ∀ o, o < P → ∀ j, j < 4 → h (4 * (cnt + o) + j) = g (4 * o + j) := fun o ho j hj => by
    rw [show 4 * (cnt + o) + j = 4 * cnt + (4 * o + j) by omega]
    exact h2 _ (by omega)
  have e3 : ∀ u, Sp N (rws (mr f) cnt) u → Sp N (rws (mr h) (cnt + P)) u := fun u hu => Sp.mono (fun x q => by
    obtain ⟨r, hr, rfl⟩ := q
    exact Sp.congr (Sp.of ⟨r, by omega, rfl⟩) fun i hi => by
      unfold mr
      rw [e1 r hr i (by omega), Int.sub_self]
      exact Z0.zero) hu
  refine ⟨fun r hr j hj => ?_, fun u => ⟨Sp.mono fun x q => ?_, Sp.mono fun x q => ?_⟩⟩
  · by_cases c : r < cnt
    · rw [e1 r c j hj]; exact hf r c j hj
    · obtain ⟨o, rfl⟩ : ∃ o, r = cnt + o := ⟨r - cnt, by omega⟩
      rw [e2 o (by omega) j hj]
      exact hg o (by omega) j hj
  · obtain ⟨r, hr, rfl⟩ := q
    by_cases c : r < cnt
    · have q1 : Sp N (rws (mr f) cnt) (mr h r) := Sp.congr (Sp.of ⟨r, c, rfl⟩) fun i hi => by
        unfold mr
        rw [e1 r c i (by omega), Int.sub_self]
        exact Z0.zero
      exact Sp.mono (fun y w => by
        obtain ⟨t', o, w1, w2, w3⟩ := w
        exact Sp.of ⟨t', o, by omega, w2, w3⟩) ((hs _).mp q1)
    · obtain ⟨o, rfl⟩ : ∃ o, r = cnt + o := ⟨r - cnt, by omega⟩
      refine Sp.congr (Sp.of ⟨t, o, Nat.lt_succ_self t, by omega, rfl⟩) fun i hi => ?_
      unfold mr
      rw [e2 o (by omega) i (by omega)]
      exact hz o (by omega) i hi
  · obtain ⟨t', o, q1, q2, rfl⟩ := q
    by_cases c : t' = t
    · rw [c]
      refine Sp.congr (Sp.of (u := mr h (cnt + o)) ⟨cnt + o, by omega, rfl⟩) fun i hi => ?_
      unfold mr
      rw [e2 o q2 i (by omega)]
      have := (hz o q2 i hi).neg
      rw [show -(g (4 * o + i) - pw N pv o t i) = pw N pv o t i - g (4 * o + i) by omega] at this
      exact this
    · exact e3 _ ((hs _).mpr (Sp.of ⟨t', o, by omega, q2, rfl⟩))
theorem Gp_0 {N P : Nat} {pv : Nat → Nat → Int} {f : Nat → Vc} (u : Vc) : Sp N (rws f 0) u ↔ Sp N (Gp N P pv 0) u := rws_0 (fun u q => by
  obtain ⟨t, o, q1, -⟩ := q
  exact absurd q1 (Nat.not_lt_zero t)) u
/-- the powers' next row -/
theorem pw_next {N P o t : Nat} {pv v : Nat → Nat → Int} {g h : Nat → Int} (hq : PEq N P pv v) (hz : ∀ j, j < N → Z0 (g j - pw N pv o t j)) (hh : ∀ j, j < 4 → h j = lyT N g (v 2) j) (hN : N ≤ 4) : ∀ j, j < N → Z0 (h j - pw N pv o (t + 1) j) :=
  mulF_z hz fun j hj => by rw [hh j (by omega), lyT_lt hq hj]
theorem lyT_rw {N P : Nat} {v : Nat → Nat → Int} {g : Nat → Int} {j : Nat} (hz : ZCo N P v) (hj : j < 4) : (0 ≤ lyT N g (v 2) j ∧ lyT N g (v 2) j < 1000003) ∧ (N ≤ j → lyT N g (v 2) j = 0) :=
  ⟨by unfold lyT; omega, fun q => lyT_ge hz q hj⟩
/-- dot with a multiple -/
theorem dot_sc {v : Int} {w e : Nat → Int} : ∀ {n : Nat}, dot n w (fun i => v * e i) = v * dot n w e
  | 0 => by
    show (0 : Int) = v * 0
    rw [Int.mul_zero]
  | n + 1 => by
    unfold dot
    rw [dot_sc (n := n), Int.mul_add, Int.mul_left_comm]
theorem drop_push {n k y : Nat} {f h : Nat → Vc} {e : Vc} {b : Nat → Int} {v : Int} (g : Nat → Vc) (hy : y < k) (hv : Z0 (dot n (f y) e * v - 1)) (hb : ∀ r, r < k → Z0 (b r - dot n (f r) e * v)) (hg : ∀ r, r < k → r ≠ y → ∀ i, i < n → Z0 (g r i - (f r i - b r * f y i)))
    (h1 : ∀ r, r < k - 1 → r ≠ y → ∀ i, i < n → h r i = g r i) (h2 : y < k - 1 → ∀ i, i < n → h y i = g (k - 1) i) (u : Vc) : Sp n (rws h (k - 1)) u ↔ meetE n e (Sp n (rws f k)) u := by
  have hv0 : ¬ Z0 v := fun q => by
    have h3 := q.mul (dot n (f y) e)
    unfold Z0 at h3 hv
    omega
  have P := meetE_pivot (n := n) (k := k) (c := y) (f := f) (g := g) (e := fun i => v * e i) (a := 1) (b := b) hy (by
    rw [dot_sc, Int.mul_comm]
    have := hv.neg
    rw [show -(dot n (f y) e * v - 1) = 1 - dot n (f y) e * v by omega] at this
    exact this) (fun r hr => by
    rw [dot_sc, Int.mul_comm]
    exact hb r hr) (by unfold Z0; omega) (fun r hr hne i hi => by
    rw [Int.mul_one, Int.mul_comm (f y i)]
    exact hg r hr hne i hi)
  have zd : ∀ w, Z0 (dot n w fun i => v * e i) ↔ Z0 (dot n w e) := fun w => by
    rw [dot_sc]
    exact ⟨fun q => (Z0.prime q).elim (fun q => absurd q hv0) id, fun q => q.mul v⟩
  have m1 : ∀ w, Sp n (fun x => ∃ r, r < k ∧ r ≠ y ∧ x = g r) w ↔ Sp n (rws h (k - 1)) w := fun w => by
    refine Sp.eqv (fun x q => ?_) (fun x q => ?_) w
    · obtain ⟨r, r1, r2, rfl⟩ := q
      by_cases c : r = k - 1
      · refine Sp.congr (Sp.of (u := h y) ⟨y, by omega, rfl⟩) fun i hi => ?_
        rw [h2 (by omega) i hi, c, Int.sub_self]
        exact Z0.zero
      · refine Sp.congr (Sp.of (u := h r) ⟨r, by omega, rfl⟩) fun i hi => ?_
        rw [h1 r (by omega) r2 i hi, Int.sub_self]
        exact Z0.zero
    · obtain ⟨r, r1, rfl⟩ := q
      by_cases c : r = y
      · refine Sp.congr (Sp.of (u := g (k - 1)) ⟨k - 1, by omega, by omega, rfl⟩) fun i hi => ?_
        rw [c, h2 (by omega) i hi, Int.sub_self]
        exact Z0.zero
      · refine Sp.congr (Sp.of (u := g r) ⟨r, by omega, c, rfl⟩) fun i hi => ?_
        rw [h1 r r1 c i hi, Int.sub_self]
        exact Z0.zero
  constructor
  · intro hu
    have hu2 := (m1 u).mpr hu
    refine ⟨Sp.mono (fun x q => ?_) hu2, ?_⟩
    · obtain ⟨r, r1, r2, rfl⟩ := q
      exact (P.1 r r1 r2).1
    · refine Sp.ind (C := fun w => Z0 (dot n w e)) (fun v hv => dot_z hv) ?_ hu2
      rintro v' u' w c - h3 ⟨r, r1, r2, rfl⟩ h4
      have h5 := (zd _).mp (P.1 r r1 r2).2
      have h6 := (dot_lin (g := e) h4).add (h3.add (h5.mul c))
      rw [show dot n w e - (dot n v' e + c * dot n (g r) e) + (dot n v' e + c * dot n (g r) e) = dot n w e by omega] at h6
      exact h6
  · rintro ⟨q1, q2⟩
    exact (m1 u).mp (P.2 u q1 ((zd u).mpr q2))
theorem drop_none {n k : Nat} {f : Nat → Vc} {e : Vc} (h : ∀ r, r < k → Z0 (dot n (f r) e)) (u : Vc) : Sp n (rws f k) u ↔ meetE n e (Sp n (rws f k)) u := ⟨fun q => ⟨q, meetE_all h q⟩, fun q => q.1⟩
/-- one round of what is seen -/
theorem hid_step {N P t mk y : Nat} {pv : Nat → Nat → Int} {f F G : Nat → Vc} (hV : ∀ u, Sp N (rws f mk) u ↔ Vis N P pv t u) (hD : ∀ u, Sp N (rws F y) u ↔ meetE N (pv 7) (Sp N (rws f mk)) u) (h1 : ∀ r, r < y → ∀ j, j < N → Z0 (G r j - mulF N pv (F r) j)) (h2 : ∀ o, o < P → ∀ j, j < N → Z0 (G (y + o) j - pv (9 + o) j)) (u : Vc) : Sp N (rws G (y + P)) u ↔ Vis N P pv (t + 1) u := by
  have neg : ∀ {a b : Int}, Z0 (a - b) → Z0 (b - a) := fun {a b} q => by
    have := q.neg
    rw [show -(a - b) = b - a by omega] at this
    exact this
  refine Sp.eqv (fun x q => ?_) (fun x q => ?_) u
  · obtain ⟨r, hr, rfl⟩ := q
    by_cases c : r < y
    · have hm := (hD (F r)).mp (Sp.of ⟨r, c, rfl⟩)
      exact Sp.congr (Sp.of (u := mulF N pv (F r)) (Or.inr ⟨F r, ⟨(hV _).mp hm.1, hm.2⟩, rfl⟩)) fun i hi => h1 r c i hi
    · obtain ⟨o, rfl⟩ : ∃ o, r = y + o := ⟨r - y, by omega⟩
      exact Sp.congr (Sp.of (u := pv (9 + o)) (Or.inl ⟨o, by omega, rfl⟩)) fun i hi => h2 o (by omega) i hi
  · rcases q with ⟨o, ho, rfl⟩ | ⟨w, ⟨q1, q2⟩, rfl⟩
    · exact Sp.congr (Sp.of (u := G (y + o)) ⟨y + o, by omega, rfl⟩) fun i hi => neg (h2 o ho i hi)
    · refine Sp.times (S := rws F y) (fun x q => ?_) ((hD w).mpr ⟨(hV w).mpr q1, q2⟩)
      obtain ⟨r, hr, rfl⟩ := q
      exact Sp.congr (Sp.of (u := G r) ⟨r, by omega, rfl⟩) fun i hi => neg (h1 r hr i hi)
theorem Vis_0 {N P : Nat} {pv : Nat → Nat → Int} {f : Nat → Vc} (u : Vc) : Sp N (rws f 0) u ↔ Vis N P pv 0 u := rws_0 (fun _ q => q) u
theorem Ech_0 {N : Nat} {f : Nat → Vc} : ∃ l, Ech N 0 f l := ⟨fun _ => 0, fun r h => absurd h (Nat.not_lt_zero r)⟩
/-- the first row that the push meets, as far as one has looked -/
def DpV (D : Nat → Int) (r : Nat) (cv : Int) : Prop := (cv = -9 ∧ ∀ x, x < r → D x % 1000003 = 0) ∨ ∃ y : Nat, cv = (y : Int) ∧ y < r ∧ D y % 1000003 ≠ 0
theorem lyT_cg {N : Nat} {g g' A A' : Nat → Int} (h : ∀ i, i < N → g i = g' i) (hA : ∀ x, A x = A' x) (j : Nat) : lyT N g A j = lyT N g' A' j := by
  unfold lyT
  rw [dot_cg fun i hi => ⟨h i hi, hA _⟩]
