/-! COMBINATIONS, ranks: what 'seen' keeps -/
def any0 (e : Nat → Int) (j : Nat) : Prop := ∀ x, x < j → e x = 0
theorem firstE_0 {e : Nat → Int} {N : Nat} (h : any0 e N) : firstE e N 0 = -1 := by
  rcases firstE_bd e N 0 with ⟨q, -⟩ | ⟨x, -, -, a, b, -⟩
  · exact q
  · exact absurd (h x (by omega)) b
theorem firstE_1 {e : Nat → Int} {N : Nat} (h : ¬ any0 e N) : firstE e N 0 ≠ -1 := by
  intro q
  rcases firstE_bd e N 0 with ⟨-, a⟩ | ⟨x, a, -, -, -, -⟩
  · exact h fun x hx => a x (Nat.zero_le x) (by omega)
  · omega
theorem combs_0 {e : Nat → Int} {N : Nat} (h : any0 e N) : combs e N = (N : Int) := by unfold combs; rw [if_pos (firstE_0 h)]
theorem combs_1 {e : Nat → Int} {N : Nat} (h : ¬ any0 e N) : combs e N = (N : Int) - 1 := by unfold combs; rw [if_neg (firstE_1 h)]
theorem any0_s {e : Nat → Int} {j : Nat} (h : any0 e j) (h2 : e j = 0) : any0 e (j + 1) := fun x hx => by
  rcases Nat.lt_or_ge x j with q | q
  · exact h x q
  · rw [show x = j by omega]; exact h2
theorem any0_up {e : Nat → Int} {j : Nat} (h : ¬ any0 e j) : ¬ any0 e (j + 1) := fun q => h fun x hx => q x (by omega)
theorem dot_two {f g : Nat → Int} {s t : Nat} (hst : s ≠ t) : ∀ {n : Nat}, (∀ i, i < n → i ≠ s → i ≠ t → f i = 0) → dot n f g = (if s < n then f s * g s else 0) + (if t < n then f t * g t else 0)
  | 0, _ => by rw [if_neg (Nat.not_lt_zero s), if_neg (Nat.not_lt_zero t)]; rfl
  | n + 1, h => by
    have ih := dot_two hst (f := f) (g := g) (n := n) (fun i hi => h i (by omega))
    show dot n f g + f n * g n = _
    rw [ih]
    by_cases a : n = s
    · subst a
      rw [if_neg (Nat.lt_irrefl n), if_pos (Nat.lt_succ_self n)]
      by_cases b : t < n
      · rw [if_pos b, if_pos (by omega)]; omega
      · rw [if_neg b, if_neg (by omega)]; omega
    · by_cases b : n = t
      · subst b
        rw [if_neg (Nat.lt_irrefl n), if_pos (Nat.lt_succ_self n)]
        by_cases d : s < n
        · rw [if_pos d, if_pos (by omega)]; omega
        · rw [if_neg d, if_neg (by omega)]; omega
      · rw [h n (Nat.lt_succ_self n) a b, Int.zero_mul, Int.add_zero]
        by_cases d : s < n
        · rw [if_pos d, if_pos (show s < n + 1 by omega)]
          by_cases d2 : t < n
          · rw [if_pos d2, if_pos (show t < n + 1 by omega)]
          · rw [if_neg d2, if_neg (show ¬ t < n + 1 by omega)]
        · rw [if_neg d, if_neg (show ¬ s < n + 1 by omega)]
          by_cases d2 : t < n
          · rw [if_pos d2, if_pos (show t < n + 1 by omega)]
          · rw [if_neg d2, if_neg (show ¬ t < n + 1 by omega)]
/-- the unknown input does not act on a free combination -/
theorem comb_orth {e : Nat → Int} {N q : Nat} (hq : if firstE e N 0 = -1 then q < N else q + 1 < N) : dot N (combF e N q) e = 0 := by
  by_cases c : firstE e N 0 = -1
  · rcases firstE_bd e N 0 with ⟨-, a⟩ | ⟨x, a, -, -, -, -⟩
    · exact dot_zr fun k hk => a k (Nat.zero_le k) (by omega)
    · omega
  · rw [if_neg c] at hq
    obtain ⟨t, ht⟩ : ∃ t : Nat, firstE e N 0 = (t : Int) := ⟨(firstE e N 0).toNat, by have := firstE_rng e N; omega⟩
    have htN : t < N := by have := firstE_rng e N; omega
    have het : e t ≠ 0 := by
      rcases firstE_bd e N 0 with ⟨a, -⟩ | ⟨x, a, -, -, b, -⟩
      · exact absurd a c
      · rw [show t = x by omega]; exact b
    obtain ⟨s, hs⟩ : ∃ s : Nat, (if (q : Int) < firstE e N 0 then q else q + 1) = s := ⟨_, rfl⟩
    have hsN : s < N ∧ s ≠ t := by
      rw [← hs]
      split <;> omega
    have ft : combF e N q t = (if 0 < e t then -e s else e s).tdiv (Int.gcd (e s) (e t)) := by
      unfold combF
      rw [if_neg c, if_pos ht.symm, hs]
    have fs : combF e N q s = ((e t).natAbs : Int).tdiv (Int.gcd (e s) (e t)) := by
      unfold combF
      rw [if_neg c, if_neg (by omega), hs, if_pos rfl, ht]
      rfl
    have fo : ∀ i, i < N → i ≠ s → i ≠ t → combF e N q i = 0 := fun i _ h1 h2 => by
      unfold combF
      rw [if_neg c, if_neg (by omega), hs, if_neg h1]
    rw [dot_two hsN.2 fo, if_pos hsN.1, if_pos htN, ft, fs]
    have hg : (0 : Int) < (Int.gcd (e s) (e t) : Int) := by
      rcases Nat.eq_zero_or_pos (Int.gcd (e s) (e t)) with h | h
      · exact absurd (Int.gcd_eq_zero_iff.mp h).2 het
      · omega
    obtain ⟨a, ha⟩ : ∃ a : Int, e s = (Int.gcd (e s) (e t) : Int) * a := Int.gcd_dvd_left (a := e s) (b := e t)
    obtain ⟨b, hb⟩ : ∃ b : Int, e t = (Int.gcd (e s) (e t) : Int) * b := Int.gcd_dvd_right (a := e s) (b := e t)
    generalize (Int.gcd (e s) (e t) : Int) = g at ha hb hg ⊢
    have hgne : g ≠ 0 := by omega
    by_cases p : 0 < e t
    · rw [if_pos p, show ((e t).natAbs : Int) = e t by omega, hb, ha, ← Int.mul_neg, Int.mul_tdiv_cancel_left _ hgne, Int.mul_tdiv_cancel_left _ hgne, Int.neg_mul, show b * (g * a) = a * (g * b) by rw [Int.mul_comm g a, ← Int.mul_assoc, Int.mul_comm b a, Int.mul_assoc, Int.mul_comm b g]]
      omega
    · rw [if_neg p, show ((e t).natAbs : Int) = -(e t) by omega, hb, ha, ← Int.mul_neg, Int.mul_tdiv_cancel_left _ hgne, Int.mul_tdiv_cancel_left _ hgne, Int.neg_mul, show b * (g * a) = a * (g * b) by rw [Int.mul_comm g a, ← Int.mul_assoc, Int.mul_comm b a, Int.mul_assoc, Int.mul_comm b g]]
      omega
/-- the first power that reaches the whole rank, among those before kk -/
def Full (N P : Nat) (pv : Nat → Nat → Int) (s : Nat) : Prop := RankOf N (Sp N (Gp N P pv s)) N
def IxOk (N P : Nat) (pv : Nat → Nat → Int) (kk : Nat) (ix : Int) : Prop := (ix = -9 ∧ ∀ s, 1 ≤ s → s < kk → s ≤ N → ¬ Full N P pv s) ∨ ∃ j : Nat, ix = (j : Int) ∧ 1 ≤ j ∧ j ≤ N ∧ Full N P pv j ∧ ∀ s, 1 ≤ s → s < j → ¬ Full N P pv s
theorem IxOk.keep {N P kk : Nat} {pv : Nat → Nat → Int} {ix : Int} (h : IxOk N P pv kk ix) (h2 : ix ≠ -9) : IxOk N P pv (kk + 1) ix := by
  rcases h with ⟨q, -⟩ | q
  · exact absurd q h2
  · exact Or.inr q
theorem IxOk.miss {N P kk : Nat} {pv : Nat → Nat → Int} {ix : Int} (h : IxOk N P pv kk ix) (h9 : ix = -9) (h2 : kk ≤ N → ¬ Full N P pv kk) : IxOk N P pv (kk + 1) ix := by
  rcases h with ⟨q, a⟩ | ⟨j, q, -⟩
  · refine Or.inl ⟨q, fun s h1 h3 h4 => ?_⟩
    by_cases e : s = kk
    · rw [e]; exact h2 (by omega)
    · exact a s h1 (by omega) h4
  · omega
theorem IxOk.hit {N P kk : Nat} {pv : Nat → Nat → Int} {ix : Int} (h : IxOk N P pv kk ix) (h9 : ix = -9) (h1 : 1 ≤ kk) (hN : kk ≤ N) (h2 : Full N P pv kk) : IxOk N P pv (kk + 1) (kk : Int) := by
  rcases h with ⟨q, a⟩ | ⟨j, q, -⟩
  · exact Or.inr ⟨kk, rfl, h1, hN, h2, fun s h3 h4 => a s h3 h4 (by omega)⟩
  · omega
theorem IxOk.rng {N P kk : Nat} {pv : Nat → Nat → Int} {ix : Int} (h : IxOk N P pv kk ix) : -9 ≤ ix ∧ ix ≤ (N : Int) := by
  rcases h with ⟨q, -⟩ | ⟨j, q, q1, q2, -⟩ <;> omega
theorem IxOk.uniq {N P kk : Nat} {pv : Nat → Nat → Int} {ix z : Int} (h : IxOk N P pv kk ix) (hk : N < kk) (hz : (∃ j : Nat, 1 ≤ j ∧ j ≤ N ∧ z = (j : Int) ∧ RankOf N (Sp N (Gp N P pv j)) N ∧ ∀ s, 1 ≤ s → s < j → ¬ RankOf N (Sp N (Gp N P pv s)) N) ∨ (z = -9 ∧ ∀ s, 1 ≤ s → s ≤ N → ¬ RankOf N (Sp N (Gp N P pv s)) N)) : z = ix := by
  rcases h with ⟨q, a⟩ | ⟨j, q, a1, a2, a3, a4⟩
  · rcases hz with ⟨i, b1, b2, b3, b4, -⟩ | ⟨b, -⟩
    · exact absurd b4 (a i b1 (by omega) b2)
    · omega
  · rcases hz with ⟨i, b1, b2, b3, b4, b5⟩ | ⟨b, b2⟩
    · have h1 : ¬ i < j := fun w => a4 i b1 w b4
      have h2 : ¬ j < i := fun w => b5 j a1 w a3
      omega
    · exact absurd a3 (b2 j a1 a2)
theorem Gp_rank0 {N P : Nat} {pv : Nat → Nat → Int} : RankOf N (Sp N (Gp N P pv 0)) 0 := ⟨fun _ _ => 0, fun _ => 0, fun r hr => absurd hr (Nat.not_lt_zero r), fun u => rws_0 (S := Gp N P pv 0) (fun x q => by obtain ⟨t, o, h, -⟩ := q; exact absurd h (Nat.not_lt_zero t)) u⟩
theorem Vis_rank0' {N P : Nat} {pv : Nat → Nat → Int} : RankOf N (Vis N P pv 0) 0 := ⟨fun _ _ => 0, fun _ => 0, fun r hr => absurd hr (Nat.not_lt_zero r), fun u => rws_0 (S := fun _ => False) (fun _ q => q) u⟩
