theorem cmdF_congr {N P c : Nat} {pv v v' : Nat → Nat → Int} (hN : N ≤ 4) (h : VEq N P v v') : (cmdF N P pv v c = none ∧ cmdF N P pv v' c = none) ∨ ∃ w w', cmdF N P pv v c = some w ∧ cmdF N P pv v' c = some w' ∧ VEq N P w w' := by
  obtain ⟨a, b, c', d7, d8, d9, d10, d11⟩ := id h
  unfold cmdF
  by_cases k1 : c / 1000 = 1
  · rw [if_pos k1, if_pos k1, d8]
    by_cases q : v' 0 8 < ((c % 10 : Nat) : Int)
    · rw [if_pos q, if_pos q]; exact Or.inl ⟨rfl, rfl⟩
    · rw [if_neg q, if_neg q]; exact Or.inr ⟨_, _, rfl, rfl, h.stepFF hN⟩
  · rw [if_neg k1, if_neg k1]
    by_cases k2 : c / 1000 = 2
    · rw [if_pos k2, if_pos k2, d8]
      by_cases q : v' 0 8 < ((c % 10 : Nat) : Int)
      · rw [if_pos q, if_pos q]; exact Or.inl ⟨rfl, rfl⟩
      · rw [if_neg q, if_neg q]; exact Or.inr ⟨_, _, rfl, rfl, h.stepFF hN⟩
    · rw [if_neg k2, if_neg k2]
      by_cases k3 : c / 1000 = 3
      · rw [if_pos k3, if_pos k3]
        by_cases q : c / 100 % 10 = 0 ∧ c % 100 < P
        · rw [if_pos q, if_pos q]; exact Or.inr ⟨_, _, rfl, rfl, h.obs hN q.2⟩
        · rw [if_neg q, if_neg q]; exact Or.inl ⟨rfl, rfl⟩
      · rw [if_neg k3, if_neg k3]
        have fin : ∀ (A B : Prop) [Decidable A] [Decidable B], (A ↔ B) → ((if A then some v else none) = none ∧ (if B then some v' else none) = none) ∨ ∃ w w', (if A then some v else none) = some w ∧ (if B then some v' else none) = some w' ∧ VEq N P w w' := by
          intro A B _ _ hab
          by_cases q : A
          · rw [if_pos q, if_pos (hab.mp q)]; exact Or.inr ⟨_, _, rfl, rfl, h⟩
          · rw [if_neg q, if_neg (fun z => q (hab.mpr z))]; exact Or.inl ⟨rfl, rfl⟩
        by_cases k4 : c / 1000 = 4
        · rw [if_pos k4, if_pos k4]
          refine fin _ _ (and_congr_right fun hx => ?_)
          rw [(a _ hx).2.1, (a _ hx).2.2.1]
        · rw [if_neg k4, if_neg k4]
          by_cases k5 : c / 1000 = 5
          · rw [if_pos k5, if_pos k5]
            refine fin _ _ (and_congr_right fun hx => ?_)
            rw [(a _ hx).2.1]
          · rw [if_neg k5, if_neg k5]
            by_cases k6 : c / 1000 = 6
            · rw [if_pos k6, if_pos k6]
              refine fin _ _ (and_congr_right fun _ => and_congr_right fun hx => ?_)
              rw [(c' _ hx).2]
            · rw [if_neg k6, if_neg k6]
              by_cases k7 : c / 1000 = 7
              · rw [if_pos k7, if_pos k7]
                refine fin _ _ (and_congr_right fun hx => ?_)
                rw [(a _ hx).1]
              · rw [if_neg k7, if_neg k7]; exact Or.inl ⟨rfl, rfl⟩
/-- a script's answer: m commands left, the next one is the t-th -/
def scrF (N P : Nat) (pv : Nat → Nat → Int) (cs : Nat → Nat) : Nat → Nat → (Nat → Nat → Int) → Int
  | 0, _, _ => -9
  | m + 1, t, v => match cmdF N P pv v (cs t) with
    | none => t
    | some w => scrF N P pv cs m (t + 1) w
theorem scr_none {N P m t : Nat} {pv v : Nat → Nat → Int} {cs : Nat → Nat} (h : cmdF N P pv v (cs t) = none) : scrF N P pv cs (m + 1) t v = t := by
  unfold scrF
  rw [h]
theorem scr_some {N P m t : Nat} {pv v w : Nat → Nat → Int} {cs : Nat → Nat} (h : cmdF N P pv v (cs t) = some w) : scrF N P pv cs (m + 1) t v = scrF N P pv cs m (t + 1) w := by
  show (match cmdF N P pv v (cs t) with | none => _ | some w => scrF N P pv cs m (t + 1) w) = _
  rw [h]
/-- the t-th command of n -/
def cmdAt (s n t : Nat) : Nat := s / 10000 ^ (n - 1 - t) % 10000
theorem cmd_at {s n t rn : Nat} (hn : 1 ≤ n ∧ n ≤ 4) (ht : t < n) (hs : s < 10000 ^ n) (hr : rn = s * 10000 ^ (4 - n + t) % 10000000000000000) : rn / 1000000000000 = cmdAt s n t ∧ rn % 1000000000000 * 10000 = s * 10000 ^ (4 - n + (t + 1)) % 10000000000000000 := by
  unfold cmdAt
  subst hr
  rcases (show n = 1 ∨ n = 2 ∨ n = 3 ∨ n = 4 by omega) with rfl | rfl | rfl | rfl
  · rcases (show t = 0 by omega) with rfl
    simp only [Nat.reduceSub, Nat.reduceAdd, Nat.reducePow] at hs ⊢
    omega
  · rcases (show t = 0 ∨ t = 1 by omega) with rfl | rfl <;> simp only [Nat.reduceSub, Nat.reduceAdd, Nat.reducePow] at hs ⊢ <;> omega
  · rcases (show t = 0 ∨ t = 1 ∨ t = 2 by omega) with rfl | rfl | rfl <;> simp only [Nat.reduceSub, Nat.reduceAdd, Nat.reducePow] at hs ⊢ <;> omega
  · rcases (show t = 0 ∨ t = 1 ∨ t = 2 ∨ t = 3 by omega) with rfl | rfl | rfl | rfl <;> simp only [Nat.reduceSub, Nat.reduceAdd, Nat.reducePow] at hs ⊢ <;> omega
theorem pow_bd {n : Nat} (hn : n ≤ 4) : 1 ≤ 10000 ^ n ∧ 10000 ^ n ≤ 10000000000000000 := by
  rcases (show n = 0 ∨ n = 1 ∨ n = 2 ∨ n = 3 ∨ n = 4 by omega) with rfl | rfl | rfl | rfl | rfl <;> decide
theorem scr_0 {s n : Nat} (hn : 1 ≤ n ∧ n ≤ 4) (hs : s < 10000 ^ n) : s * 10000 ^ (4 - n) < 10000000000000000 := by
  rcases (show n = 1 ∨ n = 2 ∨ n = 3 ∨ n = 4 by omega) with rfl | rfl | rfl | rfl <;> simp only [Nat.reduceSub, Nat.reducePow] at hs ⊢ <;> omega
