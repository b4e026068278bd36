/-! THE REFERENCE: unknown inputs, combinations, scripts: words -/
theorem orI_rng {a b : Int} : rI (orI a b) := by
  unfold orI
  have h := Int32.toInt_lt (Int32.ofInt a ||| Int32.ofInt b)
  have h2 := Int32.le_toInt (Int32.ofInt a ||| Int32.ofInt b)
  exact ⟨by omega, by omega⟩
theorem orI_zero {a : Int} (h : rI a) : orI a 0 = a := by
  unfold orI
  rw [show Int32.ofInt 0 = 0 from rfl, Int32.or_zero]
  exact q_I h
theorem tch_rng {N : Nat} {pv : Nat → Nat → Int} : ∀ k, rI (tch N pv k)
  | 0 => ⟨by show (_ : Int) ≤ 0; decide, by show (0 : Int) ≤ _; decide⟩
  | k + 1 => by
    unfold tch
    split
    · exact tch_rng k
    · exact orI_rng
theorem cmdF_ok {N P c : Nat} {pv v v' : Nat → Nat → Int} {T : Int} (hc : c < 10000) (hp : PlOk pv N P) (hm : MoOk v N P T) (hT0 : 0 ≤ T) (hb : BoxOk N (v 2) (v 3)) (ht : TrOk v N P pv) (h : cmdF N P pv v c = some v') : MoOk v' N P (T + 1) ∧ BoxOk N (v' 2) (v' 3) ∧ TrOk v' N P pv := by
  have hN4 := hp.2.2.1
  have hB := hm.2.2.2.2.2.2.2.2.1
  have st : ∀ u d : Int, -99 ≤ u → u ≤ 99 → -(v 0 8) ≤ d → d ≤ v 0 8 → MoOk (stepF N P pv v u d) N P (T + 1) ∧ BoxOk N (stepF N P pv v u d 2) (stepF N P pv v u d 3) ∧ TrOk (stepF N P pv v u d) N P pv := fun u d h1 h2 h3 h4 => by
    have hs : StepV N P pv v (stepF N P pv v u d) u d := ⟨fun i hi => sF_1, fun i hi => ⟨sF_12, sF_13, sF_2, sF_3⟩, fun i hi => sF_4, fun k hk => sF_11, fun i k hi hk => sF_b (by omega), fun k hk => sF_b (by omega), sF_0 (by omega), sF_0 (by omega), sF_9, sF_10, sF_0b⟩
    have a := StepV.ok hp hm hb hs ⟨h1, h2⟩
    exact ⟨a.1, a.2, StepV.tr hm ht hs ⟨h3, h4⟩⟩
  have sm : MoOk v N P (T + 1) ∧ BoxOk N (v 2) (v 3) ∧ TrOk v N P pv := ⟨hm.mono (by omega), hb, ht⟩
  unfold cmdF at h
  by_cases k1 : c / 1000 = 1
  · rw [if_pos k1] at h
    by_cases q : v 0 8 < ((c % 10 : Nat) : Int)
    · rw [if_pos q] at h; exact absurd h (by simp)
    · rw [if_neg q] at h; cases h; exact st _ _ (by omega) (by omega) (by omega) (by omega)
  · rw [if_neg k1] at h
    by_cases k2 : c / 1000 = 2
    · rw [if_pos k2] at h
      by_cases q : v 0 8 < ((c % 10 : Nat) : Int)
      · rw [if_pos q] at h; exact absurd h (by simp)
      · rw [if_neg q] at h; cases h; exact st _ _ (by omega) (by omega) (by omega) (by omega)
    · rw [if_neg k2] at h
      by_cases k3 : c / 1000 = 3
      · rw [if_pos k3] at h
        by_cases q : c / 100 % 10 = 0 ∧ c % 100 < P
        · rw [if_pos q] at h
          cases h
          have a := obs_ok hp hm hT0 hb ht q.2
          exact ⟨a.1.mono (by omega), a.2⟩
        · rw [if_neg q] at h; exact absurd h (by simp)
      · rw [if_neg k3] at h
        have fin : ∀ (A : Prop) [Decidable A], (if A then some v else none) = some v' → MoOk v' N P (T + 1) ∧ BoxOk N (v' 2) (v' 3) ∧ TrOk v' N P pv := by
          intro A _ h
          by_cases q : A
          · rw [if_pos q] at h; cases h; exact sm
          · rw [if_neg q] at h; exact absurd h (by simp)
        by_cases k4 : c / 1000 = 4
        · rw [if_pos k4] at h; exact fin _ h
        · rw [if_neg k4] at h
          by_cases k5 : c / 1000 = 5
          · rw [if_pos k5] at h; exact fin _ h
          · rw [if_neg k5] at h
            by_cases k6 : c / 1000 = 6
            · rw [if_pos k6] at h; exact fin _ h
            · rw [if_neg k6] at h
              by_cases k7 : c / 1000 = 7
              · rw [if_pos k7] at h; exact fin _ h
              · rw [if_neg k7] at h; exact absurd h (by simp)
theorem pow10_4 (n : Nat) : 10 ^ (4 * n) = 10000 ^ n := by rw [Nat.pow_mul]
theorem cmdAt_lt {s n t : Nat} : cmdAt s n t < 10000 := Nat.mod_lt _ (by decide)
theorem sim_ok {N P r : Nat} {pv v : Nat → Nat → Int} {T : Int} (hp : PlOk pv N P) (hm : MoOk v N P T) (hT0 : 0 ≤ T) (hb : BoxOk N (v 2) (v 3)) (ht : TrOk v N P pv) : MoOk (simV N P pv v r) N P (T + 1) ∧ BoxOk N (simV N P pv v r 2) (simV N P pv v r 3) ∧ TrOk (simV N P pv v r) N P pv := by
  have hN4 := hp.2.2.1
  have hP1 := hp.2.2.2.2.1
  have hB := hm.2.2.2.2.2.2.2.2.1
  have htm := tmod_bd (a := ((r / 32 : Nat) : Int)) (b := 2 * v 0 8 + 1) (by omega)
  have st : MoOk (stepF N P pv v (((r % 21 : Nat) : Int) - 10) ((((r / 32 : Nat) : Int)).tmod (2 * v 0 8 + 1) - v 0 8)) N P (T + 1) ∧ BoxOk N (stepF N P pv v (((r % 21 : Nat) : Int) - 10) ((((r / 32 : Nat) : Int)).tmod (2 * v 0 8 + 1) - v 0 8) 2) (stepF N P pv v (((r % 21 : Nat) : Int) - 10) ((((r / 32 : Nat) : Int)).tmod (2 * v 0 8 + 1) - v 0 8) 3) ∧ TrOk (stepF N P pv v (((r % 21 : Nat) : Int) - 10) ((((r / 32 : Nat) : Int)).tmod (2 * v 0 8 + 1) - v 0 8)) N P pv := by
    have hs : ∀ u d : Int, StepV N P pv v (stepF N P pv v u d) u d := fun u d => ⟨fun i hi => sF_1, fun i hi => ⟨sF_12, sF_13, sF_2, sF_3⟩, fun i hi => sF_4, fun k hk => sF_11, fun i k hi hk => sF_b (by omega), fun k hk => sF_b (by omega), sF_0 (by omega), sF_0 (by omega), sF_9, sF_10, sF_0b⟩
    have a := StepV.ok hp hm hb (hs (((r % 21 : Nat) : Int) - 10) ((((r / 32 : Nat) : Int)).tmod (2 * v 0 8 + 1) - v 0 8)) (by omega)
    exact ⟨a.1, a.2, StepV.tr hm ht (hs _ _) (by omega)⟩
  unfold simV
  split
  · exact st
  · exact obs_ok hp st.1 (by omega) st.2.1 st.2.2 (Nat.mod_lt _ (by omega))
theorem firstE_s {f : Nat → Int} {n i : Nat} : firstE f (n + 1) i = if f i ≠ 0 then (i : Int) else firstE f n (i + 1) := rfl
