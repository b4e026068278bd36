/-! what 'contained' asks -/
theorem sees_of {N : Nat} {f : Nat → Int} (h : ¬ any0 f N) : sees N f := by
  rcases firstE_bd f N 0 with ⟨-, a⟩ | ⟨x, -, -, a, b, -⟩
  · exact absurd (fun x hx => a x (Nat.zero_le x) (by omega)) h
  · exact ⟨x, by omega, b⟩
theorem can_true {N P : Nat} {pv v : Nat → Nat → Int} {r : Nat → Int} (h : ∀ i, i < N → r i = v 1 i) (ht : TrOk v N P pv) : (∀ i, i < N → v 2 i ≤ r i ∧ r i ≤ v 3 i) ∧ meets N P pv r (v 10) (v 11) := by
  refine ⟨fun i hi => by rw [h i hi]; exact ht.1 i hi, fun k hk ha => ?_⟩
  rw [dot_congr2 (n := N) h]
  exact ht.2 k hk ha
theorem orI_0 {a : Int} (h : rI a) : orI a 0 = a := by
  unfold orI
  rw [show Int32.ofInt 0 = 0 from rfl, Int32.or_zero, q_I h]
theorem orI_rng (a b : Int) : rI (orI a b) := by
  unfold orI
  exact ⟨Int32.le_toInt _, by have := Int32.toInt_lt (Int32.ofInt a ||| Int32.ofInt b); omega⟩
theorem tch_rng {N : Nat} {pv : Nat → Nat → Int} : ∀ k, rI (tch N pv k)
  | 0 => by unfold tch; decide
  | k + 1 => by
    unfold tch
    split
    · exact tch_rng k
    · exact orI_rng _ _
theorem row4_0 {N : Nat} {r : Nat → Int} {a b c d : Int} (hN : 1 ≤ N) (hb : N ≤ 1 → b = 0) (hc : N ≤ 2 → c = 0) (hd : N ≤ 3 → d = 0) : ∀ i, N ≤ i → i < 4 → row4 r a b c d i = 0 := fun i h1 h2 => by
  rcases (show i = 1 ∨ i = 2 ∨ i = 3 by omega) with rfl | rfl | rfl
  · rw [row4_b]; exact hb h1
  · rw [row4_c]; exact hc h1
  · rw [row4_d]; exact hd h1
theorem row4_x {N : Nat} {r x : Nat → Int} {b c d : Int} (hN : N ≤ 4) (hb : 1 < N → b = x 1) (hc : 2 < N → c = x 2) (hd : 3 < N → d = x 3) : ∀ i, i < N → row4 r (x 0) b c d i = x i := fun i h => by
  rcases (show i = 0 ∨ i = 1 ∨ i = 2 ∨ i = 3 by omega) with rfl | rfl | rfl | rfl
  · exact row4_a
  · rw [row4_b]; exact hb h
  · rw [row4_c]; exact hc h
  · rw [row4_d]; exact hd h
