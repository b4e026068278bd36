/-! SCRIPTS of one command, of two, of three -/
theorem cmd_one {c : Nat} (h : c < 10000) : cmdAt c 1 0 = c := by
  show c / 10000 ^ 0 % 10000 = c
  rw [Nat.pow_zero, Nat.div_one]
  omega
theorem cmd_two {a b : Nat} (ha : a < 10000) (hb : b < 10000) : cmdAt (10000 * a + b) 2 0 = a ∧ cmdAt (10000 * a + b) 2 1 = b := by
  constructor
  · show (10000 * a + b) / 10000 ^ 1 % 10000 = a
    rw [Nat.pow_one]; omega
  · show (10000 * a + b) / 10000 ^ 0 % 10000 = b
    rw [Nat.pow_zero, Nat.div_one]; omega
theorem scr_one {N P c : Nat} {pv v : Nat → Nat → Int} (h : c < 10000) : scrF N P pv (cmdAt c 1) 1 0 v = if cmdF N P pv v c = none then 0 else -9 := by
  cases e : cmdF N P pv v c with
  | none => rw [scr_none (by rw [cmd_one h]; exact e), if_pos rfl]; rfl
  | some w => rw [scr_some (w := w) (by rw [cmd_one h]; exact e), if_neg (by simp)]; rfl
theorem cmd4 {N P i tw : Nat} {pv v : Nat → Nat → Int} (hi : i < N) (hN : N ≤ 4) (ht : tw < 100) : cmdF N P pv v (4000 + 100 * i + tw) = if v 3 i - v 2 i ≤ (tw : Int) then some v else none := by
  unfold cmdF
  rw [if_neg (by omega), if_neg (by omega), if_neg (by omega), if_pos (by omega), show (4000 + 100 * i + tw) / 100 % 10 = i by omega, show (4000 + 100 * i + tw) % 100 = tw by omega]
  by_cases c : v 3 i - v 2 i ≤ (tw : Int)
  · rw [if_pos ⟨hi, c⟩, if_pos c]
  · rw [if_neg (fun q => c q.2), if_neg c]
theorem cmd5 {N P i tw : Nat} {pv v : Nat → Nat → Int} (hi : i < N) (hN : N ≤ 4) (ht : tw < 100) : cmdF N P pv v (5000 + 100 * i + tw) = if (tw : Int) ≤ v 2 i then some v else none := by
  unfold cmdF
  rw [if_neg (by omega), if_neg (by omega), if_neg (by omega), if_neg (by omega), if_pos (by omega), show (5000 + 100 * i + tw) / 100 % 10 = i by omega, show (5000 + 100 * i + tw) % 100 = tw by omega]
  by_cases c : (tw : Int) ≤ v 2 i
  · rw [if_pos ⟨hi, c⟩, if_pos c]
  · rw [if_neg (fun q => c q.2), if_neg c]
theorem cmd7 {N P i tw : Nat} {pv v : Nat → Nat → Int} (hi : i < N) (hN : N ≤ 4) (ht : tw < 100) : cmdF N P pv v (7000 + 100 * i + tw) = if v 1 i ≤ (tw : Int) then some v else none := by
  unfold cmdF
  rw [if_neg (by omega), if_neg (by omega), if_neg (by omega), if_neg (by omega), if_neg (by omega), if_neg (by omega), if_pos (by omega), show (7000 + 100 * i + tw) / 100 % 10 = i by omega, show (7000 + 100 * i + tw) % 100 = tw by omega]
  by_cases c : v 1 i ≤ (tw : Int)
  · rw [if_pos ⟨hi, c⟩, if_pos c]
  · rw [if_neg (fun q => c q.2), if_neg c]
theorem cmd1 {N P tw : Nat} {pv v : Nat → Nat → Int} (ht : tw < 100) (hb : 0 ≤ v 0 8) : cmdF N P pv v (1000 + 10 * tw) = some (stepF N P pv v (tw : Int) 0) := by
  unfold cmdF
  rw [if_pos (by omega), show (1000 + 10 * tw) % 10 = 0 by omega, show (1000 + 10 * tw) / 10 % 100 = tw by omega, if_neg (by show ¬ v 0 8 < ((0 : Nat) : Int); omega)]
  rfl
theorem cmd3 {N P K : Nat} {pv v : Nat → Nat → Int} (hK : K < P) (hP : P ≤ 3) : cmdF N P pv v (3000 + K) = some (obsV N P pv v K) := by
  unfold cmdF
  rw [if_neg (by omega), if_neg (by omega), if_pos (by omega), show (3000 + K) % 100 = K by omega, if_pos ⟨by omega, hK⟩]
theorem cmd3n {N P : Nat} {pv v : Nat → Nat → Int} (hP : P ≤ 3) : cmdF N P pv v (3000 + P) = none := by
  unfold cmdF
  rw [if_neg (by omega), if_neg (by omega), if_pos (by omega), show (3000 + P) % 100 = P by omega, if_neg (fun q => absurd q.2 (Nat.lt_irrefl P))]
theorem cmd8 {N P : Nat} {pv v : Nat → Nat → Int} : cmdF N P pv v 8000 = none := by
  unfold cmdF
  rw [if_neg (by decide), if_neg (by decide), if_neg (by decide), if_neg (by decide), if_neg (by decide), if_neg (by decide), if_neg (by decide)]
theorem cmd6 {N P a : Nat} {pv v : Nat → Nat → Int} (hP : 1 ≤ P) (ha : a < 10) (h : v 11 0 = (a : Int)) : cmdF N P pv v (6000 + a) = some v := by
  unfold cmdF
  rw [if_neg (by omega), if_neg (by omega), if_neg (by omega), if_neg (by omega), if_neg (by omega), if_pos (by omega), show (6000 + a) / 100 % 10 = 0 by omega, show (6000 + a) % 100 = a by omega, if_pos ⟨ha, by omega, h⟩]
/-- the five scripts of one command -/
theorem scr4 {N P i tw : Nat} {pv v : Nat → Nat → Int} (hi : i < N) (hN : N ≤ 4) (ht : tw < 100) : scrF N P pv (cmdAt (4000 + 100 * i + tw) 1) 1 0 v = if v 3 i - v 2 i ≤ (tw : Int) then -9 else 0 := by
  rw [scr_one (by omega), cmd4 hi hN ht]
  by_cases c : v 3 i - v 2 i ≤ (tw : Int)
  · rw [if_pos c, if_pos c, if_neg (by simp)]
  · rw [if_neg c, if_neg c, if_pos rfl]
theorem scr5 {N P i tw : Nat} {pv v : Nat → Nat → Int} (hi : i < N) (hN : N ≤ 4) (ht : tw < 100) : scrF N P pv (cmdAt (5000 + 100 * i + tw) 1) 1 0 v = if (tw : Int) ≤ v 2 i then -9 else 0 := by
  rw [scr_one (by omega), cmd5 hi hN ht]
  by_cases c : (tw : Int) ≤ v 2 i
  · rw [if_pos c, if_pos c, if_neg (by simp)]
  · rw [if_neg c, if_neg c, if_pos rfl]
theorem scr7 {N P i tw : Nat} {pv v : Nat → Nat → Int} (hi : i < N) (hN : N ≤ 4) (ht : tw < 100) : scrF N P pv (cmdAt (7000 + 100 * i + tw) 1) 1 0 v = if v 1 i ≤ (tw : Int) then -9 else 0 := by
  rw [scr_one (by omega), cmd7 hi hN ht]
  by_cases c : v 1 i ≤ (tw : Int)
  · rw [if_pos c, if_pos c, if_neg (by simp)]
  · rw [if_neg c, if_neg c, if_pos rfl]
theorem scr8 {N P : Nat} {pv v : Nat → Nat → Int} : scrF N P pv (cmdAt 8000 1) 1 0 v = 0 := by
  rw [scr_one (by decide), cmd8, if_pos rfl]
theorem scr3n {N P : Nat} {pv v : Nat → Nat → Int} (hP : P ≤ 3) : scrF N P pv (cmdAt (3000 + P) 1) 1 0 v = 0 := by
  rw [scr_one (by omega), cmd3n hP, if_pos rfl]
theorem scr1s {N P tw : Nat} {pv v : Nat → Nat → Int} (ht : tw < 100) (hb : 0 ≤ v 0 8) : scrF N P pv (cmdAt (1000 + 10 * tw) 1) 1 0 v = -9 := by
  rw [scr_one (by omega), cmd1 ht hb, if_neg (by simp)]
/-- a step, then a lower bound -/
theorem scr15 {N P i tw : Nat} {pv v : Nat → Nat → Int} (hi : i < N) (hN : N ≤ 4) (ht : tw < 100) (hb : 0 ≤ v 0 8) : scrF N P pv (cmdAt (10000 * (1000 + 10 * tw) + (5000 + 100 * i + 50)) 2) 2 0 v = if 50 ≤ lowF N pv (tw : Int) (v 0 8) (v 2) (v 3) i then -9 else 1 := by
  have h := cmd_two (a := 1000 + 10 * tw) (b := 5000 + 100 * i + 50) (by omega) (by omega)
  rw [scr_some (w := stepF N P pv v (tw : Int) 0) (by rw [h.1]; exact cmd1 ht hb)]
  have h5 := cmd5 (N := N) (P := P) (i := i) (tw := 50) (pv := pv) (v := stepF N P pv v (tw : Int) 0) hi hN (by decide)
  rw [sF_2] at h5
  by_cases c : (50 : Int) ≤ lowF N pv (tw : Int) (v 0 8) (v 2) (v 3) i
  · rw [if_pos (show ((50 : Nat) : Int) ≤ _ from c)] at h5
    rw [scr_some (by rw [h.2]; exact h5), if_pos c]
    rfl
  · rw [if_neg (show ¬ ((50 : Nat) : Int) ≤ _ from c)] at h5
    rw [scr_none (by rw [h.2]; exact h5), if_neg c]
    rfl
/-- a reading, then its age -/
theorem scr36 {N P : Nat} {pv v : Nat → Nat → Int} (hP : 1 ≤ P ∧ P ≤ 3) : scrF N P pv (cmdAt 30006000 2) 2 0 v = -9 := by
  have h := cmd_two (a := 3000) (b := 6000) (by decide) (by decide)
  have h : cmdAt 30006000 2 0 = 3000 ∧ cmdAt 30006000 2 1 = 6000 := h
  rw [scr_some (w := obsV N P pv v 0) (by rw [h.1]; exact cmd3 (K := 0) (by omega) hP.2), scr_some (w := obsV N P pv v 0) (by rw [h.2]; exact cmd6 (a := 0) hP.1 (by decide) rfl)]
  rfl
theorem scr316 {N P : Nat} {pv v : Nat → Nat → Int} (hP : 1 ≤ P ∧ P ≤ 3) (hb : 0 ≤ v 0 8) : scrF N P pv (cmdAt 300010006001 3) 3 0 v = -9 := by
  have h0 : cmdAt 300010006001 3 0 = 3000 := by decide
  have h1 : cmdAt 300010006001 3 1 = 1000 := by decide
  have h2 : cmdAt 300010006001 3 2 = 6001 := by decide
  rw [scr_some (w := obsV N P pv v 0) (by rw [h0]; exact cmd3 (K := 0) (by omega) hP.2), scr_some (w := stepF N P pv (obsV N P pv v 0) 0 0) (by rw [h1]; exact cmd1 (tw := 0) (by decide) hb), scr_some (w := stepF N P pv (obsV N P pv v 0) 0 0) (by
    rw [h2]
    refine cmd6 (a := 1) hP.1 (by decide) ?_
    rw [sF_11, show obsV N P pv v 0 11 0 = 0 from rfl, if_neg (by decide)]
    rfl)]
  rfl
/-! simulations -/
theorem stepF_is {N P : Nat} {pv v : Nat → Nat → Int} {u d : Int} (hN : N ≤ 4) : StepV N P pv v (stepF N P pv v u d) u d :=
  ⟨fun i _ => sF_1, fun i _ => ⟨sF_12, sF_13, sF_2, sF_3⟩, fun i _ => sF_4, fun k _ => sF_11, fun i k hi _ => sF_b (by omega), fun k _ => sF_b (by omega), sF_0 (by omega), sF_0 (by omega), sF_9, sF_10, sF_0b⟩
def SimOk (N P : Nat) (pv v : Nat → Nat → Int) (T : Int) : Prop := MoOk v N P T ∧ BoxOk N (v 2) (v 3) ∧ TrOk v N P pv
theorem simV_ok {N P r : Nat} {pv v : Nat → Nat → Int} {T : Int} (hp : PlOk pv N P) (hT : 0 ≤ T) (h : SimOk N P pv v T) : SimOk N P pv (simV N P pv v r) (T + 1) := by
  obtain ⟨hm, hb, ht⟩ := h
  have hN := hp.2.2.1
  have hP := hp.2.2.2.2.1
  have h8 := hm.2.2.2.2.2.2.2.2.1
  have htm := tmod_bd (a := ((r / 32 : Nat) : Int)) (b := 2 * v 0 8 + 1) (by omega)
  have hs := stepF_is (N := N) (P := P) (pv := pv) (v := v) (u := ((r % 21 : Nat) : Int) - 10) (d := (((r / 32 : Nat) : Int)).tmod (2 * v 0 8 + 1) - v 0 8) hN
  have h1 := hs.ok hp hm hb (by omega)
  have h2 := hs.tr hm ht (by omega)
  unfold simV
  split
  · exact ⟨h1.1, h1.2, h2⟩
  · exact obs_ok hp h1.1 (by omega) h1.2 h2 (Nat.mod_lt _ (by omega))
theorem simF_pos {N P : Nat} {pv : Nat → Nat → Int} (hp : PlOk pv N P) : ∀ (m : Nat) (x T : Int) (v : Nat → Nat → Int), 0 ≤ T → SimOk N P pv v T → 0 ≤ simF N P pv m x v ∧ simF N P pv m x v ≤ 8000000 * (m : Int)
  | 0, _, _, _, _, _ => ⟨Int.le_refl 0, Int.le_refl 0⟩
  | m + 1, x, T, v, hT, h => by
    have h1 := simV_ok (r := (shrJ (x * 6364136223846793005 + 1442695040888963407) 33).toNat) hp hT h
    have h2 := simF_pos hp m (x * 6364136223846793005 + 1442695040888963407) (T + 1) _ (by omega) h1
    have h3 := wid_bd h1.2.1
    have h4 := hp.2.2.1
    unfold simF
    omega
