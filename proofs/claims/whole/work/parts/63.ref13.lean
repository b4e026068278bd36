/-! THE REFERENCE'S NUMBERS against views -/
def PEq (N P : Nat) (pv v : Nat → Nat → Int) : Prop := v 0 5 = N ∧ v 0 6 = P ∧ (∀ a i, a < N → i < N → v 2 (4 * a + i) = pv (2 + a) i) ∧ (∀ i, i < N → v 3 i = pv 6 i) ∧ (∀ i, i < N → v 4 i = pv 7 i) ∧ (∀ k i, k < P → i < N → v 5 (4 * k + i) = pv (9 + k) i) ∧ ∀ k, k < P → v 6 k = pv 12 k
theorem PEq.keep {N P : Nat} {pv v v' : Nat → Nat → Int} (h : PEq N P pv v) (e : ∀ b x, (b = 0 ∧ (x = 5 ∨ x = 6)) ∨ (2 ≤ b ∧ b ≤ 6) → v' b x = v b x) : PEq N P pv v' := by
  obtain ⟨a1, a2, a3, a4, a5, a6, a7⟩ := h
  exact ⟨by rw [e 0 5 (by omega)]; exact a1, by rw [e 0 6 (by omega)]; exact a2, fun a i h1 h2 => by rw [e 2 _ (by omega)]; exact a3 a i h1 h2, fun i h1 => by rw [e 3 _ (by omega)]; exact a4 i h1, fun i h1 => by rw [e 4 _ (by omega)]; exact a5 i h1, fun k i h1 h2 => by rw [e 5 _ (by omega)]; exact a6 k i h1 h2, fun k h1 => by rw [e 6 _ (by omega)]; exact a7 k h1⟩
/-- a row of the reference against a view -/
def REq (N P : Nat) (w : Nat → Nat → Int) (r : Nat → Int) : Prop :=
  (∀ i, i < N → r i = w 1 i ∧ r (4 + i) = w 2 i ∧ r (8 + i) = w 3 i ∧ r (12 + i) = w 4 i ∧ r (40 + i) = w 12 i ∧ r (44 + i) = w 13 i) ∧ (∀ i k, i < N → k < P → r (16 + 3 * i + k) = w (6 + i) k) ∧ (∀ k, k < P → r (31 + k) = w 10 k ∧ r (34 + k) = w 11 k) ∧ r 28 = w 0 7 ∧ r 29 = w 0 8 ∧ r 30 = w 0 9 ∧ r 38 = w 0 10 ∧ r 39 = w 0 11 ∧ r 37 = if w 0 9 = 0 then 0 else 1
theorem REq.keep {N P : Nat} {w : Nat → Nat → Int} {r r' : Nat → Int} (hN : N ≤ 4) (hP : P ≤ 3) (h : REq N P w r) (e : ∀ x, x < 48 → r' x = r x) : REq N P w r' := by
  obtain ⟨a1, a2, a3, a4, a5, a6, a7, a8, a9⟩ := h
  refine ⟨fun i hi => ?_, fun i k hi hk => by rw [e _ (by omega)]; exact a2 i k hi hk, fun k hk => ?_, by rw [e _ (by omega)]; exact a4, by rw [e _ (by omega)]; exact a5, by rw [e _ (by omega)]; exact a6, by rw [e _ (by omega)]; exact a7, by rw [e _ (by omega)]; exact a8, by rw [e _ (by omega)]; exact a9⟩
  · rw [e _ (by omega), e _ (by omega), e _ (by omega), e _ (by omega), e _ (by omega), e _ (by omega)]; exact a1 i hi
  · rw [e _ (by omega), e _ (by omega)]; exact a3 k hk
theorem REq.of {N P : Nat} {w w' : Nat → Nat → Int} {r : Nat → Int} (h : REq N P w r) (e : VEq N P w' w) : REq N P w' r := by
  obtain ⟨a1, a2, a3, a4, a5, a6, a7, a8, a9⟩ := h
  obtain ⟨b1, b2, b3, b4, b5, b6, b7, b8⟩ := e
  exact ⟨fun i hi => by rw [(b1 i hi).1, (b1 i hi).2.1, (b1 i hi).2.2.1, (b1 i hi).2.2.2.1, (b1 i hi).2.2.2.2.1, (b1 i hi).2.2.2.2.2]; exact a1 i hi, fun i k hi hk => by rw [b2 i k hi hk]; exact a2 i k hi hk, fun k hk => by rw [(b3 k hk).1, (b3 k hk).2]; exact a3 k hk, by rw [b4]; exact a4, by rw [b5]; exact a5, by rw [b6]; exact a6, by rw [b7]; exact a7, by rw [b8]; exact a8, by rw [b6]; exact a9⟩
/-- what stays where the reference uses its rows for itself -/
def RMain (b x : Nat) : Prop := (b = 0 ∧ (x = 2 ∨ x = 5 ∨ x = 6 ∨ x = 24)) ∨ (1 ≤ b ∧ b ≤ 6) ∨ b = 13 ∨ b = 16 ∨ b = 17 ∨ b = 18
def RScr (M M1 : wM) : Prop := ∀ a b x, (a = 29 → (b = 0 ∧ (x = 2 ∨ x = 5 ∨ x = 6 ∨ x = 24)) ∨ (1 ≤ b ∧ b ≤ 6) ∨ b = 13 ∨ b = 16 ∨ b = 17 ∨ b = 18) → M1 a b x = M a b x
theorem RScr.rf {M : wM} : RScr M M := fun _ _ _ _ => Eq.refl _
theorem RScr.trans {M M1 M2 : wM} (h : RScr M M1) (h' : RScr M1 M2) : RScr M M2 := fun a b x q => (h' a b x q).trans (h a b x q)
theorem RScr_wu {M : wM} {b x : Nat} {v : Int} (h : ¬ ((b = 0 ∧ (x = 2 ∨ x = 5 ∨ x = 6 ∨ x = 24)) ∨ (1 ≤ b ∧ b ≤ 6) ∨ b = 13 ∨ b = 16 ∨ b = 17 ∨ b = 18)) : RScr M (wu M 29 b x v) := fun a b' x' q => by
  unfold wu
  rw [if_neg (fun w => h (by have := q w.1; rw [w.2.1, w.2.2] at this; exact this))]
/-- an act noted in the diary -/
def RNoted (M M1 : wM) (ct : Nat) : Prop := M1 29 0 24 = ((min (ct + 1) 14 : Nat) : Int) ∧ (∀ t x, t < min (ct + 1) 14 → x < 48 → M1 29 16 (48 * (min (ct + 1) 14 - 1 - t) + x) = if t = 0 then M 29 13 x else M 29 16 (48 * (ct - 1 - (t - 1)) + x)) ∧ ∀ a b x, (a = 29 → (b = 0 ∧ (x = 2 ∨ x = 5 ∨ x = 6)) ∨ (1 ≤ b ∧ b ≤ 6) ∨ b = 17 ∨ b = 18) → M1 a b x = M a b x
theorem ext_but9 {f lo hi : Nat → Int} {gr : Int} : ∀ {n : Nat}, ext n f lo hi (-9) gr = ext n f lo hi (-1) gr
  | 0 => rfl
  | n + 1 => by
    unfold ext
    rw [ext_but9 (n := n), if_neg (show ¬ (n : Int) = -9 by omega), if_neg (show ¬ (n : Int) = -1 by omega)]
/-- rows of the reference that are copied whole: 48 numbers -/
theorem up1_at {f : Nat → Int} {j i : Nat} {v : Int} : up1 f j v i = if i = j then v else f i := rfl
theorem MoOk.step {N P : Nat} {pv v : Nat → Nat → Int} {T u d : Int} (hp : PlOk pv N P) (hm : MoOk v N P T) (hbx : BoxOk N (v 2) (v 3)) (hu : -99 ≤ u ∧ u ≤ 99) : MoOk (stepF N P pv v u d) N P (T + 1) ∧ BoxOk N (stepF N P pv v u d 2) (stepF N P pv v u d 3) := by
  refine StepV.ok hp hm hbx (u := u) (d := d) ?_ hu
  exact ⟨fun i hi => sF_1, fun i hi => ⟨sF_12, sF_13, sF_2, sF_3⟩, fun i hi => sF_4, fun k hk => sF_11, fun i k hi hk => sF_b (by have := hp.2.2.1; omega), fun k hk => sF_b (by omega), sF_0 (by omega), sF_0 (by omega), sF_9, sF_10, sF_0b⟩
