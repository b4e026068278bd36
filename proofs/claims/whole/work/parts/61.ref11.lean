/-! THE REFERENCE'S READER: the whole text -/
theorem RdF_keep {v v' : Nat → Nat → Int} {ch : Nat → Int} {L i k : Nat} (h : RdF v ch L i k) (e : ∀ b x, (b = 0 ∧ (x = 12 ∨ x = 13)) ∨ (7 ≤ b ∧ b ≤ 11) ∨ (b = 12 ∧ (x = 28 ∨ x = 29)) → v' b x = v b x) : RdF v' ch L i k := by
  obtain ⟨a1, a2, a3, a4, a5, a6, a7, a8⟩ := h
  refine ⟨by rw [e 0 12 (by omega)]; exact a1, by rw [e 0 13 (by omega)]; exact a2, by rw [e 12 29 (by omega)]; exact a3, by rw [e 12 28 (by omega)]; exact a4, fun x hx => ⟨fun j hj => by rw [e 7 _ (by omega)]; exact (a5 x hx).1 j hj, by rw [e 8 _ (by omega)]; exact (a5 x hx).2.1, by rw [e 9 _ (by omega)]; exact (a5 x hx).2.2⟩, fun x hx => ⟨fun j hj => by rw [e 10 _ (by omega)]; exact (a6 x hx).1 j hj, by rw [e 11 _ (by omega)]; exact (a6 x hx).2⟩, fun x j hx h1 h2 => by rw [e 7 _ (by omega)]; exact a7 x j hx h1 h2, fun x j hx h1 h2 => by rw [e 10 _ (by omega)]; exact a8 x j hx h1 h2⟩
theorem RdF_state {v v' : Nat → Nat → Int} {ch : Nat → Int} {L i : Nat} (hi : i < 4) (hN : rdN ch L ≤ 4) (h : RdF v ch L i 0) (e : ∀ b x, ¬ ((b = 0 ∧ (x = 3 ∨ x = 4)) ∨ (b = 7 ∧ 4 * i ≤ x ∧ x < 4 * i + rdN ch L) ∨ ((b = 8 ∨ b = 9) ∧ x = i)) → v' b x = v b x)
    (h1 : (∀ j, j < rdN ch L → v' 7 (4 * i + j) = rowF ch L (pC ch L 114 114 (sS ch L (rdN ch L) (rdS ch L) i)) j) ∧ v' 8 i = rowF ch L (pC ch L 114 114 (sS ch L (rdN ch L) (rdS ch L) i)) (rdN ch L) ∧ v' 9 i = rowF ch L (pC ch L 114 114 (sS ch L (rdN ch L) (rdS ch L) i)) (rdN ch L + 1)) : RdF v' ch L (i + 1) 0 := by
  obtain ⟨a1, a2, a3, a4, a5, a6, a7, a8⟩ := h
  refine ⟨by rw [e 0 12 (by omega)]; exact a1, by rw [e 0 13 (by omega)]; exact a2, by rw [e 12 29 (by omega)]; exact a3, by rw [e 12 28 (by omega)]; exact a4, fun x hx => ?_, fun x hx => absurd hx (Nat.not_lt_zero x), fun x j hx q1 q2 => by rw [e 7 _ (by omega)]; exact a7 x j hx q1 q2, fun x j hx q1 q2 => by rw [e 10 _ (by omega)]; exact a8 x j hx q1 q2⟩
  by_cases c : x = i
  · rw [c]; exact h1
  · exact ⟨fun j hj => by rw [e 7 _ (by omega)]; exact (a5 x (by omega)).1 j hj, by rw [e 8 _ (by omega)]; exact (a5 x (by omega)).2.1, by rw [e 9 _ (by omega)]; exact (a5 x (by omega)).2.2⟩
theorem RdF_out {v v' : Nat → Nat → Int} {ch : Nat → Int} {L i k : Nat} (hk : k < 3) (hN : rdN ch L ≤ 4) (h : RdF v ch L i k) (e : ∀ b x, ¬ ((b = 0 ∧ (x = 3 ∨ x = 4)) ∨ (b = 10 ∧ 4 * k ≤ x ∧ x < 4 * k + rdN ch L) ∨ (b = 11 ∧ x = k)) → v' b x = v b x)
    (h1 : (∀ j, j < rdN ch L → v' 10 (4 * k + j) = rowF ch L (pC ch L 111 111 (sO ch L (rdN ch L) (sS ch L (rdN ch L) (rdS ch L) (rdN ch L)) k)) j) ∧ v' 11 k = (pT ch L 1 (pI ch L (rdN ch L) (pC ch L 111 111 (sO ch L (rdN ch L) (sS ch L (rdN ch L) (rdS ch L) (rdN ch L)) k)))).1) : RdF v' ch L i (k + 1) := by
  obtain ⟨a1, a2, a3, a4, a5, a6, a7, a8⟩ := h
  refine ⟨by rw [e 0 12 (by omega)]; exact a1, by rw [e 0 13 (by omega)]; exact a2, by rw [e 12 29 (by omega)]; exact a3, by rw [e 12 28 (by omega)]; exact a4, fun x hx => ⟨fun j hj => by rw [e 7 _ (by omega)]; exact (a5 x hx).1 j hj, by rw [e 8 _ (by omega)]; exact (a5 x hx).2.1, by rw [e 9 _ (by omega)]; exact (a5 x hx).2.2⟩, fun x hx => ?_, fun x j hx q1 q2 => by rw [e 7 _ (by omega)]; exact a7 x j hx q1 q2, fun x j hx q1 q2 => by rw [e 10 _ (by omega)]; exact a8 x j hx q1 q2⟩
  by_cases c : x = k
  · rw [c]; exact h1
  · exact ⟨fun j hj => by rw [e 10 _ (by omega)]; exact (a6 x (by omega)).1 j hj, by rw [e 11 _ (by omega)]; exact (a6 x (by omega)).2⟩
theorem rdE_wo {ch : Nat → Int} {L k : Nat} (hk : k ≤ rdP ch L) (h : (sO ch L (rdN ch L) (sS ch L (rdN ch L) (rdS ch L) (rdN ch L)) k).2 = 1) : (rdE ch L).1 = sO ch L (rdN ch L) (sS ch L (rdN ch L) (rdS ch L) (rdN ch L)) k := by
  have e : rdO ch L = sO ch L (rdN ch L) (sS ch L (rdN ch L) (rdS ch L) (rdN ch L)) k := by
    have := sO_1 h (rdP ch L - k)
    rw [show k + (rdP ch L - k) = rdP ch L by omega] at this
    exact this
  unfold rdE
  rw [e, gG_stop (by rw [h]; omega)]
theorem rdE_ws {ch : Nat → Int} {L i : Nat} (hi : i ≤ rdN ch L) (h : (sS ch L (rdN ch L) (rdS ch L) i).2 = 1) : (rdE ch L).1 = sS ch L (rdN ch L) (rdS ch L) i := by
  have e : sS ch L (rdN ch L) (rdS ch L) (rdN ch L) = sS ch L (rdN ch L) (rdS ch L) i := by
    have := sS_1 h (rdN ch L - i)
    rw [show i + (rdN ch L - i) = rdN ch L by omega] at this
    exact this
  have := rdE_wo (ch := ch) (L := L) (k := 0) (Nat.zero_le _) (by show (sS ch L (rdN ch L) (rdS ch L) (rdN ch L)).2 = 1; rw [e]; exact h)
  rw [this]
  exact e
def RxB (v : Nat → Nat → Int) (L : Nat) : Prop := v 0 2 = L ∧ L ≤ 200 ∧ ∀ i, i < 200 → 0 ≤ v 1 i ∧ v 1 i ≤ 65535
theorem RdG_s {r : Nat → Int} {g : Nat → Nat → Int} {a b : Nat} {x : Int} (h : RdG r g) (ha : a < 4) (hb : b < 3) : RdG (up1 r (16 + 3 * a + b) x) (fun i j => if i = a ∧ j = b then x else g i j) := by
  refine ⟨fun i j hi hj => ?_, fun i hi hn => ?_⟩
  · show (if 16 + 3 * i + j = 16 + 3 * a + b then x else r (16 + 3 * i + j)) = if i = a ∧ j = b then x else g i j
    by_cases c : i = a ∧ j = b
    · rw [if_pos c, if_pos (by omega)]
    · rw [if_neg c, if_neg (by omega)]
      exact h.1 i j hi hj
  · show (if i = 16 + 3 * a + b then x else r i) = _
    rw [if_neg (by omega)]
    exact h.2 i hi hn
theorem layF_g {i : Nat} (h : 12 ≤ i ∧ i < 34) : layF i = 0 := by
  unfold layF
  rw [if_neg (by omega), if_neg (by omega), if_neg (by omega)]
