/-! THE REFERENCE'S FACE: words -/
theorem RNoted.pre {M M' M1 : wM} {ct : Nat} (h : RNoted M' M1 ct) (e : ∀ a b x, ¬ (a = 29 ∧ b = 0 ∧ x = 0) → M' a b x = M a b x) : RNoted M M1 ct := by
  obtain ⟨h1, h2, h3⟩ := h
  refine ⟨h1, fun t x ht hx => ?_, fun a b x q => by rw [h3 a b x q, e a b x (by omega)]⟩
  rw [h2 t x ht hx, e 29 13 x (by omega), e 29 16 _ (by omega)]
theorem RNoted.post {M M1 M2 : wM} {ct : Nat} (h : RNoted M M1 ct) (e : ∀ a b x, ¬ (a = 29 ∧ (b = 13 ∨ b = 14 ∨ b = 15 ∨ b = 19 ∨ b = 20)) → M2 a b x = M1 a b x) : RNoted M M2 ct := by
  obtain ⟨h1, h2, h3⟩ := h
  exact ⟨by rw [e 29 0 24 (by omega)]; exact h1, fun t x ht hx => by rw [e 29 16 _ (by omega)]; exact h2 t x ht hx, fun a b x q => by rw [e a b x (by omega)]; exact h3 a b x q⟩
theorem stF_0 {v : Nat → Nat → Int} {i : Nat} : stateF v i 0 = v 1 i := rfl
theorem stF_1 {v : Nat → Nat → Int} {i : Nat} : stateF v i 1 = v 2 i := rfl
theorem stF_2 {v : Nat → Nat → Int} {i : Nat} : stateF v i 2 = v 3 i := rfl
theorem stF_3 {v : Nat → Nat → Int} {i : Nat} : stateF v i 3 = v 4 i := rfl
theorem stF_4 {v : Nat → Nat → Int} {i : Nat} : stateF v i 4 = max (16 * v 2 i) (min (16 * v 3 i) (v 4 i)) := rfl
/-- one number of a row set -/
theorem REq.truth {N P i : Nat} {w : Nat → Nat → Int} {r : Nat → Int} {v : Int} (hN : N ≤ 4) (h : REq N P w r) (hi : i < N) : REq N P (setV w 1 i v) (up1 r i v) := by
  obtain ⟨a1, a2, a3, a4, a5, a6, a7, a8, a9⟩ := h
  have e : ∀ b, b ≠ 1 → setV w 1 i v b = w b := fun b hb => if_neg hb
  have u : ∀ x, 4 ≤ x → up1 r i v x = r x := fun x hx => if_neg (by omega)
  refine ⟨fun j hj => ?_, fun j k hj hk => by rw [u _ (by omega), e _ (by omega)]; exact a2 j k hj hk, fun k hk => by rw [u _ (by omega), u _ (by omega), e 10 (by omega), e 11 (by omega)]; exact a3 k hk, by rw [u _ (by omega), e 0 (by omega)]; exact a4, by rw [u _ (by omega), e 0 (by omega)]; exact a5, by rw [u _ (by omega), e 0 (by omega)]; exact a6, by rw [u _ (by omega), e 0 (by omega)]; exact a7, by rw [u _ (by omega), e 0 (by omega)]; exact a8, by rw [u _ (by omega), e 0 (by omega)]; exact a9⟩
  rw [u (4 + j) (by omega), u (8 + j) (by omega), u (12 + j) (by omega), u (40 + j) (by omega), u (44 + j) (by omega), e 2 (by omega), e 3 (by omega), e 4 (by omega), e 12 (by omega), e 13 (by omega)]
  refine ⟨?_, (a1 j hj).2⟩
  show (if j = i then v else r j) = (if (1 : Nat) = 1 then up1 (w 1) i v else w 1) j
  rw [if_pos rfl]
  show _ = (if j = i then v else w 1 j)
  rw [(a1 j hj).1]
theorem REq.bound {N P b i at0 : Nat} {w : Nat → Nat → Int} {r : Nat → Int} {v : Int} (hN : N ≤ 4) (hP : P ≤ 3) (h : REq N P w r) (hb : (b = 2 ∧ at0 = 4 + i) ∨ (b = 3 ∧ at0 = 8 + i)) (hi : i < N) : REq N P (setV w b i v) (up1 r at0 v) := by
  obtain ⟨a1, a2, a3, a4, a5, a6, a7, a8, a9⟩ := h
  have e : ∀ c, c ≠ b → setV w b i v c = w c := fun c hc => if_neg hc
  have u : ∀ x, x ≠ at0 → up1 r at0 v x = r x := fun x hx => if_neg hx
  refine ⟨fun j hj => ⟨?_, ?_, ?_, ?_, ?_, ?_⟩, fun j k hj hk => by rw [u _ (by omega), e _ (by omega)]; exact a2 j k hj hk, fun k hk => by rw [u _ (by omega), u _ (by omega), e 10 (by omega), e 11 (by omega)]; exact a3 k hk, by rw [u _ (by omega), e 0 (by omega)]; exact a4, by rw [u _ (by omega), e 0 (by omega)]; exact a5, by rw [u _ (by omega), e 0 (by omega)]; exact a6, by rw [u _ (by omega), e 0 (by omega)]; exact a7, by rw [u _ (by omega), e 0 (by omega)]; exact a8, by rw [u _ (by omega), e 0 (by omega)]; exact a9⟩
  · rw [u _ (by omega), e 1 (by omega)]; exact (a1 j hj).1
  · rcases hb with ⟨rfl, rfl⟩ | ⟨rfl, rfl⟩
    · show (if 4 + j = 4 + i then v else r (4 + j)) = (if (2 : Nat) = 2 then up1 (w 2) i v else w 2) j
      rw [if_pos rfl]
      show _ = (if j = i then v else w 2 j)
      by_cases c : j = i
      · rw [if_pos c, if_pos (by omega)]
      · rw [if_neg c, if_neg (by omega)]; exact (a1 j hj).2.1
    · rw [u _ (by omega), e 2 (by omega)]; exact (a1 j hj).2.1
  · rcases hb with ⟨rfl, rfl⟩ | ⟨rfl, rfl⟩
    · rw [u _ (by omega), e 3 (by omega)]; exact (a1 j hj).2.2.1
    · show (if 8 + j = 8 + i then v else r (8 + j)) = (if (3 : Nat) = 3 then up1 (w 3) i v else w 3) j
      rw [if_pos rfl]
      show _ = (if j = i then v else w 3 j)
      by_cases c : j = i
      · rw [if_pos c, if_pos (by omega)]
      · rw [if_neg c, if_neg (by omega)]; exact (a1 j hj).2.2.1
  · rw [u _ (by omega), e 4 (by omega)]; exact (a1 j hj).2.2.2.1
  · rw [u _ (by omega), e 12 (by omega)]; exact (a1 j hj).2.2.2.2.1
  · rw [u _ (by omega), e 13 (by omega)]; exact (a1 j hj).2.2.2.2.2
theorem REq.gain {N P i k : Nat} {w : Nat → Nat → Int} {r : Nat → Int} {v : Int} (hN : N ≤ 4) (hP : P ≤ 3) (h : REq N P w r) (hi : i < N) (hk : k < P) : REq N P (setV w (6 + i) k v) (up1 r (16 + 3 * i + k) v) := by
  obtain ⟨a1, a2, a3, a4, a5, a6, a7, a8, a9⟩ := h
  have e : ∀ b, b ≠ 6 + i → setV w (6 + i) k v b = w b := fun b hb => if_neg hb
  have u : ∀ x, x < 16 ∨ 28 ≤ x → up1 r (16 + 3 * i + k) v x = r x := fun x hx => if_neg (by omega)
  refine ⟨fun j hj => by rw [u _ (by omega), u _ (by omega), u _ (by omega), u _ (by omega), u _ (by omega), u _ (by omega), e 1 (by omega), e 2 (by omega), e 3 (by omega), e 4 (by omega), e 12 (by omega), e 13 (by omega)]; exact a1 j hj, fun j k' hj hk' => ?_, fun k' hk' => by rw [u _ (by omega), u _ (by omega), e 10 (by omega), e 11 (by omega)]; exact a3 k' hk', by rw [u _ (by omega), e 0 (by omega)]; exact a4, by rw [u _ (by omega), e 0 (by omega)]; exact a5, by rw [u _ (by omega), e 0 (by omega)]; exact a6, by rw [u _ (by omega), e 0 (by omega)]; exact a7, by rw [u _ (by omega), e 0 (by omega)]; exact a8, by rw [u _ (by omega), e 0 (by omega)]; exact a9⟩
  show (if 16 + 3 * j + k' = 16 + 3 * i + k then v else r (16 + 3 * j + k')) = (if 6 + j = 6 + i then up1 (w (6 + i)) k v else w (6 + j)) k'
  by_cases c : j = i
  · rw [if_pos (by omega : 6 + j = 6 + i)]
    show _ = (if k' = k then v else w (6 + i) k')
    by_cases d : k' = k
    · rw [if_pos d, if_pos (by omega)]
    · rw [if_neg d, if_neg (by omega), ← c]; exact a2 j k' hj hk'
  · rw [if_neg (by omega : ¬ 6 + j = 6 + i), if_neg (by omega)]; exact a2 j k' hj hk'
theorem REq.hold {N P x at0 : Nat} {w : Nat → Nat → Int} {r : Nat → Int} {v : Int} (hN : N ≤ 4) (hP : P ≤ 3) (h : REq N P w r) (hx : (x = 7 ∧ at0 = 28) ∨ (x = 8 ∧ at0 = 29)) : REq N P (setV w 0 x v) (up1 r at0 v) := by
  obtain ⟨a1, a2, a3, a4, a5, a6, a7, a8, a9⟩ := h
  have e : ∀ b, b ≠ 0 → setV w 0 x v b = w b := fun b hb => if_neg hb
  have e0 : ∀ y, y ≠ x → setV w 0 x v 0 y = w 0 y := fun y hy => by
    show (if (0 : Nat) = 0 then up1 (w 0) x v else w 0) y = _
    rw [if_pos rfl]
    exact if_neg hy
  have e1 : setV w 0 x v 0 x = v := by
    show (if (0 : Nat) = 0 then up1 (w 0) x v else w 0) x = _
    rw [if_pos rfl]
    exact if_pos rfl
  have u : ∀ y, y ≠ at0 → up1 r at0 v y = r y := fun y hy => if_neg hy
  have u1 : up1 r at0 v at0 = v := if_pos rfl
  refine ⟨fun j hj => by rw [u _ (by omega), u _ (by omega), u _ (by omega), u _ (by omega), u _ (by omega), u _ (by omega), e 1 (by omega), e 2 (by omega), e 3 (by omega), e 4 (by omega), e 12 (by omega), e 13 (by omega)]; exact a1 j hj, fun j k hj hk => by rw [u _ (by omega), e _ (by omega)]; exact a2 j k hj hk, fun k hk => by rw [u _ (by omega), u _ (by omega), e 10 (by omega), e 11 (by omega)]; exact a3 k hk, ?_, ?_, by rw [u _ (by omega), e0 9 (by omega)]; exact a6, by rw [u _ (by omega), e0 10 (by omega)]; exact a7, by rw [u _ (by omega), e0 11 (by omega)]; exact a8, by rw [u _ (by omega), e0 9 (by omega)]; exact a9⟩
  · rcases hx with ⟨rfl, rfl⟩ | ⟨rfl, rfl⟩
    · rw [e1, u1]
    · rw [u _ (by omega), e0 7 (by omega)]; exact a4
  · rcases hx with ⟨rfl, rfl⟩ | ⟨rfl, rfl⟩
    · rw [u _ (by omega), e0 8 (by omega)]; exact a5
    · rw [e1, u1]
theorem gG_okk {ch : Nat → Int} {L N P : Nat} : ∀ (n : Nat) (s : pS) (g : Nat → Nat → Int), pOk L s → pOk L (gG ch L N P n s g).1
  | 0, _, _, h => h
  | n + 1, s, g, h => by
    unfold gG
    split
    · exact gG_okk n _ _ (gV_ok h)
    · exact h
theorem rdE_ok {ch : Nat → Int} {L : Nat} : pOk L (rdE ch L).1 := gG_okk 200 _ _ (sO_ok (sS_ok rdS_ok _) _)
