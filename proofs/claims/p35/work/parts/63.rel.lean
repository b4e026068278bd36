/-! TWO OBSERVERS ALIKE -/
/-- plants equal where it counts -/
def PvE (N P : Nat) (a b : Nat → Nat → Int) : Prop := (∀ i j, i < N → j < N → a (2 + i) j = b (2 + i) j) ∧ (∀ i, i < N → a 6 i = b 6 i ∧ a 7 i = b 7 i) ∧ (∀ k j, k < P → j < N → a (9 + k) j = b (9 + k) j) ∧ ∀ k, k < P → a 12 k = b 12 k
theorem PvE.self {N P : Nat} {a : Nat → Nat → Int} : PvE N P a a := ⟨fun _ _ _ _ => rfl, fun _ _ => ⟨rfl, rfl⟩, fun _ _ _ _ => rfl, fun _ _ => rfl⟩
/-- plant and moment alike -/
def Al (N P : Nat) (M W : wM) : Prop := PvE N P (M 19) (W 19) ∧ VEq N P (M 0) (W 0)
section AL
variable {N P : Nat} {M W M1 W1 : wM} {a b v w : Nat → Nat → Int}
theorem Al.scr (h : Al N P M W) (h1 : ScrEq M M1) (h2 : ScrEq W W1) : Al N P M1 W1 := by
  unfold Al
  rw [h1.z0, h1.z19, h2.z0, h2.z19]
  exact h
theorem al_wid (h : VEq N P v w) : wid N (v 2) (v 3) = wid N (w 2) (w 3) := wid_congr (fun i hi => (h.1 i hi).2.1) (fun i hi => (h.1 i hi).2.2.1)
theorem al_expl (hp : PvE N P a b) (h : VEq N P v w) {d : Int} : expl N a v d ↔ expl N b w d := by
  have key : ∀ {a b v w : Nat → Nat → Int}, PvE N P a b → VEq N P v w → expl N a v d → expl N b w d := by
    intro a b v w hp h q i hi h0
    obtain ⟨g1, -, -, -, -, -, g10, -⟩ := h
    have e1 := g1 i hi
    have e2 := hp.2.1 i hi
    rw [← e2.2] at h0 ⊢
    rw [← e2.1, ← e1.2.1, ← e1.2.2.1, ← e1.2.2.2.2.1, ← e1.2.2.2.2.2, ← g10]
    exact q i hi h0
  exact ⟨key hp h, key ⟨fun i j hi hj => (hp.1 i j hi hj).symm, fun i hi => ⟨(hp.2.1 i hi).1.symm, (hp.2.1 i hi).2.symm⟩, fun k j hk hj => (hp.2.2.1 k j hk hj).symm, fun k hk => (hp.2.2.2 k hk).symm⟩ h.symm⟩
/-- answers alike -/
theorem al_state (h : VEq N P v w) {i : Nat} {x : Int} (hi : i < N) : stateF v i x = stateF w i x := by
  obtain ⟨e1, e2, e3, e4, -⟩ := h.1 i hi
  unfold stateF
  rw [e1, e2, e3, e4]
theorem al_about (h : VEq N P v w) {x : Int} : aboutF N P v x = aboutF N P w x := by
  obtain ⟨-, -, -, e7, e8, e9, -⟩ := h
  unfold aboutF
  rw [e7, e8, e9]
theorem al_out (hp : PvE N P a b) (h : VEq N P v w) {k : Nat} {x : Int} (hk : k < P) : outF N a v k x = outF N b w k x := by
  obtain ⟨g1, -, g3, -⟩ := h
  unfold outF
  rw [(g3 k hk).1, (g3 k hk).2, hp.2.2.2 k hk, ext_congr (f' := b (9 + k)) (lo' := w 2) (hi' := w 3) (fun i hi => hp.2.2.1 k i hk hi) (fun i hi => (g1 i hi).2.1) (fun i hi => (g1 i hi).2.2.1)]
theorem scr_of (h : M1 = M) : ScrEq M M1 := by rw [h]; exact ScrEq.rfl
theorem eq_state {i x z z' : Int} (hal : Al N P M W) (h : ((0 ≤ i ∧ i < N) ∧ (0 ≤ x ∧ x ≤ 4) ∧ z = stateF (M 0) i.toNat x ∧ M1 = M) ∨ (z = -1001 ∧ (¬ (0 ≤ i ∧ i < N)) ∧ ScrEq M M1) ∨ (z = -1002 ∧ ((0 ≤ i ∧ i < N) ∧ ¬ (0 ≤ x ∧ x ≤ 4)) ∧ ScrEq M M1)) (h' : ((0 ≤ i ∧ i < N) ∧ (0 ≤ x ∧ x ≤ 4) ∧ z' = stateF (W 0) i.toNat x ∧ W1 = W) ∨ (z' = -1001 ∧ (¬ (0 ≤ i ∧ i < N)) ∧ ScrEq W W1) ∨ (z' = -1002 ∧ ((0 ≤ i ∧ i < N) ∧ ¬ (0 ≤ x ∧ x ≤ 4)) ∧ ScrEq W W1)) : z = z' ∧ ScrEq M M1 ∧ ScrEq W W1 := by
  rcases h with ⟨a1, a2, a3, a4⟩ | ⟨a1, a2, a3⟩ | ⟨a1, a2, a3⟩ <;> rcases h' with ⟨b1, b2, b3, b4⟩ | ⟨b1, b2, b3⟩ | ⟨b1, b2, b3⟩
  · exact ⟨by rw [a3, b3]; exact al_state hal.2 (by omega), scr_of a4, scr_of b4⟩
  all_goals first
    | (exfalso; omega)
    | exact ⟨by omega, a3, b3⟩
theorem eq_about {x z z' : Int} (hal : Al N P M W) (h : ((0 ≤ x ∧ x ≤ 4) ∧ z = aboutF N P (M 0) x ∧ M1 = M) ∨ (z = -1002 ∧ (¬ (0 ≤ x ∧ x ≤ 4)) ∧ ScrEq M M1)) (h' : ((0 ≤ x ∧ x ≤ 4) ∧ z' = aboutF N P (W 0) x ∧ W1 = W) ∨ (z' = -1002 ∧ (¬ (0 ≤ x ∧ x ≤ 4)) ∧ ScrEq W W1)) : z = z' ∧ ScrEq M M1 ∧ ScrEq W W1 := by
  rcases h with ⟨a1, a3, a4⟩ | ⟨a1, a2, a3⟩ <;> rcases h' with ⟨b1, b3, b4⟩ | ⟨b1, b2, b3⟩
  · exact ⟨by rw [a3, b3]; exact al_about hal.2, scr_of a4, scr_of b4⟩
  all_goals first
    | (exfalso; omega)
    | exact ⟨by omega, a3, b3⟩
theorem eq_out {i x z z' : Int} (hal : Al N P M W) (h : ((0 ≤ i ∧ i < P) ∧ (0 ≤ x ∧ x ≤ 3) ∧ ¬ (x ≤ 1 ∧ M 0 11 i.toNat = -1) ∧ z = outF N (M 19) (M 0) i.toNat x ∧ M1 = M) ∨ (z = -1001 ∧ (¬ (0 ≤ i ∧ i < P)) ∧ ScrEq M M1) ∨ (z = -1002 ∧ ((0 ≤ i ∧ i < P) ∧ ¬ (0 ≤ x ∧ x ≤ 3)) ∧ ScrEq M M1) ∨ (z = -1003 ∧ ((0 ≤ i ∧ i < P) ∧ (0 ≤ x ∧ x ≤ 3) ∧ (x ≤ 1 ∧ M 0 11 i.toNat = -1)) ∧ ScrEq M M1)) (h' : ((0 ≤ i ∧ i < P) ∧ (0 ≤ x ∧ x ≤ 3) ∧ ¬ (x ≤ 1 ∧ W 0 11 i.toNat = -1) ∧ z' = outF N (W 19) (W 0) i.toNat x ∧ W1 = W) ∨ (z' = -1001 ∧ (¬ (0 ≤ i ∧ i < P)) ∧ ScrEq W W1) ∨ (z' = -1002 ∧ ((0 ≤ i ∧ i < P) ∧ ¬ (0 ≤ x ∧ x ≤ 3)) ∧ ScrEq W W1) ∨ (z' = -1003 ∧ ((0 ≤ i ∧ i < P) ∧ (0 ≤ x ∧ x ≤ 3) ∧ (x ≤ 1 ∧ W 0 11 i.toNat = -1)) ∧ ScrEq W W1)) : z = z' ∧ ScrEq M M1 ∧ ScrEq W W1 := by
  have e : (0 ≤ i ∧ i < P) → M 0 11 i.toNat = W 0 11 i.toNat := fun q => (hal.2.2.2.1 i.toNat (by omega)).2
  rcases h with ⟨a1, a2, a5, a3, a4⟩ | ⟨a1, a2, a3⟩ | ⟨a1, a2, a3⟩ | ⟨a1, a2, a3⟩ <;> rcases h' with ⟨b1, b2, b5, b3, b4⟩ | ⟨b1, b2, b3⟩ | ⟨b1, b2, b3⟩ | ⟨b1, b2, b3⟩
  · exact ⟨by rw [a3, b3]; exact al_out hal.1 hal.2 (by omega), scr_of a4, scr_of b4⟩
  all_goals first
    | (exfalso; omega)
    | (exfalso; have := e (by omega); omega)
    | exact ⟨by omega, a3, b3⟩
theorem eq_num {i j z z' : Int} (hal : Al N P M W) (h : ((0 ≤ (5 : Int) ∧ (5 : Int) ≤ 5) ∧ (0 ≤ i ∧ i < (if (5 : Int) = 3 ∨ (5 : Int) = 4 then (P : Int) else N)) ∧ (0 ≤ j ∧ j < colsF N P 5) ∧ z = coefF (M 19) (M 0) 5 i.toNat j.toNat ∧ M1 = M) ∨ (z = -1002 ∧ (¬ (0 ≤ (5 : Int) ∧ (5 : Int) ≤ 5)) ∧ ScrEq M M1) ∨ (z = -1001 ∧ ((0 ≤ (5 : Int) ∧ (5 : Int) ≤ 5) ∧ ¬ ((0 ≤ i ∧ i < (if (5 : Int) = 3 ∨ (5 : Int) = 4 then (P : Int) else N)) ∧ (0 ≤ j ∧ j < colsF N P 5))) ∧ ScrEq M M1)) (h' : ((0 ≤ (5 : Int) ∧ (5 : Int) ≤ 5) ∧ (0 ≤ i ∧ i < (if (5 : Int) = 3 ∨ (5 : Int) = 4 then (P : Int) else N)) ∧ (0 ≤ j ∧ j < colsF N P 5) ∧ z' = coefF (W 19) (W 0) 5 i.toNat j.toNat ∧ W1 = W) ∨ (z' = -1002 ∧ (¬ (0 ≤ (5 : Int) ∧ (5 : Int) ≤ 5)) ∧ ScrEq W W1) ∨ (z' = -1001 ∧ ((0 ≤ (5 : Int) ∧ (5 : Int) ≤ 5) ∧ ¬ ((0 ≤ i ∧ i < (if (5 : Int) = 3 ∨ (5 : Int) = 4 then (P : Int) else N)) ∧ (0 ≤ j ∧ j < colsF N P 5))) ∧ ScrEq W W1)) : z = z' ∧ ScrEq M M1 ∧ ScrEq W W1 := by
  rcases h with ⟨a1, a2, a5, a3, a4⟩ | ⟨a1, a2, a3⟩ | ⟨a1, a2, a3⟩ <;> rcases h' with ⟨b1, b2, b5, b3, b4⟩ | ⟨b1, b2, b3⟩ | ⟨b1, b2, b3⟩
  · refine ⟨?_, scr_of a4, scr_of b4⟩
    rw [a3, b3]
    rw [if_neg (by decide)] at a2
    unfold colsF at a5
    rw [if_neg (by decide), if_pos rfl] at a5
    exact hal.2.2.1 i.toNat j.toNat (by omega) (by omega)
  · exact absurd a1 b2
  · exact absurd ⟨a2, a5⟩ b2.2
  · exact absurd b1 a2
  · exact absurd (by decide) a2
  · exact absurd (by decide) a2
  · exact absurd ⟨b2, b5⟩ a2.2
  · exact absurd (by decide) b2
  · exact ⟨by omega, a3, b3⟩
def UnkP (N : Nat) (M M1 : wM) (b z : Int) : Prop := (M 0 0 9 ≠ 0 ∧ expl N (M 19) (M 0) z ∧ (-(M 0 0 11) ≤ z ∧ z ≤ M 0 0 11) ∧ (∀ d, -(M 0 0 11) ≤ d → d ≤ M 0 0 11 → expl N (M 19) (M 0) d → if b = 1 then d ≤ z else z ≤ d) ∧ M1 = M) ∨ (z = -1003 ∧ (M 0 0 9 = 0 ∨ ∀ d, -(M 0 0 11) ≤ d → d ≤ M 0 0 11 → ¬ expl N (M 19) (M 0) d) ∧ ScrEq M M1)
theorem eq_unk {b z z' : Int} (hal : Al N P M W) (h : UnkP N M M1 b z) (h' : UnkP N W W1 b z') : z = z' ∧ ScrEq M M1 ∧ ScrEq W W1 := by
  have he := fun d => al_expl hal.1 hal.2 (d := d)
  obtain ⟨-, -, -, -, -, e9, -, e11⟩ := hal.2
  unfold UnkP at h'
  simp only [← he, ← e9, ← e11] at h'
  rcases h with ⟨a1, a2, a3, a4, a5⟩ | ⟨a1, a2, a3⟩ <;> rcases h' with ⟨b1, b2, b3, b4, b5⟩ | ⟨b1, b2, b3⟩
  · refine ⟨?_, scr_of a5, scr_of b5⟩
    have h1 := a4 z' b3.1 b3.2 b2
    have h2 := b4 z a3.1 a3.2 a2
    by_cases q : b = 1
    · rw [if_pos q] at h1 h2; omega
    · rw [if_neg q] at h1 h2; omega
  · rcases b2 with q | q
    · exact absurd q a1
    · exact absurd a2 (q z a3.1 a3.2)
  · rcases a2 with q | q
    · exact absurd q b1
    · exact absurd b2 (q z' b3.1 b3.2)
  · exact ⟨by omega, a3, b3⟩
end AL
