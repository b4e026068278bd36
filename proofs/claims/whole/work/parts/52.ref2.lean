/-- a reader's numbers, of the reference -/
def RxOk (v : Nat → Nat → Int) (L ps : Nat) : Prop := v 0 2 = L ∧ L ≤ 200 ∧ v 0 3 = ps ∧ ps ≤ L ∧ ∀ i, i < 200 → 0 ≤ v 1 i ∧ v 1 i ≤ 65535
def RFr (M M1 : wM) : Prop := ∀ a b i, ¬ (a = 29 ∧ b = 0 ∧ (i = 3 ∨ i = 4)) → M1 a b i = M a b i
theorem RFr.refl {M : wM} : RFr M M := fun _ _ _ _ => rfl
theorem RFr.trans {M M1 M2 : wM} (h : RFr M M1) (h' : RFr M1 M2) : RFr M M2 := fun a b i q => (h' a b i q).trans (h a b i q)
theorem RFr.ch {M M1 : wM} (h : RFr M M1) : M1 29 1 = M 29 1 := funext fun i => h 29 1 i (by omega)
theorem RFr.ok {M M1 : wM} {L ps ps' : Nat} (h : RFr M M1) (hx : RxOk (M 29) L ps) (h3 : M1 29 0 3 = ps') (hp : ps' ≤ L) : RxOk (M1 29) L ps' := by
  obtain ⟨a, b, c, d, e⟩ := hx
  exact ⟨by rw [h 29 0 2 (by omega)]; exact a, b, h3, hp, by rw [h.ch]; exact e⟩
