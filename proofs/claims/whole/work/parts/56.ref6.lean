theorem pI_add {ch : Nat → Int} {L : Nat} {s : pS} (a : Nat) : ∀ b, pI ch L (a + b) s = pI ch L b (pI ch L a s)
  | 0 => rfl
  | b + 1 => by
    show (pN ch L (pI ch L (a + b) s)).2 = (pN ch L (pI ch L b (pI ch L a s))).2
    rw [pI_add a b]
/-- wrong once, wrong at the end -/
theorem pI_w {ch : Nat → Int} {L a n : Nat} {s : pS} (h : (pI ch L a s).2 = 1) (hn : a ≤ n) : pI ch L n s = pI ch L a s := by
  have := pI_add (ch := ch) (L := L) (s := s) a (n - a)
  rw [show a + (n - a) = n by omega, pI_1 h] at this
  exact this
/-- place, number and what X holds may change -/
def RFx (X : Nat → Nat → Prop) (M M1 : wM) : Prop := ∀ a b i, ¬ (a = 29 ∧ ((b = 0 ∧ (i = 3 ∨ i = 4)) ∨ X b i)) → M1 a b i = M a b i
theorem RFr.x {M M1 : wM} {X : Nat → Nat → Prop} (h : RFr M M1) : RFx X M M1 := fun a b i q => h a b i (fun w => q ⟨w.1, Or.inl w.2⟩)
theorem RFx.trans {X : Nat → Nat → Prop} {M M1 M2 : wM} (h : RFx X M M1) (h' : RFx X M1 M2) : RFx X M M2 := fun a b i q => (h' a b i q).trans (h a b i q)
