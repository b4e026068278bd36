/-- a value that the true one is not is shaved off -/
theorem shave_in {N P i j : Nat} {pv v : Nat → Nat → Int} {T d : Int} (hp : PlOk pv N P) (hm : MoOk v N P T) (hb : BoxOk N (v 2) (v 3)) (ht : TrOk v N P pv) (hi : i < N) (hj : (j = 2 ∧ d = 1) ∨ (j = 3 ∧ d = -1)) (ho : (tight N P pv (v 10) (v 11) 100 (up1 (v 2) i (v j i)) (up1 (v 3) i (v j i))).1 = 2) : MoOk (setV v j i (v j i + d)) N P T ∧ BoxOk N (setV v j i (v j i + d) 2) (setV v j i (v j i + d) 3) ∧ TrOk (setV v j i (v j i + d)) N P pv := by
  have hne : v 1 i ≠ v j i := by
    intro e
    refine (tight_in (ht.says hp) (n := 100) (lo := up1 (v 2) i (v j i)) (hi := up1 (v 3) i (v j i)) (fun x hx => ?_)).1 ho
    unfold up1
    by_cases c : x = i
    · rw [if_pos c, if_pos c, c, e]
      exact ⟨Int.le_refl _, Int.le_refl _⟩
    · rw [if_neg c, if_neg c]
      exact ht.1 x hx
  have hti := ht.1 i hi
  have hbi := hb i hi
  have e1 : setV v j i (v j i + d) 1 = v 1 := if_neg (by omega)
  have e10 : setV v j i (v j i + d) 10 = v 10 := if_neg (by omega)
  have e11 : setV v j i (v j i + d) 11 = v 11 := if_neg (by omega)
  rcases hj with ⟨rfl, rfl⟩ | ⟨rfl, rfl⟩
  · have e2 : setV v 2 i (v 2 i + 1) 2 = up1 (v 2) i (v 2 i + 1) := if_pos rfl
    have e3 : setV v 2 i (v 2 i + 1) 3 = v 3 := if_neg (by omega)
    refine ⟨hm.set23 (Or.inl rfl) (by omega), ?_, ?_, ?_⟩
    · rw [e2, e3]
      intro x hx
      have := hb x hx
      unfold up1
      by_cases c : x = i
      · rw [if_pos c, c]; omega
      · rw [if_neg c]; exact this
    · rw [e1, e2, e3]
      intro x hx
      have := ht.1 x hx
      unfold up1
      by_cases c : x = i
      · rw [if_pos c, c]; omega
      · rw [if_neg c]; exact this
    · rw [e1, e10, e11]; exact ht.2
  · have e2 : setV v 3 i (v 3 i + -1) 2 = v 2 := if_neg (by omega)
    have e3 : setV v 3 i (v 3 i + -1) 3 = up1 (v 3) i (v 3 i + -1) := if_pos rfl
    refine ⟨hm.set23 (Or.inr rfl) (by omega), ?_, ?_, ?_⟩
    · rw [e2, e3]
      intro x hx
      have := hb x hx
      unfold up1
      by_cases c : x = i
      · rw [if_pos c, c]; omega
      · rw [if_neg c]; exact this
    · rw [e1, e2, e3]
      intro x hx
      have := ht.1 x hx
      unfold up1
      by_cases c : x = i
      · rw [if_pos c, c]; omega
      · rw [if_neg c]; exact this
    · rw [e1, e10, e11]; exact ht.2
theorem shv_s {N P i j m : Nat} {pv v : Nat → Nat → Int} {d : Int} (h : (tight N P pv (v 10) (v 11) 100 (up1 (v 2) i (v j i)) (up1 (v 3) i (v j i))).1 = 2) : shv N P pv i j d (m + 1) v = ((shv N P pv i j d m (setV v j i (v j i + d))).1 + 1, (shv N P pv i j d m (setV v j i (v j i + d))).2) := by
  show (if _ then _ else _) = _
  rw [if_pos h]
theorem shv_n {N P i j m : Nat} {pv v : Nat → Nat → Int} {d : Int} (h : m = 0 ∨ ¬ (tight N P pv (v 10) (v 11) 100 (up1 (v 2) i (v j i)) (up1 (v 3) i (v j i))).1 = 2) : shv N P pv i j d m v = (0, v) := by
  cases m with
  | zero => rfl
  | succ m =>
    show (if _ then _ else _) = _
    rw [if_neg (by omega)]
