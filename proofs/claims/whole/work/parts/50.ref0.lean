/-! THE REFERENCE: words -/
theorem down_of {a b : Int} (hb : 0 < b) : a.fdiv b = if a.tmod b < 0 then a.tdiv b - 1 else a.tdiv b := by
  have h1 := fdiv_of (a := a) (b := b) (q := a.tdiv b) (by omega) rfl
  have h2 := Int.tmod_add_tdiv_mul a b
  have h3 := tmod_bd (a := a) hb
  rw [h1]
  by_cases c : a.tmod b < 0
  · rw [if_pos c, if_pos (by omega)]
  · rw [if_neg c, if_neg (by omega)]
def layF (x : Nat) : Int := if 4 ≤ x ∧ x < 8 then -1000 else if 8 ≤ x ∧ x < 12 then 1000 else if 34 ≤ x ∧ x < 37 then -1 else 0
