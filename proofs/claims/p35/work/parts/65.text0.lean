/-! characters put behind a text -/
def apM (M : wM) (L : Nat) (x : Int) : wM := wu (wu M 27 1 L x) 27 0 1 ((L : Int) + 1)
theorem apM_tx {M : wM} {L : Nat} {x : Int} (h : TxB (M 27) L) (hL : L < 200) (hx : 0 ≤ x ∧ x ≤ 255) : TxB (apM M L x 27) (L + 1) := by
  obtain ⟨h1, h2, h3⟩ := h
  refine ⟨?_, by omega, fun i hi => ?_⟩
  · unfold apM wu
    rw [if_pos ⟨rfl, rfl, rfl⟩]
    rfl
  · have e : apM M L x 27 1 i = if i = L then x else M 27 1 i := by
      unfold apM
      rw [wu_ne (by omega)]
      unfold wu
      by_cases q : i = L
      · rw [if_pos ⟨rfl, rfl, q⟩, if_pos q]
      · rw [if_neg (fun z => q z.2.2), if_neg q]
    rw [e]
    split
    · omega
    · exact h3 i hi
def absI (v : Int) : Int := if v < 0 then -v else v
def sgc (v : Int) : Int := if v < 0 then 45 else 43
def ap3 (M : wM) (L : Nat) (v : Int) : wM := apM (apM (apM M L (sgc v)) (L + 1) (48 + (absI v).tdiv 10)) (L + 1 + 1) (48 + (absI v).tmod 10)
theorem tdn {a b : Int} (ha : 0 ≤ a) (hb : 0 < b) : 0 ≤ a.tdiv b ∧ a.tdiv b ≤ a := by
  have h1 := q_tdiv (a := a) (b := b) (by omega)
  have h2 := Int.tdiv_nonneg (a := a) (b := b) ha (by omega)
  omega
