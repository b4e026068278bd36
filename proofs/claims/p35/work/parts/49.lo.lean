/-! ONE OBSERVER as the law finds it -/
theorem ScrEq.trans {M M1 M2 : wM} (h : ScrEq M M1) (h' : ScrEq M1 M2) : ScrEq M M2 := fun a a1 a2 a3 a4 a5 a6 => (h' a a1 a2 a3 a4 a5 a6).trans (h a a1 a2 a3 a4 a5 a6)
theorem ScrEq.z0 {M M1 : wM} (h : ScrEq M M1) : M1 0 = M 0 := h 0 (by decide) (by decide) (by decide) (by decide) (by decide) (by decide)
theorem ScrEq.z19 {M M1 : wM} (h : ScrEq M M1) : M1 19 = M 19 := h 19 (by decide) (by decide) (by decide) (by decide) (by decide) (by decide)
/-- its numbers as they may be, the true values within, the diary's and the text's counts -/
def Lo (N P L nx ct : Nat) (T : Int) (M : wM) : Prop := COk M N P T ∧ TrOk (M 0) N P (M 19) ∧ (0 ≤ T ∧ T ≤ 1000) ∧ M 26 0 1 = (nx : Int) ∧ nx < 14 ∧ M 26 0 2 = (ct : Int) ∧ ct ≤ 14 ∧ TxB (M 27) L ∧ ∀ x, x < 2 → M 25 2 x = 0 ∨ M 25 2 x = 1
section LO
variable {N P L nx ct : Nat} {T : Int} {M M1 : wM}
theorem Lo.ck (h : Lo N P L nx ct T M) : COk M N P T := h.1
theorem Lo.tr (h : Lo N P L nx ct T M) : TrOk (M 0) N P (M 19) := h.2.1
theorem Lo.t (h : Lo N P L nx ct T M) : 0 ≤ T ∧ T ≤ 1000 := h.2.2.1
theorem Lo.nxe (h : Lo N P L nx ct T M) : M 26 0 1 = (nx : Int) := h.2.2.2.1
theorem Lo.nx14 (h : Lo N P L nx ct T M) : nx < 14 := h.2.2.2.2.1
theorem Lo.cte (h : Lo N P L nx ct T M) : M 26 0 2 = (ct : Int) := h.2.2.2.2.2.1
theorem Lo.ct14 (h : Lo N P L nx ct T M) : ct ≤ 14 := h.2.2.2.2.2.2.1
theorem Lo.tx (h : Lo N P L nx ct T M) : TxB (M 27) L := h.2.2.2.2.2.2.2.1
theorem Lo.sl (h : Lo N P L nx ct T M) : ∀ x, x < 2 → M 25 2 x = 0 ∨ M 25 2 x = 1 := h.2.2.2.2.2.2.2.2
theorem Lo.scr (h : Lo N P L nx ct T M) (s : ScrEq M M1) : Lo N P L nx ct T M1 := by
  have e : ∀ a, (a = 0 ∨ a = 19 ∨ a = 25 ∨ a = 26 ∨ a = 27) → M1 a = M a := fun a ha => s a (by omega) (by omega) (by omega) (by omega) (by omega) (by omega)
  unfold Lo COk
  rw [e 0 (by omega), e 19 (by omega), e 25 (by omega), e 26 (by omega), e 27 (by omega)]
  exact h
theorem Lo.box (h : Lo N P L nx ct T M) {i : Nat} (hi : i < N) : -1000000 ≤ M 0 2 i ∧ M 0 2 i ≤ M 0 3 i ∧ M 0 3 i ≤ 1000000 := h.1.2.2 i hi
theorem Lo.in (h : Lo N P L nx ct T M) {i : Nat} (hi : i < N) : M 0 2 i ≤ M 0 1 i ∧ M 0 1 i ≤ M 0 3 i := h.2.1.1 i hi
theorem Lo.n (h : Lo N P L nx ct T M) : 1 ≤ N ∧ N ≤ 4 ∧ 1 ≤ P ∧ P ≤ 3 := by
  obtain ⟨-, h1, h2, -, h3, h4, -⟩ := h.1.1
  exact ⟨h1, h2, h3, h4⟩
theorem Lo.bo (h : Lo N P L nx ct T M) : (0 ≤ M 0 0 7 ∧ M 0 0 7 ≤ 9) ∧ (0 ≤ M 0 0 8 ∧ M 0 0 8 ≤ 99) ∧ 0 ≤ M 0 0 9 ∧ M 0 0 9 ≤ T := by
  obtain ⟨-, -, -, -, -, -, -, h7, h8, h9, -⟩ := h.1.2.1
  exact ⟨h7, h8, h9⟩
end LO
theorem row4_a {r : Nat → Int} {a b c d : Int} : row4 r a b c d 0 = a := by unfold row4 up1; simp
theorem row4_b {r : Nat → Int} {a b c d : Int} : row4 r a b c d 1 = b := by unfold row4 up1; simp
theorem row4_c {r : Nat → Int} {a b c d : Int} : row4 r a b c d 2 = c := by unfold row4 up1; simp
theorem row4_d {r : Nat → Int} {a b c d : Int} : row4 r a b c d 3 = d := by unfold row4 up1; simp
