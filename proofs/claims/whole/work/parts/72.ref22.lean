/-! THE REFERENCE: more words -/
/-- bounds after t steps, of the row -/
theorem itv_bd {N P : Nat} {pv : Nat → Nat → Int} {u B : Int} {lo hi : Nat → Int} (hp : PlOk pv N P) (hb : BoxOk N lo hi) (hB : 0 ≤ B) : ∀ t, BoxOk N (itv N pv u B lo hi t).1 (itv N pv u B lo hi t).2
  | 0 => hb
  | t + 1 => fun i hi0 => step_box (fun j hj => by have := itv_bd (u := u) hp hb hB t j hj; omega) hB i
theorem up1_eq {f : Nat → Int} {j : Nat} {v : Int} : up1 f j v j = v := if_pos rfl
theorem up1_ne {f : Nat → Int} {j i : Nat} {v : Int} (h : i ≠ j) : up1 f j v i = f i := if_neg h
theorem RNoted.r0 {M M1 : wM} {ct : Nat} (h : RNoted M M1 ct) {a : Nat} (ha : a ≠ 29) : M1 a = M a := by
  funext b x
  exact h.2.2 a b x (fun q => absurd q ha)
