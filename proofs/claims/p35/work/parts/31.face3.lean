def noteM (M : wM) (nx ct : Nat) : wM := wu (wu (wo M (5 + nx) (M 0)) 26 0 1 ((((nx + 1) % 14 : Nat)) : Int)) 26 0 2 (((min (ct + 1) 14 : Nat)) : Int)
theorem note_o {M : wM} {nx ct a : Nat} (h1 : a ≠ 5 + nx) (h2 : a ≠ 26) : noteM M nx ct a = M a := by
  unfold noteM
  rw [wu_o h2, wu_o h2]
  unfold wo
  rw [if_neg h1]
theorem COk.of {M M' : wM} {N P : Nat} {T : Int} (h : COk M N P T) (h19 : M' 19 = M 19) (h0 : M' 0 = M 0) : COk M' N P T := by
  unfold COk
  rw [h19, h0]
  exact h
theorem COk.note {M : wM} {N P nx ct : Nat} {T : Int} (h : COk M N P T) (hn : nx < 14) : COk (noteM M nx ct) N P T := h.of (note_o (by omega) (by omega)) (note_o (by omega) (by omega))
theorem Noted.of {M M1 : wM} {nx ct : Nat} (hn : nx < 14) (h : ∀ a, a ≠ 0 → a ≠ 1 → a ≠ 21 → a ≠ 22 → a ≠ 23 → a ≠ 24 → a ≠ 28 → M1 a = noteM M nx ct a) : Noted M M1 nx ct := by
  refine ⟨?_, ?_, ?_, fun a a0 a1 a2 a3 a4 a5 a6 a7 a8 => by rw [h a a0 a3 a4 a5 a6 a7 a8]; exact note_o a2 a1⟩
  · rw [h (5 + nx) (by omega) (by omega) (by omega) (by omega) (by omega) (by omega) (by omega)]
    unfold noteM
    rw [wu_o (by omega), wu_o (by omega)]
    unfold wo
    rw [if_pos rfl]
  · rw [h 26 (by omega) (by omega) (by omega) (by omega) (by omega) (by omega) (by omega)]
    unfold noteM wu
    rw [if_neg (by omega), if_pos ⟨rfl, rfl, rfl⟩]
  · rw [h 26 (by omega) (by omega) (by omega) (by omega) (by omega) (by omega) (by omega)]
    unfold noteM wu
    rw [if_pos ⟨rfl, rfl, rfl⟩]
/-- one number of a view set -/
def setV (v : Nat → Nat → Int) (j i : Nat) (x : Int) : Nat → Nat → Int := fun b => if b = j then up1 (v j) i x else v b
theorem wu_V {M : wM} {o j i : Nat} {x : Int} : wu M o j i x o = setV (M o) j i x := by
  funext b a
  unfold wu setV up1
  by_cases c : b = j
  · subst c
    by_cases d : a = i
    · simp [d]
    · simp [d]
  · simp [c]
/-- a reading made -/
def obsY (N : Nat) (pv v : Nat → Nat → Int) (K : Nat) : Nat → Int := up1 (v 10) K ((dot N (pv (9 + K)) (v 1)).fdiv (pv 12 K))
def obsA (v : Nat → Nat → Int) (K : Nat) : Nat → Int := up1 (v 11) K 0
def obsV (N P : Nat) (pv v : Nat → Nat → Int) (K : Nat) : Nat → Nat → Int := fun b => if b = 3 then (tight N P pv (obsY N pv v K) (obsA v K) 100 (v 2) (v 3)).2.2 else if b = 2 then (tight N P pv (obsY N pv v K) (obsA v K) 100 (v 2) (v 3)).2.1 else if b = 11 then obsA v K else if b = 10 then obsY N pv v K else v b
theorem setLH_V {M : wM} {o : Nat} {y a lo hi : Nat → Int} : setLH (wr (wr M o 10 y) o 11 a) o lo hi o = fun b => if b = 3 then hi else if b = 2 then lo else if b = 11 then a else if b = 10 then y else M o b := by
  funext b
  unfold setLH wr
  by_cases c3 : b = 3
  · simp [c3]
  · by_cases c2 : b = 2
    · simp [c2]
    · by_cases c11 : b = 11
      · simp [c11]
      · by_cases c10 : b = 10
        · simp [c10]
        · simp [c3, c2, c11, c10]
theorem setLH_o {M : wM} {o a : Nat} {lo hi : Nat → Int} (h : a ≠ o) : setLH M o lo hi a = M a := funext fun _ => setLH_ne (fun q => h q.1)
