/-! BOTH SYSTEMS SIDE BY SIDE: what the observer's cells and the reference's rows have in common -/
/-- one moment of both -/
def MR (N P : Nat) (pv w : Nat → Nat → Int) (r : Nat → Int) (T : Int) : Prop := MoOk w N P T ∧ BoxOk N (w 2) (w 3) ∧ TrOk w N P pv ∧ REq N P w r
theorem MR.mono {N P : Nat} {pv w : Nat → Nat → Int} {r : Nat → Int} {T T' : Int} (h : MR N P pv w r T) (hT : T ≤ T') : MR N P pv w r T' := ⟨h.1.mono hT, h.2⟩
theorem MR.row {N P : Nat} {pv w : Nat → Nat → Int} {r r' : Nat → Int} {T : Int} (hN : N ≤ 4) (hP : P ≤ 3) (h : MR N P pv w r T) (e : ∀ x, x < 48 → r' x = r x) : MR N P pv w r' T := ⟨h.1, h.2.1, h.2.2.1, h.2.2.2.keep hN hP e⟩
/-- the text's first moment: what a load doesn't read -/
def FM (v : Nat → Nat → Int) : Prop := (∀ i, i < 4 → v 1 i = 0 ∧ v 2 i = -1000 ∧ v 3 i = 1000 ∧ v 4 i = 0 ∧ v 12 i = 0 ∧ v 13 i = 0) ∧ (∀ k, k < 3 → v 10 k = 0 ∧ v 11 k = -1) ∧ v 0 9 = 0 ∧ v 0 10 = 0 ∧ v 0 11 = 0
/-- the kept slots -/
def SlR (N P : Nat) (T : Int) (M : wM) (s : Nat) : Prop := (M 25 2 s = 0 ∨ M 25 2 s = 1) ∧ M 29 18 s = M 25 2 s ∧ (M 25 2 s = 1 → MR N P (M 19) (M (3 + s)) (fun x => M 29 17 (48 * s + x)) T)
def LRx (N P L nx ct : Nat) (T : Int) (M : wM) : Prop :=
  PlOk (M 19) N P ∧ PEq N P (M 19) (M 29) ∧ ZCo N P (M 29) ∧ MR N P (M 19) (M 0) (M 29 13) T ∧ TxB (M 27) L ∧ M 29 0 2 = (L : Int) ∧ M 29 1 = M 27 1 ∧
  M 26 0 1 = (nx : Int) ∧ nx < 14 ∧ M 26 0 2 = (ct : Int) ∧ M 29 0 24 = (ct : Int) ∧ ct ≤ 14 ∧
  (∀ t, t < ct → MR N P (M 19) (M (5 + (nx + 13 - t) % 14)) (fun x => M 29 16 (48 * (ct - 1 - t) + x)) T) ∧ (∀ s, s < 2 → SlR N P T M s) ∧ FM (M 2)
def LR (T : Int) (M : wM) : Prop := ∃ N P L nx ct : Nat, LRx N P L nx ct T M
/-- the rows of the reference that a question keeps -/
def K29 (b x : Nat) : Prop := (b = 0 ∧ (x = 2 ∨ x = 5 ∨ x = 6 ∨ x = 24)) ∨ (1 ≤ b ∧ b ≤ 6) ∨ b = 13 ∨ b = 16 ∨ b = 17 ∨ b = 18
theorem LRx.keep {N P L nx ct : Nat} {T : Int} {M M' : wM} (h : LRx N P L nx ct T M) (e : ∀ a, a = 0 ∨ (3 ≤ a ∧ a ≤ 19) ∨ a = 25 ∨ a = 26 → M' a = M a) (e27 : M' 27 0 1 = M 27 0 1 ∧ M' 27 1 = M 27 1) (eF : FM (M' 2)) (e29 : ∀ b x, K29 b x → M' 29 b x = M 29 b x) : LRx N P L nx ct T M' := by
  obtain ⟨c1, c2, c3, c4, c5, c6, c7, c8, c9, c10, c11, c12, c13, c14, c15⟩ := h
  have hN : N ≤ 4 := c1.2.2.1
  have hP : P ≤ 3 := c1.2.2.2.2.2.1
  have e19 := e 19 (by omega)
  refine ⟨by rw [e19]; exact c1, ?_, ?_, ?_, ?_, ?_, ?_, by rw [e 26 (by omega)]; exact c8, c9, by rw [e 26 (by omega)]; exact c10, ?_, c12, fun t ht => ?_, fun s hs => ?_, eF⟩
  · rw [e19]
    exact c2.keep fun b x q => e29 b x (by unfold K29; omega)
  · exact c3.keep fun b x q => e29 b x (by unfold K29; omega)
  · rw [e19, e 0 (by omega)]
    exact c4.row hN hP fun x _ => e29 13 x (by unfold K29; omega)
  · exact ⟨by rw [e27.1]; exact c5.1, c5.2.1, by rw [e27.2]; exact c5.2.2⟩
  · rw [e29 0 2 (by unfold K29; omega)]; exact c6
  · rw [e27.2, ← c7]
    exact funext fun x => e29 1 x (by unfold K29; omega)
  · rw [e29 0 24 (by unfold K29; omega)]; exact c11
  · rw [e19, e (5 + (nx + 13 - t) % 14) (by omega)]
    exact (c13 t ht).row hN hP fun x _ => e29 16 _ (by unfold K29; omega)
  · obtain ⟨d1, d2, d3⟩ := c14 s hs
    refine ⟨by rw [e 25 (by omega)]; exact d1, by rw [e 25 (by omega), e29 18 s (by unfold K29; omega)]; exact d2, fun q => ?_⟩
    rw [e 25 (by omega)] at q
    rw [e19, e (3 + s) (by omega)]
    exact (d3 q).row hN hP fun x _ => e29 17 _ (by unfold K29; omega)
theorem SlR.mono {N P s : Nat} {T T' : Int} {M : wM} (h : SlR N P T M s) (hT : T ≤ T') : SlR N P T' M s := ⟨h.1, h.2.1, fun q => (h.2.2 q).mono hT⟩
theorem LRx.mono {N P L nx ct : Nat} {T T' : Int} {M : wM} (h : LRx N P L nx ct T M) (hT : T ≤ T') : LRx N P L nx ct T' M := by
  obtain ⟨c1, c2, c3, c4, c5, c6, c7, c8, c9, c10, c11, c12, c13, c14, c15⟩ := h
  exact ⟨c1, c2, c3, c4.mono hT, c5, c6, c7, c8, c9, c10, c11, c12, fun t ht => (c13 t ht).mono hT, fun s hs => (c14 s hs).mono hT, c15⟩
/-- after the observer's part of a question: its scratch and the law's row apart, all as before -/
def QA (M M3 : wM) : Prop := ∀ a, a ≠ 1 → a ≠ 21 → a ≠ 22 → a ≠ 23 → a ≠ 24 → a ≠ 28 → a ≠ 30 → M3 a = M a
theorem QA.of {M Mz : wM} {v : Int} (h : ScrEq M Mz) : QA M (wu Mz 30 0 0 v) := fun a h1 h2 h3 h4 h5 h6 h7 => funext fun b => by rw [wu_ne (by omega), h a h1 h2 h3 h4 h5 h6]
theorem QA.eq {M : wM} {v : Int} : QA M (wu M 30 0 0 v) := QA.of fun _ _ _ _ _ _ _ => rfl
theorem QA.sc {M M3 : wM} (h : ScrEq M M3) : QA M M3 := fun a h1 h2 h3 h4 h5 h6 _ => h a h1 h2 h3 h4 h5 h6
theorem QA.r {M M3 : wM} (h : QA M M3) : M3 29 = M 29 := h 29 (by decide) (by decide) (by decide) (by decide) (by decide) (by decide) (by decide)
theorem LRx.q {N P L nx ct : Nat} {T : Int} {M M3 M4 : wM} (h : LRx N P L nx ct T M) (h3 : QA M M3) (h4 : RScr M3 M4) : LR (T + 1) M4 := by
  have e4 : ∀ a, a ≠ 29 → M4 a = M3 a := fun a q => funext fun b => funext fun x => h4 a b x (fun z => absurd z q)
  have e : ∀ a, a ≠ 1 → a ≠ 21 → a ≠ 22 → a ≠ 23 → a ≠ 24 → a ≠ 28 → a ≠ 30 → a ≠ 29 → M4 a = M a := fun a h1 h2 h5 h6 h7 h8 h9 h10 => by rw [e4 a h10, h3 a h1 h2 h5 h6 h7 h8 h9]
  refine ⟨N, P, L, nx, ct, (h.keep (M' := M4) (fun a q => e a (by omega) (by omega) (by omega) (by omega) (by omega) (by omega) (by omega) (by omega)) ⟨by rw [e 27] <;> decide, by rw [e 27] <;> decide⟩ ?_ fun b x q => ?_).mono (by omega)⟩
  · rw [e 2 (by omega) (by omega) (by omega) (by omega) (by omega) (by omega) (by omega) (by omega)]
    exact h.2.2.2.2.2.2.2.2.2.2.2.2.2.2
  · rw [h4 29 b x (fun _ => q), h3.r]
/-- an act was remembered by both -/
theorem LRx.noted {N P L nx ct : Nat} {T : Int} {M Mz M3 M4 : wM} {v : Int} (h : LRx N P L nx ct T M) (hn : Noted M Mz nx ct) (h3 : M3 = wu Mz 30 0 0 v) (h4 : RNoted M3 M4 ct) (hw : MR N P (M 19) (Mz 0) (M4 29 13) (T + 1)) : LR (T + 1) M4 := by
  obtain ⟨c1, c2, c3, c4, c5, c6, c7, c8, c9, c10, c11, c12, c13, c14, c15⟩ := h
  obtain ⟨n1, n2, n3, n4⟩ := hn
  obtain ⟨r1, r2, r3⟩ := h4
  have hN : N ≤ 4 := c1.2.2.1
  have hP : P ≤ 3 := c1.2.2.2.2.2.1
  have e3 : ∀ a, a ≠ 30 → M3 a = Mz a := fun a q => funext fun b => by rw [h3, wu_ne (by omega)]
  have e4 : ∀ a, a ≠ 29 → a ≠ 30 → M4 a = Mz a := fun a q q2 => by
    rw [← e3 a q2]
    exact funext fun b => funext fun x => r3 a b x (fun z => absurd z q)
  have e : ∀ a, a ≠ 0 → a ≠ 26 → a ≠ 5 + nx → a ≠ 1 → a ≠ 21 → a ≠ 22 → a ≠ 23 → a ≠ 24 → a ≠ 28 → a ≠ 29 → a ≠ 30 → M4 a = M a := fun a q1 q2 q3 q4 q5 q6 q7 q8 q9 q10 q11 => by rw [e4 a q10 q11, n4 a q1 q2 q3 q4 q5 q6 q7 q8 q9]
  have z29 : M3 29 = M 29 := by rw [e3 29 (by decide)]; exact n4 29 (by decide) (by decide) (by omega) (by decide) (by decide) (by decide) (by decide) (by decide) (by decide)
  have k29 : ∀ b x, ((b = 0 ∧ (x = 2 ∨ x = 5 ∨ x = 6)) ∨ (1 ≤ b ∧ b ≤ 6) ∨ b = 17 ∨ b = 18) → M4 29 b x = M 29 b x := fun b x q => by rw [r3 29 b x (fun _ => q), z29]
  have e19 : M4 19 = M 19 := e 19 (by omega) (by omega) (by omega) (by omega) (by omega) (by omega) (by omega) (by omega) (by omega) (by omega) (by omega)
  have e25 : M4 25 = M 25 := e 25 (by omega) (by omega) (by omega) (by omega) (by omega) (by omega) (by omega) (by omega) (by omega) (by omega) (by omega)
  have e27 : M4 27 = M 27 := e 27 (by omega) (by omega) (by omega) (by omega) (by omega) (by omega) (by omega) (by omega) (by omega) (by omega) (by omega)
  have e2 : M4 2 = M 2 := e 2 (by omega) (by omega) (by omega) (by omega) (by omega) (by omega) (by omega) (by omega) (by omega) (by omega) (by omega)
  have e26 : M4 26 = Mz 26 := e4 26 (by omega) (by omega)
  refine ⟨N, P, L, (nx + 1) % 14, min (ct + 1) 14, by rw [e19]; exact c1, ?_, ?_, ?_, by rw [e27]; exact c5, ?_, ?_, by rw [e26]; exact n2, by omega, by rw [e26]; exact n3, r1, by omega, fun t ht => ?_, fun s hs => ?_, by rw [e2]; exact c15⟩
  · rw [e19]
    exact c2.keep fun b x q => k29 b x (by omega)
  · exact c3.keep fun b x q => k29 b x (by omega)
  · rw [e19, e4 0 (by decide) (by decide)]
    exact hw
  · rw [k29 0 2 (by omega)]; exact c6
  · rw [e27, ← c7]
    exact funext fun x => k29 1 x (by omega)
  · rw [e19]
    by_cases t0 : t = 0
    · have e5 : M4 (5 + ((nx + 1) % 14 + 13 - t) % 14) = M 0 := by
        rw [show 5 + ((nx + 1) % 14 + 13 - t) % 14 = 5 + nx by omega, e4 (5 + nx) (by omega) (by omega), n1]
      rw [e5]
      exact (c4.row hN hP fun x hx => by rw [r2 t x ht hx, if_pos t0, z29]).mono (by omega)
    · have e5 : M4 (5 + ((nx + 1) % 14 + 13 - t) % 14) = M (5 + (nx + 13 - (t - 1)) % 14) := by
        rw [show 5 + ((nx + 1) % 14 + 13 - t) % 14 = 5 + (nx + 13 - (t - 1)) % 14 by omega]
        exact e _ (by omega) (by omega) (by omega) (by omega) (by omega) (by omega) (by omega) (by omega) (by omega) (by omega) (by omega)
      rw [e5]
      exact ((c13 (t - 1) (by omega)).row hN hP fun x hx => by rw [r2 t x ht hx, if_neg t0, z29]).mono (by omega)
  · obtain ⟨d1, d2, d3⟩ := c14 s hs
    refine ⟨by rw [e25]; exact d1, by rw [e25, k29 18 s (by omega)]; exact d2, fun q => ?_⟩
    rw [e25] at q
    have e5 : M4 (3 + s) = M (3 + s) := e _ (by omega) (by omega) (by omega) (by omega) (by omega) (by omega) (by omega) (by omega) (by omega) (by omega) (by omega)
    rw [e19, e5]
    exact ((d3 q).row hN hP fun x _ => k29 17 _ (by omega)).mono (by omega)
/-- what the law asks of an answer: the code, the number -/
def AG (T : Int) (z b : Int) (M4 : wM) : Prop := M4 29 0 0 = z ∧ (z = 0 → M4 30 0 0 = b) ∧ LR (T + 1) M4
theorem RScr.out {M3 M4 : wM} (h : RScr M3 M4) : M4 30 0 0 = M3 30 0 0 := h 30 0 0 (by omega)
theorem RNoted.out {M3 M4 : wM} {ct : Nat} (h : RNoted M3 M4 ct) : M4 30 0 0 = M3 30 0 0 := h.2.2 30 0 0 (by omega)
theorem wu_out {M : wM} {v : Int} : wu M 30 0 0 v 30 0 0 = v := by unfold wu; rw [if_pos ⟨rfl, rfl, rfl⟩]
