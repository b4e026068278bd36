/-! what each call leaves of the reference -/
theorem pr_append {N P L nx ct : Nat} {T c0 zc : Int} {M M3 : wM} (hnx14 : nx < 14) (hP : (zc = 0 ∧ ∃ (vv : Int) (Mz : wM), ((0 ≤ c0 ∧ c0 ≤ 255) ∧ L < 200 ∧ vv = L + 1 ∧ Mz = wu (wu M 27 1 L c0) 27 0 1 ((L : Int) + 1)) ∧ M3 = wu Mz 30 0 0 (iw vv)) ∨ (zc = 1 ∧ (¬ (0 ≤ c0 ∧ c0 ≤ 255)) ∧ ScrEq M M3) ∨ (zc = 2 ∧ ((0 ≤ c0 ∧ c0 ≤ 255) ∧ ¬ L < 200) ∧ ScrEq M M3)) : M3 29 = M 29 ∧ (0 ≤ zc ∧ zc ≤ 3) := by
  rcases hP with ⟨rfl, vv, Mz, p, rfl⟩ | ⟨rfl, p, sc⟩ | ⟨rfl, p, sc⟩
  · refine ⟨?_, by decide⟩
    rw [wu2 (by decide), p.2.2.2, wu2 (by decide), wu2 (by decide)]
  · exact ⟨(QA.sc sc).r, by decide⟩
  · exact ⟨(QA.sc sc).r, by decide⟩
theorem pr_clearText {N P L : Nat} {zc : Int} {M M3 : wM} (hP : zc = L ∧ M3 = wu M 27 0 1 0) : M3 29 = M 29 := by rw [hP.2, wu2 (by decide)]
theorem pr_errorPosition {N P L : Nat} {zc : Int} {M M3 : wM} (hP : zc = (if (rdE (M 27 1) L).1.2 = 0 then -9 else ((rdE (M 27 1) L).1.1 : Int)) ∧ TxOk (M3 27) L (rdE (M 27 1) L).1 ∧ (∀ a, a ≠ 2 → a ≠ 20 → a ≠ 27 → M3 a = M a) ∧ M3 27 1 = M 27 1 ∧ (∀ b x, ¬ (b = 0 ∧ (x = 7 ∨ x = 8)) → ¬ (6 ≤ b ∧ b < 10) → M3 2 b x = M 2 b x)) : M3 29 = M 29 := by exact hP.2.2.1 29 (by decide) (by decide) (by decide)
theorem pr_load {N P L nx ct : Nat} {T  zc : Int} {M M3 : wM} (hnx14 : nx < 14) (hP : (zc = 0 ∧ ∃ (vv : Int) (Mz : wM), ((rdE (M 27 1) L).1.2 = 0 ∧ vv = (rdN (M 27 1) L : Int) ∧ ∃ M2 : wM, (TxOk (M2 27) L (rdE (M 27 1) L).1 ∧ (∀ a, a ≠ 2 → a ≠ 20 → a ≠ 27 → M2 a = M a) ∧ M2 27 1 = M 27 1 ∧ (∀ b x, ¬ (b = 0 ∧ (x = 7 ∨ x = 8)) → ¬ (6 ≤ b ∧ b < 10) → M2 2 b x = M 2 b x) ∧ TxF M M2 L (rdN (M 27 1) L) (rdP (M 27 1) L) ((hdB (M 27 1) L (0, 0)).1) ((hdH (M 27 1) L (0, 0)).1) (rdS (M 27 1) L) (rdN (M 27 1) L) (rdP (M 27 1) L) ∧ ∀ x y, x < 4 → y < 3 → M2 2 (6 + x) y = (rdE (M 27 1) L).2 x y) ∧ Mz 0 = M2 2 ∧ Mz 19 = M2 20 ∧ Mz 26 0 2 = 0 ∧ Mz 25 2 0 = 0 ∧ Mz 25 2 1 = 0 ∧ (Mz 26 0 1 = M 26 0 1) ∧ ∀ a, a ≠ 0 → a ≠ 19 → a ≠ 25 → a ≠ 26 → Mz a = M2 a) ∧ M3 = wu Mz 30 0 0 (iw vv)) ∨ (zc = 1 ∧ (¬ (rdE (M 27 1) L).1.2 = 0 ∧ TxOk (M3 27) L (rdE (M 27 1) L).1 ∧ (∀ a, a ≠ 2 → a ≠ 20 → a ≠ 27 → M3 a = M a) ∧ M3 27 1 = M 27 1 ∧ (∀ b x, ¬ (b = 0 ∧ (x = 7 ∨ x = 8)) → ¬ (6 ≤ b ∧ b < 10) → M3 2 b x = M 2 b x)))) : M3 29 = M 29 ∧ (0 ≤ zc ∧ zc ≤ 3) := by
  rcases hP with ⟨rfl, vv, Mz, p, rfl⟩ | ⟨rfl, p, sc⟩
  · refine ⟨?_, by decide⟩
    obtain ⟨-, -, M2, ⟨-, a2, -⟩, -, -, -, -, -, -, p9⟩ := p
    rw [wu2 (by decide), p9 29 (by decide) (by decide) (by decide) (by decide), a2 29 (by decide) (by decide) (by decide)]
  · exact ⟨sc.2.1 29 (by decide) (by decide) (by decide), by decide⟩
theorem pr_about {N P L nx ct : Nat} {T w zc : Int} {M M3 : wM} (hnx14 : nx < 14) (hP : (zc = 0 ∧ ∃ (vv : Int) (Mz : wM), ((0 ≤ w ∧ w ≤ 4) ∧ vv = aboutF N P (M 0) w ∧ Mz = M) ∧ M3 = wu Mz 30 0 0 (iw vv)) ∨ (zc = 1 ∧ (¬ (0 ≤ w ∧ w ≤ 4)) ∧ ScrEq M M3)) : M3 29 = M 29 ∧ (0 ≤ zc ∧ zc ≤ 3) := by
  rcases hP with ⟨rfl, vv, Mz, p, rfl⟩ | ⟨rfl, p, sc⟩
  · refine ⟨?_, by decide⟩
    rw [p.2.2]; exact QA.eq.r
  · exact ⟨(QA.sc sc).r, by decide⟩
theorem pr_coefficient {N P L nx ct : Nat} {T w i j zc : Int} {M M3 : wM} (hnx14 : nx < 14) (hP : (zc = 0 ∧ ∃ (vv : Int) (Mz : wM), ((0 ≤ w ∧ w ≤ 5) ∧ (0 ≤ i ∧ i < (if w = 3 ∨ w = 4 then (P : Int) else N)) ∧ (0 ≤ j ∧ j < colsF N P w) ∧ vv = coefF (M 19) (M 0) w i.toNat j.toNat ∧ Mz = M) ∧ M3 = wu Mz 30 0 0 (iw vv)) ∨ (zc = 2 ∧ (¬ (0 ≤ w ∧ w ≤ 5)) ∧ ScrEq M M3) ∨ (zc = 1 ∧ ((0 ≤ w ∧ w ≤ 5) ∧ ¬ ((0 ≤ i ∧ i < (if w = 3 ∨ w = 4 then (P : Int) else N)) ∧ (0 ≤ j ∧ j < colsF N P w))) ∧ ScrEq M M3)) : M3 29 = M 29 ∧ (0 ≤ zc ∧ zc ≤ 3) := by
  rcases hP with ⟨rfl, vv, Mz, p, rfl⟩ | ⟨rfl, p, sc⟩ | ⟨rfl, p, sc⟩
  · refine ⟨?_, by decide⟩
    rw [p.2.2.2.2]; exact QA.eq.r
  · exact ⟨(QA.sc sc).r, by decide⟩
  · exact ⟨(QA.sc sc).r, by decide⟩
theorem pr_state {N P L nx ct : Nat} {T i w zc : Int} {M M3 : wM} (hnx14 : nx < 14) (hP : (zc = 0 ∧ ∃ (vv : Int) (Mz : wM), ((0 ≤ i ∧ i < N) ∧ (0 ≤ w ∧ w ≤ 4) ∧ vv = stateF (M 0) i.toNat w ∧ Mz = M) ∧ M3 = wu Mz 30 0 0 (iw vv)) ∨ (zc = 1 ∧ (¬ (0 ≤ i ∧ i < N)) ∧ ScrEq M M3) ∨ (zc = 2 ∧ ((0 ≤ i ∧ i < N) ∧ ¬ (0 ≤ w ∧ w ≤ 4)) ∧ ScrEq M M3)) : M3 29 = M 29 ∧ (0 ≤ zc ∧ zc ≤ 3) := by
  rcases hP with ⟨rfl, vv, Mz, p, rfl⟩ | ⟨rfl, p, sc⟩ | ⟨rfl, p, sc⟩
  · refine ⟨?_, by decide⟩
    rw [p.2.2.2]; exact QA.eq.r
  · exact ⟨(QA.sc sc).r, by decide⟩
  · exact ⟨(QA.sc sc).r, by decide⟩
theorem pr_output {N P L nx ct : Nat} {T i w zc : Int} {M M3 : wM} (hnx14 : nx < 14) (hP : (zc = 0 ∧ ∃ (vv : Int) (Mz : wM), ((0 ≤ i ∧ i < P) ∧ (0 ≤ w ∧ w ≤ 3) ∧ ¬ (w ≤ 1 ∧ M 0 11 i.toNat = -1) ∧ vv = outF N (M 19) (M 0) i.toNat w ∧ Mz = M) ∧ M3 = wu Mz 30 0 0 (iw vv)) ∨ (zc = 1 ∧ (¬ (0 ≤ i ∧ i < P)) ∧ ScrEq M M3) ∨ (zc = 2 ∧ ((0 ≤ i ∧ i < P) ∧ ¬ (0 ≤ w ∧ w ≤ 3)) ∧ ScrEq M M3) ∨ (zc = 3 ∧ ((0 ≤ i ∧ i < P) ∧ (0 ≤ w ∧ w ≤ 3) ∧ (w ≤ 1 ∧ M 0 11 i.toNat = -1)) ∧ ScrEq M M3)) : M3 29 = M 29 ∧ (0 ≤ zc ∧ zc ≤ 3) := by
  rcases hP with ⟨rfl, vv, Mz, p, rfl⟩ | ⟨rfl, p, sc⟩ | ⟨rfl, p, sc⟩ | ⟨rfl, p, sc⟩
  · refine ⟨?_, by decide⟩
    rw [p.2.2.2.2]; exact QA.eq.r
  · exact ⟨(QA.sc sc).r, by decide⟩
  · exact ⟨(QA.sc sc).r, by decide⟩
  · exact ⟨(QA.sc sc).r, by decide⟩
theorem pr_width {N P L : Nat} {zc : Int} {M M3 : wM} (hP : zc = wid N (M 0 2) (M 0 3) ∧ M3 = M) : M3 29 = M 29 := by rw [hP.2]
theorem pr_place {N P L nx ct : Nat} {T i v zc : Int} {M M3 : wM} (hnx14 : nx < 14) (hP : (zc = 0 ∧ ∃ (vv : Int) (Mz : wM), ((0 ≤ i ∧ i < N) ∧ ((M 0 2 i.toNat ≤ v ∧ v ≤ M 0 3 i.toNat) ∧ meets N P (M 19) (up1 (M 0 1) i.toNat v) (M 0 10) (M 0 11)) ∧ Mz 0 = setV (M 0) 1 i.toNat v ∧ vv = M 0 1 i.toNat ∧ Noted M Mz nx ct) ∧ M3 = wu Mz 30 0 0 (iw vv)) ∨ (zc = 1 ∧ (¬ (0 ≤ i ∧ i < N)) ∧ ScrEq M M3) ∨ (zc = 2 ∧ ((0 ≤ i ∧ i < N) ∧ ¬ ((M 0 2 i.toNat ≤ v ∧ v ≤ M 0 3 i.toNat) ∧ meets N P (M 19) (up1 (M 0 1) i.toNat v) (M 0 10) (M 0 11))) ∧ ScrEq M M3)) : M3 29 = M 29 ∧ (0 ≤ zc ∧ zc ≤ 3) := by
  rcases hP with ⟨rfl, vv, Mz, p, rfl⟩ | ⟨rfl, p, sc⟩ | ⟨rfl, p, sc⟩
  · refine ⟨?_, by decide⟩
    rw [wu2 (by decide)]; exact p.2.2.2.2.2.2.2 29 (by decide) (by decide) (by omega) (by decide) (by decide) (by decide) (by decide) (by decide) (by decide)
  · exact ⟨(QA.sc sc).r, by decide⟩
  · exact ⟨(QA.sc sc).r, by decide⟩
theorem pr_step {N P L nx ct : Nat} {T u d zc : Int} {M M3 : wM} (hnx14 : nx < 14) (hP : (zc = 0 ∧ ∃ (vv : Int) (Mz : wM), (((-99 ≤ u ∧ u ≤ 99) ∧ -(M 0 0 8) ≤ d ∧ d ≤ M 0 0 8) ∧ StepV N P (M 19) (M 0) (Mz 0) u d ∧ vv = M 0 0 9 + 1 ∧ Noted M Mz nx ct) ∧ M3 = wu Mz 30 0 0 (iw vv)) ∨ (zc = 1 ∧ (¬ ((-99 ≤ u ∧ u ≤ 99) ∧ -(M 0 0 8) ≤ d ∧ d ≤ M 0 0 8)) ∧ ScrEq M M3)) : M3 29 = M 29 ∧ (0 ≤ zc ∧ zc ≤ 3) := by
  rcases hP with ⟨rfl, vv, Mz, p, rfl⟩ | ⟨rfl, p, sc⟩
  · refine ⟨?_, by decide⟩
    rw [wu2 (by decide)]; exact p.2.2.2.2.2.2 29 (by decide) (by decide) (by omega) (by decide) (by decide) (by decide) (by decide) (by decide) (by decide)
  · exact ⟨(QA.sc sc).r, by decide⟩
theorem pr_read {N P L nx ct : Nat} {T i zc : Int} {M M3 : wM} (hnx14 : nx < 14) (hP : (zc = 0 ∧ ∃ (vv : Int) (Mz : wM), ((0 ≤ i ∧ i < P) ∧ Mz 0 = (obsV N P (M 19) (M 0) i.toNat) ∧ vv = obsY N (M 19) (M 0) i.toNat i.toNat ∧ Noted M Mz nx ct) ∧ M3 = wu Mz 30 0 0 (iw vv)) ∨ (zc = 1 ∧ (¬ (0 ≤ i ∧ i < P)) ∧ ScrEq M M3)) : M3 29 = M 29 ∧ (0 ≤ zc ∧ zc ≤ 3) := by
  rcases hP with ⟨rfl, vv, Mz, p, rfl⟩ | ⟨rfl, p, sc⟩
  · refine ⟨?_, by decide⟩
    rw [wu2 (by decide)]; exact p.2.2.2.2.2.2 29 (by decide) (by decide) (by omega) (by decide) (by decide) (by decide) (by decide) (by decide) (by decide)
  · exact ⟨(QA.sc sc).r, by decide⟩
theorem pr_shave {N P L nx ct : Nat} {T i n zc : Int} {M M3 : wM} (hnx14 : nx < 14) (hP : (zc = 0 ∧ ∃ (vv : Int) (Mz : wM), (((0 ≤ i ∧ i < N) ∧ 1 ≤ n ∧ n ≤ 100) ∧ vv = (((shv N P (M 19) i.toNat 2 1 n.toNat (M 0)).1 : Int) + ((shv N P (M 19) i.toNat 3 (-1) n.toNat (shv N P (M 19) i.toNat 2 1 n.toNat (M 0)).2).1 : Int)) ∧ Mz 0 = (shv N P (M 19) i.toNat 3 (-1) n.toNat (shv N P (M 19) i.toNat 2 1 n.toNat (M 0)).2).2 ∧ MoOk (Mz 0) N P T ∧ BoxOk N (Mz 0 2) (Mz 0 3) ∧ TrOk (Mz 0) N P (M 19) ∧ Noted M Mz nx ct) ∧ M3 = wu Mz 30 0 0 (iw vv)) ∨ (zc = 1 ∧ (¬ (0 ≤ i ∧ i < N)) ∧ ScrEq M M3) ∨ (zc = 2 ∧ ((0 ≤ i ∧ i < N) ∧ ¬ (1 ≤ n ∧ n ≤ 100)) ∧ ScrEq M M3)) : M3 29 = M 29 ∧ (0 ≤ zc ∧ zc ≤ 3) := by
  rcases hP with ⟨rfl, vv, Mz, p, rfl⟩ | ⟨rfl, p, sc⟩ | ⟨rfl, p, sc⟩
  · refine ⟨?_, by decide⟩
    rw [wu2 (by decide)]; exact p.2.2.2.2.2.2.2.2.2 29 (by decide) (by decide) (by omega) (by decide) (by decide) (by decide) (by decide) (by decide) (by decide)
  · exact ⟨(QA.sc sc).r, by decide⟩
  · exact ⟨(QA.sc sc).r, by decide⟩
theorem pr_setGain {N P L nx ct : Nat} {T i k v zc : Int} {M M3 : wM} (hnx14 : nx < 14) (hP : (zc = 0 ∧ ∃ (vv : Int) (Mz : wM), ((((0 ≤ i ∧ i < N) ∧ 0 ≤ k ∧ k < P) ∧ -99 ≤ v ∧ v ≤ 99) ∧ Mz 0 = setV (M 0) (6 + i.toNat) k.toNat v ∧ vv = M 0 (6 + i.toNat) k.toNat ∧ Noted M Mz nx ct) ∧ M3 = wu Mz 30 0 0 (iw vv)) ∨ (zc = 1 ∧ (¬ ((0 ≤ i ∧ i < N) ∧ 0 ≤ k ∧ k < P)) ∧ ScrEq M M3) ∨ (zc = 2 ∧ (((0 ≤ i ∧ i < N) ∧ 0 ≤ k ∧ k < P) ∧ ¬ (-99 ≤ v ∧ v ≤ 99)) ∧ ScrEq M M3)) : M3 29 = M 29 ∧ (0 ≤ zc ∧ zc ≤ 3) := by
  rcases hP with ⟨rfl, vv, Mz, p, rfl⟩ | ⟨rfl, p, sc⟩ | ⟨rfl, p, sc⟩
  · refine ⟨?_, by decide⟩
    rw [wu2 (by decide)]; exact p.2.2.2.2.2.2 29 (by decide) (by decide) (by omega) (by decide) (by decide) (by decide) (by decide) (by decide) (by decide)
  · exact ⟨(QA.sc sc).r, by decide⟩
  · exact ⟨(QA.sc sc).r, by decide⟩
theorem pr_setHold {N P L nx ct : Nat} {T v zc : Int} {M M3 : wM} (hnx14 : nx < 14) (hP : (zc = 0 ∧ ∃ (vv : Int) (Mz : wM), ((0 ≤ v ∧ v ≤ 9) ∧ Mz 0 = setV (M 0) 0 7 v ∧ vv = M 0 0 7 ∧ Noted M Mz nx ct) ∧ M3 = wu Mz 30 0 0 (iw vv)) ∨ (zc = 1 ∧ (¬ (0 ≤ v ∧ v ≤ 9)) ∧ ScrEq M M3)) : M3 29 = M 29 ∧ (0 ≤ zc ∧ zc ≤ 3) := by
  rcases hP with ⟨rfl, vv, Mz, p, rfl⟩ | ⟨rfl, p, sc⟩
  · refine ⟨?_, by decide⟩
    rw [wu2 (by decide)]; exact p.2.2.2.2.2.2 29 (by decide) (by decide) (by omega) (by decide) (by decide) (by decide) (by decide) (by decide) (by decide)
  · exact ⟨(QA.sc sc).r, by decide⟩
theorem pr_setBound {N P L nx ct : Nat} {T v zc : Int} {M M3 : wM} (hnx14 : nx < 14) (hP : (zc = 0 ∧ ∃ (vv : Int) (Mz : wM), ((0 ≤ v ∧ v ≤ 99) ∧ Mz 0 = setV (M 0) 0 8 v ∧ vv = M 0 0 8 ∧ Noted M Mz nx ct) ∧ M3 = wu Mz 30 0 0 (iw vv)) ∨ (zc = 1 ∧ (¬ (0 ≤ v ∧ v ≤ 99)) ∧ ScrEq M M3)) : M3 29 = M 29 ∧ (0 ≤ zc ∧ zc ≤ 3) := by
  rcases hP with ⟨rfl, vv, Mz, p, rfl⟩ | ⟨rfl, p, sc⟩
  · refine ⟨?_, by decide⟩
    rw [wu2 (by decide)]; exact p.2.2.2.2.2.2 29 (by decide) (by decide) (by omega) (by decide) (by decide) (by decide) (by decide) (by decide) (by decide)
  · exact ⟨(QA.sc sc).r, by decide⟩
theorem pr_undo {N P L nx ct : Nat} {T  zc : Int} {M M3 : wM} (hnx14 : nx < 14) (hP : (zc = 0 ∧ ∃ (vv : Int) (Mz : wM), (1 ≤ ct ∧ vv = (ct : Int) - 1 ∧ Mz 0 = M (5 + (nx + 13) % 14) ∧ Mz 26 0 1 = ((((nx + 13) % 14) : Nat) : Int) ∧ Mz 26 0 2 = (ct : Int) - 1 ∧ ∀ a, a ≠ 0 → a ≠ 26 → Mz a = M a) ∧ M3 = wu Mz 30 0 0 (iw vv)) ∨ (zc = 1 ∧ (ct = 0) ∧ ScrEq M M3)) : M3 29 = M 29 ∧ (0 ≤ zc ∧ zc ≤ 3) := by
  rcases hP with ⟨rfl, vv, Mz, p, rfl⟩ | ⟨rfl, p, sc⟩
  · refine ⟨?_, by decide⟩
    rw [wu2 (by decide)]; exact p.2.2.2.2.2 29 (by decide) (by decide)
  · exact ⟨(QA.sc sc).r, by decide⟩
theorem pr_canBe {N P L nx ct : Nat} {T a b c0 d zc : Int} {M M3 : wM} (hnx14 : nx < 14) (hP : (zc = 0 ∧ ∃ (vv : Int) (Mz : wM), ((∀ i, N ≤ i → i < 4 → (row4 (M 28 1) a b c0 d) i = 0) ∧ (vv = 0 ∨ vv = 1) ∧ (vv = 1 ↔ (∀ i, i < N → M 0 2 i ≤ (row4 (M 28 1) a b c0 d) i ∧ (row4 (M 28 1) a b c0 d) i ≤ M 0 3 i) ∧ meets N P (M 19) (row4 (M 28 1) a b c0 d) (M 0 10) (M 0 11)) ∧ ScrEq M Mz) ∧ M3 = wu Mz 30 0 0 vv) ∨ (zc = 1 ∧ (¬ ∀ i, N ≤ i → i < 4 → (row4 (M 28 1) a b c0 d) i = 0) ∧ ScrEq M M3)) : M3 29 = M 29 ∧ (0 ≤ zc ∧ zc ≤ 3) := by
  rcases hP with ⟨rfl, vv, Mz, p, rfl⟩ | ⟨rfl, p, sc⟩
  · refine ⟨?_, by decide⟩
    exact (QA.of p.2.2.2).r
  · exact ⟨(QA.sc sc).r, by decide⟩
theorem pr_widthIf {N P L nx ct : Nat} {T k y zc : Int} {M M3 : wM} (hnx14 : nx < 14) (hP : (zc = 0 ∧ ∃ (vv : Int) (Mz : wM), (((0 ≤ k ∧ k < P) ∧ -1000000 ≤ y ∧ y ≤ 1000000) ∧ vv = (if (tight N P (M 19) (up1 (M 0 10) k.toNat y) (up1 (M 0 11) k.toNat 0) 100 (M 0 2) (M 0 3)).1 = 2 then -9 else wid N (tight N P (M 19) (up1 (M 0 10) k.toNat y) (up1 (M 0 11) k.toNat 0) 100 (M 0 2) (M 0 3)).2.1 (tight N P (M 19) (up1 (M 0 10) k.toNat y) (up1 (M 0 11) k.toNat 0) 100 (M 0 2) (M 0 3)).2.2) ∧ ScrEq M Mz) ∧ M3 = wu Mz 30 0 0 (iw vv)) ∨ (zc = 1 ∧ (¬ (0 ≤ k ∧ k < P)) ∧ ScrEq M M3) ∨ (zc = 2 ∧ ((0 ≤ k ∧ k < P) ∧ ¬ (-1000000 ≤ y ∧ y ≤ 1000000)) ∧ ScrEq M M3)) : M3 29 = M 29 ∧ (0 ≤ zc ∧ zc ≤ 3) := by
  rcases hP with ⟨rfl, vv, Mz, p, rfl⟩ | ⟨rfl, p, sc⟩ | ⟨rfl, p, sc⟩
  · refine ⟨?_, by decide⟩
    exact (QA.of p.2.2).r
  · exact ⟨(QA.sc sc).r, by decide⟩
  · exact ⟨(QA.sc sc).r, by decide⟩
theorem pr_ahead {N P L nx ct : Nat} {T n u i b zc : Int} {M M3 : wM} (hnx14 : nx < 14) (hP : (zc = 0 ∧ ∃ (vv : Int) (Mz : wM), (((0 ≤ i ∧ i < N) ∧ (0 ≤ n ∧ n ≤ 60) ∧ -99 ≤ u ∧ u ≤ 99) ∧ vv = (if b = 1 then (itv N (M 19) u (M 0 0 8) (M 0 2) (M 0 3) n.toNat).2 i.toNat else (itv N (M 19) u (M 0 0 8) (M 0 2) (M 0 3) n.toNat).1 i.toNat) ∧ ScrEq M Mz) ∧ M3 = wu Mz 30 0 0 (iw vv)) ∨ (zc = 1 ∧ (¬ (0 ≤ i ∧ i < N)) ∧ ScrEq M M3) ∨ (zc = 2 ∧ ((0 ≤ i ∧ i < N) ∧ ¬ ((0 ≤ n ∧ n ≤ 60) ∧ -99 ≤ u ∧ u ≤ 99)) ∧ ScrEq M M3)) : M3 29 = M 29 ∧ (0 ≤ zc ∧ zc ≤ 3) := by
  rcases hP with ⟨rfl, vv, Mz, p, rfl⟩ | ⟨rfl, p, sc⟩ | ⟨rfl, p, sc⟩
  · refine ⟨?_, by decide⟩
    exact (QA.of p.2.2).r
  · exact ⟨(QA.sc sc).r, by decide⟩
  · exact ⟨(QA.sc sc).r, by decide⟩
theorem pr_earliest {N P L nx ct : Nat} {T i v u b zc : Int} {M M3 : wM} (hnx14 : nx < 14) (hP : (zc = 0 ∧ ∃ (vv : Int) (Mz : wM), (((0 ≤ i ∧ i < N) ∧ -99 ≤ u ∧ u ≤ 99) ∧ ((∃ t : Nat, t ≤ 60 ∧ vv = t ∧ v ≤ (if b = 1 then (itv N (M 19) u (M 0 0 8) (M 0 2) (M 0 3) t).1 i.toNat else (itv N (M 19) u (M 0 0 8) (M 0 2) (M 0 3) t).2 i.toNat) ∧ ∀ s, s < t → (if b = 1 then (itv N (M 19) u (M 0 0 8) (M 0 2) (M 0 3) s).1 i.toNat else (itv N (M 19) u (M 0 0 8) (M 0 2) (M 0 3) s).2 i.toNat) < v) ∨ (vv = -9 ∧ ∀ s, s ≤ 60 → (if b = 1 then (itv N (M 19) u (M 0 0 8) (M 0 2) (M 0 3) s).1 i.toNat else (itv N (M 19) u (M 0 0 8) (M 0 2) (M 0 3) s).2 i.toNat) < v)) ∧ ScrEq M Mz) ∧ M3 = wu Mz 30 0 0 (iw vv)) ∨ (zc = 1 ∧ (¬ (0 ≤ i ∧ i < N)) ∧ ScrEq M M3) ∨ (zc = 2 ∧ ((0 ≤ i ∧ i < N) ∧ ¬ (-99 ≤ u ∧ u ≤ 99)) ∧ ScrEq M M3)) : M3 29 = M 29 ∧ (0 ≤ zc ∧ zc ≤ 3) := by
  rcases hP with ⟨rfl, vv, Mz, p, rfl⟩ | ⟨rfl, p, sc⟩ | ⟨rfl, p, sc⟩
  · refine ⟨?_, by decide⟩
    exact (QA.of p.2.2).r
  · exact ⟨(QA.sc sc).r, by decide⟩
  · exact ⟨(QA.sc sc).r, by decide⟩
theorem pr_unknown {N P L nx ct : Nat} {T b zc : Int} {M M3 : wM} (hnx14 : nx < 14) (hP : (zc = 0 ∧ ∃ (vv : Int) (Mz : wM), (M 0 0 9 ≠ 0 ∧ expl N (M 19) (M 0) vv ∧ (-(M 0 0 11) ≤ vv ∧ vv ≤ M 0 0 11) ∧ (∀ d, -(M 0 0 11) ≤ d → d ≤ M 0 0 11 → expl N (M 19) (M 0) d → if b = 1 then d ≤ vv else vv ≤ d) ∧ Mz = M) ∧ M3 = wu Mz 30 0 0 (iw vv)) ∨ (zc = 1 ∧ ((M 0 0 9 = 0 ∨ ∀ d, -(M 0 0 11) ≤ d → d ≤ M 0 0 11 → ¬ expl N (M 19) (M 0) d) ∧ ScrEq M M3))) : M3 29 = M 29 ∧ (0 ≤ zc ∧ zc ≤ 3) := by
  rcases hP with ⟨rfl, vv, Mz, p, rfl⟩ | ⟨rfl, p, sc⟩
  · refine ⟨?_, by decide⟩
    rw [p.2.2.2.2]; exact QA.eq.r
  · exact ⟨(QA.sc sc).r, by decide⟩
theorem pr_rankAfter {N P L nx ct : Nat} {T n zc : Int} {M M3 : wM} (hnx14 : nx < 14) (hP : (zc = 0 ∧ ∃ (vv : Int) (Mz : wM), ((1 ≤ n ∧ n ≤ 8) ∧ (∃ k' : Nat, vv = (k' : Int) ∧ k' ≤ N ∧ RankOf N (Sp N (Gp N P (M 19) n.toNat)) k') ∧ ScrEq M Mz) ∧ M3 = wu Mz 30 0 0 (iw vv)) ∨ (zc = 1 ∧ (¬ (1 ≤ n ∧ n ≤ 8)) ∧ ScrEq M M3)) : M3 29 = M 29 ∧ (0 ≤ zc ∧ zc ≤ 3) := by
  rcases hP with ⟨rfl, vv, Mz, p, rfl⟩ | ⟨rfl, p, sc⟩
  · refine ⟨?_, by decide⟩
    exact (QA.of p.2.2).r
  · exact ⟨(QA.sc sc).r, by decide⟩
theorem pr_observabilityIndex {N P L : Nat} {zc : Int} {M M3 : wM} (hP : ((∃ j : Nat, 1 ≤ j ∧ j ≤ N ∧ zc = (j : Int) ∧ RankOf N (Sp N (Gp N P (M 19) j)) N ∧ ∀ s, 1 ≤ s → s < j → ¬ RankOf N (Sp N (Gp N P (M 19) s)) N) ∨ (zc = -9 ∧ ∀ s, 1 ≤ s → s ≤ N → ¬ RankOf N (Sp N (Gp N P (M 19) s)) N)) ∧ ScrEq M M3) : M3 29 = M 29 := by exact (QA.sc hP.2).r
theorem pr_hiddenDimension {N P L nx ct : Nat} {T n zc : Int} {M M3 : wM} (hnx14 : nx < 14) (hP : (zc = 0 ∧ ∃ (vv : Int) (Mz : wM), ((0 ≤ n ∧ n ≤ 8) ∧ (∃ k' : Nat, vv = (N : Int) - (k' : Int) ∧ k' ≤ N ∧ RankOf N (Vis N P (M 19) n.toNat) k') ∧ ScrEq M Mz) ∧ M3 = wu Mz 30 0 0 (iw vv)) ∨ (zc = 1 ∧ (¬ (0 ≤ n ∧ n ≤ 8)) ∧ ScrEq M M3)) : M3 29 = M 29 ∧ (0 ≤ zc ∧ zc ≤ 3) := by
  rcases hP with ⟨rfl, vv, Mz, p, rfl⟩ | ⟨rfl, p, sc⟩
  · refine ⟨?_, by decide⟩
    exact (QA.of p.2.2).r
  · exact ⟨(QA.sc sc).r, by decide⟩
theorem pr_touched {N P L : Nat} {zc : Int} {M M3 : wM} (hP : zc = tch N (M 19) P ∧ M3 = M) : M3 29 = M 29 := by rw [hP.2]
theorem pr_free {N P L nx ct : Nat} {T q j zc : Int} {M M3 : wM} (hnx14 : nx < 14) (hP : (zc = 0 ∧ ∃ (vv : Int) (Mz : wM), (((0 ≤ j ∧ j < N) ∧ (0 ≤ q ∧ q < combs (M 19 7) N)) ∧ vv = combF (M 19 7) N q.toNat j.toNat ∧ ScrEq M Mz) ∧ M3 = wu Mz 30 0 0 (iw vv)) ∨ (zc = 1 ∧ (¬ ((0 ≤ j ∧ j < N) ∧ (0 ≤ q ∧ q < combs (M 19 7) N))) ∧ ScrEq M M3)) : M3 29 = M 29 ∧ (0 ≤ zc ∧ zc ≤ 3) := by
  rcases hP with ⟨rfl, vv, Mz, p, rfl⟩ | ⟨rfl, p, sc⟩
  · refine ⟨?_, by decide⟩
    exact (QA.of p.2.2).r
  · exact ⟨(QA.sc sc).r, by decide⟩
theorem pr_freeRange {N P L nx ct : Nat} {T q b zc : Int} {M M3 : wM} (hnx14 : nx < 14) (hP : (zc = 0 ∧ ∃ (vv : Int) (Mz : wM), ((0 ≤ q ∧ q < combs (M 19 7) N) ∧ vv = ext N (combF (M 19 7) N q.toNat) (M 0 2) (M 0 3) (-1) b ∧ ScrEq M Mz) ∧ M3 = wu Mz 30 0 0 (iw vv)) ∨ (zc = 1 ∧ (¬ (0 ≤ q ∧ q < combs (M 19 7) N)) ∧ ScrEq M M3)) : M3 29 = M 29 ∧ (0 ≤ zc ∧ zc ≤ 3) := by
  rcases hP with ⟨rfl, vv, Mz, p, rfl⟩ | ⟨rfl, p, sc⟩
  · refine ⟨?_, by decide⟩
    exact (QA.of p.2.2).r
  · exact ⟨(QA.sc sc).r, by decide⟩
theorem pr_runScript {N P L nx ct : Nat} {T n s0 zc : Int} {M M3 : wM} (hnx14 : nx < 14) (hP : (zc = 0 ∧ ∃ (vv : Int) (Mz : wM), (((1 ≤ n ∧ n ≤ 4) ∧ 0 ≤ s0 ∧ s0 < ((10000 ^ n.toNat : Nat) : Int)) ∧ vv = scrF N P (M 19) (cmdAt s0.toNat n.toNat) n.toNat 0 (M 0) ∧ ScrEq M Mz) ∧ M3 = wu Mz 30 0 0 (iw vv)) ∨ (zc = 1 ∧ (¬ ((1 ≤ n ∧ n ≤ 4) ∧ 0 ≤ s0 ∧ s0 < ((10000 ^ n.toNat : Nat) : Int))) ∧ ScrEq M M3)) : M3 29 = M 29 ∧ (0 ≤ zc ∧ zc ≤ 3) := by
  rcases hP with ⟨rfl, vv, Mz, p, rfl⟩ | ⟨rfl, p, sc⟩
  · refine ⟨?_, by decide⟩
    exact (QA.of p.2.2).r
  · exact ⟨(QA.sc sc).r, by decide⟩
theorem pr_simulate {N P L nx ct : Nat} {T s0 n zc : Int} {M M3 : wM} (hnx14 : nx < 14) (hP : (zc = 0 ∧ ∃ (vv : Int) (Mz : wM), ((1 ≤ n ∧ n ≤ 100) ∧ vv = simF N P (M 19) n.toNat s0 (M 0) ∧ ScrEq M Mz) ∧ M3 = wu Mz 30 0 0 vv) ∨ (zc = 1 ∧ (¬ (1 ≤ n ∧ n ≤ 100)) ∧ ScrEq M M3)) : M3 29 = M 29 ∧ (0 ≤ zc ∧ zc ≤ 3) := by
  rcases hP with ⟨rfl, vv, Mz, p, rfl⟩ | ⟨rfl, p, sc⟩
  · refine ⟨?_, by decide⟩
    exact (QA.of p.2.2).r
  · exact ⟨(QA.sc sc).r, by decide⟩
theorem pr_save {N P L nx ct : Nat} {T s0 zc : Int} {M M3 : wM} (hnx14 : nx < 14) (hP : (zc = 0 ∧ ∃ (vv : Int) (Mz : wM), ((0 ≤ s0 ∧ s0 ≤ 1) ∧ vv = M 0 0 9 ∧ Mz (3 + s0.toNat) = M 0 ∧ Mz 25 2 s0.toNat = 1 ∧ (∀ x, x ≠ s0.toNat → Mz 25 2 x = M 25 2 x) ∧ ∀ a, a ≠ 3 + s0.toNat → a ≠ 25 → Mz a = M a) ∧ M3 = wu Mz 30 0 0 (iw vv)) ∨ (zc = 1 ∧ (¬ (0 ≤ s0 ∧ s0 ≤ 1)) ∧ ScrEq M M3)) : M3 29 = M 29 ∧ (0 ≤ zc ∧ zc ≤ 3) := by
  rcases hP with ⟨rfl, vv, Mz, p, rfl⟩ | ⟨rfl, p, sc⟩
  · refine ⟨?_, by decide⟩
    rw [wu2 (by decide)]; exact p.2.2.2.2.2 29 (by omega) (by decide)
  · exact ⟨(QA.sc sc).r, by decide⟩
theorem pr_restore {N P L nx ct : Nat} {T s0 zc : Int} {M M3 : wM} (hnx14 : nx < 14) (hP : (zc = 0 ∧ ∃ (vv : Int) (Mz : wM), ((0 ≤ s0 ∧ s0 ≤ 1) ∧ M 25 2 s0.toNat = 1 ∧ vv = M (3 + s0.toNat) 0 9 ∧ Mz 0 = M (3 + s0.toNat) ∧ Mz 26 0 2 = 0 ∧ Mz 26 0 1 = M 26 0 1 ∧ ∀ a, a ≠ 0 → a ≠ 26 → Mz a = M a) ∧ M3 = wu Mz 30 0 0 (iw vv)) ∨ (zc = 1 ∧ (¬ (0 ≤ s0 ∧ s0 ≤ 1)) ∧ ScrEq M M3) ∨ (zc = 2 ∧ ((0 ≤ s0 ∧ s0 ≤ 1) ∧ M 25 2 s0.toNat = 0) ∧ ScrEq M M3)) : M3 29 = M 29 ∧ (0 ≤ zc ∧ zc ≤ 3) := by
  rcases hP with ⟨rfl, vv, Mz, p, rfl⟩ | ⟨rfl, p, sc⟩ | ⟨rfl, p, sc⟩
  · refine ⟨?_, by decide⟩
    rw [wu2 (by decide)]; exact p.2.2.2.2.2.2 29 (by decide) (by decide)
  · exact ⟨(QA.sc sc).r, by decide⟩
  · exact ⟨(QA.sc sc).r, by decide⟩
theorem rb01 {N P : Nat} {a b c0 d zc rb : Int} {M M3 M4 : wM} (hz : zc = 0) (hP : (zc = 0 ∧ ∃ (vv : Int) (Mz : wM), ((∀ i, N ≤ i → i < 4 → (row4 (M 28 1) a b c0 d) i = 0) ∧ (vv = 0 ∨ vv = 1) ∧ (vv = 1 ↔ (∀ i, i < N → M 0 2 i ≤ (row4 (M 28 1) a b c0 d) i ∧ (row4 (M 28 1) a b c0 d) i ≤ M 0 3 i) ∧ meets N P (M 19) (row4 (M 28 1) a b c0 d) (M 0 10) (M 0 11)) ∧ ScrEq M Mz) ∧ M3 = wu Mz 30 0 0 vv) ∨ (zc = 1 ∧ (¬ ∀ i, N ≤ i → i < 4 → (row4 (M 28 1) a b c0 d) i = 0) ∧ ScrEq M M3)) (hR : (M4 29 0 0 = 0 ∧ RScr M3 M4 ∧ (∀ i, N ≤ i → i < 4 → (row4 (M 28 1) a b c0 d) i = 0) ∧ (rb = 0 ∨ rb = 1) ∧ (rb = 1 ↔ (∀ i, i < N → (M 0) 2 i ≤ (row4 (M 28 1) a b c0 d) i ∧ (row4 (M 28 1) a b c0 d) i ≤ (M 0) 3 i) ∧ meets N P (M 19) (row4 (M 28 1) a b c0 d) ((M 0) 10) ((M 0) 11))) ∨ (M4 29 0 0 = 1 ∧ RScr M3 M4 ∧ ¬ ∀ i, N ≤ i → i < 4 → (row4 (M 28 1) a b c0 d) i = 0)) : rb = 0 ∨ rb = 1 := by
  rcases hR with ⟨q1, q2, q3, q4, q5⟩ | ⟨q1, q2, q3⟩
  · exact q4
  · rcases hP with ⟨-, vv, Mz, p, -⟩ | ⟨w, -⟩
    · exact absurd p.1 q3
    · omega
