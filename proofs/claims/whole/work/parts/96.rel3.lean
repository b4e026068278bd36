/-! acts, side by side -/
theorem setV_ne {v : Nat → Nat → Int} {j i b : Nat} {x : Int} (h : b ≠ j) : setV v j i x b = v b := if_neg h
theorem setV_eq {v : Nat → Nat → Int} {j i : Nat} {x : Int} : setV v j i x j = up1 (v j) i x := if_pos rfl
theorem up1_hit {f : Nat → Int} {i : Nat} {x : Int} : up1 f i x i = x := if_pos rfl
theorem up1_mis {f : Nat → Int} {i k : Nat} {x : Int} (h : k ≠ i) : up1 f i x k = f k := if_neg h
theorem up1_all {f : Nat → Int} {i k : Nat} {x : Int} {A : Int → Prop} (h1 : A (f k)) (h2 : A x) : A (up1 f i x k) := by
  by_cases q : k = i
  · rw [q, up1_hit]; exact h2
  · rw [up1_mis q]; exact h1
theorem MoOk.set1 {v : Nat → Nat → Int} {N P i : Nat} {T x : Int} (h : MoOk v N P T) (hx : -1000000 ≤ x ∧ x ≤ 1000000) : MoOk (setV v 1 i x) N P T := by
  obtain ⟨h1, h2, h3, h4, h5, h6, h7, h8, h9, h10, h11, h12, h13, h14⟩ := h
  refine ⟨fun k hk => ?_, by rw [setV_ne (by decide)]; exact h2, by rw [setV_ne (by decide)]; exact h3, by rw [setV_ne (by decide)]; exact h4, fun a k ha hk => ?_, by rw [setV_ne (by decide)]; exact h6, by rw [setV_ne (by decide)]; exact h7, ?_, ?_, ?_, ?_, ?_, by rw [setV_ne (by decide)]; exact h13, by rw [setV_ne (by decide)]; exact h14⟩
  · rw [setV_eq]; exact up1_all (A := fun y => -1000000 ≤ y ∧ y ≤ 1000000) (h1 k hk) hx
  · rw [setV_ne (by omega)]; exact h5 a k ha hk
  all_goals rw [setV_ne (by decide)]; assumption
theorem MoOk.setG {v : Nat → Nat → Int} {N P i k0 : Nat} {T x : Int} (h : MoOk v N P T) (hi : i < 4) (hx : -99 ≤ x ∧ x ≤ 99) : MoOk (setV v (6 + i) k0 x) N P T := by
  obtain ⟨h1, h2, h3, h4, h5, h6, h7, h8, h9, h10, h11, h12, h13, h14⟩ := h
  refine ⟨by rw [setV_ne (by omega)]; exact h1, by rw [setV_ne (by omega)]; exact h2, by rw [setV_ne (by omega)]; exact h3, by rw [setV_ne (by omega)]; exact h4, fun a k ha hk => ?_, by rw [setV_ne (by omega)]; exact h6, by rw [setV_ne (by omega)]; exact h7, ?_, ?_, ?_, ?_, ?_, by rw [setV_ne (by omega)]; exact h13, by rw [setV_ne (by omega)]; exact h14⟩
  · by_cases q : a = i
    · rw [q, setV_eq]; exact up1_all (A := fun y => -99 ≤ y ∧ y ≤ 99) (by rw [← q]; exact h5 a k ha hk) hx
    · rw [setV_ne (by omega)]; exact h5 a k ha hk
  all_goals rw [setV_ne (by omega)]; assumption
theorem MoOk.set0 {v : Nat → Nat → Int} {N P i : Nat} {T x : Int} (h : MoOk v N P T) (hx : (i = 7 ∧ 0 ≤ x ∧ x ≤ 9) ∨ (i = 8 ∧ 0 ≤ x ∧ x ≤ 99)) : MoOk (setV v 0 i x) N P T := by
  obtain ⟨h1, h2, h3, h4, h5, h6, h7, h8, h9, h10, h11, h12, h13, h14⟩ := h
  refine ⟨by rw [setV_ne (by decide)]; exact h1, by rw [setV_ne (by decide)]; exact h2, by rw [setV_ne (by decide)]; exact h3, by rw [setV_ne (by decide)]; exact h4, fun a k ha hk => by rw [setV_ne (by omega)]; exact h5 a k ha hk, by rw [setV_ne (by decide)]; exact h6, by rw [setV_ne (by decide)]; exact h7, ?_, ?_, ?_, ?_, ?_, by rw [setV_ne (by decide)]; exact h13, by rw [setV_ne (by decide)]; exact h14⟩
  · rw [setV_eq]
    by_cases q : 7 = i
    · rw [← q, up1_hit]; omega
    · rw [up1_mis q]; exact h8
  · rw [setV_eq]
    by_cases q : 8 = i
    · rw [← q, up1_hit]; omega
    · rw [up1_mis q]; exact h9
  all_goals rw [setV_eq, up1_mis (by omega)]; assumption
/-- what a change of other rows leaves -/
theorem TrOk.same {v w : Nat → Nat → Int} {N P : Nat} {pv : Nat → Nat → Int} (h : TrOk v N P pv) (e1 : w 1 = v 1) (e2 : w 2 = v 2) (e3 : w 3 = v 3) (e4 : w 10 = v 10) (e5 : w 11 = v 11) : TrOk w N P pv := by
  unfold TrOk
  rw [e1, e2, e3, e4, e5]
  exact h
theorem BoxOk.same {v w : Nat → Nat → Int} {N : Nat} (h : BoxOk N (v 2) (v 3)) (e2 : w 2 = v 2) (e3 : w 3 = v 3) : BoxOk N (w 2) (w 3) := by rw [e2, e3]; exact h
theorem LRx.plok {N P L nx ct : Nat} {T : Int} {M : wM} (h : LRx N P L nx ct T M) : PlOk (M 19) N P := h.1
theorem LRx.mr {N P L nx ct : Nat} {T : Int} {M : wM} (h : LRx N P L nx ct T M) : MR N P (M 19) (M 0) (M 29 13) T := h.2.2.2.1
set_option maxHeartbeats 1000000 in
theorem ag_step {N P L nx ct : Nat} {T u d zc rb : Int} {M M3 M4 : wM} (h : LRx N P L nx ct T M) (hP : (zc = 0 ∧ ∃ (vv : Int) (Mz : wM), (((-99 ≤ u ∧ u ≤ 99) ∧ -(M 0 0 8) ≤ d ∧ d ≤ M 0 0 8) ∧ StepV N P (M 19) (M 0) (Mz 0) u d ∧ vv = M 0 0 9 + 1 ∧ Noted M Mz nx ct) ∧ M3 = wu Mz 30 0 0 (iw vv)) ∨ (zc = 1 ∧ (¬ ((-99 ≤ u ∧ u ≤ 99) ∧ -(M 0 0 8) ≤ d ∧ d ≤ M 0 0 8)) ∧ ScrEq M M3)) (hR : (M4 29 0 0 = 0 ∧ RNoted M3 M4 ct ∧ ((-99 ≤ u ∧ u ≤ 99) ∧ -((M 0) 0 8) ≤ d ∧ d ≤ (M 0) 0 8) ∧ rb = (M 0) 0 9 + 1 ∧ REq N P (stepF N P (M 19) (M 0) u d) (M4 29 13)) ∨ (M4 29 0 0 = 1 ∧ RScr M3 M4 ∧ ¬ ((-99 ≤ u ∧ u ≤ 99) ∧ -((M 0) 0 8) ≤ d ∧ d ≤ (M 0) 0 8))) : AG T zc (iw rb) M4 := by
  rcases hP with ⟨rfl, vv, Mz, p, rfl⟩ | ⟨rfl, p, sc⟩
  · rcases hR with ⟨q1, q2, q3⟩ | ⟨q1, q2, q3⟩
    · have hv : vv = rb := by omega
      have hw : MR N P (M 19) (Mz 0) (M4 29 13) (T + 1) := ⟨(p.2.1.ok h.plok h.mr.1 h.mr.2.1 p.1.1).1, (p.2.1.ok h.plok h.mr.1 h.mr.2.1 p.1.1).2, p.2.1.tr h.mr.1 h.mr.2.2.1 p.1.2, q3.2.2.of (p.2.1.eqF h.plok.2.2.1)⟩
      exact ⟨q1, fun _ => by rw [q2.out, wu_out, hv], h.noted p.2.2.2 rfl q2 hw⟩
    · exfalso; first | omega | exact absurd p.1 q3 | exact absurd q3.1 p | exact absurd p.2.1 q3.2 | exact absurd q3.2.1 p.2
  · rcases hR with ⟨q1, q2, q3⟩ | ⟨q1, q2, q3⟩
    · exfalso; first | omega | exact absurd p.1 q3 | exact absurd q3.1 p | exact absurd p.2.1 q3.2 | exact absurd q3.2.1 p.2
    · exact ⟨q1, fun w9 => absurd w9 (by decide), h.q (QA.sc sc) q2⟩
set_option maxHeartbeats 1000000 in
theorem ag_read {N P L nx ct : Nat} {T i zc rb : Int} {M M3 M4 : wM} (h : LRx N P L nx ct T M) (hT0 : 0 ≤ T) (hP : (zc = 0 ∧ ∃ (vv : Int) (Mz : wM), ((0 ≤ i ∧ i < P) ∧ Mz 0 = (obsV N P (M 19) (M 0) i.toNat) ∧ vv = obsY N (M 19) (M 0) i.toNat i.toNat ∧ Noted M Mz nx ct) ∧ M3 = wu Mz 30 0 0 (iw vv)) ∨ (zc = 1 ∧ (¬ (0 ≤ i ∧ i < P)) ∧ ScrEq M M3)) (hR : (M4 29 0 0 = 0 ∧ RNoted M3 M4 ct ∧ (0 ≤ i ∧ i < P) ∧ rb = obsY N (M 19) (M 0) i.toNat i.toNat ∧ REq N P (obsV N P (M 19) (M 0) i.toNat) (M4 29 13)) ∨ (M4 29 0 0 = 1 ∧ RScr M3 M4 ∧ ¬ (0 ≤ i ∧ i < P))) : AG T zc (iw rb) M4 := by
  rcases hP with ⟨rfl, vv, Mz, p, rfl⟩ | ⟨rfl, p, sc⟩
  · rcases hR with ⟨q1, q2, q3⟩ | ⟨q1, q2, q3⟩
    · have hv : vv = rb := by omega
      have ho := obs_ok (K := i.toNat) h.plok h.mr.1 hT0 h.mr.2.1 h.mr.2.2.1 (by omega)
      have hw : MR N P (M 19) (Mz 0) (M4 29 13) (T + 1) := by
        rw [p.2.1]
        exact MR.mono (T := T) ⟨ho.1, ho.2.1, ho.2.2, q3.2.2⟩ (by omega)
      exact ⟨q1, fun _ => by rw [q2.out, wu_out, hv], h.noted p.2.2.2 rfl q2 hw⟩
    · exfalso; first | omega | exact absurd p.1 q3 | exact absurd q3.1 p | exact absurd p.2.1 q3.2 | exact absurd q3.2.1 p.2
  · rcases hR with ⟨q1, q2, q3⟩ | ⟨q1, q2, q3⟩
    · exfalso; first | omega | exact absurd p.1 q3 | exact absurd q3.1 p | exact absurd p.2.1 q3.2 | exact absurd q3.2.1 p.2
    · exact ⟨q1, fun w9 => absurd w9 (by decide), h.q (QA.sc sc) q2⟩
set_option maxHeartbeats 1000000 in
theorem ag_shave {N P L nx ct : Nat} {T i n zc rb : Int} {M M3 M4 : wM} (h : LRx N P L nx ct T M) (hP : (zc = 0 ∧ ∃ (vv : Int) (Mz : wM), (((0 ≤ i ∧ i < N) ∧ 1 ≤ n ∧ n ≤ 100) ∧ vv = (((shv N P (M 19) i.toNat 2 1 n.toNat (M 0)).1 : Int) + ((shv N P (M 19) i.toNat 3 (-1) n.toNat (shv N P (M 19) i.toNat 2 1 n.toNat (M 0)).2).1 : Int)) ∧ Mz 0 = (shv N P (M 19) i.toNat 3 (-1) n.toNat (shv N P (M 19) i.toNat 2 1 n.toNat (M 0)).2).2 ∧ MoOk (Mz 0) N P T ∧ BoxOk N (Mz 0 2) (Mz 0 3) ∧ TrOk (Mz 0) N P (M 19) ∧ Noted M Mz nx ct) ∧ M3 = wu Mz 30 0 0 (iw vv)) ∨ (zc = 1 ∧ (¬ (0 ≤ i ∧ i < N)) ∧ ScrEq M M3) ∨ (zc = 2 ∧ ((0 ≤ i ∧ i < N) ∧ ¬ (1 ≤ n ∧ n ≤ 100)) ∧ ScrEq M M3)) (hR : (M4 29 0 0 = 0 ∧ RNoted M3 M4 ct ∧ ((0 ≤ i ∧ i < N) ∧ 1 ≤ n ∧ n ≤ 100) ∧ rb = (((shv N P (M 19) i.toNat 2 1 n.toNat (M 0)).1 : Int) + ((shv N P (M 19) i.toNat 3 (-1) n.toNat (shv N P (M 19) i.toNat 2 1 n.toNat (M 0)).2).1 : Int)) ∧ REq N P (shv N P (M 19) i.toNat 3 (-1) n.toNat (shv N P (M 19) i.toNat 2 1 n.toNat (M 0)).2).2 (M4 29 13)) ∨ (M4 29 0 0 = 1 ∧ RScr M3 M4 ∧ ¬ (0 ≤ i ∧ i < N)) ∨ (M4 29 0 0 = 2 ∧ RScr M3 M4 ∧ (0 ≤ i ∧ i < N) ∧ ¬ (1 ≤ n ∧ n ≤ 100))) : AG T zc (iw rb) M4 := by
  rcases hP with ⟨rfl, vv, Mz, p, rfl⟩ | ⟨rfl, p, sc⟩ | ⟨rfl, p, sc⟩
  · rcases hR with ⟨q1, q2, q3⟩ | ⟨q1, q2, q3⟩ | ⟨q1, q2, q3⟩
    · have hv : vv = rb := by omega
      have hw : MR N P (M 19) (Mz 0) (M4 29 13) (T + 1) := MR.mono (T := T) ⟨p.2.2.2.1, p.2.2.2.2.1, p.2.2.2.2.2.1, by rw [p.2.2.1]; exact q3.2.2⟩ (by omega)
      exact ⟨q1, fun _ => by rw [q2.out, wu_out, hv], h.noted p.2.2.2.2.2.2 rfl q2 hw⟩
    · exfalso; first | omega | exact absurd p.1 q3 | exact absurd q3.1 p | exact absurd p.2.1 q3.2 | exact absurd q3.2.1 p.2
    · exfalso; first | omega | exact absurd p.1 q3 | exact absurd q3.1 p | exact absurd p.2.1 q3.2 | exact absurd q3.2.1 p.2
  · rcases hR with ⟨q1, q2, q3⟩ | ⟨q1, q2, q3⟩ | ⟨q1, q2, q3⟩
    · exfalso; first | omega | exact absurd p.1 q3 | exact absurd q3.1 p | exact absurd p.2.1 q3.2 | exact absurd q3.2.1 p.2
    · exact ⟨q1, fun w9 => absurd w9 (by decide), h.q (QA.sc sc) q2⟩
    · exfalso; first | omega | exact absurd p.1 q3 | exact absurd q3.1 p | exact absurd p.2.1 q3.2 | exact absurd q3.2.1 p.2
  · rcases hR with ⟨q1, q2, q3⟩ | ⟨q1, q2, q3⟩ | ⟨q1, q2, q3⟩
    · exfalso; first | omega | exact absurd p.1 q3 | exact absurd q3.1 p | exact absurd p.2.1 q3.2 | exact absurd q3.2.1 p.2
    · exfalso; first | omega | exact absurd p.1 q3 | exact absurd q3.1 p | exact absurd p.2.1 q3.2 | exact absurd q3.2.1 p.2
    · exact ⟨q1, fun w9 => absurd w9 (by decide), h.q (QA.sc sc) q2⟩
set_option maxHeartbeats 1000000 in
theorem ag_setGain {N P L nx ct : Nat} {T i k v zc rb : Int} {M M3 M4 : wM} (h : LRx N P L nx ct T M) (hP : (zc = 0 ∧ ∃ (vv : Int) (Mz : wM), ((((0 ≤ i ∧ i < N) ∧ 0 ≤ k ∧ k < P) ∧ -99 ≤ v ∧ v ≤ 99) ∧ Mz 0 = setV (M 0) (6 + i.toNat) k.toNat v ∧ vv = M 0 (6 + i.toNat) k.toNat ∧ Noted M Mz nx ct) ∧ M3 = wu Mz 30 0 0 (iw vv)) ∨ (zc = 1 ∧ (¬ ((0 ≤ i ∧ i < N) ∧ 0 ≤ k ∧ k < P)) ∧ ScrEq M M3) ∨ (zc = 2 ∧ (((0 ≤ i ∧ i < N) ∧ 0 ≤ k ∧ k < P) ∧ ¬ (-99 ≤ v ∧ v ≤ 99)) ∧ ScrEq M M3)) (hR : (M4 29 0 0 = 0 ∧ RNoted M3 M4 ct ∧ (((0 ≤ i ∧ i < N) ∧ 0 ≤ k ∧ k < P) ∧ -99 ≤ v ∧ v ≤ 99) ∧ rb = (M 0) (6 + i.toNat) k.toNat ∧ REq N P (setV (M 0) (6 + i.toNat) k.toNat v) (M4 29 13)) ∨ (M4 29 0 0 = 1 ∧ RScr M3 M4 ∧ ¬ ((0 ≤ i ∧ i < N) ∧ 0 ≤ k ∧ k < P)) ∨ (M4 29 0 0 = 2 ∧ RScr M3 M4 ∧ ((0 ≤ i ∧ i < N) ∧ 0 ≤ k ∧ k < P) ∧ ¬ (-99 ≤ v ∧ v ≤ 99))) : AG T zc (iw rb) M4 := by
  rcases hP with ⟨rfl, vv, Mz, p, rfl⟩ | ⟨rfl, p, sc⟩ | ⟨rfl, p, sc⟩
  · rcases hR with ⟨q1, q2, q3⟩ | ⟨q1, q2, q3⟩ | ⟨q1, q2, q3⟩
    · have hv : vv = rb := by omega
      have hw : MR N P (M 19) (Mz 0) (M4 29 13) (T + 1) := by
        rw [p.2.1]
        exact MR.mono (T := T) ⟨h.mr.1.setG (by have := h.plok.2.2.1; omega) p.1.2, h.mr.2.1.same (setV_ne (by omega)) (setV_ne (by omega)), h.mr.2.2.1.same (setV_ne (by omega)) (setV_ne (by omega)) (setV_ne (by omega)) (setV_ne (by have := h.plok.2.2.1; omega)) (setV_ne (by have := h.plok.2.2.1; omega)), q3.2.2⟩ (by omega)
      exact ⟨q1, fun _ => by rw [q2.out, wu_out, hv], h.noted p.2.2.2 rfl q2 hw⟩
    · exfalso; first | omega | exact absurd p.1 q3 | exact absurd q3.1 p | exact absurd p.2.1 q3.2 | exact absurd q3.2.1 p.2
    · exfalso; first | omega | exact absurd p.1 q3 | exact absurd q3.1 p | exact absurd p.2.1 q3.2 | exact absurd q3.2.1 p.2
  · rcases hR with ⟨q1, q2, q3⟩ | ⟨q1, q2, q3⟩ | ⟨q1, q2, q3⟩
    · exfalso; first | omega | exact absurd p.1 q3 | exact absurd q3.1 p | exact absurd p.2.1 q3.2 | exact absurd q3.2.1 p.2
    · exact ⟨q1, fun w9 => absurd w9 (by decide), h.q (QA.sc sc) q2⟩
    · exfalso; first | omega | exact absurd p.1 q3 | exact absurd q3.1 p | exact absurd p.2.1 q3.2 | exact absurd q3.2.1 p.2
  · rcases hR with ⟨q1, q2, q3⟩ | ⟨q1, q2, q3⟩ | ⟨q1, q2, q3⟩
    · exfalso; first | omega | exact absurd p.1 q3 | exact absurd q3.1 p | exact absurd p.2.1 q3.2 | exact absurd q3.2.1 p.2
    · exfalso; first | omega | exact absurd p.1 q3 | exact absurd q3.1 p | exact absurd p.2.1 q3.2 | exact absurd q3.2.1 p.2
    · exact ⟨q1, fun w9 => absurd w9 (by decide), h.q (QA.sc sc) q2⟩
set_option maxHeartbeats 1000000 in
theorem ag_setHold {N P L nx ct : Nat} {T v zc rb : Int} {M M3 M4 : wM} (h : LRx N P L nx ct T M) (hP : (zc = 0 ∧ ∃ (vv : Int) (Mz : wM), ((0 ≤ v ∧ v ≤ 9) ∧ Mz 0 = setV (M 0) 0 7 v ∧ vv = M 0 0 7 ∧ Noted M Mz nx ct) ∧ M3 = wu Mz 30 0 0 (iw vv)) ∨ (zc = 1 ∧ (¬ (0 ≤ v ∧ v ≤ 9)) ∧ ScrEq M M3)) (hR : (M4 29 0 0 = 0 ∧ RNoted M3 M4 ct ∧ (0 ≤ v ∧ v ≤ 9) ∧ rb = (M 0) 0 7 ∧ REq N P (setV (M 0) 0 7 v) (M4 29 13)) ∨ (M4 29 0 0 = 1 ∧ RScr M3 M4 ∧ ¬ (0 ≤ v ∧ v ≤ 9))) : AG T zc (iw rb) M4 := by
  rcases hP with ⟨rfl, vv, Mz, p, rfl⟩ | ⟨rfl, p, sc⟩
  · rcases hR with ⟨q1, q2, q3⟩ | ⟨q1, q2, q3⟩
    · have hv : vv = rb := by omega
      have hw : MR N P (M 19) (Mz 0) (M4 29 13) (T + 1) := by
        rw [p.2.1]
        exact MR.mono (T := T) ⟨h.mr.1.set0 (Or.inl ⟨rfl, p.1⟩), h.mr.2.1.same (setV_ne (by omega)) (setV_ne (by omega)), h.mr.2.2.1.same (setV_ne (by omega)) (setV_ne (by omega)) (setV_ne (by omega)) (setV_ne (by omega)) (setV_ne (by omega)), q3.2.2⟩ (by omega)
      exact ⟨q1, fun _ => by rw [q2.out, wu_out, hv], h.noted p.2.2.2 rfl q2 hw⟩
    · exfalso; first | omega | exact absurd p.1 q3 | exact absurd q3.1 p | exact absurd p.2.1 q3.2 | exact absurd q3.2.1 p.2
  · rcases hR with ⟨q1, q2, q3⟩ | ⟨q1, q2, q3⟩
    · exfalso; first | omega | exact absurd p.1 q3 | exact absurd q3.1 p | exact absurd p.2.1 q3.2 | exact absurd q3.2.1 p.2
    · exact ⟨q1, fun w9 => absurd w9 (by decide), h.q (QA.sc sc) q2⟩
set_option maxHeartbeats 1000000 in
theorem ag_setBound {N P L nx ct : Nat} {T v zc rb : Int} {M M3 M4 : wM} (h : LRx N P L nx ct T M) (hP : (zc = 0 ∧ ∃ (vv : Int) (Mz : wM), ((0 ≤ v ∧ v ≤ 99) ∧ Mz 0 = setV (M 0) 0 8 v ∧ vv = M 0 0 8 ∧ Noted M Mz nx ct) ∧ M3 = wu Mz 30 0 0 (iw vv)) ∨ (zc = 1 ∧ (¬ (0 ≤ v ∧ v ≤ 99)) ∧ ScrEq M M3)) (hR : (M4 29 0 0 = 0 ∧ RNoted M3 M4 ct ∧ (0 ≤ v ∧ v ≤ 99) ∧ rb = (M 0) 0 8 ∧ REq N P (setV (M 0) 0 8 v) (M4 29 13)) ∨ (M4 29 0 0 = 1 ∧ RScr M3 M4 ∧ ¬ (0 ≤ v ∧ v ≤ 99))) : AG T zc (iw rb) M4 := by
  rcases hP with ⟨rfl, vv, Mz, p, rfl⟩ | ⟨rfl, p, sc⟩
  · rcases hR with ⟨q1, q2, q3⟩ | ⟨q1, q2, q3⟩
    · have hv : vv = rb := by omega
      have hw : MR N P (M 19) (Mz 0) (M4 29 13) (T + 1) := by
        rw [p.2.1]
        exact MR.mono (T := T) ⟨h.mr.1.set0 (Or.inr ⟨rfl, p.1⟩), h.mr.2.1.same (setV_ne (by omega)) (setV_ne (by omega)), h.mr.2.2.1.same (setV_ne (by omega)) (setV_ne (by omega)) (setV_ne (by omega)) (setV_ne (by omega)) (setV_ne (by omega)), q3.2.2⟩ (by omega)
      exact ⟨q1, fun _ => by rw [q2.out, wu_out, hv], h.noted p.2.2.2 rfl q2 hw⟩
    · exfalso; first | omega | exact absurd p.1 q3 | exact absurd q3.1 p | exact absurd p.2.1 q3.2 | exact absurd q3.2.1 p.2
  · rcases hR with ⟨q1, q2, q3⟩ | ⟨q1, q2, q3⟩
    · exfalso; first | omega | exact absurd p.1 q3 | exact absurd q3.1 p | exact absurd p.2.1 q3.2 | exact absurd q3.2.1 p.2
    · exact ⟨q1, fun w9 => absurd w9 (by decide), h.q (QA.sc sc) q2⟩
set_option maxHeartbeats 1000000 in
theorem ag_place {N P L nx ct : Nat} {T i v zc rb : Int} {M M3 M4 : wM} (h : LRx N P L nx ct T M) (hP : (zc = 0 ∧ ∃ (vv : Int) (Mz : wM), ((0 ≤ i ∧ i < N) ∧ ((M 0 2 i.toNat ≤ v ∧ v ≤ M 0 3 i.toNat) ∧ meets N P (M 19) (up1 (M 0 1) i.toNat v) (M 0 10) (M 0 11)) ∧ Mz 0 = setV (M 0) 1 i.toNat v ∧ vv = M 0 1 i.toNat ∧ Noted M Mz nx ct) ∧ M3 = wu Mz 30 0 0 (iw vv)) ∨ (zc = 1 ∧ (¬ (0 ≤ i ∧ i < N)) ∧ ScrEq M M3) ∨ (zc = 2 ∧ ((0 ≤ i ∧ i < N) ∧ ¬ ((M 0 2 i.toNat ≤ v ∧ v ≤ M 0 3 i.toNat) ∧ meets N P (M 19) (up1 (M 0 1) i.toNat v) (M 0 10) (M 0 11))) ∧ ScrEq M M3)) (hR : (M4 29 0 0 = 0 ∧ RNoted M3 M4 ct ∧ (0 ≤ i ∧ i < N) ∧ (((M 0) 2 i.toNat ≤ v ∧ v ≤ (M 0) 3 i.toNat) ∧ meets N P (M 19) (up1 ((M 0) 1) i.toNat v) ((M 0) 10) ((M 0) 11)) ∧ rb = (M 0) 1 i.toNat ∧ REq N P (setV (M 0) 1 i.toNat v) (M4 29 13)) ∨ (M4 29 0 0 = 1 ∧ RScr M3 M4 ∧ ¬ (0 ≤ i ∧ i < N)) ∨ (M4 29 0 0 = 2 ∧ RScr M3 M4 ∧ (0 ≤ i ∧ i < N) ∧ ¬ (((M 0) 2 i.toNat ≤ v ∧ v ≤ (M 0) 3 i.toNat) ∧ meets N P (M 19) (up1 ((M 0) 1) i.toNat v) ((M 0) 10) ((M 0) 11)))) : AG T zc (iw rb) M4 := by
  rcases hP with ⟨rfl, vv, Mz, p, rfl⟩ | ⟨rfl, p, sc⟩ | ⟨rfl, p, sc⟩
  · rcases hR with ⟨q1, q2, q3⟩ | ⟨q1, q2, q3⟩ | ⟨q1, q2, q3⟩
    · have hv : vv = rb := by omega
      have hw : MR N P (M 19) (Mz 0) (M4 29 13) (T + 1) := by
        rw [p.2.2.1]
        have hb := h.mr.2.1 i.toNat (by omega)
        have hp2 := p.2.1.1
        refine MR.mono (T := T) ⟨h.mr.1.set1 (by omega), h.mr.2.1.same (setV_ne (by omega)) (setV_ne (by omega)), ⟨?_, ?_⟩, q3.2.2.2⟩ (by omega)
        · rw [setV_eq, setV_ne (by decide), setV_ne (by decide)]
          intro k hk
          by_cases e : k = i.toNat
          · rw [e, up1_hit]; exact hp2
          · rw [up1_mis e]; exact h.mr.2.2.1.1 k hk
        · rw [setV_eq, setV_ne (by decide), setV_ne (by decide)]
          exact p.2.1.2
      exact ⟨q1, fun _ => by rw [q2.out, wu_out, hv], h.noted p.2.2.2.2 rfl q2 hw⟩
    · exfalso; first | omega | exact absurd p.1 q3 | exact absurd q3.1 p | exact absurd p.2.1 q3.2 | exact absurd q3.2.1 p.2
    · exfalso; first | omega | exact absurd p.1 q3 | exact absurd q3.1 p | exact absurd p.2.1 q3.2 | exact absurd q3.2.1 p.2
  · rcases hR with ⟨q1, q2, q3⟩ | ⟨q1, q2, q3⟩ | ⟨q1, q2, q3⟩
    · exfalso; first | omega | exact absurd p.1 q3 | exact absurd q3.1 p | exact absurd p.2.1 q3.2 | exact absurd q3.2.1 p.2
    · exact ⟨q1, fun w9 => absurd w9 (by decide), h.q (QA.sc sc) q2⟩
    · exfalso; first | omega | exact absurd p.1 q3 | exact absurd q3.1 p | exact absurd p.2.1 q3.2 | exact absurd q3.2.1 p.2
  · rcases hR with ⟨q1, q2, q3⟩ | ⟨q1, q2, q3⟩ | ⟨q1, q2, q3⟩
    · exfalso; first | omega | exact absurd p.1 q3 | exact absurd q3.1 p | exact absurd p.2.1 q3.2 | exact absurd q3.2.1 p.2
    · exfalso; first | omega | exact absurd p.1 q3 | exact absurd q3.1 p | exact absurd p.2.1 q3.2 | exact absurd q3.2.1 p.2
    · exact ⟨q1, fun w9 => absurd w9 (by decide), h.q (QA.sc sc) q2⟩
