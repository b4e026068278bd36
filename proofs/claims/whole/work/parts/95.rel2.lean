/-! of each question: both posts side by side -/
theorem eq_first {G : Nat → Int} {v a b : Int} (h1 : (∃ t : Nat, t ≤ 60 ∧ a = t ∧ v ≤ G t ∧ ∀ s, s < t → G s < v) ∨ (a = -9 ∧ ∀ s, s ≤ 60 → G s < v)) (h2 : (∃ t : Nat, t ≤ 60 ∧ b = t ∧ v ≤ G t ∧ ∀ s, s < t → G s < v) ∨ (b = -9 ∧ ∀ s, s ≤ 60 → G s < v)) : a = b := by
  rcases h1 with ⟨t, a1, a2, a3, a4⟩ | ⟨a1, a2⟩
  · rcases h2 with ⟨r, b1, b2, b3, b4⟩ | ⟨b1, b2⟩
    · rcases Nat.lt_trichotomy t r with q | q | q
      · have := b4 t q; omega
      · omega
      · have := a4 r q; omega
    · have := b2 t a1; omega
  · rcases h2 with ⟨r, b1, b2, b3, b4⟩ | ⟨b1, b2⟩
    · have := a2 r b1; omega
    · omega
set_option maxHeartbeats 1000000 in
theorem ag_about {N P L nx ct : Nat} {T w zc rb : Int} {M M3 M4 : wM} (h : LRx N P L nx ct T M) (hP : (zc = 0 ∧ ∃ (vv : Int) (Mz : wM), ((0 ≤ w ∧ w ≤ 4) ∧ vv = aboutF N P (M 0) w ∧ Mz = M) ∧ M3 = wu Mz 30 0 0 (iw vv)) ∨ (zc = 1 ∧ (¬ (0 ≤ w ∧ w ≤ 4)) ∧ ScrEq M M3)) (hR : (M4 29 0 0 = 0 ∧ RScr M3 M4 ∧ (0 ≤ w ∧ w ≤ 4) ∧ rb = aboutF N P (M 0) w) ∨ (M4 29 0 0 = 1 ∧ RScr M3 M4 ∧ ¬ (0 ≤ w ∧ w ≤ 4))) : AG T zc (iw rb) M4 := by
  rcases hP with ⟨rfl, vv, Mz, p, rfl⟩ | ⟨rfl, p, sc⟩
  · rcases hR with ⟨q1, q2, q3⟩ | ⟨q1, q2, q3⟩
    · have hv : vv = rb := by omega
      exact ⟨q1, fun _ => by rw [q2.out, wu_out, hv], h.q ((by rw [p.2.2]; exact QA.eq)) q2⟩
    · exfalso; first | omega | exact absurd p.1 q3 | exact absurd q3.1 p
  · rcases hR with ⟨q1, q2, q3⟩ | ⟨q1, q2, q3⟩
    · exfalso; first | omega | exact absurd p.1 q3 | exact absurd q3.1 p
    · exact ⟨q1, fun w9 => absurd w9 (by decide), h.q (QA.sc sc) q2⟩
set_option maxHeartbeats 1000000 in
theorem ag_coefficient {N P L nx ct : Nat} {T w i j zc rb : Int} {M M3 M4 : wM} (h : LRx N P L nx ct T M) (hP : (zc = 0 ∧ ∃ (vv : Int) (Mz : wM), ((0 ≤ w ∧ w ≤ 5) ∧ (0 ≤ i ∧ i < (if w = 3 ∨ w = 4 then (P : Int) else N)) ∧ (0 ≤ j ∧ j < colsF N P w) ∧ vv = coefF (M 19) (M 0) w i.toNat j.toNat ∧ Mz = M) ∧ M3 = wu Mz 30 0 0 (iw vv)) ∨ (zc = 2 ∧ (¬ (0 ≤ w ∧ w ≤ 5)) ∧ ScrEq M M3) ∨ (zc = 1 ∧ ((0 ≤ w ∧ w ≤ 5) ∧ ¬ ((0 ≤ i ∧ i < (if w = 3 ∨ w = 4 then (P : Int) else N)) ∧ (0 ≤ j ∧ j < colsF N P w))) ∧ ScrEq M M3)) (hR : (M4 29 0 0 = 0 ∧ RScr M3 M4 ∧ (0 ≤ w ∧ w ≤ 5) ∧ (0 ≤ i ∧ i < (if w = 3 ∨ w = 4 then (P : Int) else N)) ∧ (0 ≤ j ∧ j < colsF N P w) ∧ rb = coefF (M 19) (M 0) w i.toNat j.toNat) ∨ (M4 29 0 0 = 1 ∧ RScr M3 M4 ∧ (0 ≤ w ∧ w ≤ 5) ∧ ¬ ((0 ≤ i ∧ i < (if w = 3 ∨ w = 4 then (P : Int) else N)) ∧ (0 ≤ j ∧ j < colsF N P w))) ∨ (M4 29 0 0 = 2 ∧ RScr M3 M4 ∧ ¬ (0 ≤ w ∧ w ≤ 5))) : AG T zc (iw rb) M4 := by
  rcases hP with ⟨rfl, vv, Mz, p, rfl⟩ | ⟨rfl, p, sc⟩ | ⟨rfl, p, sc⟩
  · rcases hR with ⟨q1, q2, q3⟩ | ⟨q1, q2, q3⟩ | ⟨q1, q2, q3⟩
    · have hv : vv = rb := by omega
      exact ⟨q1, fun _ => by rw [q2.out, wu_out, hv], h.q ((by rw [p.2.2.2.2]; exact QA.eq)) q2⟩
    · exfalso; first | omega | exact absurd p.1 q3 | exact absurd q3.1 p
    · exfalso; first | omega | exact absurd p.1 q3 | exact absurd q3.1 p
  · rcases hR with ⟨q1, q2, q3⟩ | ⟨q1, q2, q3⟩ | ⟨q1, q2, q3⟩
    · exfalso; first | omega | exact absurd p.1 q3 | exact absurd q3.1 p
    · exfalso; first | omega | exact absurd p.1 q3 | exact absurd q3.1 p
    · exact ⟨q1, fun w9 => absurd w9 (by decide), h.q (QA.sc sc) q2⟩
  · rcases hR with ⟨q1, q2, q3⟩ | ⟨q1, q2, q3⟩ | ⟨q1, q2, q3⟩
    · exfalso; first | omega | exact absurd p.1 q3 | exact absurd q3.1 p
    · exact ⟨q1, fun w9 => absurd w9 (by decide), h.q (QA.sc sc) q2⟩
    · exfalso; first | omega | exact absurd p.1 q3 | exact absurd q3.1 p
set_option maxHeartbeats 1000000 in
theorem ag_state {N P L nx ct : Nat} {T i w zc rb : Int} {M M3 M4 : wM} (h : LRx N P L nx ct T M) (hP : (zc = 0 ∧ ∃ (vv : Int) (Mz : wM), ((0 ≤ i ∧ i < N) ∧ (0 ≤ w ∧ w ≤ 4) ∧ vv = stateF (M 0) i.toNat w ∧ Mz = M) ∧ M3 = wu Mz 30 0 0 (iw vv)) ∨ (zc = 1 ∧ (¬ (0 ≤ i ∧ i < N)) ∧ ScrEq M M3) ∨ (zc = 2 ∧ ((0 ≤ i ∧ i < N) ∧ ¬ (0 ≤ w ∧ w ≤ 4)) ∧ ScrEq M M3)) (hR : (M4 29 0 0 = 0 ∧ RScr M3 M4 ∧ (0 ≤ i ∧ i < N) ∧ (0 ≤ w ∧ w ≤ 4) ∧ rb = stateF (M 0) i.toNat w) ∨ (M4 29 0 0 = 1 ∧ RScr M3 M4 ∧ ¬ (0 ≤ i ∧ i < N)) ∨ (M4 29 0 0 = 2 ∧ RScr M3 M4 ∧ (0 ≤ i ∧ i < N) ∧ ¬ (0 ≤ w ∧ w ≤ 4))) : AG T zc (iw rb) M4 := by
  rcases hP with ⟨rfl, vv, Mz, p, rfl⟩ | ⟨rfl, p, sc⟩ | ⟨rfl, p, sc⟩
  · rcases hR with ⟨q1, q2, q3⟩ | ⟨q1, q2, q3⟩ | ⟨q1, q2, q3⟩
    · have hv : vv = rb := by omega
      exact ⟨q1, fun _ => by rw [q2.out, wu_out, hv], h.q ((by rw [p.2.2.2]; exact QA.eq)) q2⟩
    · exfalso; first | omega | exact absurd p.1 q3 | exact absurd q3.1 p
    · exfalso; first | omega | exact absurd p.1 q3 | exact absurd q3.1 p
  · rcases hR with ⟨q1, q2, q3⟩ | ⟨q1, q2, q3⟩ | ⟨q1, q2, q3⟩
    · exfalso; first | omega | exact absurd p.1 q3 | exact absurd q3.1 p
    · exact ⟨q1, fun w9 => absurd w9 (by decide), h.q (QA.sc sc) q2⟩
    · exfalso; first | omega | exact absurd p.1 q3 | exact absurd q3.1 p
  · rcases hR with ⟨q1, q2, q3⟩ | ⟨q1, q2, q3⟩ | ⟨q1, q2, q3⟩
    · exfalso; first | omega | exact absurd p.1 q3 | exact absurd q3.1 p
    · exfalso; first | omega | exact absurd p.1 q3 | exact absurd q3.1 p
    · exact ⟨q1, fun w9 => absurd w9 (by decide), h.q (QA.sc sc) q2⟩
set_option maxHeartbeats 1000000 in
theorem ag_output {N P L nx ct : Nat} {T i w zc rb : Int} {M M3 M4 : wM} (h : LRx N P L nx ct T M) (hP : (zc = 0 ∧ ∃ (vv : Int) (Mz : wM), ((0 ≤ i ∧ i < P) ∧ (0 ≤ w ∧ w ≤ 3) ∧ ¬ (w ≤ 1 ∧ M 0 11 i.toNat = -1) ∧ vv = outF N (M 19) (M 0) i.toNat w ∧ Mz = M) ∧ M3 = wu Mz 30 0 0 (iw vv)) ∨ (zc = 1 ∧ (¬ (0 ≤ i ∧ i < P)) ∧ ScrEq M M3) ∨ (zc = 2 ∧ ((0 ≤ i ∧ i < P) ∧ ¬ (0 ≤ w ∧ w ≤ 3)) ∧ ScrEq M M3) ∨ (zc = 3 ∧ ((0 ≤ i ∧ i < P) ∧ (0 ≤ w ∧ w ≤ 3) ∧ (w ≤ 1 ∧ M 0 11 i.toNat = -1)) ∧ ScrEq M M3)) (hR : (M4 29 0 0 = 0 ∧ RScr M3 M4 ∧ (0 ≤ i ∧ i < P) ∧ (0 ≤ w ∧ w ≤ 3) ∧ ¬ (w ≤ 1 ∧ (M 0) 11 i.toNat = -1) ∧ rb = outF N (M 19) (M 0) i.toNat w) ∨ (M4 29 0 0 = 1 ∧ RScr M3 M4 ∧ ¬ (0 ≤ i ∧ i < P)) ∨ (M4 29 0 0 = 2 ∧ RScr M3 M4 ∧ (0 ≤ i ∧ i < P) ∧ ¬ (0 ≤ w ∧ w ≤ 3)) ∨ (M4 29 0 0 = 3 ∧ RScr M3 M4 ∧ (0 ≤ i ∧ i < P) ∧ (0 ≤ w ∧ w ≤ 3) ∧ (w ≤ 1 ∧ (M 0) 11 i.toNat = -1))) : AG T zc (iw rb) M4 := by
  rcases hP with ⟨rfl, vv, Mz, p, rfl⟩ | ⟨rfl, p, sc⟩ | ⟨rfl, p, sc⟩ | ⟨rfl, p, sc⟩
  · rcases hR with ⟨q1, q2, q3⟩ | ⟨q1, q2, q3⟩ | ⟨q1, q2, q3⟩ | ⟨q1, q2, q3⟩
    · have hv : vv = rb := by omega
      exact ⟨q1, fun _ => by rw [q2.out, wu_out, hv], h.q ((by rw [p.2.2.2.2]; exact QA.eq)) q2⟩
    · exfalso; first | omega | exact absurd p.1 q3 | exact absurd q3.1 p
    · exfalso; first | omega | exact absurd p.1 q3 | exact absurd q3.1 p
    · exfalso; first | omega | exact absurd p.1 q3 | exact absurd q3.1 p
  · rcases hR with ⟨q1, q2, q3⟩ | ⟨q1, q2, q3⟩ | ⟨q1, q2, q3⟩ | ⟨q1, q2, q3⟩
    · exfalso; first | omega | exact absurd p.1 q3 | exact absurd q3.1 p
    · exact ⟨q1, fun w9 => absurd w9 (by decide), h.q (QA.sc sc) q2⟩
    · exfalso; first | omega | exact absurd p.1 q3 | exact absurd q3.1 p
    · exfalso; first | omega | exact absurd p.1 q3 | exact absurd q3.1 p
  · rcases hR with ⟨q1, q2, q3⟩ | ⟨q1, q2, q3⟩ | ⟨q1, q2, q3⟩ | ⟨q1, q2, q3⟩
    · exfalso; first | omega | exact absurd p.1 q3 | exact absurd q3.1 p
    · exfalso; first | omega | exact absurd p.1 q3 | exact absurd q3.1 p
    · exact ⟨q1, fun w9 => absurd w9 (by decide), h.q (QA.sc sc) q2⟩
    · exfalso; first | omega | exact absurd p.1 q3 | exact absurd q3.1 p
  · rcases hR with ⟨q1, q2, q3⟩ | ⟨q1, q2, q3⟩ | ⟨q1, q2, q3⟩ | ⟨q1, q2, q3⟩
    · exfalso; first | omega | exact absurd p.1 q3 | exact absurd q3.1 p
    · exfalso; first | omega | exact absurd p.1 q3 | exact absurd q3.1 p
    · exfalso; first | omega | exact absurd p.1 q3 | exact absurd q3.1 p
    · exact ⟨q1, fun w9 => absurd w9 (by decide), h.q (QA.sc sc) q2⟩
set_option maxHeartbeats 1000000 in
theorem ag_widthIf {N P L nx ct : Nat} {T k y zc rb : Int} {M M3 M4 : wM} (h : LRx N P L nx ct T M) (hP : (zc = 0 ∧ ∃ (vv : Int) (Mz : wM), (((0 ≤ k ∧ k < P) ∧ -1000000 ≤ y ∧ y ≤ 1000000) ∧ vv = (if (tight N P (M 19) (up1 (M 0 10) k.toNat y) (up1 (M 0 11) k.toNat 0) 100 (M 0 2) (M 0 3)).1 = 2 then -9 else wid N (tight N P (M 19) (up1 (M 0 10) k.toNat y) (up1 (M 0 11) k.toNat 0) 100 (M 0 2) (M 0 3)).2.1 (tight N P (M 19) (up1 (M 0 10) k.toNat y) (up1 (M 0 11) k.toNat 0) 100 (M 0 2) (M 0 3)).2.2) ∧ ScrEq M Mz) ∧ M3 = wu Mz 30 0 0 (iw vv)) ∨ (zc = 1 ∧ (¬ (0 ≤ k ∧ k < P)) ∧ ScrEq M M3) ∨ (zc = 2 ∧ ((0 ≤ k ∧ k < P) ∧ ¬ (-1000000 ≤ y ∧ y ≤ 1000000)) ∧ ScrEq M M3)) (hR : (M4 29 0 0 = 0 ∧ RScr M3 M4 ∧ ((0 ≤ k ∧ k < P) ∧ -1000000 ≤ y ∧ y ≤ 1000000) ∧ rb = (if (tight N P (M 19) (up1 ((M 0) 10) k.toNat y) (up1 ((M 0) 11) k.toNat 0) 100 ((M 0) 2) ((M 0) 3)).1 = 2 then -9 else wid N (tight N P (M 19) (up1 ((M 0) 10) k.toNat y) (up1 ((M 0) 11) k.toNat 0) 100 ((M 0) 2) ((M 0) 3)).2.1 (tight N P (M 19) (up1 ((M 0) 10) k.toNat y) (up1 ((M 0) 11) k.toNat 0) 100 ((M 0) 2) ((M 0) 3)).2.2)) ∨ (M4 29 0 0 = 1 ∧ RScr M3 M4 ∧ ¬ (0 ≤ k ∧ k < P)) ∨ (M4 29 0 0 = 2 ∧ RScr M3 M4 ∧ (0 ≤ k ∧ k < P) ∧ ¬ (-1000000 ≤ y ∧ y ≤ 1000000))) : AG T zc (iw rb) M4 := by
  rcases hP with ⟨rfl, vv, Mz, p, rfl⟩ | ⟨rfl, p, sc⟩ | ⟨rfl, p, sc⟩
  · rcases hR with ⟨q1, q2, q3⟩ | ⟨q1, q2, q3⟩ | ⟨q1, q2, q3⟩
    · have hv : vv = rb := by omega
      exact ⟨q1, fun _ => by rw [q2.out, wu_out, hv], h.q (QA.of p.2.2) q2⟩
    · exfalso; first | omega | exact absurd p.1 q3 | exact absurd q3.1 p
    · exfalso; first | omega | exact absurd p.1 q3 | exact absurd q3.1 p
  · rcases hR with ⟨q1, q2, q3⟩ | ⟨q1, q2, q3⟩ | ⟨q1, q2, q3⟩
    · exfalso; first | omega | exact absurd p.1 q3 | exact absurd q3.1 p
    · exact ⟨q1, fun w9 => absurd w9 (by decide), h.q (QA.sc sc) q2⟩
    · exfalso; first | omega | exact absurd p.1 q3 | exact absurd q3.1 p
  · rcases hR with ⟨q1, q2, q3⟩ | ⟨q1, q2, q3⟩ | ⟨q1, q2, q3⟩
    · exfalso; first | omega | exact absurd p.1 q3 | exact absurd q3.1 p
    · exfalso; first | omega | exact absurd p.1 q3 | exact absurd q3.1 p
    · exact ⟨q1, fun w9 => absurd w9 (by decide), h.q (QA.sc sc) q2⟩
set_option maxHeartbeats 1000000 in
theorem ag_ahead {N P L nx ct : Nat} {T n u i b zc rb : Int} {M M3 M4 : wM} (h : LRx N P L nx ct T M) (hP : (zc = 0 ∧ ∃ (vv : Int) (Mz : wM), (((0 ≤ i ∧ i < N) ∧ (0 ≤ n ∧ n ≤ 60) ∧ -99 ≤ u ∧ u ≤ 99) ∧ vv = (if b = 1 then (itv N (M 19) u (M 0 0 8) (M 0 2) (M 0 3) n.toNat).2 i.toNat else (itv N (M 19) u (M 0 0 8) (M 0 2) (M 0 3) n.toNat).1 i.toNat) ∧ ScrEq M Mz) ∧ M3 = wu Mz 30 0 0 (iw vv)) ∨ (zc = 1 ∧ (¬ (0 ≤ i ∧ i < N)) ∧ ScrEq M M3) ∨ (zc = 2 ∧ ((0 ≤ i ∧ i < N) ∧ ¬ ((0 ≤ n ∧ n ≤ 60) ∧ -99 ≤ u ∧ u ≤ 99)) ∧ ScrEq M M3)) (hR : (M4 29 0 0 = 0 ∧ RScr M3 M4 ∧ ((0 ≤ i ∧ i < N) ∧ (0 ≤ n ∧ n ≤ 60) ∧ -99 ≤ u ∧ u ≤ 99) ∧ rb = (if b = 1 then (itv N (M 19) u ((M 0) 0 8) ((M 0) 2) ((M 0) 3) n.toNat).2 i.toNat else (itv N (M 19) u ((M 0) 0 8) ((M 0) 2) ((M 0) 3) n.toNat).1 i.toNat)) ∨ (M4 29 0 0 = 1 ∧ RScr M3 M4 ∧ ¬ (0 ≤ i ∧ i < N)) ∨ (M4 29 0 0 = 2 ∧ RScr M3 M4 ∧ (0 ≤ i ∧ i < N) ∧ ¬ ((0 ≤ n ∧ n ≤ 60) ∧ -99 ≤ u ∧ u ≤ 99))) : AG T zc (iw rb) M4 := by
  rcases hP with ⟨rfl, vv, Mz, p, rfl⟩ | ⟨rfl, p, sc⟩ | ⟨rfl, p, sc⟩
  · rcases hR with ⟨q1, q2, q3⟩ | ⟨q1, q2, q3⟩ | ⟨q1, q2, q3⟩
    · have hv : vv = rb := by omega
      exact ⟨q1, fun _ => by rw [q2.out, wu_out, hv], h.q (QA.of p.2.2) q2⟩
    · exfalso; first | omega | exact absurd p.1 q3 | exact absurd q3.1 p
    · exfalso; first | omega | exact absurd p.1 q3 | exact absurd q3.1 p
  · rcases hR with ⟨q1, q2, q3⟩ | ⟨q1, q2, q3⟩ | ⟨q1, q2, q3⟩
    · exfalso; first | omega | exact absurd p.1 q3 | exact absurd q3.1 p
    · exact ⟨q1, fun w9 => absurd w9 (by decide), h.q (QA.sc sc) q2⟩
    · exfalso; first | omega | exact absurd p.1 q3 | exact absurd q3.1 p
  · rcases hR with ⟨q1, q2, q3⟩ | ⟨q1, q2, q3⟩ | ⟨q1, q2, q3⟩
    · exfalso; first | omega | exact absurd p.1 q3 | exact absurd q3.1 p
    · exfalso; first | omega | exact absurd p.1 q3 | exact absurd q3.1 p
    · exact ⟨q1, fun w9 => absurd w9 (by decide), h.q (QA.sc sc) q2⟩
set_option maxHeartbeats 1000000 in
theorem ag_earliest {N P L nx ct : Nat} {T i v u b zc rb : Int} {M M3 M4 : wM} (h : LRx N P L nx ct T M) (hP : (zc = 0 ∧ ∃ (vv : Int) (Mz : wM), (((0 ≤ i ∧ i < N) ∧ -99 ≤ u ∧ u ≤ 99) ∧ ((∃ t : Nat, t ≤ 60 ∧ vv = t ∧ v ≤ (if b = 1 then (itv N (M 19) u (M 0 0 8) (M 0 2) (M 0 3) t).1 i.toNat else (itv N (M 19) u (M 0 0 8) (M 0 2) (M 0 3) t).2 i.toNat) ∧ ∀ s, s < t → (if b = 1 then (itv N (M 19) u (M 0 0 8) (M 0 2) (M 0 3) s).1 i.toNat else (itv N (M 19) u (M 0 0 8) (M 0 2) (M 0 3) s).2 i.toNat) < v) ∨ (vv = -9 ∧ ∀ s, s ≤ 60 → (if b = 1 then (itv N (M 19) u (M 0 0 8) (M 0 2) (M 0 3) s).1 i.toNat else (itv N (M 19) u (M 0 0 8) (M 0 2) (M 0 3) s).2 i.toNat) < v)) ∧ ScrEq M Mz) ∧ M3 = wu Mz 30 0 0 (iw vv)) ∨ (zc = 1 ∧ (¬ (0 ≤ i ∧ i < N)) ∧ ScrEq M M3) ∨ (zc = 2 ∧ ((0 ≤ i ∧ i < N) ∧ ¬ (-99 ≤ u ∧ u ≤ 99)) ∧ ScrEq M M3)) (hR : (M4 29 0 0 = 0 ∧ RScr M3 M4 ∧ ((0 ≤ i ∧ i < N) ∧ -99 ≤ u ∧ u ≤ 99) ∧ ((∃ t : Nat, t ≤ 60 ∧ rb = t ∧ v ≤ (if b = 1 then (itv N (M 19) u ((M 0) 0 8) ((M 0) 2) ((M 0) 3) t).1 i.toNat else (itv N (M 19) u ((M 0) 0 8) ((M 0) 2) ((M 0) 3) t).2 i.toNat) ∧ ∀ s, s < t → (if b = 1 then (itv N (M 19) u ((M 0) 0 8) ((M 0) 2) ((M 0) 3) s).1 i.toNat else (itv N (M 19) u ((M 0) 0 8) ((M 0) 2) ((M 0) 3) s).2 i.toNat) < v) ∨ (rb = -9 ∧ ∀ s, s ≤ 60 → (if b = 1 then (itv N (M 19) u ((M 0) 0 8) ((M 0) 2) ((M 0) 3) s).1 i.toNat else (itv N (M 19) u ((M 0) 0 8) ((M 0) 2) ((M 0) 3) s).2 i.toNat) < v))) ∨ (M4 29 0 0 = 1 ∧ RScr M3 M4 ∧ ¬ (0 ≤ i ∧ i < N)) ∨ (M4 29 0 0 = 2 ∧ RScr M3 M4 ∧ (0 ≤ i ∧ i < N) ∧ ¬ (-99 ≤ u ∧ u ≤ 99))) : AG T zc (iw rb) M4 := by
  rcases hP with ⟨rfl, vv, Mz, p, rfl⟩ | ⟨rfl, p, sc⟩ | ⟨rfl, p, sc⟩
  · rcases hR with ⟨q1, q2, q3⟩ | ⟨q1, q2, q3⟩ | ⟨q1, q2, q3⟩
    · have hv : vv = rb := eq_first (G := fun t => if b = 1 then (itv N (M 19) u (M 0 0 8) (M 0 2) (M 0 3) t).1 i.toNat else (itv N (M 19) u (M 0 0 8) (M 0 2) (M 0 3) t).2 i.toNat) p.2.1 q3.2
      exact ⟨q1, fun _ => by rw [q2.out, wu_out, hv], h.q (QA.of p.2.2) q2⟩
    · exfalso; first | omega | exact absurd p.1 q3 | exact absurd q3.1 p
    · exfalso; first | omega | exact absurd p.1 q3 | exact absurd q3.1 p
  · rcases hR with ⟨q1, q2, q3⟩ | ⟨q1, q2, q3⟩ | ⟨q1, q2, q3⟩
    · exfalso; first | omega | exact absurd p.1 q3 | exact absurd q3.1 p
    · exact ⟨q1, fun w9 => absurd w9 (by decide), h.q (QA.sc sc) q2⟩
    · exfalso; first | omega | exact absurd p.1 q3 | exact absurd q3.1 p
  · rcases hR with ⟨q1, q2, q3⟩ | ⟨q1, q2, q3⟩ | ⟨q1, q2, q3⟩
    · exfalso; first | omega | exact absurd p.1 q3 | exact absurd q3.1 p
    · exfalso; first | omega | exact absurd p.1 q3 | exact absurd q3.1 p
    · exact ⟨q1, fun w9 => absurd w9 (by decide), h.q (QA.sc sc) q2⟩
set_option maxHeartbeats 1000000 in
theorem ag_canBe {N P L nx ct : Nat} {T a b c0 d zc rb : Int} {M M3 M4 : wM} (h : LRx N P L nx ct T M) (hP : (zc = 0 ∧ ∃ (vv : Int) (Mz : wM), ((∀ i, N ≤ i → i < 4 → (row4 (M 28 1) a b c0 d) i = 0) ∧ (vv = 0 ∨ vv = 1) ∧ (vv = 1 ↔ (∀ i, i < N → M 0 2 i ≤ (row4 (M 28 1) a b c0 d) i ∧ (row4 (M 28 1) a b c0 d) i ≤ M 0 3 i) ∧ meets N P (M 19) (row4 (M 28 1) a b c0 d) (M 0 10) (M 0 11)) ∧ ScrEq M Mz) ∧ M3 = wu Mz 30 0 0 vv) ∨ (zc = 1 ∧ (¬ ∀ i, N ≤ i → i < 4 → (row4 (M 28 1) a b c0 d) i = 0) ∧ ScrEq M M3)) (hR : (M4 29 0 0 = 0 ∧ RScr M3 M4 ∧ (∀ i, N ≤ i → i < 4 → (row4 (M 28 1) a b c0 d) i = 0) ∧ (rb = 0 ∨ rb = 1) ∧ (rb = 1 ↔ (∀ i, i < N → (M 0) 2 i ≤ (row4 (M 28 1) a b c0 d) i ∧ (row4 (M 28 1) a b c0 d) i ≤ (M 0) 3 i) ∧ meets N P (M 19) (row4 (M 28 1) a b c0 d) ((M 0) 10) ((M 0) 11))) ∨ (M4 29 0 0 = 1 ∧ RScr M3 M4 ∧ ¬ ∀ i, N ≤ i → i < 4 → (row4 (M 28 1) a b c0 d) i = 0)) : AG T zc rb M4 := by
  rcases hP with ⟨rfl, vv, Mz, p, rfl⟩ | ⟨rfl, p, sc⟩
  · rcases hR with ⟨q1, q2, q3⟩ | ⟨q1, q2, q3⟩
    · have hv : vv = rb := by obtain ⟨-, a2, a3, -⟩ := p; obtain ⟨-, b2, b3⟩ := q3; have c1 : vv = 1 ↔ rb = 1 := a3.trans b3.symm; omega
      exact ⟨q1, fun _ => by rw [q2.out, wu_out, hv], h.q (QA.of p.2.2.2) q2⟩
    · exfalso; first | omega | exact absurd p.1 q3 | exact absurd q3.1 p
  · rcases hR with ⟨q1, q2, q3⟩ | ⟨q1, q2, q3⟩
    · exfalso; first | omega | exact absurd p.1 q3 | exact absurd q3.1 p
    · exact ⟨q1, fun w9 => absurd w9 (by decide), h.q (QA.sc sc) q2⟩
set_option maxHeartbeats 1000000 in
theorem ag_unknown {N P L nx ct : Nat} {T b zc rb : Int} {M M3 M4 : wM} (h : LRx N P L nx ct T M) (hP : (zc = 0 ∧ ∃ (vv : Int) (Mz : wM), (M 0 0 9 ≠ 0 ∧ expl N (M 19) (M 0) vv ∧ (-(M 0 0 11) ≤ vv ∧ vv ≤ M 0 0 11) ∧ (∀ d, -(M 0 0 11) ≤ d → d ≤ M 0 0 11 → expl N (M 19) (M 0) d → if b = 1 then d ≤ vv else vv ≤ d) ∧ Mz = M) ∧ M3 = wu Mz 30 0 0 (iw vv)) ∨ (zc = 1 ∧ ((M 0 0 9 = 0 ∨ ∀ d, -(M 0 0 11) ≤ d → d ≤ M 0 0 11 → ¬ expl N (M 19) (M 0) d) ∧ ScrEq M M3))) (hR : (M4 29 0 0 = 0 ∧ RScr M3 M4 ∧ (M 0) 0 9 ≠ 0 ∧ expl N (M 19) (M 0) rb ∧ (-((M 0) 0 11) ≤ rb ∧ rb ≤ (M 0) 0 11) ∧ (∀ d, -((M 0) 0 11) ≤ d → d ≤ (M 0) 0 11 → expl N (M 19) (M 0) d → if b = 1 then d ≤ rb else rb ≤ d)) ∨ (M4 29 0 0 = 1 ∧ RScr M3 M4 ∧ ((M 0) 0 9 = 0 ∨ ∀ d, -((M 0) 0 11) ≤ d → d ≤ (M 0) 0 11 → ¬ expl N (M 19) (M 0) d))) : AG T zc (iw rb) M4 := by
  rcases hP with ⟨rfl, vv, Mz, p, rfl⟩ | ⟨rfl, p, sc⟩
  · rcases hR with ⟨q1, q2, q3⟩ | ⟨q1, q2, q3⟩
    · have hv : vv = rb := by obtain ⟨-, a2, a3, a4, -⟩ := p; obtain ⟨-, b2, b3, b4⟩ := q3; have c1 := a4 rb b3.1 b3.2 b2; have c2 := b4 vv a3.1 a3.2 a2; split at c1 <;> split at c2 <;> omega
      exact ⟨q1, fun _ => by rw [q2.out, wu_out, hv], h.q ((by rw [p.2.2.2.2]; exact QA.eq)) q2⟩
    · exfalso
      rcases q3 with q3 | q3; exact p.1 q3; exact q3 vv p.2.2.1.1 p.2.2.1.2 p.2.1
  · rcases hR with ⟨q1, q2, q3⟩ | ⟨q1, q2, q3⟩
    · exfalso
      rcases p with p | p; exact q3.1 p; exact p rb q3.2.2.1.1 q3.2.2.1.2 q3.2.1
    · exact ⟨q1, fun w9 => absurd w9 (by decide), h.q (QA.sc sc) q2⟩
set_option maxHeartbeats 1000000 in
theorem ag_rankAfter {N P L nx ct : Nat} {T n zc rb : Int} {M M3 M4 : wM} (h : LRx N P L nx ct T M) (hP : (zc = 0 ∧ ∃ (vv : Int) (Mz : wM), ((1 ≤ n ∧ n ≤ 8) ∧ (∃ k' : Nat, vv = (k' : Int) ∧ k' ≤ N ∧ RankOf N (Sp N (Gp N P (M 19) n.toNat)) k') ∧ ScrEq M Mz) ∧ M3 = wu Mz 30 0 0 (iw vv)) ∨ (zc = 1 ∧ (¬ (1 ≤ n ∧ n ≤ 8)) ∧ ScrEq M M3)) (hR : (M4 29 0 0 = 0 ∧ RScr M3 M4 ∧ (1 ≤ n ∧ n ≤ 8) ∧ ∃ k' : Nat, rb = (k' : Int) ∧ k' ≤ N ∧ RankOf N (Sp N (Gp N P (M 19) n.toNat)) k') ∨ (M4 29 0 0 = 1 ∧ RScr M3 M4 ∧ ¬ (1 ≤ n ∧ n ≤ 8))) : AG T zc (iw rb) M4 := by
  rcases hP with ⟨rfl, vv, Mz, p, rfl⟩ | ⟨rfl, p, sc⟩
  · rcases hR with ⟨q1, q2, q3⟩ | ⟨q1, q2, q3⟩
    · have hv : vv = rb := by obtain ⟨-, ⟨k1, e1, -, r1⟩, -⟩ := p; obtain ⟨-, k2, e2, -, r2⟩ := q3; rw [e1, e2, r1.unique r2]
      exact ⟨q1, fun _ => by rw [q2.out, wu_out, hv], h.q (QA.of p.2.2) q2⟩
    · exfalso; first | omega | exact absurd p.1 q3 | exact absurd q3.1 p
  · rcases hR with ⟨q1, q2, q3⟩ | ⟨q1, q2, q3⟩
    · exfalso; first | omega | exact absurd p.1 q3 | exact absurd q3.1 p
    · exact ⟨q1, fun w9 => absurd w9 (by decide), h.q (QA.sc sc) q2⟩
set_option maxHeartbeats 1000000 in
theorem ag_hiddenDimension {N P L nx ct : Nat} {T n zc rb : Int} {M M3 M4 : wM} (h : LRx N P L nx ct T M) (hP : (zc = 0 ∧ ∃ (vv : Int) (Mz : wM), ((0 ≤ n ∧ n ≤ 8) ∧ (∃ k' : Nat, vv = (N : Int) - (k' : Int) ∧ k' ≤ N ∧ RankOf N (Vis N P (M 19) n.toNat) k') ∧ ScrEq M Mz) ∧ M3 = wu Mz 30 0 0 (iw vv)) ∨ (zc = 1 ∧ (¬ (0 ≤ n ∧ n ≤ 8)) ∧ ScrEq M M3)) (hR : (M4 29 0 0 = 0 ∧ RScr M3 M4 ∧ (0 ≤ n ∧ n ≤ 8) ∧ ∃ k' : Nat, rb = (N : Int) - (k' : Int) ∧ k' ≤ N ∧ RankOf N (Vis N P (M 19) n.toNat) k') ∨ (M4 29 0 0 = 1 ∧ RScr M3 M4 ∧ ¬ (0 ≤ n ∧ n ≤ 8))) : AG T zc (iw rb) M4 := by
  rcases hP with ⟨rfl, vv, Mz, p, rfl⟩ | ⟨rfl, p, sc⟩
  · rcases hR with ⟨q1, q2, q3⟩ | ⟨q1, q2, q3⟩
    · have hv : vv = rb := by obtain ⟨-, ⟨k1, e1, -, r1⟩, -⟩ := p; obtain ⟨-, k2, e2, -, r2⟩ := q3; rw [e1, e2, r1.unique r2]
      exact ⟨q1, fun _ => by rw [q2.out, wu_out, hv], h.q (QA.of p.2.2) q2⟩
    · exfalso; first | omega | exact absurd p.1 q3 | exact absurd q3.1 p
  · rcases hR with ⟨q1, q2, q3⟩ | ⟨q1, q2, q3⟩
    · exfalso; first | omega | exact absurd p.1 q3 | exact absurd q3.1 p
    · exact ⟨q1, fun w9 => absurd w9 (by decide), h.q (QA.sc sc) q2⟩
set_option maxHeartbeats 1000000 in
theorem ag_free {N P L nx ct : Nat} {T q j zc rb : Int} {M M3 M4 : wM} (h : LRx N P L nx ct T M) (hP : (zc = 0 ∧ ∃ (vv : Int) (Mz : wM), (((0 ≤ j ∧ j < N) ∧ (0 ≤ q ∧ q < combs (M 19 7) N)) ∧ vv = combF (M 19 7) N q.toNat j.toNat ∧ ScrEq M Mz) ∧ M3 = wu Mz 30 0 0 (iw vv)) ∨ (zc = 1 ∧ (¬ ((0 ≤ j ∧ j < N) ∧ (0 ≤ q ∧ q < combs (M 19 7) N))) ∧ ScrEq M M3)) (hR : (M4 29 0 0 = 0 ∧ RScr M3 M4 ∧ ((0 ≤ j ∧ j < N) ∧ 0 ≤ q ∧ q < combs ((M 19) 7) N) ∧ rb = combF ((M 19) 7) N q.toNat j.toNat) ∨ (M4 29 0 0 = 1 ∧ RScr M3 M4 ∧ ¬ ((0 ≤ j ∧ j < N) ∧ 0 ≤ q ∧ q < combs ((M 19) 7) N))) : AG T zc (iw rb) M4 := by
  rcases hP with ⟨rfl, vv, Mz, p, rfl⟩ | ⟨rfl, p, sc⟩
  · rcases hR with ⟨q1, q2, q3⟩ | ⟨q1, q2, q3⟩
    · have hv : vv = rb := by omega
      exact ⟨q1, fun _ => by rw [q2.out, wu_out, hv], h.q (QA.of p.2.2) q2⟩
    · exfalso; first | omega | exact absurd p.1 q3 | exact absurd q3.1 p
  · rcases hR with ⟨q1, q2, q3⟩ | ⟨q1, q2, q3⟩
    · exfalso; first | omega | exact absurd p.1 q3 | exact absurd q3.1 p
    · exact ⟨q1, fun w9 => absurd w9 (by decide), h.q (QA.sc sc) q2⟩
set_option maxHeartbeats 1000000 in
theorem ag_freeRange {N P L nx ct : Nat} {T q b zc rb : Int} {M M3 M4 : wM} (h : LRx N P L nx ct T M) (hP : (zc = 0 ∧ ∃ (vv : Int) (Mz : wM), ((0 ≤ q ∧ q < combs (M 19 7) N) ∧ vv = ext N (combF (M 19 7) N q.toNat) (M 0 2) (M 0 3) (-1) b ∧ ScrEq M Mz) ∧ M3 = wu Mz 30 0 0 (iw vv)) ∨ (zc = 1 ∧ (¬ (0 ≤ q ∧ q < combs (M 19 7) N)) ∧ ScrEq M M3)) (hR : (M4 29 0 0 = 0 ∧ RScr M3 M4 ∧ (0 ≤ q ∧ q < combs ((M 19) 7) N) ∧ rb = ext N (combF ((M 19) 7) N q.toNat) ((M 0) 2) ((M 0) 3) (-1) b) ∨ (M4 29 0 0 = 1 ∧ RScr M3 M4 ∧ ¬ (0 ≤ q ∧ q < combs ((M 19) 7) N))) : AG T zc (iw rb) M4 := by
  rcases hP with ⟨rfl, vv, Mz, p, rfl⟩ | ⟨rfl, p, sc⟩
  · rcases hR with ⟨q1, q2, q3⟩ | ⟨q1, q2, q3⟩
    · have hv : vv = rb := by omega
      exact ⟨q1, fun _ => by rw [q2.out, wu_out, hv], h.q (QA.of p.2.2) q2⟩
    · exfalso; first | omega | exact absurd p.1 q3 | exact absurd q3.1 p
  · rcases hR with ⟨q1, q2, q3⟩ | ⟨q1, q2, q3⟩
    · exfalso; first | omega | exact absurd p.1 q3 | exact absurd q3.1 p
    · exact ⟨q1, fun w9 => absurd w9 (by decide), h.q (QA.sc sc) q2⟩
set_option maxHeartbeats 1000000 in
theorem ag_runScript {N P L nx ct : Nat} {T n s0 zc rb : Int} {M M3 M4 : wM} (h : LRx N P L nx ct T M) (hP : (zc = 0 ∧ ∃ (vv : Int) (Mz : wM), (((1 ≤ n ∧ n ≤ 4) ∧ 0 ≤ s0 ∧ s0 < ((10000 ^ n.toNat : Nat) : Int)) ∧ vv = scrF N P (M 19) (cmdAt s0.toNat n.toNat) n.toNat 0 (M 0) ∧ ScrEq M Mz) ∧ M3 = wu Mz 30 0 0 (iw vv)) ∨ (zc = 1 ∧ (¬ ((1 ≤ n ∧ n ≤ 4) ∧ 0 ≤ s0 ∧ s0 < ((10000 ^ n.toNat : Nat) : Int))) ∧ ScrEq M M3)) (hR : (M4 29 0 0 = 0 ∧ RScr M3 M4 ∧ ((1 ≤ n ∧ n ≤ 4) ∧ 0 ≤ s0 ∧ s0 < ((10000 ^ n.toNat : Nat) : Int)) ∧ rb = scrF N P (M 19) (cmdAt s0.toNat n.toNat) n.toNat 0 (M 0)) ∨ (M4 29 0 0 = 1 ∧ RScr M3 M4 ∧ ¬ ((1 ≤ n ∧ n ≤ 4) ∧ 0 ≤ s0 ∧ s0 < ((10000 ^ n.toNat : Nat) : Int)))) : AG T zc (iw rb) M4 := by
  rcases hP with ⟨rfl, vv, Mz, p, rfl⟩ | ⟨rfl, p, sc⟩
  · rcases hR with ⟨q1, q2, q3⟩ | ⟨q1, q2, q3⟩
    · have hv : vv = rb := by omega
      exact ⟨q1, fun _ => by rw [q2.out, wu_out, hv], h.q (QA.of p.2.2) q2⟩
    · exfalso; first | omega | exact absurd p.1 q3 | exact absurd q3.1 p
  · rcases hR with ⟨q1, q2, q3⟩ | ⟨q1, q2, q3⟩
    · exfalso; first | omega | exact absurd p.1 q3 | exact absurd q3.1 p
    · exact ⟨q1, fun w9 => absurd w9 (by decide), h.q (QA.sc sc) q2⟩
set_option maxHeartbeats 1000000 in
theorem ag_simulate {N P L nx ct : Nat} {T s0 n zc rb : Int} {M M3 M4 : wM} (h : LRx N P L nx ct T M) (hP : (zc = 0 ∧ ∃ (vv : Int) (Mz : wM), ((1 ≤ n ∧ n ≤ 100) ∧ vv = simF N P (M 19) n.toNat s0 (M 0) ∧ ScrEq M Mz) ∧ M3 = wu Mz 30 0 0 vv) ∨ (zc = 1 ∧ (¬ (1 ≤ n ∧ n ≤ 100)) ∧ ScrEq M M3)) (hR : (M4 29 0 0 = 0 ∧ RScr M3 M4 ∧ (1 ≤ n ∧ n ≤ 100) ∧ rb = simF N P (M 19) n.toNat s0 (M 0)) ∨ (M4 29 0 0 = 1 ∧ RScr M3 M4 ∧ ¬ (1 ≤ n ∧ n ≤ 100))) : AG T zc rb M4 := by
  rcases hP with ⟨rfl, vv, Mz, p, rfl⟩ | ⟨rfl, p, sc⟩
  · rcases hR with ⟨q1, q2, q3⟩ | ⟨q1, q2, q3⟩
    · have hv : vv = rb := by omega
      exact ⟨q1, fun _ => by rw [q2.out, wu_out, hv], h.q (QA.of p.2.2) q2⟩
    · exfalso; first | omega | exact absurd p.1 q3 | exact absurd q3.1 p
  · rcases hR with ⟨q1, q2, q3⟩ | ⟨q1, q2, q3⟩
    · exfalso; first | omega | exact absurd p.1 q3 | exact absurd q3.1 p
    · exact ⟨q1, fun w9 => absurd w9 (by decide), h.q (QA.sc sc) q2⟩
theorem ag_width {N P L nx ct : Nat} {T zc rb : Int} {M M3 M4 : wM} (h : LRx N P L nx ct T M) (hP : zc = wid N (M 0 2) (M 0 3) ∧ M3 = M) (hR : rb = wid N ((M 0) 2) ((M 0) 3) ∧ M4 29 0 0 = 0 ∧ RScr M3 M4) : zc = rb ∧ LR (T + 1) M4 := by
  exact ⟨by rw [hP.1, hR.1], h.q (by rw [hP.2]; exact fun _ _ _ _ _ _ _ _ => rfl) hR.2.2⟩
theorem ag_observabilityIndex {N P L nx ct : Nat} {T zc rb : Int} {M M3 M4 : wM} (h : LRx N P L nx ct T M) (hP : ((∃ j : Nat, 1 ≤ j ∧ j ≤ N ∧ zc = (j : Int) ∧ RankOf N (Sp N (Gp N P (M 19) j)) N ∧ ∀ s, 1 ≤ s → s < j → ¬ RankOf N (Sp N (Gp N P (M 19) s)) N) ∨ (zc = -9 ∧ ∀ s, 1 ≤ s → s ≤ N → ¬ RankOf N (Sp N (Gp N P (M 19) s)) N)) ∧ ScrEq M M3) (hR : ((∃ j : Nat, 1 ≤ j ∧ j ≤ N ∧ rb = (j : Int) ∧ RankOf N (Sp N (Gp N P (M 19) j)) N ∧ ∀ s, 1 ≤ s → s < j → ¬ RankOf N (Sp N (Gp N P (M 19) s)) N) ∨ (rb = -9 ∧ ∀ s, 1 ≤ s → s ≤ N → ¬ RankOf N (Sp N (Gp N P (M 19) s)) N)) ∧ M4 29 0 0 = 0 ∧ RScr M3 M4) : zc = rb ∧ LR (T + 1) M4 := by
  refine ⟨?_, h.q (QA.sc hP.2) hR.2.2⟩
  rcases hP.1 with ⟨j, a1, a2, a3, a4, a5⟩ | ⟨a1, a2⟩
  · rcases hR.1 with ⟨i, b1, b2, b3, b4, b5⟩ | ⟨b1, b2⟩
    · rcases Nat.lt_trichotomy i j with q | q | q
      · exact absurd b4 (a5 i b1 q)
      · omega
      · exact absurd a4 (b5 j a1 q)
    · exact absurd a4 (b2 j a1 a2)
  · rcases hR.1 with ⟨i, b1, b2, b3, b4, b5⟩ | ⟨b1, b2⟩
    · exact absurd b4 (a2 i b1 b2)
    · omega
theorem ag_touched {N P L nx ct : Nat} {T zc rb : Int} {M M3 M4 : wM} (h : LRx N P L nx ct T M) (hP : zc = tch N (M 19) P ∧ M3 = M) (hR : rb = tch N (M 19) P ∧ M4 29 0 0 = 0 ∧ RScr M3 M4) : zc = rb ∧ LR (T + 1) M4 := by
  exact ⟨by rw [hP.1, hR.1], h.q (by rw [hP.2]; exact fun _ _ _ _ _ _ _ _ => rfl) hR.2.2⟩
