/-! texts, slots, remembered moments, side by side -/
theorem FM.keep {v v' : Nat → Nat → Int} (h : FM v) (e : ∀ b x, ¬ (b = 0 ∧ (x = 7 ∨ x = 8)) → ¬ (6 ≤ b ∧ b < 10) → v' b x = v b x) : FM v' := by
  obtain ⟨f1, f2, f3, f4, f5⟩ := h
  refine ⟨fun i hi => ?_, fun k hk => ?_, by rw [e 0 9 (by omega) (by omega)]; exact f3, by rw [e 0 10 (by omega) (by omega)]; exact f4, by rw [e 0 11 (by omega) (by omega)]; exact f5⟩
  · rw [e 1 i (by omega) (by omega), e 2 i (by omega) (by omega), e 3 i (by omega) (by omega), e 4 i (by omega) (by omega), e 12 i (by omega) (by omega), e 13 i (by omega) (by omega)]
    exact f1 i hi
  · rw [e 10 k (by omega) (by omega), e 11 k (by omega) (by omega)]
    exact f2 k hk
theorem LRx.text {N P L L' nx ct : Nat} {T : Int} {M M' : wM} (h : LRx N P L nx ct T M) (e : ∀ a, a = 0 ∨ (3 ≤ a ∧ a ≤ 19) ∨ a = 25 ∨ a = 26 → M' a = M a) (e27 : TxB (M' 27) L') (e2 : M' 29 0 2 = (L' : Int)) (e1 : M' 29 1 = M' 27 1) (eF : FM (M' 2)) (e29 : ∀ b x, K29 b x → b ≠ 1 → ¬ (b = 0 ∧ x = 2) → M' 29 b x = M 29 b x) : LRx N P L' nx ct T M' := by
  obtain ⟨c1, c2, c3, c4, c5, c6, c7, c8, c9, c10, c11, c12, c13, c14, c15⟩ := h
  have hN : N ≤ 4 := c1.2.2.1
  have hP : P ≤ 3 := c1.2.2.2.2.2.1
  have e19 := e 19 (by omega)
  refine ⟨by rw [e19]; exact c1, ?_, ?_, ?_, e27, e2, e1, by rw [e 26 (by omega)]; exact c8, c9, by rw [e 26 (by omega)]; exact c10, ?_, c12, fun t ht => ?_, fun s hs => ?_, eF⟩
  · rw [e19]
    exact c2.keep fun b x q => e29 b x (by unfold K29; omega) (by omega) (by omega)
  · exact c3.keep fun b x q => e29 b x (by unfold K29; omega) (by omega) (by omega)
  · rw [e19, e 0 (by omega)]
    exact c4.row hN hP fun x _ => e29 13 x (by unfold K29; omega) (by omega) (by omega)
  · rw [e29 0 24 (by unfold K29; omega) (by omega) (by omega)]; exact c11
  · rw [e19, e (5 + (nx + 13 - t) % 14) (by omega)]
    exact (c13 t ht).row hN hP fun x _ => e29 16 _ (by unfold K29; omega) (by omega) (by omega)
  · obtain ⟨d1, d2, d3⟩ := c14 s hs
    refine ⟨by rw [e 25 (by omega)]; exact d1, by rw [e 25 (by omega), e29 18 s (by unfold K29; omega) (by omega) (by omega)]; exact d2, fun q => ?_⟩
    rw [e 25 (by omega)] at q
    rw [e19, e (3 + s) (by omega)]
    exact (d3 q).row hN hP fun x _ => e29 17 _ (by unfold K29; omega) (by omega) (by omega)
theorem wu2 {M : wM} {o j i a : Nat} {v : Int} (h : a ≠ o) : wu M o j i v a = M a := funext fun b => wu_ne (by omega)
set_option maxHeartbeats 1000000 in
theorem ag_append {N P L nx ct : Nat} {T c0 zc rb : Int} {M M3 M4 : wM} (h : LRx N P L nx ct T M) (hP : (zc = 0 ∧ ∃ (vv : Int) (Mz : wM), ((0 ≤ c0 ∧ c0 ≤ 255) ∧ L < 200 ∧ vv = L + 1 ∧ Mz = wu (wu M 27 1 L c0) 27 0 1 ((L : Int) + 1)) ∧ M3 = wu Mz 30 0 0 (iw vv)) ∨ (zc = 1 ∧ (¬ (0 ≤ c0 ∧ c0 ≤ 255)) ∧ ScrEq M M3) ∨ (zc = 2 ∧ ((0 ≤ c0 ∧ c0 ≤ 255) ∧ ¬ L < 200) ∧ ScrEq M M3)) (hR : (M4 29 0 0 = 0 ∧ (∀ a b x, ¬ (a = 29 ∧ (b = 1 ∨ (b = 0 ∧ (x = 0 ∨ x = 2)))) → M4 a b x = M3 a b x) ∧ (0 ≤ c0 ∧ c0 ≤ 255) ∧ L < 200 ∧ rb = L + 1 ∧ RxB (M4 29) (L + 1) ∧ M4 29 1 = up1 (M3 29 1) L c0) ∨ (M4 29 0 0 = 1 ∧ RScr M3 M4 ∧ ¬ (0 ≤ c0 ∧ c0 ≤ 255)) ∨ (M4 29 0 0 = 2 ∧ RScr M3 M4 ∧ (0 ≤ c0 ∧ c0 ≤ 255) ∧ ¬ L < 200)) : AG T zc (iw rb) M4 := by
  obtain ⟨c1, c2, c3, c4, c5, c6, c7, c8, c9, c10, c11, c12, c13, c14, c15⟩ := id h
  rcases hP with ⟨rfl, vv, Mz, ⟨p1, p2, p3, p4⟩, rfl⟩ | ⟨rfl, p, sc⟩ | ⟨rfl, p, sc⟩
  · rcases hR with ⟨q1, q2, q3, q4, q5, q6, q7⟩ | ⟨q1, q2, q3⟩ | ⟨q1, q2, q3⟩
    · have hv : vv = rb := by omega
      have e3 : ∀ a, a ≠ 27 → a ≠ 30 → wu Mz 30 0 0 (iw vv) a = M a := fun a w1 w2 => by rw [wu2 w2, p4, wu2 w1, wu2 w1]
      have e : ∀ a, a ≠ 27 → a ≠ 29 → a ≠ 30 → M4 a = M a := fun a w1 w2 w3 => by rw [← e3 a w1 w3]; exact funext fun b => funext fun x => q2 a b x (by omega)
      have e27 : M4 27 = Mz 27 := by rw [← wu2 (M := Mz) (o := 30) (j := 0) (i := 0) (a := 27) (v := iw vv) (by decide)]; exact funext fun b => funext fun x => q2 27 b x (by omega)
      have z1 : Mz 27 0 1 = (L : Int) + 1 := by rw [p4]; unfold wu; rw [if_pos ⟨rfl, rfl, rfl⟩]
      have z2 : Mz 27 1 = up1 (M 27 1) L c0 := by
        rw [p4, wu_ne (by omega), wu_eq]
        rfl
      have e29 : wu Mz 30 0 0 (iw vv) 29 = M 29 := e3 29 (by decide) (by decide)
      rw [e29] at q7
      refine ⟨q1, fun _ => by rw [q2 30 0 0 (by omega), wu_out, hv], N, P, L + 1, nx, ct, LRx.mono (T := T) (h.text (fun a w1 => e a (by omega) (by omega) (by omega)) ⟨by rw [e27, z1]; omega, by omega, fun i hi => ?_⟩ q6.1 (by rw [q7, c7, e27, z2]) (by rw [e 2 (by decide) (by decide) (by decide)]; exact c15) (fun b x w1 w2 w3 => by unfold K29 at w1; rw [q2 29 b x (by omega), e29])) (by omega)⟩
      rw [e27, z2]
      exact up1_all (A := fun y => 0 ≤ y ∧ y ≤ 65535) (c5.2.2 i hi) (by omega)
    · exfalso; omega
    · exfalso; omega
  · rcases hR with ⟨q1, q2, q3, q4, q5, q6, q7⟩ | ⟨q1, q2, q3⟩ | ⟨q1, q2, q3⟩
    · exfalso; omega
    · exact ⟨q1, fun w9 => absurd w9 (by decide), h.q (QA.sc sc) q2⟩
    · exfalso; omega
  · rcases hR with ⟨q1, q2, q3, q4, q5, q6, q7⟩ | ⟨q1, q2, q3⟩ | ⟨q1, q2, q3⟩
    · exfalso; omega
    · exfalso; omega
    · exact ⟨q1, fun w9 => absurd w9 (by decide), h.q (QA.sc sc) q2⟩
set_option maxHeartbeats 1000000 in
theorem ag_undo {N P L nx ct : Nat} {T  zc rb : Int} {M M3 M4 : wM} (h : LRx N P L nx ct T M) (hP : (zc = 0 ∧ ∃ (vv : Int) (Mz : wM), (1 ≤ ct ∧ vv = (ct : Int) - 1 ∧ Mz 0 = M (5 + (nx + 13) % 14) ∧ Mz 26 0 1 = ((((nx + 13) % 14) : Nat) : Int) ∧ Mz 26 0 2 = (ct : Int) - 1 ∧ ∀ a, a ≠ 0 → a ≠ 26 → Mz a = M a) ∧ M3 = wu Mz 30 0 0 (iw vv)) ∨ (zc = 1 ∧ (ct = 0) ∧ ScrEq M M3)) (hR : (M4 29 0 0 = 0 ∧ (∀ a b x, (a = 29 → (b = 0 ∧ (x = 2 ∨ x = 5 ∨ x = 6)) ∨ (1 ≤ b ∧ b ≤ 6) ∨ b = 16 ∨ b = 17 ∨ b = 18) → M4 a b x = M3 a b x) ∧ 1 ≤ ct ∧ rb = (ct : Int) - 1 ∧ M4 29 0 24 = (ct : Int) - 1 ∧ (∀ x, x < 48 → M4 29 13 x = M3 29 16 (48 * (ct - 1) + x))) ∨ (M4 29 0 0 = 1 ∧ RScr M3 M4 ∧ ct = 0)) : AG T zc (iw rb) M4 := by
  obtain ⟨c1, c2, c3, c4, c5, c6, c7, c8, c9, c10, c11, c12, c13, c14, c15⟩ := id h
  have hN : N ≤ 4 := c1.2.2.1
  have hP3 : P ≤ 3 := c1.2.2.2.2.2.1
  rcases hP with ⟨rfl, vv, Mz, ⟨p1, p2, p3, p4, p5, p6⟩, rfl⟩ | ⟨rfl, p, sc⟩
  · rcases hR with ⟨q1, q2, q3, q4, q5, q6⟩ | ⟨q1, q2, q3⟩
    · have hv : vv = rb := by omega
      have e3 : ∀ a, a ≠ 0 → a ≠ 26 → a ≠ 30 → wu Mz 30 0 0 (iw vv) a = M a := fun a w1 w2 w3 => by rw [wu2 w3, p6 a w1 w2]
      have e4 : ∀ a, a ≠ 29 → a ≠ 30 → M4 a = Mz a := fun a w1 w2 => by
        rw [← wu2 (M := Mz) (o := 30) (j := 0) (i := 0) (v := iw vv) w2]
        exact funext fun b => funext fun x => q2 a b x (fun w3 => absurd w3 w1)
      have e : ∀ a, a ≠ 0 → a ≠ 26 → a ≠ 29 → a ≠ 30 → M4 a = M a := fun a w1 w2 w3 w4 => by rw [e4 a w3 w4, p6 a w1 w2]
      have e29 : wu Mz 30 0 0 (iw vv) 29 = M 29 := e3 29 (by decide) (by decide) (by decide)
      have k29 : ∀ b x, ((b = 0 ∧ (x = 2 ∨ x = 5 ∨ x = 6)) ∨ (1 ≤ b ∧ b ≤ 6) ∨ b = 16 ∨ b = 17 ∨ b = 18) → M4 29 b x = M 29 b x := fun b x w1 => by rw [q2 29 b x (fun _ => w1), e29]
      rw [e29] at q6
      have e19 := e 19 (by decide) (by decide) (by decide) (by decide)
      have e25 := e 25 (by decide) (by decide) (by decide) (by decide)
      have e26 := e4 26 (by decide) (by decide)
      have e27 := e 27 (by decide) (by decide) (by decide) (by decide)
      refine ⟨q1, fun _ => by rw [q2 30 0 0 (by omega), wu_out, hv], N, P, L, (nx + 13) % 14, ct - 1, LRx.mono (T := T) ⟨by rw [e19]; exact c1, ?_, ?_, ?_, by rw [e27]; exact c5, ?_, ?_, by rw [e26]; exact p4, by omega, by rw [e26, p5]; omega, by rw [q5]; omega, by omega, fun t ht => ?_, fun s hs => ?_, by rw [e 2 (by decide) (by decide) (by decide) (by decide)]; exact c15⟩ (by omega)⟩
      · rw [e19]; exact c2.keep fun b x w1 => k29 b x (by omega)
      · exact c3.keep fun b x w1 => k29 b x (by omega)
      · rw [e19, e4 0 (by decide) (by decide), p3]
        have := c13 0 (by omega)
        rw [Nat.sub_zero] at this
        exact this.row hN hP3 fun x hx => by rw [q6 x hx, Nat.sub_zero]
      · rw [k29 0 2 (by omega)]; exact c6
      · rw [e27, ← c7]; exact funext fun x => k29 1 x (by omega)
      · have e5 : M4 (5 + ((nx + 13) % 14 + 13 - t) % 14) = M (5 + (nx + 13 - (t + 1)) % 14) := by
          rw [show 5 + ((nx + 13) % 14 + 13 - t) % 14 = 5 + (nx + 13 - (t + 1)) % 14 by omega]
          exact e _ (by omega) (by omega) (by omega) (by omega)
        rw [e19, e5]
        exact (c13 (t + 1) (by omega)).row hN hP3 fun x hx => by rw [k29 16 _ (by omega), show ct - 1 - 1 - t = ct - 1 - (t + 1) by omega]
      · obtain ⟨d1, d2, d3⟩ := c14 s hs
        refine ⟨by rw [e25]; exact d1, by rw [e25, k29 18 s (by omega)]; exact d2, fun w1 => ?_⟩
        rw [e25] at w1
        rw [e19, e (3 + s) (by omega) (by omega) (by omega) (by omega)]
        exact (d3 w1).row hN hP3 fun x _ => k29 17 _ (by omega)
    · exfalso; omega
  · rcases hR with ⟨q1, q2, q3, q4, q5, q6⟩ | ⟨q1, q2, q3⟩
    · exfalso; omega
    · exact ⟨q1, fun w9 => absurd w9 (by decide), h.q (QA.sc sc) q2⟩
set_option maxHeartbeats 1000000 in
theorem ag_save {N P L nx ct : Nat} {T s0 zc rb : Int} {M M3 M4 : wM} (h : LRx N P L nx ct T M) (hP : (zc = 0 ∧ ∃ (vv : Int) (Mz : wM), ((0 ≤ s0 ∧ s0 ≤ 1) ∧ vv = M 0 0 9 ∧ Mz (3 + s0.toNat) = M 0 ∧ Mz 25 2 s0.toNat = 1 ∧ (∀ x, x ≠ s0.toNat → Mz 25 2 x = M 25 2 x) ∧ ∀ a, a ≠ 3 + s0.toNat → a ≠ 25 → Mz a = M a) ∧ M3 = wu Mz 30 0 0 (iw vv)) ∨ (zc = 1 ∧ (¬ (0 ≤ s0 ∧ s0 ≤ 1)) ∧ ScrEq M M3)) (hR : (M4 29 0 0 = 0 ∧ (∀ a b x, ¬ (a = 29 ∧ (b = 17 ∨ b = 18 ∨ (b = 0 ∧ x = 0))) → M4 a b x = M3 a b x) ∧ (0 ≤ s0 ∧ s0 ≤ 1) ∧ rb = M3 29 13 30 ∧ M4 29 18 s0.toNat = 1 ∧ (∀ x, x ≠ s0.toNat → M4 29 18 x = M3 29 18 x) ∧ (∀ x, x < 48 → M4 29 17 (48 * s0.toNat + x) = M3 29 13 x) ∧ (∀ x, ¬ (48 * s0.toNat ≤ x ∧ x < 48 * s0.toNat + 48) → M4 29 17 x = M3 29 17 x)) ∨ (M4 29 0 0 = 1 ∧ RScr M3 M4 ∧ ¬ (0 ≤ s0 ∧ s0 ≤ 1))) : AG T zc (iw rb) M4 := by
  obtain ⟨c1, c2, c3, c4, c5, c6, c7, c8, c9, c10, c11, c12, c13, c14, c15⟩ := id h
  have hN : N ≤ 4 := c1.2.2.1
  have hP3 : P ≤ 3 := c1.2.2.2.2.2.1
  rcases hP with ⟨rfl, vv, Mz, ⟨p1, p2, p3, p4, p5, p6⟩, rfl⟩ | ⟨rfl, p, sc⟩
  · rcases hR with ⟨q1, q2, q3, q4, q5, q6, q7, q8⟩ | ⟨q1, q2, q3⟩
    · obtain ⟨sn, hsn⟩ : ∃ x, x = s0.toNat := ⟨_, rfl⟩
      rw [← hsn] at p3 p4 p5 p6 q5 q6 q7 q8
      have hs2 : sn < 2 := by omega
      have e3 : ∀ a, a ≠ 3 + sn → a ≠ 25 → a ≠ 30 → wu Mz 30 0 0 (iw vv) a = M a := fun a w1 w2 w3 => by rw [wu2 w3, p6 a w1 w2]
      have e29 : wu Mz 30 0 0 (iw vv) 29 = M 29 := e3 29 (by omega) (by decide) (by decide)
      rw [e29] at q4 q6 q7 q8
      have hv : vv = rb := by rw [p2, q4]; exact c4.2.2.2.2.2.2.2.2.1.symm
      have e4 : ∀ a, a ≠ 29 → a ≠ 30 → M4 a = Mz a := fun a w1 w2 => by
        rw [← wu2 (M := Mz) (o := 30) (j := 0) (i := 0) (v := iw vv) w2]
        exact funext fun b => funext fun x => q2 a b x (by omega)
      have e : ∀ a, a ≠ 3 + sn → a ≠ 25 → a ≠ 29 → a ≠ 30 → M4 a = M a := fun a w1 w2 w3 w4 => by rw [e4 a w3 w4, p6 a w1 w2]
      have k29 : ∀ b x, ¬ (b = 17 ∨ b = 18 ∨ (b = 0 ∧ x = 0)) → M4 29 b x = M 29 b x := fun b x w1 => by rw [q2 29 b x (by omega), e29]
      have e19 := e 19 (by omega) (by decide) (by decide) (by decide)
      have e25 := e4 25 (by decide) (by decide)
      have e26 := e 26 (by omega) (by decide) (by decide) (by decide)
      have e27 := e 27 (by omega) (by decide) (by decide) (by decide)
      refine ⟨q1, fun _ => by rw [q2 30 0 0 (by omega), wu_out, hv], N, P, L, nx, ct, LRx.mono (T := T) ⟨by rw [e19]; exact c1, ?_, ?_, ?_, by rw [e27]; exact c5, ?_, ?_, by rw [e26]; exact c8, c9, by rw [e26]; exact c10, by rw [k29 0 24 (by omega)]; exact c11, c12, fun t ht => ?_, fun s hs => ?_, by rw [e 2 (by omega) (by decide) (by decide) (by decide)]; exact c15⟩ (by omega)⟩
      · rw [e19]; exact c2.keep fun b x w1 => k29 b x (by omega)
      · exact c3.keep fun b x w1 => k29 b x (by omega)
      · rw [e19, e 0 (by omega) (by decide) (by decide) (by decide)]
        exact c4.row hN hP3 fun x _ => k29 13 x (by omega)
      · rw [k29 0 2 (by omega)]; exact c6
      · rw [e27, ← c7]; exact funext fun x => k29 1 x (by omega)
      · rw [e19, e (5 + (nx + 13 - t) % 14) (by omega) (by omega) (by omega) (by omega)]
        exact (c13 t ht).row hN hP3 fun x _ => k29 16 _ (by omega)
      · by_cases w1 : s = sn
        · rw [w1]
          refine ⟨by rw [e25, p4]; omega, by rw [e25, p4]; exact q5, fun _ => ?_⟩
          rw [e19, e4 (3 + sn) (by omega) (by omega), p3]
          exact c4.row hN hP3 fun x hx => q7 x hx
        · obtain ⟨d1, d2, d3⟩ := c14 s hs
          refine ⟨by rw [e25, p5 s w1]; exact d1, by rw [e25, p5 s w1, q6 s w1]; exact d2, fun w2 => ?_⟩
          rw [e25, p5 s w1] at w2
          rw [e19, e (3 + s) (by omega) (by omega) (by omega) (by omega)]
          exact (d3 w2).row hN hP3 fun x hx => q8 _ (by omega)
    · exfalso; omega
  · rcases hR with ⟨q1, q2, q3, q4, q5, q6, q7, q8⟩ | ⟨q1, q2, q3⟩
    · exfalso; omega
    · exact ⟨q1, fun w9 => absurd w9 (by decide), h.q (QA.sc sc) q2⟩
set_option maxHeartbeats 1000000 in
theorem ag_restore {N P L nx ct : Nat} {T s0 zc rb : Int} {M M3 M4 : wM} (h : LRx N P L nx ct T M) (hP : (zc = 0 ∧ ∃ (vv : Int) (Mz : wM), ((0 ≤ s0 ∧ s0 ≤ 1) ∧ M 25 2 s0.toNat = 1 ∧ vv = M (3 + s0.toNat) 0 9 ∧ Mz 0 = M (3 + s0.toNat) ∧ Mz 26 0 2 = 0 ∧ Mz 26 0 1 = M 26 0 1 ∧ ∀ a, a ≠ 0 → a ≠ 26 → Mz a = M a) ∧ M3 = wu Mz 30 0 0 (iw vv)) ∨ (zc = 1 ∧ (¬ (0 ≤ s0 ∧ s0 ≤ 1)) ∧ ScrEq M M3) ∨ (zc = 2 ∧ ((0 ≤ s0 ∧ s0 ≤ 1) ∧ M 25 2 s0.toNat = 0) ∧ ScrEq M M3)) (hR : (M4 29 0 0 = 0 ∧ (∀ a b x, (a = 29 → (b = 0 ∧ (x = 2 ∨ x = 5 ∨ x = 6)) ∨ (1 ≤ b ∧ b ≤ 6) ∨ b = 16 ∨ b = 17 ∨ b = 18) → M4 a b x = M3 a b x) ∧ (0 ≤ s0 ∧ s0 ≤ 1) ∧ M3 29 18 s0.toNat = 1 ∧ rb = M3 29 17 (48 * s0.toNat + 30) ∧ M4 29 0 24 = 0 ∧ (∀ x, x < 48 → M4 29 13 x = M3 29 17 (48 * s0.toNat + x))) ∨ (M4 29 0 0 = 1 ∧ RScr M3 M4 ∧ ¬ (0 ≤ s0 ∧ s0 ≤ 1)) ∨ (M4 29 0 0 = 2 ∧ RScr M3 M4 ∧ (0 ≤ s0 ∧ s0 ≤ 1) ∧ M3 29 18 s0.toNat = 0)) : AG T zc (iw rb) M4 := by
  obtain ⟨c1, c2, c3, c4, c5, c6, c7, c8, c9, c10, c11, c12, c13, c14, c15⟩ := id h
  have hN : N ≤ 4 := c1.2.2.1
  have hP3 : P ≤ 3 := c1.2.2.2.2.2.1
  have hsl : 0 ≤ s0 ∧ s0 ≤ 1 → M 29 18 s0.toNat = M 25 2 s0.toNat := fun w1 => (c14 s0.toNat (by omega)).2.1
  rcases hP with ⟨rfl, vv, Mz, ⟨p1, p2, p3, p4, p5, p6, p7⟩, rfl⟩ | ⟨rfl, p, sc⟩ | ⟨rfl, p, sc⟩
  · have e3 : ∀ a, a ≠ 0 → a ≠ 26 → a ≠ 30 → wu Mz 30 0 0 (iw vv) a = M a := fun a w1 w2 w3 => by rw [wu2 w3, p7 a w1 w2]
    have e29 : wu Mz 30 0 0 (iw vv) 29 = M 29 := e3 29 (by decide) (by decide) (by decide)
    rcases hR with ⟨q1, q2, q3, q4, q5, q6, q7⟩ | ⟨q1, q2, q3⟩ | ⟨q1, q2, q3⟩
    · obtain ⟨sn, hsn⟩ : ∃ x, x = s0.toNat := ⟨_, rfl⟩
      rw [← hsn] at p2 p3 p4 q4 q5 q7
      have hs2 : sn < 2 := by omega
      rw [e29] at q4 q5 q7
      obtain ⟨d1, d2, d3⟩ := c14 sn hs2
      have hm := d3 p2
      have hv : vv = rb := by rw [p3, q5]; exact hm.2.2.2.2.2.2.2.2.1.symm
      have e4 : ∀ a, a ≠ 29 → a ≠ 30 → M4 a = Mz a := fun a w1 w2 => by
        rw [← wu2 (M := Mz) (o := 30) (j := 0) (i := 0) (v := iw vv) w2]
        exact funext fun b => funext fun x => q2 a b x (fun w3 => absurd w3 w1)
      have e : ∀ a, a ≠ 0 → a ≠ 26 → a ≠ 29 → a ≠ 30 → M4 a = M a := fun a w1 w2 w3 w4 => by rw [e4 a w3 w4, p7 a w1 w2]
      have k29 : ∀ b x, ((b = 0 ∧ (x = 2 ∨ x = 5 ∨ x = 6)) ∨ (1 ≤ b ∧ b ≤ 6) ∨ b = 16 ∨ b = 17 ∨ b = 18) → M4 29 b x = M 29 b x := fun b x w1 => by rw [q2 29 b x (fun _ => w1), e29]
      have e19 := e 19 (by decide) (by decide) (by decide) (by decide)
      have e25 := e 25 (by decide) (by decide) (by decide) (by decide)
      have e26 := e4 26 (by decide) (by decide)
      have e27 := e 27 (by decide) (by decide) (by decide) (by decide)
      refine ⟨q1, fun _ => by rw [q2 30 0 0 (by omega), wu_out, hv], N, P, L, nx, 0, LRx.mono (T := T) ⟨by rw [e19]; exact c1, ?_, ?_, ?_, by rw [e27]; exact c5, ?_, ?_, by rw [e26, p6]; exact c8, c9, by rw [e26, p5]; rfl, by rw [q6]; rfl, by omega, fun t ht => absurd ht (Nat.not_lt_zero t), fun s hs => ?_, by rw [e 2 (by decide) (by decide) (by decide) (by decide)]; exact c15⟩ (by omega)⟩
      · rw [e19]; exact c2.keep fun b x w1 => k29 b x (by omega)
      · exact c3.keep fun b x w1 => k29 b x (by omega)
      · rw [e19, e4 0 (by decide) (by decide), p4]
        exact hm.row hN hP3 fun x hx => q7 x hx
      · rw [k29 0 2 (by omega)]; exact c6
      · rw [e27, ← c7]; exact funext fun x => k29 1 x (by omega)
      · obtain ⟨d1, d2, d3⟩ := c14 s hs
        refine ⟨by rw [e25]; exact d1, by rw [e25, k29 18 s (by omega)]; exact d2, fun w1 => ?_⟩
        rw [e25] at w1
        rw [e19, e (3 + s) (by omega) (by omega) (by omega) (by omega)]
        exact (d3 w1).row hN hP3 fun x _ => k29 17 _ (by omega)
    · exfalso; omega
    · exfalso; rw [e29] at q3; have := hsl p1; omega
  · have e29 := (QA.sc sc).r
    rcases hR with ⟨q1, q2, q3, q4, q5, q6, q7⟩ | ⟨q1, q2, q3⟩ | ⟨q1, q2, q3⟩
    · exfalso; omega
    · exact ⟨q1, fun w9 => absurd w9 (by decide), h.q (QA.sc sc) q2⟩
    · exfalso; omega
  · have e29 := (QA.sc sc).r
    rcases hR with ⟨q1, q2, q3, q4, q5, q6, q7⟩ | ⟨q1, q2, q3⟩ | ⟨q1, q2, q3⟩
    · exfalso; rw [e29] at q4; have := hsl p.1; omega
    · exfalso; omega
    · exact ⟨q1, fun w9 => absurd w9 (by decide), h.q (QA.sc sc) q2⟩
set_option maxHeartbeats 1000000 in
theorem ag_clearText {N P L nx ct : Nat} {T zc rb : Int} {M M3 M4 : wM} (h : LRx N P L nx ct T M) (hP : zc = L ∧ M3 = wu M 27 0 1 0) (hR : rb = L ∧ M4 29 0 0 = 0 ∧ RxB (M4 29) 0 ∧ ∀ a b x, ¬ (a = 29 ∧ b = 0 ∧ (x = 0 ∨ x = 2)) → M4 a b x = M3 a b x) : zc = rb ∧ LR (T + 1) M4 := by
  obtain ⟨c1, c2, c3, c4, c5, c6, c7, c8, c9, c10, c11, c12, c13, c14, c15⟩ := id h
  obtain ⟨p1, p2⟩ := hP
  obtain ⟨q1, q2, q3, q4⟩ := hR
  have e3 : ∀ a, a ≠ 27 → M3 a = M a := fun a w1 => by rw [p2, wu2 w1]
  have e : ∀ a, a ≠ 27 → a ≠ 29 → M4 a = M a := fun a w1 w2 => by rw [← e3 a w1]; exact funext fun b => funext fun x => q4 a b x (by omega)
  have e27 : M4 27 = M3 27 := funext fun b => funext fun x => q4 27 b x (by omega)
  have z2 : M3 27 1 = M 27 1 := by rw [p2, wu_ne (by omega)]
  refine ⟨by rw [p1, q1], N, P, 0, nx, ct, LRx.mono (T := T) (h.text (fun a w1 => e a (by omega) (by omega)) ⟨by rw [e27, p2]; unfold wu; rw [if_pos ⟨rfl, rfl, rfl⟩]; rfl, by omega, by rw [e27, z2]; exact c5.2.2⟩ q3.1 ?_ (by rw [e 2 (by decide) (by decide)]; exact c15) (fun b x w1 w2 w3 => by unfold K29 at w1; rw [q4 29 b x (by omega), e3 29 (by decide)])) (by omega)⟩
  rw [e27, z2, ← c7, ← e3 29 (by decide)]
  exact funext fun x => q4 29 1 x (by omega)
set_option maxHeartbeats 1000000 in
theorem ag_errorPosition {N P L nx ct : Nat} {T zc rb : Int} {M M3 M4 : wM} (h : LRx N P L nx ct T M) (hP : zc = (if (rdE (M 27 1) L).1.2 = 0 then -9 else ((rdE (M 27 1) L).1.1 : Int)) ∧ TxOk (M3 27) L (rdE (M 27 1) L).1 ∧ (∀ a, a ≠ 2 → a ≠ 20 → a ≠ 27 → M3 a = M a) ∧ M3 27 1 = M 27 1 ∧ (∀ b x, ¬ (b = 0 ∧ (x = 7 ∨ x = 8)) → ¬ (6 ≤ b ∧ b < 10) → M3 2 b x = M 2 b x)) (hR : rb = (if (rdE (M3 29 1) L).1.2 = 0 then -9 else ((rdE (M3 29 1) L).1.1 : Int)) ∧ M4 29 0 0 = 0 ∧ RScr M3 M4) : zc = rb ∧ LR (T + 1) M4 := by
  obtain ⟨c1, c2, c3, c4, c5, c6, c7, c8, c9, c10, c11, c12, c13, c14, c15⟩ := id h
  obtain ⟨p1, p2, p3, p4, p5⟩ := hP
  obtain ⟨q1, q2, q3⟩ := hR
  have e29 : M3 29 = M 29 := p3 29 (by decide) (by decide) (by decide)
  rw [e29, c7] at q1
  have e4 : ∀ a, a ≠ 29 → M4 a = M3 a := fun a w1 => funext fun b => funext fun x => q3 a b x (fun w3 => absurd w3 w1)
  refine ⟨by rw [p1, q1], N, P, L, nx, ct, LRx.mono (T := T) (h.keep (fun a w1 => by rw [e4 a (by omega), p3 a (by omega) (by omega) (by omega)]) ⟨by rw [e4 27 (by decide), p2.1, c5.1], by rw [e4 27 (by decide)]; exact p4⟩ (by rw [e4 2 (by decide)]; exact c15.keep p5) (fun b x w1 => by rw [q3 29 b x (fun _ => w1), e29])) (by omega)⟩
