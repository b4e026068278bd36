/-! a load, side by side -/
theorem pT_ge {ch : Nat → Int} {L : Nat} {s : pS} (h : (pT ch L 1 s).2.2 = 0) : 1 ≤ (pT ch L 1 s).1 := by
  unfold pT at h ⊢
  dsimp only at h ⊢
  have h1 := pD_bd (ch := ch) (L := L) (a := 0) (b := 9) (s := s) (by decide) (by decide)
  obtain ⟨lo, hlo⟩ : ∃ lo : Int, lo = if (pD ch L 0 9 s).1 = 0 then 1 else 0 := ⟨_, rfl⟩
  rw [← hlo] at h ⊢
  have h2 := (pD_rng (ch := ch) (L := L) (a := lo) (b := 9) (s := (pD ch L 0 9 s).2)).1 h
  have h3 : (pD ch L 0 9 s).1 = 0 → lo = 1 := fun q => by rw [hlo, if_pos q]
  have h4 : (pD ch L 0 9 s).1 ≠ 0 → lo = 0 := fun q => by rw [hlo, if_neg q]
  by_cases c : (pD ch L 0 9 s).1 = 0
  · have := h3 c; omega
  · have := h4 c; omega
theorem gG_bd {ch : Nat → Int} {L N P : Nat} : ∀ (n : Nat) (s : pS) (g : Nat → Nat → Int), (∀ x y, -99 ≤ g x y ∧ g x y ≤ 99) → ∀ x y, -99 ≤ (gG ch L N P n s g).2 x y ∧ (gG ch L N P n s g).2 x y ≤ 99
  | 0, _, _, h => h
  | n + 1, s, g, h => by
    unfold gG
    split
    · refine gG_bd n _ _ fun x y => ?_
      unfold gUp
      split
      · exact pN_bd
      · exact h x y
    · exact h
theorem rdE_bd {ch : Nat → Int} {L : Nat} (x y : Nat) : -99 ≤ (rdE ch L).2 x y ∧ (rdE ch L).2 x y ≤ 99 := gG_bd 200 _ _ (fun _ _ => by decide) x y
theorem rdE_f {ch : Nat → Int} {L : Nat} (h : (rdE ch L).1.2 = 0) : (rdS ch L).2 = 0 ∧ ∀ k, k ≤ rdP ch L → (sO ch L (rdN ch L) (sS ch L (rdN ch L) (rdS ch L) (rdN ch L)) k).2 = 0 := by
  constructor
  · rcases (rdS_ok (ch := ch) (L := L)).2 with q | q
    · exact q
    · have := rdE_ws (ch := ch) (L := L) (i := 0) (Nat.zero_le _) q
      rw [this] at h
      exact h
  · intro k hk
    rcases (sO_ok (N := rdN ch L) (sS_ok (N := rdN ch L) (rdS_ok (ch := ch) (L := L)) (rdN ch L)) k).2 with q | q
    · exact q
    · have := rdE_wo hk q
      rw [this] at h
      exact h
/-- the first moment, as both lay it at a load -/
theorem MR.first {N P : Nat} {pv v : Nat → Nat → Int} {r : Nat → Int} {T : Int} (hT : 0 ≤ T) (hN : N ≤ 4) (hP : P ≤ 3) (hF : FM v) (h7 : 0 ≤ v 0 7 ∧ v 0 7 ≤ 9) (h8 : 0 ≤ v 0 8 ∧ v 0 8 ≤ 99) (hg : ∀ x y, x < 4 → y < 3 → -99 ≤ v (6 + x) y ∧ v (6 + x) y ≤ 99) (r7 : r 28 = v 0 7) (r8 : r 29 = v 0 8) (rg : ∀ x y, x < 4 → y < 3 → r (16 + 3 * x + y) = v (6 + x) y) (rl : ∀ i, i < 48 → ¬ (16 ≤ i ∧ i < 30) → r i = layF i) : MR N P pv v r T := by
  obtain ⟨f1, f2, f3, f4, f5⟩ := hF
  have lay : ∀ i, layF i = if 4 ≤ i ∧ i < 8 then -1000 else if 8 ≤ i ∧ i < 12 then 1000 else if 34 ≤ i ∧ i < 37 then -1 else 0 := fun _ => rfl
  refine ⟨⟨fun i hi => ?_, fun i hi => ?_, fun i hi => ?_, fun i hi => ?_, fun i k hi hk => hg i k (by omega) (by omega), fun k hk => ?_, fun k hk => ?_, h7, h8, by omega, by omega, by omega, fun i hi => ?_, fun i hi => ?_⟩, fun i hi => ?_, ⟨fun i hi => ?_, fun k hk q => ?_⟩, fun i hi => ?_, fun i k hi hk => rg i k (by omega) (by omega), fun k hk => ?_, r7, r8, ?_, ?_, ?_, ?_⟩
  · have := f1 i (by omega); omega
  · have := f1 i (by omega); omega
  · have := f1 i (by omega); omega
  · have := f1 i (by omega); omega
  · have := f2 k (by omega); omega
  · have := f2 k (by omega); omega
  · have := f1 i (by omega); omega
  · have := f1 i (by omega); omega
  · have := f1 i (by omega); omega
  · have := f1 i (by omega); omega
  · have := f2 k (by omega); omega
  · have := f1 i (by omega)
    have a0 := rl i (by omega) (by omega)
    have a1 := rl (4 + i) (by omega) (by omega)
    have a2 := rl (8 + i) (by omega) (by omega)
    have a3 := rl (12 + i) (by omega) (by omega)
    have a4 := rl (40 + i) (by omega) (by omega)
    have a5 := rl (44 + i) (by omega) (by omega)
    rw [lay, if_neg (by omega), if_neg (by omega), if_neg (by omega)] at a0 a3 a4 a5
    rw [lay, if_pos (by omega)] at a1
    rw [lay, if_neg (by omega), if_pos (by omega)] at a2
    omega
  · have := f2 k (by omega)
    have a0 := rl (31 + k) (by omega) (by omega)
    have a1 := rl (34 + k) (by omega) (by omega)
    rw [lay, if_neg (by omega), if_neg (by omega), if_neg (by omega)] at a0
    rw [lay, if_neg (by omega), if_neg (by omega), if_pos (by omega)] at a1
    omega
  · rw [rl 30 (by omega) (by omega), f3]; rfl
  · rw [rl 38 (by omega) (by omega), f4]; rfl
  · rw [rl 39 (by omega) (by omega), f5]; rfl
  · rw [rl 37 (by omega) (by omega), if_pos f3]; rfl
set_option maxHeartbeats 1000000 in
theorem ag_load {N P L nx ct : Nat} {T  zc rb : Int} {M M3 M4 : wM} (h : LRx N P L nx ct T M) (hT0 : 0 ≤ T) (hP : (zc = 0 ∧ ∃ (vv : Int) (Mz : wM), ((rdE (M 27 1) L).1.2 = 0 ∧ vv = (rdN (M 27 1) L : Int) ∧ ∃ M2 : wM, (TxOk (M2 27) L (rdE (M 27 1) L).1 ∧ (∀ a, a ≠ 2 → a ≠ 20 → a ≠ 27 → M2 a = M a) ∧ M2 27 1 = M 27 1 ∧ (∀ b x, ¬ (b = 0 ∧ (x = 7 ∨ x = 8)) → ¬ (6 ≤ b ∧ b < 10) → M2 2 b x = M 2 b x) ∧ TxF M M2 L (rdN (M 27 1) L) (rdP (M 27 1) L) ((hdB (M 27 1) L (0, 0)).1) ((hdH (M 27 1) L (0, 0)).1) (rdS (M 27 1) L) (rdN (M 27 1) L) (rdP (M 27 1) L) ∧ ∀ x y, x < 4 → y < 3 → M2 2 (6 + x) y = (rdE (M 27 1) L).2 x y) ∧ Mz 0 = M2 2 ∧ Mz 19 = M2 20 ∧ Mz 26 0 2 = 0 ∧ Mz 25 2 0 = 0 ∧ Mz 25 2 1 = 0 ∧ (Mz 26 0 1 = M 26 0 1) ∧ ∀ a, a ≠ 0 → a ≠ 19 → a ≠ 25 → a ≠ 26 → Mz a = M2 a) ∧ M3 = wu Mz 30 0 0 (iw vv)) ∨ (zc = 1 ∧ (¬ (rdE (M 27 1) L).1.2 = 0 ∧ TxOk (M3 27) L (rdE (M 27 1) L).1 ∧ (∀ a, a ≠ 2 → a ≠ 20 → a ≠ 27 → M3 a = M a) ∧ M3 27 1 = M 27 1 ∧ (∀ b x, ¬ (b = 0 ∧ (x = 7 ∨ x = 8)) → ¬ (6 ≤ b ∧ b < 10) → M3 2 b x = M 2 b x)))) (hR : (M4 29 0 0 = 0 ∧ True ∧ (rdE (M3 29 1) L).1.2 = 0 ∧ rb = (rdN (M3 29 1) L : Int) ∧ ∃ M2 : wM, (RdF (M2 29) (M3 29 1) L (rdN (M3 29 1) L) (rdP (M3 29 1) L) ∧ RdG (M2 29 12) (rdE (M3 29 1) L).2) ∧ M4 29 0 5 = (rdN (M3 29 1) L : Int) ∧ M4 29 0 6 = (rdP (M3 29 1) L : Int) ∧ (∀ x, x < 16 → M4 29 2 x = M2 29 7 x) ∧ (∀ x, x < 12 → M4 29 5 x = M2 29 10 x) ∧ (∀ x, x < 4 → M4 29 3 x = M2 29 8 x) ∧ (∀ x, x < 4 → M4 29 4 x = M2 29 9 x) ∧ (∀ x, x < 3 → M4 29 6 x = M2 29 11 x) ∧ (∀ x, x < 48 → M4 29 13 x = M2 29 12 x) ∧ M4 29 0 24 = 0 ∧ M4 29 18 0 = 0 ∧ M4 29 18 1 = 0 ∧ ∀ a b x, (a = 29 → (b = 0 ∧ x = 2) ∨ b = 1 ∨ b = 17) → M4 a b x = M3 a b x) ∨ (M4 29 0 0 = 1 ∧ RScr M3 M4 ∧ ¬ (rdE (M3 29 1) L).1.2 = 0)) : AG T zc (iw rb) M4 := by
  obtain ⟨c1, c2, c3, c4, c5, c6, c7, c8, c9, c10, c11, c12, c13, c14, c15⟩ := id h
  rcases hP with ⟨rfl, vv, Mz, ⟨p1, p2, M2, ⟨a1, a2, a3, a4, ⟨t1, t2, t3, t4, t5, t6, t7, t8, t9⟩, a6⟩, p3, p4, p5, p6, p7, p8, p9⟩, rfl⟩ | ⟨rfl, s0, s1, s2, s3, s4⟩
  · have e3 : ∀ a, a ≠ 30 → wu Mz 30 0 0 (iw vv) a = Mz a := fun a w1 => wu2 w1
    have e29 : wu Mz 30 0 0 (iw vv) 29 = M 29 := by rw [e3 29 (by decide), p9 29 (by decide) (by decide) (by decide) (by decide), a2 29 (by decide) (by decide) (by decide)]
    rw [e29, c7] at hR
    rcases hR with ⟨q1, -, q3, q4, M5, ⟨⟨g1, g2, g3, g4, g5, g6, g7, g8⟩, g9, g10⟩, q7, q8, q9, q10, q11, q12, q13, q14, q15, q16, q17, q18⟩ | ⟨q1, q2, q3⟩
    · have hv : vv = rb := by rw [p2, q4]
      have e4 : ∀ a, a ≠ 29 → a ≠ 30 → M4 a = Mz a := fun a w1 w2 => by rw [← e3 a w2]; exact funext fun b => funext fun x => q18 a b x (fun w3 => absurd w3 w1)
      obtain ⟨f1, f2⟩ := rdE_f p1
      obtain ⟨n1, m1⟩ := rdS_0 f1
      have n4 := (rd_n (ch := M 27 1) (L := L)).2
      have m3 := (rd_p (ch := M 27 1) (L := L)).2
      have e19 : M4 19 = M2 20 := by rw [e4 19 (by decide) (by decide), p4]
      have e0 : M4 0 = M2 2 := by rw [e4 0 (by decide) (by decide), p3]
      have e26 := e4 26 (by decide) (by decide)
      have e25 := e4 25 (by decide) (by decide)
      have e27 : M4 27 = M2 27 := by rw [e4 27 (by decide) (by decide), p9 27 (by decide) (by decide) (by decide) (by decide)]
      have e2 : M4 2 = M2 2 := by rw [e4 2 (by decide) (by decide), p9 2 (by decide) (by decide) (by decide) (by decide)]
      have hF : FM (M2 2) := c15.keep a4
      refine ⟨q1, fun _ => by rw [q18 30 0 0 (by omega), wu_out, hv], rdN (M 27 1) L, rdP (M 27 1) L, L, nx, 0, LRx.mono (T := T) ⟨?_, ?_, ?_, ?_, ?_, ?_, ?_, by rw [e26, p8]; exact c8, c9, by rw [e26, p5]; rfl, by rw [q15]; rfl, by omega, fun t ht => absurd ht (Nat.not_lt_zero t), fun s hs => ?_, by rw [e2]; exact hF⟩ (by omega)⟩
      · rw [e19]
        refine ⟨t4, n1, n4, t5, m1, m3, fun a i ha hi => by rw [(t8 a ha).1 i hi]; exact rowF_bd, fun i hi => by rw [(t8 i hi).2.1]; exact rowF_bd, fun i hi => by rw [(t8 i hi).2.2]; exact rowF_bd, fun k i hk hi => by rw [(t9 k hk).1 i hi]; exact rowF_bd, fun k hk => ?_⟩
        rw [(t9 k hk).2]
        exact ⟨pT_ge (f2 (k + 1) (by omega)), (pT_bd (by decide)).2⟩
      · rw [e19]
        exact ⟨q7, q8, fun a i ha hi => by rw [q9 _ (by omega), (g5 a ha).1 i hi, (t8 a ha).1 i hi], fun i hi => by rw [q11 i (by omega), (g5 i hi).2.1, (t8 i hi).2.1], fun i hi => by rw [q12 i (by omega), (g5 i hi).2.2, (t8 i hi).2.2], fun k i hk hi => by rw [q10 _ (by omega), (g6 k hk).1 i hi, (t9 k hk).1 i hi], fun k hk => by rw [q13 k (by omega), (g6 k hk).2, (t9 k hk).2]⟩
      · exact ⟨fun i j hi hj hj4 => by rw [q9 _ (by omega)]; exact g7 i j (by omega) hj hj4, fun k j hk hj hj4 => by rw [q10 _ (by omega)]; exact g8 k j (by omega) hj hj4⟩
      · rw [e0]
        exact MR.first hT0 n4 m3 hF (by rw [t7]; exact pD_bd (by decide) (by decide)) (by rw [t6]; exact pT_bd (by decide)) (fun x y hx hy => by rw [a6 x y hx hy]; exact rdE_bd x y) (by rw [q14 28 (by omega), g4, t7]) (by rw [q14 29 (by omega), g3, t6]) (fun x y hx hy => by rw [q14 _ (by omega), g9 x y hx hy, a6 x y hx hy]) (fun i hi w1 => by rw [q14 i hi]; exact g10 i hi w1)
      · rw [e27]; exact ⟨a1.1, a1.2.1, a1.2.2.2.2.2⟩
      · rw [q18 29 0 2 (by omega), e29]; exact c6
      · rw [e27, a3, ← c7]
        exact funext fun x => by rw [q18 29 1 x (by omega), e29]
      · have s25 : Mz 25 2 s = 0 := by
          rcases (show s = 0 ∨ s = 1 by omega) with rfl | rfl
          · exact p6
          · exact p7
        have s18 : M4 29 18 s = 0 := by
          rcases (show s = 0 ∨ s = 1 by omega) with rfl | rfl
          · exact q16
          · exact q17
        refine ⟨by rw [e25]; exact Or.inl s25, by rw [s18, e25, s25], fun w1 => ?_⟩
        rw [e25, s25] at w1
        exact absurd w1 (by decide)
    · exact absurd p1 q3
  · have e29 : M3 29 = M 29 := s2 29 (by decide) (by decide) (by decide)
    rw [e29, c7] at hR
    rcases hR with ⟨q1, -, q3, q4, M5, ⟨⟨g1, g2, g3, g4, g5, g6, g7, g8⟩, g9, g10⟩, q7, q8, q9, q10, q11, q12, q13, q14, q15, q16, q17, q18⟩ | ⟨q1, q2, q3⟩
    · exact absurd q3 s0
    · have e4 : ∀ a, a ≠ 29 → M4 a = M3 a := fun a w1 => funext fun b => funext fun x => q2 a b x (fun w3 => absurd w3 w1)
      refine ⟨q1, fun w9 => absurd w9 (by decide), N, P, L, nx, ct, LRx.mono (T := T) (h.keep (fun a w1 => by rw [e4 a (by omega), s2 a (by omega) (by omega) (by omega)]) ⟨by rw [e4 27 (by decide), s1.1, c5.1], by rw [e4 27 (by decide)]; exact s3⟩ (by rw [e4 2 (by decide)]; exact c15.keep s4) (fun b x w1 => by rw [q2 29 b x (fun _ => w1), e29])) (by omega)⟩
