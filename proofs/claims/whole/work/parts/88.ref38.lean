theorem cf_X9_layTimes : wCal yX9_layTimes cX9_layTimes 9 none 4 := ⟨gw_1318, gw_10, by decide, by decide, by rfl⟩
set_option maxRecDepth 100000 in
set_option maxHeartbeats 4000000 in
theorem c_X9_layTimes (l : Launch) (G : wG) (M : wM) (N P : Nat) (pv : Nat → Nat → Int) (hp : PlOk pv N P) (hq : PEq N P pv (M 29)) (hz : ZCo N P (M 29)) (fb nf fi tb nt ti : Nat) (hkf : wkd 29 fb = some (.inr (1, nf, wNr))) (hkt : wkd 29 tb = some (.inr (1, nt, wNr))) (hnf : nf ≤ 100000) (hnt : nt ≤ 100000) (hfi : fi + 4 ≤ nf) (hti : ti + 4 ≤ nt) (htb : 20 ≤ tb) (hft : fb ≠ tb) (hF : ∀ x, x < 4 → 0 ≤ M 29 fb (fi + x) ∧ M 29 fb (fi + x) < 1000003) : Met l yX9_layTimes (gws yX9_layTimes cX9_layTimes 9 none) (wrm 1 0 0) (wPc G M [vR G (29, 0), vR G (29, fb), vI (fi : Int), vR G (29, tb), vI (ti : Int)]) (wQv G (fun M1 => (∀ a b x, ¬ (a = 29 ∧ b = tb ∧ ti ≤ x ∧ x < ti + 4) → M1 a b x = M a b x) ∧ ∀ j, j < 4 → M1 29 tb (ti + j) = lyT N (fun i => M 29 fb (fi + i)) (M 29 2) j)) 0 0 (wA G) := by
  refine wMet (lc := [(0, vR G (29, 0)), (1, vR G (29, fb)), (2, vI (fi : Int)), (3, vR G (29, tb)), (4, vI (ti : Int))]) (by decide) (Nat.le_of_ble_eq_true rfl) rfl ?_
  intro p e s m args below meth c X hr
  have X : wX p s m args meth c G 9 "StateObserverModel" cX9_layTimes := X
  obtain ⟨hN, hN1, hN4, hP, hP1, hP3, hA, hB, hE, hC, hQ⟩ := id hp
  obtain ⟨qN, qP, qA, qB, qE, qC, qQ⟩ := id hq
  have qA0 := hp.2.2.2.2.2.2.1
  refine r_iconst (pc' := 1) X dX9_layTimes_0 rfl ?_
  refine r_istore (pc' := 3) (lc' := [(0, vR G (29, 0)), (1, vR G (29, fb)), (2, vI (fi : Int)), (3, vR G (29, tb)), (4, vI (ti : Int)), (5, vI 0)]) X [1, 2, 3, 4, 5, 0] dX9_layTimes_1 (by decide) rfl rfl ?_
  have L3 : ∀ (fu : Nat) (j : Nat) (Ma : wM), 4 - j < fu → (j ≤ 4) → (∀ a b x, ¬ (a = 29 ∧ b = tb ∧ ti ≤ x ∧ x < ti + 4) → Ma a b x = M a b x) → (∀ x, x < j → Ma 29 tb (ti + x) = lyT N (fun i => M 29 fb (fi + i)) (M 29 2) x) → wV p l e (wrm 1 0 0) s m args below meth c G 9 Ma 0 0 (MQ below (wQv G (fun M1 => (∀ a b x, ¬ (a = 29 ∧ b = tb ∧ ti ≤ x ∧ x < ti + 4) → M1 a b x = M a b x) ∧ ∀ j, j < 4 → M1 29 tb (ti + j) = lyT N (fun i => M 29 fb (fi + i)) (M 29 2) j)) args s 0 0 (wA G)) 3 [(0, vR G (29, 0)), (1, vR G (29, fb)), (2, vI (fi : Int)), (3, vR G (29, tb)), (4, vI (ti : Int)), (5, vI (j : Int))] [] := by
    intro fu
    induction fu with
    | zero => intro j Ma hfu; exact absurd hfu (Nat.not_lt_zero _)
    | succ fu ih3 =>
      intro j Ma hfu3 hj4 hfr hlo
      refine r_iload (pc' := 5) X 5 dX9_layTimes_3 rfl rfl ?_
      refine r_iconst (pc' := 6) X dX9_layTimes_5 rfl ?_
      refine r_icmp_ge (pc' := 9) (tgt := 77) X dX9_layTimes_6 rfl rfl (by omega) (by omega) (fun h6 => ?_) (fun h6 => ?_)
      · refine w_vret X hr dX9_layTimes_77 ?_
        try dsimp only
        exact ⟨hfr, fun x hx => hlo x (by omega)⟩
      · refine r_lconst (pc' := 10) (z := 0) X dX9_layTimes_9 rfl rfl ?_
        refine r_lstore (pc' := 12) (lc' := [(0, vR G (29, 0)), (1, vR G (29, fb)), (2, vI (fi : Int)), (3, vR G (29, tb)), (4, vI (ti : Int)), (5, vI (j : Int)), (6, vJ 0)]) X [1, 2, 3, 4, 5, 6, 0] dX9_layTimes_10 (by decide) rfl rfl ?_
        refine r_iconst (pc' := 13) X dX9_layTimes_12 rfl ?_
        refine r_istore (pc' := 15) (lc' := [(0, vR G (29, 0)), (1, vR G (29, fb)), (2, vI (fi : Int)), (3, vR G (29, tb)), (4, vI (ti : Int)), (5, vI (j : Int)), (6, vJ 0), (8, vI 0)]) X [1, 2, 3, 4, 5, 6, 7, 0] dX9_layTimes_13 (by decide) rfl rfl ?_
        have L15 : ∀ (fu : Nat) (i : Nat) (sm : Int), N - i < fu → (i ≤ N) → (Z0 (sm - dot i (fun i => M 29 fb (fi + i)) (fun i => M 29 2 (4 * i + j)))) → (-(1000003 * i) ≤ sm ∧ sm ≤ 1000003 * i) → wV p l e (wrm 1 0 0) s m args below meth c G 9 Ma 0 0 (MQ below (wQv G (fun M1 => (∀ a b x, ¬ (a = 29 ∧ b = tb ∧ ti ≤ x ∧ x < ti + 4) → M1 a b x = M a b x) ∧ ∀ j, j < 4 → M1 29 tb (ti + j) = lyT N (fun i => M 29 fb (fi + i)) (M 29 2) j)) args s 0 0 (wA G)) 15 [(0, vR G (29, 0)), (1, vR G (29, fb)), (2, vI (fi : Int)), (3, vR G (29, tb)), (4, vI (ti : Int)), (5, vI (j : Int)), (6, vJ sm), (8, vI (i : Int))] [] := by
          intro fu
          induction fu with
          | zero => intro i sm hfu; exact absurd hfu (Nat.not_lt_zero _)
          | succ fu ih15 =>
            intro i sm hfu15 hi0 hsm hsb
            have qNa : Ma 29 0 5 = N := by rw [hfr 29 0 5 (by omega)]; exact qN
            refine r_iload (pc' := 17) X 7 dX9_layTimes_15 rfl rfl ?_
            refine r_aload_n (pc' := 18) X 0 dX9_layTimes_17 rfl rfl rfl ?_
            refine gf_29_states (pc' := 21) X gw_972 dX9_layTimes_18 rfl ?_
            refine r_icmp_ge (pc' := 24) (tgt := 59) X dX9_layTimes_21 rfl rfl (by omega) (by omega) (fun h21 => ?_) (fun h21 => ?_)
            · have hiN : i = N := by omega
              have hfin : sm % 1000003 = lyT N (fun i => M 29 fb (fi + i)) (M 29 2) j := by rw [hiN] at hsm; exact hsm.eqm
              refine r_aload_n (pc' := 60) X 3 dX9_layTimes_59 rfl rfl rfl ?_
              refine r_iload (pc' := 62) X 4 dX9_layTimes_60 rfl rfl ?_
              refine r_iload (pc' := 64) X 5 dX9_layTimes_62 rfl rfl ?_
              refine r_iadd (pc' := 65) X dX9_layTimes_64 rfl ?_
              refine r_lload (pc' := 67) X 6 dX9_layTimes_65 rfl rfl ?_
              refine w_callj (pc' := 70) (st := [vI ((ti : Int) + (j : Int)), vR G (29, tb)]) (w_runS X (c_X9_residue l G Ma sm (by first | assumption | omega)) cf_X9_residue gw_1312 rfl rfl ⟨Nat.le_of_ble_eq_true rfl, Nat.le_of_ble_eq_true rfl⟩ rfl rfl (Nat.le_of_ble_eq_true rfl) ⟨Nat.le_of_ble_eq_true rfl, Nat.le_of_ble_eq_true rfl⟩ gw_1311 dX9_layTimes_67) rfl (fun z67 M1 h67 => ?_)
              obtain rfl := h67.1.symm
              obtain rfl := h67.2.symm
              refine r_last (i := (ti + j)) (pc' := 71) X hkt (by omega) (by omega) (by omega) dX9_layTimes_70 rfl (fun M2 hM2 => ?_)
              refine r_iinc (pc' := 74) (z' := ((j + 1 : Nat) : Int)) (lc' := [(0, vR G (29, 0)), (1, vR G (29, fb)), (2, vI (fi : Int)), (3, vR G (29, tb)), (4, vI (ti : Int)), (5, vI ((j + 1 : Nat) : Int)), (6, vJ sm), (8, vI (i : Int))]) X 5 [1, 2, 3, 4, 5, 0, 6, 7] dX9_layTimes_71 rfl (by omega) (by decide) rfl rfl ?_
              refine r_goto (tgt := 3) X dX9_layTimes_74 rfl ?_
              refine w_sub (lc' := [(0, vR G (29, 0)), (1, vR G (29, fb)), (2, vI (fi : Int)), (3, vR G (29, tb)), (4, vI (ti : Int)), (5, vI ((j + 1 : Nat) : Int))]) [0, 1, 2, 3, 4, 5] rfl ?_
              exact ih3 (j + 1) M2 (by omega) (by omega) (fun a b x w1 => by rw [hM2]; unfold wu; rw [if_neg (by omega)]; exact hfr a b x w1) (fun x hx => by rw [hM2]; unfold wu; by_cases w1 : x = j; rw [if_pos ⟨rfl, rfl, by omega⟩, w1]; exact hfin; rw [if_neg (by omega)]; exact hlo x (by omega))
            · have e1 : Ma 29 fb (fi + i) = M 29 fb (fi + i) := hfr 29 fb _ (by omega)
              have e2 : Ma 29 2 (4 * i + j) = M 29 2 (4 * i + j) := hfr 29 2 _ (by omega)
              have g1 := hF i (by omega)
              have g2 := mx_bd qA0 hq hz (i := i) (j := j) (by omega) (by omega)
              have g3 := mul_bd (A := 1000003) (B := 99) (a := Ma 29 fb (fi + i)) (b := Ma 29 2 (4 * i + j)) (by decide) (by omega) (by omega)
              have g4 := tmod_bd (a := Ma 29 fb (fi + i) * Ma 29 2 (4 * i + j)) (b := 1000003) (by omega)
              have hd1 : dot (i + 1) (fun i => M 29 fb (fi + i)) (fun i => M 29 2 (4 * i + j)) = dot i (fun i => M 29 fb (fi + i)) (fun i => M 29 2 (4 * i + j)) + M 29 fb (fi + i) * M 29 2 (4 * i + j) := rfl
              refine r_lload (pc' := 26) X 6 dX9_layTimes_24 rfl rfl ?_
              refine r_aload_n (pc' := 27) X 1 dX9_layTimes_26 rfl rfl rfl ?_
              refine r_iload_n (pc' := 28) X 2 dX9_layTimes_27 rfl rfl rfl ?_
              refine r_iload (pc' := 30) X 7 dX9_layTimes_28 rfl rfl ?_
              refine r_iadd (pc' := 31) X dX9_layTimes_30 rfl ?_
              refine r_lald (i := (fi + i)) (pc' := 32) X hkf (by omega) (by omega) (by omega) dX9_layTimes_31 rfl ?_
              refine r_aload_n (pc' := 33) X 0 dX9_layTimes_32 rfl rfl rfl ?_
              refine gf_29_matrix (pc' := 36) X gw_974 dX9_layTimes_33 rfl ?_
              refine r_iconst (pc' := 37) X dX9_layTimes_36 rfl ?_
              refine r_iload (pc' := 39) X 7 dX9_layTimes_37 rfl rfl ?_
              refine r_imul (pc' := 40) X dX9_layTimes_39 rfl ?_
              refine r_iload (pc' := 42) X 5 dX9_layTimes_40 rfl rfl ?_
              refine r_iadd (pc' := 43) X dX9_layTimes_42 rfl ?_
              refine r_iald (i := ((4 * i) + j)) (pc' := 44) X k29_2 (by omega) (by omega) (by decide) dX9_layTimes_43 rfl ?_
              refine r_i2l (pc' := 45) X dX9_layTimes_44 (by omega) rfl ?_
              refine r_lmul (pc' := 46) X dX9_layTimes_45 rfl ?_
              refine r_ldc2 (pc' := 49) (z := 1000003) X gw_1314 dX9_layTimes_46 rfl rfl ?_
              refine r_lrem (pc' := 50) X dX9_layTimes_49 (by omega) (by omega) (by omega) rfl ?_
              refine r_ladd (pc' := 51) X dX9_layTimes_50 rfl ?_
              refine r_lstore (pc' := 53) (lc' := [(0, vR G (29, 0)), (1, vR G (29, fb)), (2, vI (fi : Int)), (3, vR G (29, tb)), (4, vI (ti : Int)), (5, vI (j : Int)), (6, vJ (sm + (((Ma 29 fb (fi + i)) * (Ma 29 2 ((4 * i) + j))).tmod 1000003))), (8, vI (i : Int))]) X [1, 2, 3, 4, 5, 6, 0, 7] dX9_layTimes_51 (by decide) rfl rfl ?_
              refine r_iinc (pc' := 56) (z' := ((i + 1 : Nat) : Int)) (lc' := [(0, vR G (29, 0)), (1, vR G (29, fb)), (2, vI (fi : Int)), (3, vR G (29, tb)), (4, vI (ti : Int)), (5, vI (j : Int)), (6, vJ (sm + (((Ma 29 fb (fi + i)) * (Ma 29 2 ((4 * i) + j))).tmod 1000003))), (8, vI ((i + 1 : Nat) : Int))]) X 7 [1, 2, 3, 4, 5, 6, 7, 0] dX9_layTimes_53 rfl (by omega) (by decide) rfl rfl ?_
              refine r_goto (tgt := 15) X dX9_layTimes_56 rfl ?_
              exact ih15 (i + 1) (sm + (((Ma 29 fb (fi + i)) * (Ma 29 2 ((4 * i) + j))).tmod 1000003)) (by omega) (by omega) (by rw [hd1]; have f1 := Z0.tmod (a := Ma 29 fb (fi + i) * Ma 29 2 (4 * i + j)); rw [e1, e2] at f1 ⊢; unfold Z0 at *; omega) (by omega)
        exact L15 ((N - 0) + 1) 0 0 (Nat.lt_succ_self _) (by omega) Z0.zero (by omega)
  exact L3 ((4 - 0) + 1) 0 M (Nat.lt_succ_self _) (by omega) (fun _ _ _ _ => rfl) (fun x h => absurd h (Nat.not_lt_zero x))
theorem cf_X9_rank : wCal yX9_rank cX9_rank 5 (some .int) 1 := ⟨gw_1310, gw_10, by decide, by decide, by rfl⟩
set_option maxRecDepth 100000 in
set_option maxHeartbeats 4000000 in
theorem c_X9_rank (l : Launch) (G : wG) (M : wM) (N P : Nat) (pv : Nat → Nat → Int) (hp : PlOk pv N P) (hq : PEq N P pv (M 29)) (hz : ZCo N P (M 29)) (k : Nat) (hk8 : k ≤ 8) : Met l yX9_rank (gws yX9_rank cX9_rank 5 (some .int)) (wrm 2 0 0) (wPc G M [vR G (29, 0), vI (k : Int)]) (wQi G (fun z M1 => (∀ a b x, ¬ (a = 29 ∧ 21 ≤ b ∧ b ≤ 23) → M1 a b x = M a b x) ∧ ∃ y : Nat, z = (y : Int) ∧ y ≤ N ∧ RankOf N (Sp N (Gp N P pv k)) y)) 0 0 (wA G) := by
  refine wMet (lc := [(0, vR G (29, 0)), (1, vI (k : Int))]) (by decide) (Nat.le_of_ble_eq_true rfl) rfl ?_
  intro p e s m args below meth c X hr
  have X : wX p s m args meth c G 5 "StateObserverModel" cX9_rank := X
  obtain ⟨hN, hN1, hN4, hP, hP1, hP3, hA, hB, hE, hC, hQ⟩ := id hp
  obtain ⟨qN, qP, qA, qB, qE, qC, qQ⟩ := id hq
  have qC0 := hp.2.2.2.2.2.2.2.2.2.1
  refine r_iconst (pc' := 1) X dX9_rank_0 rfl ?_
  refine r_istore_n (pc' := 2) (lc' := [(0, vR G (29, 0)), (1, vI (k : Int)), (2, vI 0)]) X [1, 2, 0] dX9_rank_1 rfl (by decide) rfl rfl ?_
  have L2 : ∀ (fu : Nat) (x : Nat) (Ma : wM), 4 * P - x < fu → (x ≤ 4 * P) → (∀ a b y, ¬ (a = 29 ∧ b = 22) → Ma a b y = M a b y) → (∀ y, y < x → Ma 29 22 y = M 29 5 y % 1000003) → wV p l e (wrm 2 0 0) s m args below meth c G 5 Ma 0 0 (MQ below (wQi G (fun z M1 => (∀ a b x, ¬ (a = 29 ∧ 21 ≤ b ∧ b ≤ 23) → M1 a b x = M a b x) ∧ ∃ y : Nat, z = (y : Int) ∧ y ≤ N ∧ RankOf N (Sp N (Gp N P pv k)) y)) args s 0 0 (wA G)) 2 [(0, vR G (29, 0)), (1, vI (k : Int)), (2, vI (x : Int))] [] := by
    intro fu
    induction fu with
    | zero => intro x Ma hfu; exact absurd hfu (Nat.not_lt_zero _)
    | succ fu ih2 =>
      intro x Ma hfu2 hx hfr hlo
      have qPa : Ma 29 0 6 = P := by rw [hfr 29 0 6 (by omega)]; exact qP
      refine r_iload_n (pc' := 3) X 2 dX9_rank_2 rfl rfl rfl ?_
      refine r_iconst (pc' := 4) X dX9_rank_3 rfl ?_
      refine r_aload_n (pc' := 5) X 0 dX9_rank_4 rfl rfl rfl ?_
      refine gf_29_outputs (pc' := 8) X gw_973 dX9_rank_5 rfl ?_
      refine r_imul (pc' := 9) X dX9_rank_8 rfl ?_
      refine r_icmp_ge (pc' := 12) (tgt := 34) X dX9_rank_9 rfl rfl (by omega) (by omega) (fun h9 => ?_) (fun h9 => ?_)
      · have hx4 : x = 4 * P := by omega
        have k0 : ∀ o, o < P → ∀ j, j < 4 → Ma 29 22 (4 * o + j) = M 29 5 (4 * o + j) % 1000003 := fun o w1 j w2 => hlo _ (by omega)
        have k1 : RwOk N (Ma 29 22) P := fun o w1 j w2 => by
          rw [k0 o w1 j w2]
          refine ⟨by omega, fun w3 => ?_⟩
          rw [hz.2 o j w1 w3 w2]
          rfl
        have k2 : ∀ o, o < P → ∀ j, j < N → Z0 (Ma 29 22 (4 * o + j) - pw N pv o 0 j) := fun o w1 j w2 => by
          rw [k0 o w1 j (by omega), qC o j w1 w2]
          exact Z0.emod _
        refine r_iconst (pc' := 35) X dX9_rank_34 rfl ?_
        refine r_istore_n (pc' := 36) (lc' := [(0, vR G (29, 0)), (1, vI (k : Int)), (2, vI 0)]) X [1, 2, 0] dX9_rank_35 rfl (by decide) rfl rfl ?_
        refine r_iconst (pc' := 37) X dX9_rank_36 rfl ?_
        refine r_istore_n (pc' := 38) (lc' := [(0, vR G (29, 0)), (1, vI (k : Int)), (2, vI 0), (3, vI 0)]) X [1, 2, 3, 0] dX9_rank_37 rfl (by decide) rfl rfl ?_
        have L38 : ∀ (fu : Nat) (cnt : Nat) (t : Nat) (Mb : wM), k - t < fu → (t ≤ k) → (cnt = t * P) → (∀ a b x, ¬ (a = 29 ∧ 21 ≤ b ∧ b ≤ 23) → Mb a b x = M a b x) → (RwOk N (Mb 29 22) P) → (∀ o, o < P → ∀ j, j < N → Z0 (Mb 29 22 (4 * o + j) - pw N pv o t j)) → (RwOk N (Mb 29 21) cnt) → (∀ u, Sp N (rws (mr (Mb 29 21)) cnt) u ↔ Sp N (Gp N P pv t) u) → wV p l e (wrm 2 0 0) s m args below meth c G 5 Mb 0 0 (MQ below (wQi G (fun z M1 => (∀ a b x, ¬ (a = 29 ∧ 21 ≤ b ∧ b ≤ 23) → M1 a b x = M a b x) ∧ ∃ y : Nat, z = (y : Int) ∧ y ≤ N ∧ RankOf N (Sp N (Gp N P pv k)) y)) args s 0 0 (wA G)) 38 [(0, vR G (29, 0)), (1, vI (k : Int)), (2, vI (cnt : Int)), (3, vI (t : Int))] [] := by
          intro fu
          induction fu with
          | zero => intro cnt t Mb hfu; exact absurd hfu (Nat.not_lt_zero _)
          | succ fu ih38 =>
            intro cnt t Mb hfu38 ht hct hfr hla hlz hrw hsp
            have qPb : Mb 29 0 6 = P := by rw [hfr 29 0 6 (by omega)]; exact qP
            have hcb : t < k → cnt + P ≤ 24 := fun w1 => by
              have w2 := Nat.mul_le_mul (show t + 1 ≤ 8 by omega) (show P ≤ 3 by omega)
              rw [Nat.succ_mul, ← hct] at w2
              exact w2
            refine r_iload_n (pc' := 39) X 3 dX9_rank_38 rfl rfl rfl ?_
            refine r_iload_n (pc' := 40) X 1 dX9_rank_39 rfl rfl rfl ?_
            refine r_icmp_ge (pc' := 43) (tgt := 166) X dX9_rank_40 rfl rfl (by omega) (by omega) (fun h40 => ?_) (fun h40 => ?_)
            · refine r_aload_n (pc' := 167) X 0 dX9_rank_166 rfl rfl rfl ?_
              refine gf_29_rows (pc' := 170) X gw_996 dX9_rank_167 rfl ?_
              refine r_iload_n (pc' := 171) X 2 dX9_rank_170 rfl rfl rfl ?_
              refine w_calli (pc' := 174) (st := []) (w_runS X (c_X9_eliminate l G Mb N 21 96 cnt k29_21 (by first | assumption | omega) (by have w2 := Nat.mul_le_mul (show t ≤ 8 by omega) (show P ≤ 3 by omega); omega) (by first | assumption | omega) hrw) cf_X9_eliminate gw_1320 rfl rfl ⟨Nat.le_of_ble_eq_true rfl, Nat.le_of_ble_eq_true rfl⟩ rfl rfl (Nat.le_of_ble_eq_true rfl) ⟨Nat.le_of_ble_eq_true rfl, Nat.le_of_ble_eq_true rfl⟩ gw_1319 dX9_rank_171) rfl (fun z171 M1 h171 => ?_)
              obtain ⟨j1, y, j2, j3, j4, ⟨lf, j5⟩, j6⟩ := h171
              refine w_iret X hr dX9_rank_174 ?_
              try dsimp only
              have htk : t = k := by omega
              rw [htk] at hsp
              exact ⟨fun a b x w1 => by rw [j1 a b (by omega)]; exact hfr a b x w1, y, j2, j5.le_n, mr (M1 29 21), lf, j5, fun u => (j6 u).trans (hsp u)⟩
            · refine r_iconst (pc' := 44) X dX9_rank_43 rfl ?_
              refine r_istore (pc' := 46) (lc' := [(0, vR G (29, 0)), (1, vI (k : Int)), (2, vI (cnt : Int)), (3, vI (t : Int)), (4, vI 0)]) X [1, 2, 3, 4, 0] dX9_rank_44 (by decide) rfl rfl ?_
              have L46 : ∀ (fu : Nat) (x : Nat) (Mc : wM), 4 * P - x < fu → (x ≤ 4 * P) → (∀ a b y, ¬ (a = 29 ∧ b = 21 ∧ 4 * cnt ≤ y) → Mc a b y = Mb a b y) → (∀ y, y < x → Mc 29 21 (4 * cnt + y) = Mb 29 22 y) → wV p l e (wrm 2 0 0) s m args below meth c G 5 Mc 0 0 (MQ below (wQi G (fun z M1 => (∀ a b x, ¬ (a = 29 ∧ 21 ≤ b ∧ b ≤ 23) → M1 a b x = M a b x) ∧ ∃ y : Nat, z = (y : Int) ∧ y ≤ N ∧ RankOf N (Sp N (Gp N P pv k)) y)) args s 0 0 (wA G)) 46 [(0, vR G (29, 0)), (1, vI (k : Int)), (2, vI (cnt : Int)), (3, vI (t : Int)), (4, vI (x : Int))] [] := by
                intro fu
                induction fu with
                | zero => intro x Mc hfu; exact absurd hfu (Nat.not_lt_zero _)
                | succ fu ih46 =>
                  intro x Mc hfu46 hx hfc hlc
                  have qPc : Mc 29 0 6 = P := by rw [hfc 29 0 6 (by omega)]; exact qPb
                  have hcb2 := hcb (by omega)
                  refine r_iload (pc' := 48) X 4 dX9_rank_46 rfl rfl ?_
                  refine r_iconst (pc' := 49) X dX9_rank_48 rfl ?_
                  refine r_aload_n (pc' := 50) X 0 dX9_rank_49 rfl rfl rfl ?_
                  refine gf_29_outputs (pc' := 53) X gw_973 dX9_rank_50 rfl ?_
                  refine r_imul (pc' := 54) X dX9_rank_53 rfl ?_
                  refine r_icmp_ge (pc' := 57) (tgt := 81) X dX9_rank_54 rfl rfl (by omega) (by omega) (fun h54 => ?_) (fun h54 => ?_)
                  · have hx46 : x = 4 * P := by omega
                    have hlc46 : ∀ y, y < 4 * P → Mc 29 21 (4 * cnt + y) = Mb 29 22 y := fun y w1 => hlc y (by omega)
                    refine r_iload_n (pc' := 82) X 2 dX9_rank_81 rfl rfl rfl ?_
                    refine r_aload_n (pc' := 83) X 0 dX9_rank_82 rfl rfl rfl ?_
                    refine gf_29_outputs (pc' := 86) X gw_973 dX9_rank_83 rfl ?_
                    refine r_iadd (pc' := 87) X dX9_rank_86 rfl ?_
                    refine w_eqI (z' := ((cnt + P : Nat) : Int)) (by omega) ?_
                    refine r_istore_n (pc' := 88) (lc' := [(0, vR G (29, 0)), (1, vI (k : Int)), (2, vI ((cnt + P : Nat) : Int)), (3, vI (t : Int)), (4, vI (x : Int))]) X [1, 2, 0, 3, 4] dX9_rank_87 rfl (by decide) rfl rfl ?_
                    refine r_iconst (pc' := 89) X dX9_rank_88 rfl ?_
                    refine r_istore (pc' := 91) (lc' := [(0, vR G (29, 0)), (1, vI (k : Int)), (2, vI ((cnt + P : Nat) : Int)), (3, vI (t : Int)), (4, vI 0)]) X [1, 2, 3, 4, 0] dX9_rank_89 (by decide) rfl rfl ?_
                    have L91 : ∀ (fu : Nat) (o : Nat) (Md : wM), P - o < fu → (o ≤ P) → (∀ a b y, ¬ (a = 29 ∧ b = 23) → Md a b y = Mc a b y) → (∀ r, r < o → ∀ j, j < 4 → Md 29 23 (4 * r + j) = lyT N (mr (Mb 29 22) r) (M 29 2) j) → wV p l e (wrm 2 0 0) s m args below meth c G 5 Md 0 0 (MQ below (wQi G (fun z M1 => (∀ a b x, ¬ (a = 29 ∧ 21 ≤ b ∧ b ≤ 23) → M1 a b x = M a b x) ∧ ∃ y : Nat, z = (y : Int) ∧ y ≤ N ∧ RankOf N (Sp N (Gp N P pv k)) y)) args s 0 0 (wA G)) 91 [(0, vR G (29, 0)), (1, vI (k : Int)), (2, vI ((cnt + P : Nat) : Int)), (3, vI (t : Int)), (4, vI (o : Int))] [] := by
                      intro fu
                      induction fu with
                      | zero => intro o Md hfu; exact absurd hfu (Nat.not_lt_zero _)
                      | succ fu ih91 =>
                        intro o Md hfu91 ho hfd hld
                        have qPd : Md 29 0 6 = P := by rw [hfd 29 0 6 (by omega)]; exact qPc
                        have d22 : Md 29 22 = Mb 29 22 := funext fun y => by rw [hfd 29 22 y (by omega), hfc 29 22 y (by omega)]
                        have d2 : Md 29 2 = M 29 2 := funext fun y => by rw [hfd 29 2 y (by omega), hfc 29 2 y (by omega), hfr 29 2 y (by omega)]
                        have dM : ∀ b y, b ≤ 20 → Md 29 b y = M 29 b y := fun b y w1 => by rw [hfd 29 b y (by omega), hfc 29 b y (by omega), hfr 29 b y (by omega)]
                        refine r_iload (pc' := 93) X 4 dX9_rank_91 rfl rfl ?_
                        refine r_aload_n (pc' := 94) X 0 dX9_rank_93 rfl rfl rfl ?_
                        refine gf_29_outputs (pc' := 97) X gw_973 dX9_rank_94 rfl ?_
                        refine r_icmp_ge (pc' := 100) (tgt := 126) X dX9_rank_97 rfl rfl (by omega) (by omega) (fun h97 => ?_) (fun h97 => ?_)
                        · refine r_iconst (pc' := 127) X dX9_rank_126 rfl ?_
                          refine r_istore (pc' := 129) (lc' := [(0, vR G (29, 0)), (1, vI (k : Int)), (2, vI ((cnt + P : Nat) : Int)), (3, vI (t : Int)), (4, vI 0)]) X [1, 2, 3, 4, 0] dX9_rank_127 (by decide) rfl rfl ?_
                          have L129 : ∀ (fu : Nat) (x : Nat) (Me : wM), 4 * P - x < fu → (x ≤ 4 * P) → (∀ a b y, ¬ (a = 29 ∧ b = 22) → Me a b y = Md a b y) → (∀ y, y < x → Me 29 22 y = Md 29 23 y) → wV p l e (wrm 2 0 0) s m args below meth c G 5 Me 0 0 (MQ below (wQi G (fun z M1 => (∀ a b x, ¬ (a = 29 ∧ 21 ≤ b ∧ b ≤ 23) → M1 a b x = M a b x) ∧ ∃ y : Nat, z = (y : Int) ∧ y ≤ N ∧ RankOf N (Sp N (Gp N P pv k)) y)) args s 0 0 (wA G)) 129 [(0, vR G (29, 0)), (1, vI (k : Int)), (2, vI ((cnt + P : Nat) : Int)), (3, vI (t : Int)), (4, vI (x : Int))] [] := by
                            intro fu
                            induction fu with
                            | zero => intro x Me hfu; exact absurd hfu (Nat.not_lt_zero _)
                            | succ fu ih129 =>
                              intro x Me hfu129 hx hfe hle
                              have qPe : Me 29 0 6 = P := by rw [hfe 29 0 6 (by omega)]; exact qPd
                              refine r_iload (pc' := 131) X 4 dX9_rank_129 rfl rfl ?_
                              refine r_iconst (pc' := 132) X dX9_rank_131 rfl ?_
                              refine r_aload_n (pc' := 133) X 0 dX9_rank_132 rfl rfl rfl ?_
                              refine gf_29_outputs (pc' := 136) X gw_973 dX9_rank_133 rfl ?_
                              refine r_imul (pc' := 137) X dX9_rank_136 rfl ?_
                              refine r_icmp_ge (pc' := 140) (tgt := 160) X dX9_rank_137 rfl rfl (by omega) (by omega) (fun h137 => ?_) (fun h137 => ?_)
                              · have ho4 : o = P := by omega
                                have hx4 : x = 4 * P := by omega
                                have f1 : ∀ r, r < P → ∀ j, j < 4 → Me 29 22 (4 * r + j) = lyT N (mr (Mb 29 22) r) (M 29 2) j := fun r w1 j w2 => by
                                  rw [hle _ (by omega)]
                                  exact hld r (by omega) j w2
                                have f7 : ∀ a b x, ¬ (a = 29 ∧ 21 ≤ b ∧ b ≤ 23) → Me a b x = M a b x := fun a b y w1 => by rw [hfe a b y (by omega), hfd a b y (by omega), hfc a b y (by omega)]; exact hfr a b y w1
                                have f8 : RwOk N (Me 29 22) P := fun r w1 j w2 => by
                                  rw [f1 r w1 j w2]
                                  exact lyT_rw hz w2
                                have f9 : ∀ o, o < P → ∀ j, j < N → Z0 (Me 29 22 (4 * o + j) - pw N pv o (t + 1) j) := fun r w1 => pw_next (g := mr (Mb 29 22) r) (h := mr (Me 29 22) r) hq (hlz r w1) (fun j w2 => f1 r w1 j w2) (by omega)
                                have f10 := rank_add (f := Mb 29 21) (g := Mb 29 22) (h := Me 29 21) (by omega) hrw hla hlz hsp (fun y w1 => by rw [hfe 29 21 y (by omega), hfd 29 21 y (by omega), hfc 29 21 y (by omega)]) (fun y w1 => by rw [hfe 29 21 _ (by omega), hfd 29 21 _ (by omega)]; exact hlc46 y w1)
                                refine r_iinc (pc' := 163) (z' := ((t + 1 : Nat) : Int)) (lc' := [(0, vR G (29, 0)), (1, vI (k : Int)), (2, vI ((cnt + P : Nat) : Int)), (3, vI ((t + 1 : Nat) : Int)), (4, vI (x : Int))]) X 3 [1, 2, 3, 0, 4] dX9_rank_160 rfl (by omega) (by decide) rfl rfl ?_
                                refine r_goto (tgt := 38) X dX9_rank_163 rfl ?_
                                refine w_sub (lc' := [(0, vR G (29, 0)), (1, vI (k : Int)), (2, vI ((cnt + P : Nat) : Int)), (3, vI ((t + 1 : Nat) : Int))]) [0, 1, 2, 3] rfl ?_
                                exact ih38 (cnt + P) (t + 1) Me (by omega) (by omega) (by rw [hct, Nat.succ_mul]) f7 f8 f9 f10.1 f10.2
                              · refine r_aload_n (pc' := 141) X 0 dX9_rank_140 rfl rfl rfl ?_
                                refine gf_29_last (pc' := 144) X gw_997 dX9_rank_141 rfl ?_
                                refine r_iload (pc' := 146) X 4 dX9_rank_144 rfl rfl ?_
                                refine r_aload_n (pc' := 147) X 0 dX9_rank_146 rfl rfl rfl ?_
                                refine gf_29_next (pc' := 150) X gw_998 dX9_rank_147 rfl ?_
                                refine r_iload (pc' := 152) X 4 dX9_rank_150 rfl rfl ?_
                                refine r_lald (i := x) (pc' := 153) X k29_23 (by omega) (by omega) (by decide) dX9_rank_152 rfl ?_
                                refine r_last (i := x) (pc' := 154) X k29_22 (by omega) (by omega) (by decide) dX9_rank_153 rfl (fun M2 hM2 => ?_)
                                refine r_iinc (pc' := 157) (z' := ((x + 1 : Nat) : Int)) (lc' := [(0, vR G (29, 0)), (1, vI (k : Int)), (2, vI ((cnt + P : Nat) : Int)), (3, vI (t : Int)), (4, vI ((x + 1 : Nat) : Int))]) X 4 [1, 2, 3, 4, 0] dX9_rank_154 rfl (by omega) (by decide) rfl rfl ?_
                                refine r_goto (tgt := 129) X dX9_rank_157 rfl ?_
                                exact ih129 (x + 1) M2 (by omega) (by omega) (fun a b y w1 => by rw [hM2, wu_ne (by omega)]; exact hfe a b y w1) (fun y hy => by rw [hM2]; unfold wu; by_cases w1 : y = x; rw [if_pos ⟨rfl, rfl, w1⟩, w1]; exact hfe 29 23 x (by omega); rw [if_neg (by omega)]; exact hle y (by omega))
                          exact L129 ((4 * P - 0) + 1) 0 Md (Nat.lt_succ_self _) (by omega) (fun _ _ _ _ => rfl) (fun y h => absurd h (Nat.not_lt_zero y))
                        · refine r_aload_n (pc' := 101) X 0 dX9_rank_100 rfl rfl rfl ?_
                          refine r_aload_n (pc' := 102) X 0 dX9_rank_101 rfl rfl rfl ?_
                          refine gf_29_last (pc' := 105) X gw_997 dX9_rank_102 rfl ?_
                          refine r_iconst (pc' := 106) X dX9_rank_105 rfl ?_
                          refine r_iload (pc' := 108) X 4 dX9_rank_106 rfl rfl ?_
                          refine r_imul (pc' := 109) X dX9_rank_108 rfl ?_
                          refine r_aload_n (pc' := 110) X 0 dX9_rank_109 rfl rfl rfl ?_
                          refine gf_29_next (pc' := 113) X gw_998 dX9_rank_110 rfl ?_
                          refine r_iconst (pc' := 114) X dX9_rank_113 rfl ?_
                          refine r_iload (pc' := 116) X 4 dX9_rank_114 rfl rfl ?_
                          refine r_imul (pc' := 117) X dX9_rank_116 rfl ?_
                          refine w_callv (pc' := 120) (st := []) (w_runV X (c_X9_layTimes l G Md N P pv (by first | assumption | omega) (hq.keep (fun b x w1 => dM b x (by omega))) (hz.keep (fun b x w1 => dM b x (by omega))) 22 12 (4 * o) 23 12 (4 * o) k29_22 k29_23 (by first | assumption | omega) (by first | assumption | omega) (by omega) (by omega) (by decide) (by decide) (fun x w1 => by rw [d22]; exact (hla o (by omega) x w1).1)) cf_X9_layTimes k29_0 rfl gw_1317 gp_52 rfl rfl ⟨Nat.le_of_ble_eq_true rfl, Nat.le_of_ble_eq_true rfl⟩ rfl rfl (Nat.le_of_ble_eq_true rfl) ⟨Nat.le_of_ble_eq_true rfl, Nat.le_of_ble_eq_true rfl⟩ gw_1315 dX9_rank_117) rfl (fun M3 h117 => ?_)
                          refine r_iinc (pc' := 123) (z' := ((o + 1 : Nat) : Int)) (lc' := [(0, vR G (29, 0)), (1, vI (k : Int)), (2, vI ((cnt + P : Nat) : Int)), (3, vI (t : Int)), (4, vI ((o + 1 : Nat) : Int))]) X 4 [1, 2, 3, 4, 0] dX9_rank_120 rfl (by omega) (by decide) rfl rfl ?_
                          refine r_goto (tgt := 91) X dX9_rank_123 rfl ?_
                          exact ih91 (o + 1) M3 (by omega) (by omega) (fun a b y w1 => by rw [h117.1 a b y (by omega)]; exact hfd a b y w1) (fun r hr j hj => by by_cases w1 : r = o; rw [w1, h117.2 j hj, d22, d2]; rfl; rw [h117.1 29 23 _ (by omega)]; exact hld r (by omega) j hj)
                    exact L91 ((P - 0) + 1) 0 Mc (Nat.lt_succ_self _) (by omega) (fun _ _ _ _ => rfl) (fun y h => absurd h (Nat.not_lt_zero y))
                  · refine r_aload_n (pc' := 58) X 0 dX9_rank_57 rfl rfl rfl ?_
                    refine gf_29_rows (pc' := 61) X gw_996 dX9_rank_58 rfl ?_
                    refine r_iconst (pc' := 62) X dX9_rank_61 rfl ?_
                    refine r_iload_n (pc' := 63) X 2 dX9_rank_62 rfl rfl rfl ?_
                    refine r_imul (pc' := 64) X dX9_rank_63 rfl ?_
                    refine r_iload (pc' := 66) X 4 dX9_rank_64 rfl rfl ?_
                    refine r_iadd (pc' := 67) X dX9_rank_66 rfl ?_
                    refine r_aload_n (pc' := 68) X 0 dX9_rank_67 rfl rfl rfl ?_
                    refine gf_29_last (pc' := 71) X gw_997 dX9_rank_68 rfl ?_
                    refine r_iload (pc' := 73) X 4 dX9_rank_71 rfl rfl ?_
                    refine r_lald (i := x) (pc' := 74) X k29_22 (by omega) (by omega) (by decide) dX9_rank_73 rfl ?_
                    refine r_last (i := ((4 * cnt) + x)) (pc' := 75) X k29_21 (by omega) (by omega) (by decide) dX9_rank_74 rfl (fun M4 hM4 => ?_)
                    refine r_iinc (pc' := 78) (z' := ((x + 1 : Nat) : Int)) (lc' := [(0, vR G (29, 0)), (1, vI (k : Int)), (2, vI (cnt : Int)), (3, vI (t : Int)), (4, vI ((x + 1 : Nat) : Int))]) X 4 [1, 2, 3, 4, 0] dX9_rank_75 rfl (by omega) (by decide) rfl rfl ?_
                    refine r_goto (tgt := 46) X dX9_rank_78 rfl ?_
                    exact ih46 (x + 1) M4 (by omega) (by omega) (fun a b y w1 => by rw [hM4]; unfold wu; rw [if_neg (by omega)]; exact hfc a b y w1) (fun y hy => by rw [hM4]; unfold wu; by_cases w1 : y = x; rw [if_pos ⟨rfl, rfl, by omega⟩, w1]; exact hfc 29 22 x (by omega); rw [if_neg (by omega)]; exact hlc y (by omega))
              exact L46 ((4 * P - 0) + 1) 0 Mb (Nat.lt_succ_self _) (by omega) (fun _ _ _ _ => rfl) (fun y h => absurd h (Nat.not_lt_zero y))
        exact L38 ((k - 0) + 1) 0 0 Ma (Nat.lt_succ_self _) (by omega) (by omega) (fun a b y w1 => hfr a b y (by omega)) k1 k2 (fun r h => absurd h (Nat.not_lt_zero r)) Gp_0
      · refine r_aload_n (pc' := 13) X 0 dX9_rank_12 rfl rfl rfl ?_
        refine gf_29_last (pc' := 16) X gw_997 dX9_rank_13 rfl ?_
        have e5 : Ma 29 5 x = M 29 5 x := hfr 29 5 x (by omega)
        have g5 := vw_bd qC0 hq hz (x := x) (by omega)
        refine r_iload_n (pc' := 17) X 2 dX9_rank_16 rfl rfl rfl ?_
        refine r_aload_n (pc' := 18) X 0 dX9_rank_17 rfl rfl rfl ?_
        refine gf_29_view (pc' := 21) X gw_977 dX9_rank_18 rfl ?_
        refine r_iload_n (pc' := 22) X 2 dX9_rank_21 rfl rfl rfl ?_
        refine r_iald (i := x) (pc' := 23) X k29_5 (by omega) (by omega) (by decide) dX9_rank_22 rfl ?_
        refine r_i2l (pc' := 24) X dX9_rank_23 (by omega) rfl ?_
        refine w_callj (pc' := 27) (st := [vI (x : Int), vR G (29, 22)]) (w_runS X (c_X9_residue l G Ma (Ma 29 5 x) (by first | assumption | omega)) cf_X9_residue gw_1312 rfl rfl ⟨Nat.le_of_ble_eq_true rfl, Nat.le_of_ble_eq_true rfl⟩ rfl rfl (Nat.le_of_ble_eq_true rfl) ⟨Nat.le_of_ble_eq_true rfl, Nat.le_of_ble_eq_true rfl⟩ gw_1311 dX9_rank_24) rfl (fun z24 M5 h24 => ?_)
        obtain rfl := h24.1.symm
        obtain rfl := h24.2.symm
        refine r_last (i := x) (pc' := 28) X k29_22 (by omega) (by omega) (by decide) dX9_rank_27 rfl (fun M6 hM6 => ?_)
        refine r_iinc (pc' := 31) (z' := ((x + 1 : Nat) : Int)) (lc' := [(0, vR G (29, 0)), (1, vI (k : Int)), (2, vI ((x + 1 : Nat) : Int))]) X 2 [1, 2, 0] dX9_rank_28 rfl (by omega) (by decide) rfl rfl ?_
        refine r_goto (tgt := 2) X dX9_rank_31 rfl ?_
        exact ih2 (x + 1) M6 (by omega) (by omega) (fun a b y w1 => by rw [hM6, wu_ne (by omega)]; exact hfr a b y w1) (fun y hy => by rw [hM6]; unfold wu; by_cases w1 : y = x; rw [if_pos ⟨rfl, rfl, w1⟩, w1, e5]; rw [if_neg (by omega)]; exact hlo y (by omega))
  exact L2 ((4 * P - 0) + 1) 0 M (Nat.lt_succ_self _) (by omega) (fun _ _ _ _ => rfl) (fun y h => absurd h (Nat.not_lt_zero y))
theorem cf_X9_rankAfter : wCal yX9_rankAfter cX9_rankAfter 2 (some .int) 1 := ⟨gw_1306, gw_10, by decide, by decide, by rfl⟩
set_option maxRecDepth 100000 in
set_option maxHeartbeats 4000000 in
theorem c_X9_rankAfter (l : Launch) (G : wG) (M : wM) (N P : Nat) (pv : Nat → Nat → Int) (hp : PlOk pv N P) (hq : PEq N P pv (M 29)) (hz : ZCo N P (M 29)) (n : Int) (hn : rI n) : Met l yX9_rankAfter (gws yX9_rankAfter cX9_rankAfter 2 (some .int)) (wrm 3 0 0) (wPc G M [vR G (29, 0), vI n]) (wQi G (fun z M1 => (M1 29 0 0 = 0 ∧ RScr M M1 ∧ (1 ≤ n ∧ n ≤ 8) ∧ ∃ k' : Nat, z = (k' : Int) ∧ k' ≤ N ∧ RankOf N (Sp N (Gp N P pv n.toNat)) k') ∨ (M1 29 0 0 = 1 ∧ RScr M M1 ∧ ¬ (1 ≤ n ∧ n ≤ 8)))) 0 0 (wA G) := by
  refine wMet (lc := [(0, vR G (29, 0)), (1, vI n)]) (by decide) (Nat.le_of_ble_eq_true rfl) rfl ?_
  intro p e s m args below meth c X hr
  have X : wX p s m args meth c G 2 "StateObserverModel" cX9_rankAfter := X
  obtain ⟨hN, hN1, hN4, hP, hP1, hP3, hA, hB, hE, hC, hQ⟩ := id hp
  obtain ⟨qN, qP, qA, qB, qE, qC, qQ⟩ := id hq
  refine r_aload_n (pc' := 1) X 0 dX9_rankAfter_0 rfl rfl rfl ?_
  refine r_iload_n (pc' := 2) X 1 dX9_rankAfter_1 rfl rfl rfl ?_
  refine r_i2l (pc' := 3) X dX9_rankAfter_2 (by omega) rfl ?_
  refine r_lconst (pc' := 4) (z := 1) X dX9_rankAfter_3 rfl rfl ?_
  refine r_ldc2 (pc' := 7) (z := 8) X gw_1217 dX9_rankAfter_4 rfl rfl ?_
  refine w_calli (pc' := 10) (st := [vR G (29, 0)]) (w_runS X (c_X9_in l G M n 1 8 (by first | assumption | omega) (by first | assumption | omega) (by first | assumption | omega)) cf_X9_in gw_1083 rfl rfl ⟨Nat.le_of_ble_eq_true rfl, Nat.le_of_ble_eq_true rfl⟩ rfl rfl (Nat.le_of_ble_eq_true rfl) ⟨Nat.le_of_ble_eq_true rfl, Nat.le_of_ble_eq_true rfl⟩ gw_1082 dX9_rankAfter_7) rfl (fun z7 M1 h7 => ?_)
  have hz7 := h7.1
  obtain rfl := h7.2.symm
  have hi7 : z7 = 0 ∨ z7 = 1 := by rw [hz7]; split <;> omega
  have hq7 : z7 = 1 ↔ (1 ≤ n ∧ n ≤ 8) := by rw [hz7]; split <;> omega
  refine r_if_eq (pc' := 13) (tgt := 17) X dX9_rankAfter_10 rfl rfl (by omega) (fun h10 => ?_) (fun h10 => ?_)
  · refine r_iconst (pc' := 18) X dX9_rankAfter_17 rfl ?_
    refine w_calli (pc' := 21) (st := []) (w_runV X (c_X9_refused l G M 1 (by first | assumption | omega)) cf_X9_refused k29_0 rfl gw_1087 gp_25 rfl rfl ⟨Nat.le_of_ble_eq_true rfl, Nat.le_of_ble_eq_true rfl⟩ rfl rfl (Nat.le_of_ble_eq_true rfl) ⟨Nat.le_of_ble_eq_true rfl, Nat.le_of_ble_eq_true rfl⟩ gw_1085 dX9_rankAfter_18) rfl (fun z18 M2 h18 => ?_)
    have hz18 : z18 = 1 := by rw [h18.1]; rfl
    have ew18 : ∀ a b x, ¬ (a = 29 ∧ b = 0 ∧ x = 0) → M2 a b x = M a b x := fun a b x q => by rw [h18.2]; unfold wu; rw [if_neg q]
    have er18 : M2 29 0 0 = 1 := by rw [h18.2]; unfold wu; rw [if_pos ⟨rfl, rfl, rfl⟩]
    have sc18 : RScr M M2 := fun a b x q => ew18 a b x (by omega)
    have qq18 : PEq N P pv (M2 29) := hq.keep (fun b x q => ew18 29 b x (by omega))
    refine r_if_eq (pc' := 24) (tgt := 28) X dX9_rankAfter_21 rfl rfl (by omega) (fun h21 => by exfalso; omega) (fun h21 => ?_)
    refine r_iconst (pc' := 25) X dX9_rankAfter_24 rfl ?_
    refine r_goto (tgt := 33) X dX9_rankAfter_25 rfl ?_
    refine w_iret X hr dX9_rankAfter_33 ?_
    try dsimp only
    exact (Or.inr ⟨er18, sc18, by omega⟩)
  · refine r_iconst (pc' := 14) X dX9_rankAfter_13 rfl ?_
    refine r_goto (tgt := 18) X dX9_rankAfter_14 rfl ?_
    refine w_calli (pc' := 21) (st := []) (w_runV X (c_X9_refused l G M 0 (by first | assumption | omega)) cf_X9_refused k29_0 rfl gw_1087 gp_25 rfl rfl ⟨Nat.le_of_ble_eq_true rfl, Nat.le_of_ble_eq_true rfl⟩ rfl rfl (Nat.le_of_ble_eq_true rfl) ⟨Nat.le_of_ble_eq_true rfl, Nat.le_of_ble_eq_true rfl⟩ gw_1085 dX9_rankAfter_18) rfl (fun z18 M3 h18 => ?_)
    have hz18 : z18 = 0 := by rw [h18.1]; rfl
    have ew18 : ∀ a b x, ¬ (a = 29 ∧ b = 0 ∧ x = 0) → M3 a b x = M a b x := fun a b x q => by rw [h18.2]; unfold wu; rw [if_neg q]
    have er18 : M3 29 0 0 = 0 := by rw [h18.2]; unfold wu; rw [if_pos ⟨rfl, rfl, rfl⟩]
    have sc18 : RScr M M3 := fun a b x q => ew18 a b x (by omega)
    have qq18 : PEq N P pv (M3 29) := hq.keep (fun b x q => ew18 29 b x (by omega))
    refine r_if_eq (pc' := 24) (tgt := 28) X dX9_rankAfter_21 rfl rfl (by omega) (fun h21 => ?_) (fun h21 => by exfalso; omega)
    refine r_aload_n (pc' := 29) X 0 dX9_rankAfter_28 rfl rfl rfl ?_
    refine r_iload_n (pc' := 30) X 1 dX9_rankAfter_29 rfl rfl rfl ?_
    refine w_eqI (z' := ((n.toNat : Nat) : Int)) (by omega) ?_
    refine w_calli (pc' := 33) (st := []) (w_runV X (c_X9_rank l G M3 N P pv (by first | assumption | omega) qq18 (hz.keep (fun b x w1 => ew18 29 b x (by omega))) n.toNat (by omega)) cf_X9_rank k29_0 rfl gw_1309 gp_51 rfl rfl ⟨Nat.le_of_ble_eq_true rfl, Nat.le_of_ble_eq_true rfl⟩ rfl rfl (Nat.le_of_ble_eq_true rfl) ⟨Nat.le_of_ble_eq_true rfl, Nat.le_of_ble_eq_true rfl⟩ gw_1307 dX9_rankAfter_30) rfl (fun z30 M4 h30 => ?_)
    obtain ⟨j1, k', j2, j3, j4⟩ := h30
    refine w_iret X hr dX9_rankAfter_33 ?_
    try dsimp only
    exact Or.inl ⟨by rw [j1 29 0 0 (by omega)]; exact er18, fun a b x w1 => by rw [j1 a b x (by omega)]; exact sc18 a b x w1, by omega, k', j2, j3, j4⟩
theorem cf_X9_observabilityIndex : wCal yX9_observabilityIndex cX9_observabilityIndex 2 (some .int) 0 := ⟨gw_1330, gw_10, by decide, by decide, by rfl⟩
set_option maxRecDepth 100000 in
set_option maxHeartbeats 4000000 in
theorem c_X9_observabilityIndex (l : Launch) (G : wG) (M : wM) (N P : Nat) (pv : Nat → Nat → Int) (hp : PlOk pv N P) (hq : PEq N P pv (M 29)) (hz : ZCo N P (M 29)) : Met l yX9_observabilityIndex (gws yX9_observabilityIndex cX9_observabilityIndex 2 (some .int)) (wrm 3 0 0) (wPc G M [vR G (29, 0)]) (wQi G (fun z M1 => ((∃ j : Nat, 1 ≤ j ∧ j ≤ N ∧ z = (j : Int) ∧ RankOf N (Sp N (Gp N P pv j)) N ∧ ∀ s, 1 ≤ s → s < j → ¬ RankOf N (Sp N (Gp N P pv s)) N) ∨ (z = -9 ∧ ∀ s, 1 ≤ s → s ≤ N → ¬ RankOf N (Sp N (Gp N P pv s)) N)) ∧ M1 29 0 0 = 0 ∧ RScr M M1)) 0 0 (wA G) := by
  refine wMet (lc := [(0, vR G (29, 0))]) (by decide) (Nat.le_of_ble_eq_true rfl) rfl ?_
  intro p e s m args below meth c X hr
  have X : wX p s m args meth c G 2 "StateObserverModel" cX9_observabilityIndex := X
  obtain ⟨hN, hN1, hN4, hP, hP1, hP3, hA, hB, hE, hC, hQ⟩ := id hp
  obtain ⟨qN, qP, qA, qB, qE, qC, qQ⟩ := id hq
  refine r_aload_n (pc' := 1) X 0 dX9_observabilityIndex_0 rfl rfl rfl ?_
  refine r_iconst (pc' := 2) X dX9_observabilityIndex_1 rfl ?_
  refine pf_29_refusal (pc' := 5) X gw_967 dX9_observabilityIndex_2 rfl (fun M1 hM1 => ?_)
  refine r_iconst (pc' := 6) X dX9_observabilityIndex_5 rfl ?_
  refine r_istore_n (pc' := 7) (lc' := [(0, vR G (29, 0)), (1, vI 1)]) X [1, 0] dX9_observabilityIndex_6 rfl (by decide) rfl rfl ?_
  have L7 : ∀ (fu : Nat) (j : Nat) (Ma : wM), N + 1 - j < fu → (1 ≤ j ∧ j ≤ N + 1) → (Ma 29 0 0 = 0) → (∀ a b x, ¬ (a = 29 ∧ ((21 ≤ b ∧ b ≤ 23) ∨ (b = 0 ∧ x = 0))) → Ma a b x = M a b x) → (∀ s, 1 ≤ s → s < j → ¬ RankOf N (Sp N (Gp N P pv s)) N) → wV p l e (wrm 3 0 0) s m args below meth c G 2 Ma 0 0 (MQ below (wQi G (fun z M1 => ((∃ j : Nat, 1 ≤ j ∧ j ≤ N ∧ z = (j : Int) ∧ RankOf N (Sp N (Gp N P pv j)) N ∧ ∀ s, 1 ≤ s → s < j → ¬ RankOf N (Sp N (Gp N P pv s)) N) ∨ (z = -9 ∧ ∀ s, 1 ≤ s → s ≤ N → ¬ RankOf N (Sp N (Gp N P pv s)) N)) ∧ M1 29 0 0 = 0 ∧ RScr M M1)) args s 0 0 (wA G)) 7 [(0, vR G (29, 0)), (1, vI (j : Int))] [] := by
    intro fu
    induction fu with
    | zero => intro j Ma hfu; exact absurd hfu (Nat.not_lt_zero _)
    | succ fu ih7 =>
      intro j Ma hfu7 hj h00 hfr hno
      have qNa : Ma 29 0 5 = N := by rw [hfr 29 0 5 (by omega)]; exact qN
      refine r_iload_n (pc' := 8) X 1 dX9_observabilityIndex_7 rfl rfl rfl ?_
      refine r_aload_n (pc' := 9) X 0 dX9_observabilityIndex_8 rfl rfl rfl ?_
      refine gf_29_states (pc' := 12) X gw_972 dX9_observabilityIndex_9 rfl ?_
      refine r_icmp_gt (pc' := 15) (tgt := 35) X dX9_observabilityIndex_12 rfl rfl (by omega) (by omega) (fun h12 => ?_) (fun h12 => ?_)
      · refine r_bipush (pc' := 37) X dX9_observabilityIndex_35 rfl rfl ?_
        refine w_iret X hr dX9_observabilityIndex_37 ?_
        try dsimp only
        exact ⟨Or.inr ⟨rfl, fun s h1 h2 => hno s h1 (by omega)⟩, h00, fun a b x w1 => hfr a b x (by omega)⟩
      · refine r_aload_n (pc' := 16) X 0 dX9_observabilityIndex_15 rfl rfl rfl ?_
        refine r_iload_n (pc' := 17) X 1 dX9_observabilityIndex_16 rfl rfl rfl ?_
        refine w_calli (pc' := 20) (st := []) (w_runV X (c_X9_rank l G Ma N P pv (by first | assumption | omega) (hq.keep (fun b x w1 => hfr 29 b x (by omega))) (hz.keep (fun b x w1 => hfr 29 b x (by omega))) j (by omega)) cf_X9_rank k29_0 rfl gw_1309 gp_51 rfl rfl ⟨Nat.le_of_ble_eq_true rfl, Nat.le_of_ble_eq_true rfl⟩ rfl rfl (Nat.le_of_ble_eq_true rfl) ⟨Nat.le_of_ble_eq_true rfl, Nat.le_of_ble_eq_true rfl⟩ gw_1307 dX9_observabilityIndex_17) rfl (fun z17 M2 h17 => ?_)
        obtain ⟨j1, k', j2, j3, j4⟩ := h17
        have qNb : M2 29 0 5 = N := by rw [j1 29 0 5 (by omega)]; exact qNa
        refine r_aload_n (pc' := 21) X 0 dX9_observabilityIndex_20 rfl rfl rfl ?_
        refine gf_29_states (pc' := 24) X gw_972 dX9_observabilityIndex_21 rfl ?_
        refine r_icmp_ne (pc' := 27) (tgt := 29) X dX9_observabilityIndex_24 rfl rfl (by omega) (by omega) (fun h24 => ?_) (fun h24 => ?_)
        · refine r_iinc (pc' := 32) (z' := ((j + 1 : Nat) : Int)) (lc' := [(0, vR G (29, 0)), (1, vI ((j + 1 : Nat) : Int))]) X 1 [1, 0] dX9_observabilityIndex_29 rfl (by omega) (by decide) rfl rfl ?_
          refine r_goto (tgt := 7) X dX9_observabilityIndex_32 rfl ?_
          exact ih7 (j + 1) M2 (by omega) (by omega) (by rw [j1 29 0 0 (by omega)]; exact h00) (fun a b x w1 => by rw [j1 a b x (by omega)]; exact hfr a b x w1) (fun s h1 h2 => by rcases Nat.lt_or_ge s j with q | q; exact hno s h1 q; rw [show s = j by omega]; intro hr2; have := RankOf.unique j4 hr2; omega)
        · refine r_iload_n (pc' := 28) X 1 dX9_observabilityIndex_27 rfl rfl rfl ?_
          refine w_iret X hr dX9_observabilityIndex_28 ?_
          try dsimp only
          refine ⟨Or.inl ⟨j, by omega, by omega, rfl, ?_, hno⟩, by rw [j1 29 0 0 (by omega)]; exact h00, fun a b x w1 => by rw [j1 a b x (by omega)]; exact hfr a b x (by omega)⟩
          rw [show k' = N by omega] at j4
          exact j4
  exact L7 ((N + 1 - 1) + 1) 1 M1 (Nat.lt_succ_self _) (by omega) (by rw [hM1]; unfold wu; rw [if_pos ⟨rfl, rfl, rfl⟩]) (fun a b x w1 => by rw [hM1]; unfold wu; rw [if_neg (by omega)]) (fun s h1 h2 => absurd h1 (by omega))
