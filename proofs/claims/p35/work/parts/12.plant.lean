theorem cf_X3_sum : wCal yX3_sum cX3_sum 6 (some .long) 2 := ⟨gw_717, gw_2, by decide, by decide, by rfl⟩
set_option maxRecDepth 100000 in
set_option maxHeartbeats 4000000 in
theorem c_X3_sum (l : Launch) (G : wG) (M : wM) (op fo fj vo vj N : Nat) (hop : op = 19 ∨ op = 20) (hf : wkd fo fj = some (.inr (0, 4, wNr))) (hv : wkd vo vj = some (.inr (0, 4, wNr))) (hN : M op 0 0 = (N : Int)) (hN4 : N ≤ 4) (hF : ∀ i, i < N → rI (M fo fj i)) (hV : ∀ i, i < N → rI (M vo vj i)) : Met l yX3_sum (gws yX3_sum cX3_sum 6 (some .long)) (wrm 0 0 0) (wPc G M [vR G (op, 0), vR G (fo, fj), vR G (vo, vj)]) (wQj G (fun z M1 => z = dot N (M fo fj) (M vo vj) ∧ M1 = M)) 0 0 (wA G) := by
  refine wMet (lc := [(0, vR G (op, 0)), (1, vR G (fo, fj)), (2, vR G (vo, vj))]) (by decide) (Nat.le_of_ble_eq_true rfl) rfl ?_
  intro p e s m args below meth c X hr
  have X : wX p s m args meth c G 6 "StateObserver$Plant" cX3_sum := X
  refine r_lconst (pc' := 1) (z := 0) X dX3_sum_0 rfl rfl ?_
  refine r_lstore_n (pc' := 2) (lc' := [(0, vR G (op, 0)), (1, vR G (fo, fj)), (2, vR G (vo, vj)), (3, vJ 0)]) X [1, 2, 3, 0] dX3_sum_1 rfl (by decide) rfl rfl ?_
  refine r_iconst (pc' := 3) X dX3_sum_2 rfl ?_
  refine r_istore (pc' := 5) (lc' := [(0, vR G (op, 0)), (1, vR G (fo, fj)), (2, vR G (vo, vj)), (3, vJ 0), (5, vI 0)]) X [1, 2, 3, 4, 0] dX3_sum_3 (by decide) rfl rfl ?_
  have L5 : ∀ (fu : Nat) (j : Nat), N - j < fu → (j ≤ N) → wV p l e (wrm 0 0 0) s m args below meth c G 6 M 0 0 (MQ below (wQj G (fun z M1 => z = dot N (M fo fj) (M vo vj) ∧ M1 = M)) args s 0 0 (wA G)) 5 [(0, vR G (op, 0)), (1, vR G (fo, fj)), (2, vR G (vo, vj)), (3, vJ (dot j (M fo fj) (M vo vj))), (5, vI (j : Int))] [] := by
    intro fu
    induction fu with
    | zero => intro j hfu; exact absurd hfu (Nat.not_lt_zero _)
    | succ fu ih5 =>
      intro j hfu5 hj
      refine r_iload (pc' := 7) X 4 dX3_sum_5 rfl rfl ?_
      refine r_aload_n (pc' := 8) X 0 dX3_sum_7 rfl rfl rfl ?_
      refine gf_P_n (pc' := 11) X hop gw_34 dX3_sum_8 rfl ?_
      refine r_icmp_ge (pc' := 14) (tgt := 34) X dX3_sum_11 rfl rfl (by omega) (by omega) (fun h11 => ?_) (fun h11 => ?_)
      · refine r_lload_n (pc' := 35) X 3 dX3_sum_34 rfl rfl rfl ?_
        refine w_lret X hr dX3_sum_35 ?_
        try dsimp only
        have ej : j = N := by omega
        subst ej
        exact ⟨rfl, rfl⟩
      · refine r_lload_n (pc' := 15) X 3 dX3_sum_14 rfl rfl rfl ?_
        refine r_aload_n (pc' := 16) X 1 dX3_sum_15 rfl rfl rfl ?_
        refine r_iload (pc' := 18) X 4 dX3_sum_16 rfl rfl ?_
        refine r_iald (i := j) (pc' := 19) X hf (by omega) (by omega) (by decide) dX3_sum_18 rfl ?_
        refine r_i2l (pc' := 20) X dX3_sum_19 (hF j (by omega)) rfl ?_
        refine r_aload_n (pc' := 21) X 2 dX3_sum_20 rfl rfl rfl ?_
        refine r_iload (pc' := 23) X 4 dX3_sum_21 rfl rfl ?_
        refine r_iald (i := j) (pc' := 24) X hv (by omega) (by omega) (by decide) dX3_sum_23 rfl ?_
        refine r_i2l (pc' := 25) X dX3_sum_24 (hV j (by omega)) rfl ?_
        refine r_lmul (pc' := 26) X dX3_sum_25 rfl ?_
        refine r_ladd (pc' := 27) X dX3_sum_26 rfl ?_
        refine r_lstore_n (pc' := 28) (lc' := [(0, vR G (op, 0)), (1, vR G (fo, fj)), (2, vR G (vo, vj)), (3, vJ ((dot j (M fo fj) (M vo vj)) + ((M fo fj j) * (M vo vj j)))), (5, vI (j : Int))]) X [1, 2, 3, 0, 4] dX3_sum_27 rfl (by decide) rfl rfl ?_
        refine r_iinc (pc' := 31) (z' := ((j + 1 : Nat) : Int)) (lc' := [(0, vR G (op, 0)), (1, vR G (fo, fj)), (2, vR G (vo, vj)), (3, vJ ((dot j (M fo fj) (M vo vj)) + ((M fo fj j) * (M vo vj j)))), (5, vI ((j + 1 : Nat) : Int))]) X 4 [1, 2, 3, 4, 0] dX3_sum_28 rfl (by omega) (by decide) rfl rfl ?_
        refine r_goto (tgt := 5) X dX3_sum_31 rfl ?_
        exact ih5 (j + 1) (by omega) (by omega)
  exact L5 ((N - 0) + 1) 0 (Nat.lt_succ_self _) (by omega)
theorem cf_X3_extreme : wCal yX3_extreme cX3_extreme 9 (some .long) 4 := ⟨gw_493, gw_2, by decide, by decide, by rfl⟩
set_option maxRecDepth 100000 in
set_option maxHeartbeats 4000000 in
theorem c_X3_extreme (l : Launch) (G : wG) (M : wM) (op fo fj om N : Nat) (but gr : Int) (hop : op = 19 ∨ op = 20) (hom : om < 19) (hf : wkd fo fj = some (.inr (0, 4, wNr))) (hN : M op 0 0 = (N : Int)) (hN4 : N ≤ 4) (hbut : rI but) (hgr : gr = 0 ∨ gr = 1) (hF : ∀ i, i < N → rI (M fo fj i)) (hlo : ∀ i, i < N → rI (M om 2 i)) (hhi : ∀ i, i < N → rI (M om 3 i)) : Met l yX3_extreme (gws yX3_extreme cX3_extreme 9 (some .long)) (wrm 0 0 0) (wPc G M [vR G (op, 0), vR G (fo, fj), vR G (om, 0), vI but, vI gr]) (wQj G (fun z M1 => z = ext N (M fo fj) (M om 2) (M om 3) but gr ∧ M1 = M)) 0 0 (wA G) := by
  refine wMet (lc := [(0, vR G (op, 0)), (1, vR G (fo, fj)), (2, vR G (om, 0)), (3, vI but), (4, vI gr)]) (by decide) (Nat.le_of_ble_eq_true rfl) rfl ?_
  intro p e s m args below meth c X hr
  have X : wX p s m args meth c G 9 "StateObserver$Plant" cX3_extreme := X
  refine r_lconst (pc' := 1) (z := 0) X dX3_extreme_0 rfl rfl ?_
  refine r_lstore (pc' := 3) (lc' := [(0, vR G (op, 0)), (1, vR G (fo, fj)), (2, vR G (om, 0)), (3, vI but), (4, vI gr), (5, vJ 0)]) X [1, 2, 3, 4, 5, 0] dX3_extreme_1 (by decide) rfl rfl ?_
  refine r_iconst (pc' := 4) X dX3_extreme_3 rfl ?_
  refine r_istore (pc' := 6) (lc' := [(0, vR G (op, 0)), (1, vR G (fo, fj)), (2, vR G (om, 0)), (3, vI but), (4, vI gr), (5, vJ 0), (7, vI 0)]) X [1, 2, 3, 4, 5, 6, 0] dX3_extreme_4 (by decide) rfl rfl ?_
  have L6 : ∀ (fu : Nat) (j : Nat) (t : Int), N - j < fu → (j ≤ N) → (t = ext j (M fo fj) (M om 2) (M om 3) but gr) → wV p l e (wrm 0 0 0) s m args below meth c G 9 M 0 0 (MQ below (wQj G (fun z M1 => z = ext N (M fo fj) (M om 2) (M om 3) but gr ∧ M1 = M)) args s 0 0 (wA G)) 6 [(0, vR G (op, 0)), (1, vR G (fo, fj)), (2, vR G (om, 0)), (3, vI but), (4, vI gr), (5, vJ t), (7, vI (j : Int))] [] := by
    intro fu
    induction fu with
    | zero => intro j t hfu; exact absurd hfu (Nat.not_lt_zero _)
    | succ fu ih6 =>
      intro j t hfu6 hj ht
      refine r_iload (pc' := 8) X 6 dX3_extreme_6 rfl rfl ?_
      refine r_aload_n (pc' := 9) X 0 dX3_extreme_8 rfl rfl rfl ?_
      refine gf_P_n (pc' := 12) X hop gw_34 dX3_extreme_9 rfl ?_
      refine r_icmp_ge (pc' := 15) (tgt := 85) X dX3_extreme_12 rfl rfl (by omega) (by omega) (fun h12 => ?_) (fun h12 => ?_)
      · refine r_lload (pc' := 87) X 5 dX3_extreme_85 rfl rfl ?_
        refine w_lret X hr dX3_extreme_87 ?_
        try dsimp only
        have ej : j = N := by omega
        subst ej
        exact ⟨ht, rfl⟩
      · refine r_iload (pc' := 17) X 6 dX3_extreme_15 rfl rfl ?_
        refine r_iload_n (pc' := 18) X 3 dX3_extreme_17 rfl rfl rfl ?_
        refine r_icmp_eq (pc' := 21) (tgt := 79) X dX3_extreme_18 rfl rfl (by omega) (by omega) (fun h18 => ?_) (fun h18 => ?_)
        · refine r_iinc (pc' := 82) (z' := ((j + 1 : Nat) : Int)) (lc' := [(0, vR G (op, 0)), (1, vR G (fo, fj)), (2, vR G (om, 0)), (3, vI but), (4, vI gr), (5, vJ t), (7, vI ((j + 1 : Nat) : Int))]) X 6 [1, 2, 3, 4, 5, 6, 0] dX3_extreme_79 rfl (by omega) (by decide) rfl rfl ?_
          refine r_goto (tgt := 6) X dX3_extreme_82 rfl ?_
          exact ih6 (j + 1) t (by omega) (by omega) (by rw [ht]; first | exact (ext_but (by omega)).symm | exact (ext_hi (by omega) (by omega)).symm | exact (ext_lo (by omega) (by omega)).symm)
        · refine r_aload_n (pc' := 22) X 1 dX3_extreme_21 rfl rfl rfl ?_
          refine r_iload (pc' := 24) X 6 dX3_extreme_22 rfl rfl ?_
          refine r_iald (i := j) (pc' := 25) X hf (by omega) (by omega) (by decide) dX3_extreme_24 rfl ?_
          refine r_if_le (pc' := 28) (tgt := 32) X dX3_extreme_25 rfl rfl (hF j (by omega)) (fun h25 => ?_) (fun h25 => ?_)
          · refine r_iconst (pc' := 33) X dX3_extreme_32 rfl ?_
            refine r_iload (pc' := 35) X 4 dX3_extreme_33 rfl rfl ?_
            refine r_icmp_ne (pc' := 38) (tgt := 42) X dX3_extreme_35 rfl rfl (by omega) (by omega) (fun h35 => ?_) (fun h35 => ?_)
            · refine r_iconst (pc' := 43) X dX3_extreme_42 rfl ?_
              refine r_istore (pc' := 45) (lc' := [(0, vR G (op, 0)), (1, vR G (fo, fj)), (2, vR G (om, 0)), (3, vI but), (4, vI gr), (5, vJ t), (7, vI (j : Int)), (8, vI 0)]) X [1, 2, 3, 4, 5, 6, 7, 0] dX3_extreme_43 (by decide) rfl rfl ?_
              refine r_lload (pc' := 47) X 5 dX3_extreme_45 rfl rfl ?_
              refine r_aload_n (pc' := 48) X 1 dX3_extreme_47 rfl rfl rfl ?_
              refine r_iload (pc' := 50) X 6 dX3_extreme_48 rfl rfl ?_
              refine r_iald (i := j) (pc' := 51) X hf (by omega) (by omega) (by decide) dX3_extreme_50 rfl ?_
              refine r_i2l (pc' := 52) X dX3_extreme_51 (hF j (by omega)) rfl ?_
              refine r_iload (pc' := 54) X 7 dX3_extreme_52 rfl rfl ?_
              refine r_if_eq (pc' := 57) (tgt := 67) X dX3_extreme_54 rfl rfl (by omega) (fun h54 => ?_) (fun h54 => absurd h54 (by decide))
              refine r_aload_n (pc' := 68) X 2 dX3_extreme_67 rfl rfl rfl ?_
              refine gf_M_lower (pc' := 71) X hom gw_94 dX3_extreme_68 rfl ?_
              refine r_iload (pc' := 73) X 6 dX3_extreme_71 rfl rfl ?_
              refine r_iald (i := j) (pc' := 74) X (kM_2 hom) (by omega) (by omega) (by decide) dX3_extreme_73 rfl ?_
              refine r_i2l (pc' := 75) X dX3_extreme_74 (by first | exact hlo j (by omega) | exact hhi j (by omega)) rfl ?_
              refine r_lmul (pc' := 76) X dX3_extreme_75 rfl ?_
              refine r_ladd (pc' := 77) X dX3_extreme_76 rfl ?_
              refine r_lstore (pc' := 79) (lc' := [(0, vR G (op, 0)), (1, vR G (fo, fj)), (2, vR G (om, 0)), (3, vI but), (4, vI gr), (5, vJ (t + ((M fo fj j) * (M om 2 j)))), (7, vI (j : Int)), (8, vI 0)]) X [1, 2, 3, 4, 5, 0, 6, 7] dX3_extreme_77 (by decide) rfl rfl ?_
              refine r_iinc (pc' := 82) (z' := ((j + 1 : Nat) : Int)) (lc' := [(0, vR G (op, 0)), (1, vR G (fo, fj)), (2, vR G (om, 0)), (3, vI but), (4, vI gr), (5, vJ (t + ((M fo fj j) * (M om 2 j)))), (7, vI ((j + 1 : Nat) : Int)), (8, vI 0)]) X 6 [1, 2, 3, 4, 5, 6, 0, 7] dX3_extreme_79 rfl (by omega) (by decide) rfl rfl ?_
              refine r_goto (tgt := 6) X dX3_extreme_82 rfl ?_
              refine w_sub (lc' := [(0, vR G (op, 0)), (1, vR G (fo, fj)), (2, vR G (om, 0)), (3, vI but), (4, vI gr), (5, vJ (t + ((M fo fj j) * (M om 2 j)))), (7, vI ((j + 1 : Nat) : Int))]) [0, 1, 2, 3, 4, 5, 6] rfl ?_
              exact ih6 (j + 1) (t + ((M fo fj j) * (M om 2 j))) (by omega) (by omega) (by rw [ht]; first | exact (ext_but (by omega)).symm | exact (ext_hi (by omega) (by omega)).symm | exact (ext_lo (by omega) (by omega)).symm)
            · refine r_iconst (pc' := 39) X dX3_extreme_38 rfl ?_
              refine r_goto (tgt := 43) X dX3_extreme_39 rfl ?_
              refine r_istore (pc' := 45) (lc' := [(0, vR G (op, 0)), (1, vR G (fo, fj)), (2, vR G (om, 0)), (3, vI but), (4, vI gr), (5, vJ t), (7, vI (j : Int)), (8, vI 1)]) X [1, 2, 3, 4, 5, 6, 7, 0] dX3_extreme_43 (by decide) rfl rfl ?_
              refine r_lload (pc' := 47) X 5 dX3_extreme_45 rfl rfl ?_
              refine r_aload_n (pc' := 48) X 1 dX3_extreme_47 rfl rfl rfl ?_
              refine r_iload (pc' := 50) X 6 dX3_extreme_48 rfl rfl ?_
              refine r_iald (i := j) (pc' := 51) X hf (by omega) (by omega) (by decide) dX3_extreme_50 rfl ?_
              refine r_i2l (pc' := 52) X dX3_extreme_51 (hF j (by omega)) rfl ?_
              refine r_iload (pc' := 54) X 7 dX3_extreme_52 rfl rfl ?_
              refine r_if_eq (pc' := 57) (tgt := 67) X dX3_extreme_54 rfl rfl (by omega) (fun h54 => absurd h54 (by decide)) (fun h54 => ?_)
              refine r_aload_n (pc' := 58) X 2 dX3_extreme_57 rfl rfl rfl ?_
              refine gf_M_upper (pc' := 61) X hom gw_98 dX3_extreme_58 rfl ?_
              refine r_iload (pc' := 63) X 6 dX3_extreme_61 rfl rfl ?_
              refine r_iald (i := j) (pc' := 64) X (kM_3 hom) (by omega) (by omega) (by decide) dX3_extreme_63 rfl ?_
              refine r_goto (tgt := 74) X dX3_extreme_64 rfl ?_
              refine r_i2l (pc' := 75) X dX3_extreme_74 (by first | exact hlo j (by omega) | exact hhi j (by omega)) rfl ?_
              refine r_lmul (pc' := 76) X dX3_extreme_75 rfl ?_
              refine r_ladd (pc' := 77) X dX3_extreme_76 rfl ?_
              refine r_lstore (pc' := 79) (lc' := [(0, vR G (op, 0)), (1, vR G (fo, fj)), (2, vR G (om, 0)), (3, vI but), (4, vI gr), (5, vJ (t + ((M fo fj j) * (M om 3 j)))), (7, vI (j : Int)), (8, vI 1)]) X [1, 2, 3, 4, 5, 0, 6, 7] dX3_extreme_77 (by decide) rfl rfl ?_
              refine r_iinc (pc' := 82) (z' := ((j + 1 : Nat) : Int)) (lc' := [(0, vR G (op, 0)), (1, vR G (fo, fj)), (2, vR G (om, 0)), (3, vI but), (4, vI gr), (5, vJ (t + ((M fo fj j) * (M om 3 j)))), (7, vI ((j + 1 : Nat) : Int)), (8, vI 1)]) X 6 [1, 2, 3, 4, 5, 6, 0, 7] dX3_extreme_79 rfl (by omega) (by decide) rfl rfl ?_
              refine r_goto (tgt := 6) X dX3_extreme_82 rfl ?_
              refine w_sub (lc' := [(0, vR G (op, 0)), (1, vR G (fo, fj)), (2, vR G (om, 0)), (3, vI but), (4, vI gr), (5, vJ (t + ((M fo fj j) * (M om 3 j)))), (7, vI ((j + 1 : Nat) : Int))]) [0, 1, 2, 3, 4, 5, 6] rfl ?_
              exact ih6 (j + 1) (t + ((M fo fj j) * (M om 3 j))) (by omega) (by omega) (by rw [ht]; first | exact (ext_but (by omega)).symm | exact (ext_hi (by omega) (by omega)).symm | exact (ext_lo (by omega) (by omega)).symm)
          · refine r_iconst (pc' := 29) X dX3_extreme_28 rfl ?_
            refine r_goto (tgt := 33) X dX3_extreme_29 rfl ?_
            refine r_iload (pc' := 35) X 4 dX3_extreme_33 rfl rfl ?_
            refine r_icmp_ne (pc' := 38) (tgt := 42) X dX3_extreme_35 rfl rfl (by omega) (by omega) (fun h35 => ?_) (fun h35 => ?_)
            · refine r_iconst (pc' := 43) X dX3_extreme_42 rfl ?_
              refine r_istore (pc' := 45) (lc' := [(0, vR G (op, 0)), (1, vR G (fo, fj)), (2, vR G (om, 0)), (3, vI but), (4, vI gr), (5, vJ t), (7, vI (j : Int)), (8, vI 0)]) X [1, 2, 3, 4, 5, 6, 7, 0] dX3_extreme_43 (by decide) rfl rfl ?_
              refine r_lload (pc' := 47) X 5 dX3_extreme_45 rfl rfl ?_
              refine r_aload_n (pc' := 48) X 1 dX3_extreme_47 rfl rfl rfl ?_
              refine r_iload (pc' := 50) X 6 dX3_extreme_48 rfl rfl ?_
              refine r_iald (i := j) (pc' := 51) X hf (by omega) (by omega) (by decide) dX3_extreme_50 rfl ?_
              refine r_i2l (pc' := 52) X dX3_extreme_51 (hF j (by omega)) rfl ?_
              refine r_iload (pc' := 54) X 7 dX3_extreme_52 rfl rfl ?_
              refine r_if_eq (pc' := 57) (tgt := 67) X dX3_extreme_54 rfl rfl (by omega) (fun h54 => ?_) (fun h54 => absurd h54 (by decide))
              refine r_aload_n (pc' := 68) X 2 dX3_extreme_67 rfl rfl rfl ?_
              refine gf_M_lower (pc' := 71) X hom gw_94 dX3_extreme_68 rfl ?_
              refine r_iload (pc' := 73) X 6 dX3_extreme_71 rfl rfl ?_
              refine r_iald (i := j) (pc' := 74) X (kM_2 hom) (by omega) (by omega) (by decide) dX3_extreme_73 rfl ?_
              refine r_i2l (pc' := 75) X dX3_extreme_74 (by first | exact hlo j (by omega) | exact hhi j (by omega)) rfl ?_
              refine r_lmul (pc' := 76) X dX3_extreme_75 rfl ?_
              refine r_ladd (pc' := 77) X dX3_extreme_76 rfl ?_
              refine r_lstore (pc' := 79) (lc' := [(0, vR G (op, 0)), (1, vR G (fo, fj)), (2, vR G (om, 0)), (3, vI but), (4, vI gr), (5, vJ (t + ((M fo fj j) * (M om 2 j)))), (7, vI (j : Int)), (8, vI 0)]) X [1, 2, 3, 4, 5, 0, 6, 7] dX3_extreme_77 (by decide) rfl rfl ?_
              refine r_iinc (pc' := 82) (z' := ((j + 1 : Nat) : Int)) (lc' := [(0, vR G (op, 0)), (1, vR G (fo, fj)), (2, vR G (om, 0)), (3, vI but), (4, vI gr), (5, vJ (t + ((M fo fj j) * (M om 2 j)))), (7, vI ((j + 1 : Nat) : Int)), (8, vI 0)]) X 6 [1, 2, 3, 4, 5, 6, 0, 7] dX3_extreme_79 rfl (by omega) (by decide) rfl rfl ?_
              refine r_goto (tgt := 6) X dX3_extreme_82 rfl ?_
              refine w_sub (lc' := [(0, vR G (op, 0)), (1, vR G (fo, fj)), (2, vR G (om, 0)), (3, vI but), (4, vI gr), (5, vJ (t + ((M fo fj j) * (M om 2 j)))), (7, vI ((j + 1 : Nat) : Int))]) [0, 1, 2, 3, 4, 5, 6] rfl ?_
              exact ih6 (j + 1) (t + ((M fo fj j) * (M om 2 j))) (by omega) (by omega) (by rw [ht]; first | exact (ext_but (by omega)).symm | exact (ext_hi (by omega) (by omega)).symm | exact (ext_lo (by omega) (by omega)).symm)
            · refine r_iconst (pc' := 39) X dX3_extreme_38 rfl ?_
              refine r_goto (tgt := 43) X dX3_extreme_39 rfl ?_
              refine r_istore (pc' := 45) (lc' := [(0, vR G (op, 0)), (1, vR G (fo, fj)), (2, vR G (om, 0)), (3, vI but), (4, vI gr), (5, vJ t), (7, vI (j : Int)), (8, vI 1)]) X [1, 2, 3, 4, 5, 6, 7, 0] dX3_extreme_43 (by decide) rfl rfl ?_
              refine r_lload (pc' := 47) X 5 dX3_extreme_45 rfl rfl ?_
              refine r_aload_n (pc' := 48) X 1 dX3_extreme_47 rfl rfl rfl ?_
              refine r_iload (pc' := 50) X 6 dX3_extreme_48 rfl rfl ?_
              refine r_iald (i := j) (pc' := 51) X hf (by omega) (by omega) (by decide) dX3_extreme_50 rfl ?_
              refine r_i2l (pc' := 52) X dX3_extreme_51 (hF j (by omega)) rfl ?_
              refine r_iload (pc' := 54) X 7 dX3_extreme_52 rfl rfl ?_
              refine r_if_eq (pc' := 57) (tgt := 67) X dX3_extreme_54 rfl rfl (by omega) (fun h54 => absurd h54 (by decide)) (fun h54 => ?_)
              refine r_aload_n (pc' := 58) X 2 dX3_extreme_57 rfl rfl rfl ?_
              refine gf_M_upper (pc' := 61) X hom gw_98 dX3_extreme_58 rfl ?_
              refine r_iload (pc' := 63) X 6 dX3_extreme_61 rfl rfl ?_
              refine r_iald (i := j) (pc' := 64) X (kM_3 hom) (by omega) (by omega) (by decide) dX3_extreme_63 rfl ?_
              refine r_goto (tgt := 74) X dX3_extreme_64 rfl ?_
              refine r_i2l (pc' := 75) X dX3_extreme_74 (by first | exact hlo j (by omega) | exact hhi j (by omega)) rfl ?_
              refine r_lmul (pc' := 76) X dX3_extreme_75 rfl ?_
              refine r_ladd (pc' := 77) X dX3_extreme_76 rfl ?_
              refine r_lstore (pc' := 79) (lc' := [(0, vR G (op, 0)), (1, vR G (fo, fj)), (2, vR G (om, 0)), (3, vI but), (4, vI gr), (5, vJ (t + ((M fo fj j) * (M om 3 j)))), (7, vI (j : Int)), (8, vI 1)]) X [1, 2, 3, 4, 5, 0, 6, 7] dX3_extreme_77 (by decide) rfl rfl ?_
              refine r_iinc (pc' := 82) (z' := ((j + 1 : Nat) : Int)) (lc' := [(0, vR G (op, 0)), (1, vR G (fo, fj)), (2, vR G (om, 0)), (3, vI but), (4, vI gr), (5, vJ (t + ((M fo fj j) * (M om 3 j)))), (7, vI ((j + 1 : Nat) : Int)), (8, vI 1)]) X 6 [1, 2, 3, 4, 5, 6, 0, 7] dX3_extreme_79 rfl (by omega) (by decide) rfl rfl ?_
              refine r_goto (tgt := 6) X dX3_extreme_82 rfl ?_
              refine w_sub (lc' := [(0, vR G (op, 0)), (1, vR G (fo, fj)), (2, vR G (om, 0)), (3, vI but), (4, vI gr), (5, vJ (t + ((M fo fj j) * (M om 3 j)))), (7, vI ((j + 1 : Nat) : Int))]) [0, 1, 2, 3, 4, 5, 6] rfl ?_
              exact ih6 (j + 1) (t + ((M fo fj j) * (M om 3 j))) (by omega) (by omega) (by rw [ht]; first | exact (ext_but (by omega)).symm | exact (ext_hi (by omega) (by omega)).symm | exact (ext_lo (by omega) (by omega)).symm)
  exact L6 ((N - 0) + 1) 0 0 (Nat.lt_succ_self _) (by omega) rfl
theorem cf_X3_quantized : wCal yX3_quantized cX3_quantized 4 (some .int) 2 := ⟨gw_497, gw_2, by decide, by decide, by rfl⟩
set_option maxRecDepth 100000 in
set_option maxHeartbeats 4000000 in
theorem c_X3_quantized (l : Launch) (G : wG) (M : wM) (op K : Nat) (sm : Int) (hop : op = 19 ∨ op = 20) (hK : K < 3) (hq : 1 ≤ M op 12 K ∧ M op 12 K ≤ 99) (hs : -4611686018427387904 ≤ sm ∧ sm ≤ 4611686018427387904) : Met l yX3_quantized (gws yX3_quantized cX3_quantized 4 (some .int)) (wrm 2 0 0) (wPc G M [vR G (op, 0), vI (K : Int), vJ sm]) (wQi G (fun z M1 => z = sm.fdiv (M op 12 K) ∧ M1 = M)) 0 0 (wA G) := by
  refine wMet (lc := [(0, vR G (op, 0)), (1, vI (K : Int)), (2, vJ sm)]) (by decide) (Nat.le_of_ble_eq_true rfl) rfl ?_
  intro p e s m args below meth c X hr
  have X : wX p s m args meth c G 4 "StateObserver$Plant" cX3_quantized := X
  refine r_lload_n (pc' := 1) X 2 dX3_quantized_0 rfl rfl rfl ?_
  refine r_aload_n (pc' := 2) X 0 dX3_quantized_1 rfl rfl rfl ?_
  refine gf_P_quantum (pc' := 5) X hop gw_63 dX3_quantized_2 rfl ?_
  refine r_iload_n (pc' := 6) X 1 dX3_quantized_5 rfl rfl rfl ?_
  refine r_iald (i := K) (pc' := 7) X (kP_12 hop) (by omega) (by omega) (by decide) dX3_quantized_6 rfl ?_
  refine r_i2l (pc' := 8) X dX3_quantized_7 (by omega) rfl ?_
  refine w_callj (pc' := 11) (st := []) (w_runSN X (c_X8_floorQuotient l G M sm (M op 12 K) (by first | assumption | omega) (by first | assumption | omega) (by first | assumption | omega)) cf_X8_floorQuotient gw_499 rfl rfl ⟨Nat.le_of_ble_eq_true rfl, Nat.le_of_ble_eq_true rfl⟩ rfl rfl (Nat.le_of_ble_eq_true rfl) ⟨Nat.le_of_ble_eq_true rfl, Nat.le_of_ble_eq_true rfl⟩ tn_498 dX3_quantized_8) rfl (fun z8 M1 h8 => ?_)
  obtain rfl := h8.1.symm
  obtain rfl := h8.2.symm
  refine r_l2i (pc' := 12) X dX3_quantized_11 rfl ?_
  refine w_iret X hr dX3_quantized_12 ?_
  try dsimp only
  exact ⟨rfl, rfl⟩
theorem cf_X3_widthOf : wCal yX3_widthOf cX3_widthOf 4 (some .int) 1 := ⟨gw_375, gw_2, by decide, by decide, by rfl⟩
set_option maxRecDepth 100000 in
set_option maxHeartbeats 4000000 in
theorem c_X3_widthOf (l : Launch) (G : wG) (M : wM) (op om N : Nat) (hop : op = 19 ∨ op = 20) (hom : om < 19) (hN : M op 0 0 = (N : Int)) (hN4 : N ≤ 4) : Met l yX3_widthOf (gws yX3_widthOf cX3_widthOf 4 (some .int)) (wrm 0 0 0) (wPc G M [vR G (op, 0), vR G (om, 0)]) (wQi G (fun z M1 => z = wid N (M om 2) (M om 3) ∧ M1 = M)) 0 0 (wA G) := by
  refine wMet (lc := [(0, vR G (op, 0)), (1, vR G (om, 0))]) (by decide) (Nat.le_of_ble_eq_true rfl) rfl ?_
  intro p e s m args below meth c X hr
  have X : wX p s m args meth c G 4 "StateObserver$Plant" cX3_widthOf := X
  refine r_iconst (pc' := 1) X dX3_widthOf_0 rfl ?_
  refine r_istore_n (pc' := 2) (lc' := [(0, vR G (op, 0)), (1, vR G (om, 0)), (2, vI 0)]) X [1, 2, 0] dX3_widthOf_1 rfl (by decide) rfl rfl ?_
  refine r_iconst (pc' := 3) X dX3_widthOf_2 rfl ?_
  refine r_istore_n (pc' := 4) (lc' := [(0, vR G (op, 0)), (1, vR G (om, 0)), (2, vI 0), (3, vI 0)]) X [1, 2, 3, 0] dX3_widthOf_3 rfl (by decide) rfl rfl ?_
  have L4 : ∀ (fu : Nat) (j : Nat), N - j < fu → (j ≤ N) → wV p l e (wrm 0 0 0) s m args below meth c G 4 M 0 0 (MQ below (wQi G (fun z M1 => z = wid N (M om 2) (M om 3) ∧ M1 = M)) args s 0 0 (wA G)) 4 [(0, vR G (op, 0)), (1, vR G (om, 0)), (2, vI (wid j (M om 2) (M om 3))), (3, vI (j : Int))] [] := by
    intro fu
    induction fu with
    | zero => intro j hfu; exact absurd hfu (Nat.not_lt_zero _)
    | succ fu ih4 =>
      intro j hfu4 hj
      refine r_iload_n (pc' := 5) X 3 dX3_widthOf_4 rfl rfl rfl ?_
      refine r_aload_n (pc' := 6) X 0 dX3_widthOf_5 rfl rfl rfl ?_
      refine gf_P_n (pc' := 9) X hop gw_34 dX3_widthOf_6 rfl ?_
      refine r_icmp_ge (pc' := 12) (tgt := 34) X dX3_widthOf_9 rfl rfl (by omega) (by omega) (fun h9 => ?_) (fun h9 => ?_)
      · refine r_iload_n (pc' := 35) X 2 dX3_widthOf_34 rfl rfl rfl ?_
        refine w_iret X hr dX3_widthOf_35 ?_
        try dsimp only
        have ej : j = N := by omega
        subst ej
        exact ⟨rfl, rfl⟩
      · refine r_iload_n (pc' := 13) X 2 dX3_widthOf_12 rfl rfl rfl ?_
        refine r_aload_n (pc' := 14) X 1 dX3_widthOf_13 rfl rfl rfl ?_
        refine gf_M_upper (pc' := 17) X hom gw_98 dX3_widthOf_14 rfl ?_
        refine r_iload_n (pc' := 18) X 3 dX3_widthOf_17 rfl rfl rfl ?_
        refine r_iald (i := j) (pc' := 19) X (kM_3 hom) (by omega) (by omega) (by decide) dX3_widthOf_18 rfl ?_
        refine r_aload_n (pc' := 20) X 1 dX3_widthOf_19 rfl rfl rfl ?_
        refine gf_M_lower (pc' := 23) X hom gw_94 dX3_widthOf_20 rfl ?_
        refine r_iload_n (pc' := 24) X 3 dX3_widthOf_23 rfl rfl rfl ?_
        refine r_iald (i := j) (pc' := 25) X (kM_2 hom) (by omega) (by omega) (by decide) dX3_widthOf_24 rfl ?_
        refine r_isub (pc' := 26) X dX3_widthOf_25 rfl ?_
        refine r_iadd (pc' := 27) X dX3_widthOf_26 rfl ?_
        refine r_istore_n (pc' := 28) (lc' := [(0, vR G (op, 0)), (1, vR G (om, 0)), (2, vI ((wid j (M om 2) (M om 3)) + ((M om 3 j) - (M om 2 j)))), (3, vI (j : Int))]) X [1, 2, 0, 3] dX3_widthOf_27 rfl (by decide) rfl rfl ?_
        refine r_iinc (pc' := 31) (z' := ((j + 1 : Nat) : Int)) (lc' := [(0, vR G (op, 0)), (1, vR G (om, 0)), (2, vI ((wid j (M om 2) (M om 3)) + ((M om 3 j) - (M om 2 j)))), (3, vI ((j + 1 : Nat) : Int))]) X 3 [1, 2, 3, 0] dX3_widthOf_28 rfl (by omega) (by decide) rfl rfl ?_
        refine r_goto (tgt := 4) X dX3_widthOf_31 rfl ?_
        exact ih4 (j + 1) (by omega) (by omega)
  exact L4 ((N - 0) + 1) 0 (Nat.lt_succ_self _) (by omega)
