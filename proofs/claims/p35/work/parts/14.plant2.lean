theorem cf_X3_firstActedOn : wCal yX3_firstActedOn cX3_firstActedOn 2 (some .int) 0 := ⟨gw_915, gw_2, by decide, by decide, by rfl⟩
set_option maxRecDepth 100000 in
set_option maxHeartbeats 4000000 in
theorem c_X3_firstActedOn (l : Launch) (G : wG) (M : wM) (op N P : Nat) (hop : op = 19 ∨ op = 20) (hp : PlOk (M op) N P) : Met l yX3_firstActedOn (gws yX3_firstActedOn cX3_firstActedOn 2 (some .int)) (wrm 0 0 0) (wPc G M [vR G (op, 0)]) (wQi G (fun z M1 => z = firstE (M op 7) N 0 ∧ M1 = M)) 0 0 (wA G) := by
  refine wMet (lc := [(0, vR G (op, 0))]) (by decide) (Nat.le_of_ble_eq_true rfl) rfl ?_
  intro p e s m args below meth c X hr
  have X : wX p s m args meth c G 2 "StateObserver$Plant" cX3_firstActedOn := X
  obtain ⟨hN, hN1, hN4, hP, hP1, hP3, hA, hB, hE, hC, hQ⟩ := id hp
  refine r_iconst (pc' := 1) X dX3_firstActedOn_0 rfl ?_
  refine r_istore_n (pc' := 2) (lc' := [(0, vR G (op, 0)), (1, vI 0)]) X [1, 0] dX3_firstActedOn_1 rfl (by decide) rfl rfl ?_
  have L2 : ∀ (fu : Nat) (i : Nat), N - i < fu → (i ≤ N) → (firstE (M op 7) N 0 = firstE (M op 7) (N - i) i) → wV p l e (wrm 0 0 0) s m args below meth c G 2 M 0 0 (MQ below (wQi G (fun z M1 => z = firstE (M op 7) N 0 ∧ M1 = M)) args s 0 0 (wA G)) 2 [(0, vR G (op, 0)), (1, vI (i : Int))] [] := by
    intro fu
    induction fu with
    | zero => intro i hfu; exact absurd hfu (Nat.not_lt_zero _)
    | succ fu ih2 =>
      intro i hfu2 hi hf
      refine r_iload_n (pc' := 3) X 1 dX3_firstActedOn_2 rfl rfl rfl ?_
      refine r_aload_n (pc' := 4) X 0 dX3_firstActedOn_3 rfl rfl rfl ?_
      refine gf_P_n (pc' := 7) X hop gw_34 dX3_firstActedOn_4 rfl ?_
      refine r_icmp_ge (pc' := 10) (tgt := 27) X dX3_firstActedOn_7 rfl rfl (by omega) (by omega) (fun h7 => ?_) (fun h7 => ?_)
      · refine r_iconst (pc' := 28) X dX3_firstActedOn_27 rfl ?_
        refine w_iret X hr dX3_firstActedOn_28 ?_
        try dsimp only
        refine ⟨?_, rfl⟩
        rw [hf, show N - i = 0 by omega]
        rfl
      · refine r_aload_n (pc' := 11) X 0 dX3_firstActedOn_10 rfl rfl rfl ?_
        refine gf_P_e (pc' := 14) X hop gw_53 dX3_firstActedOn_11 rfl ?_
        refine r_iload_n (pc' := 15) X 1 dX3_firstActedOn_14 rfl rfl rfl ?_
        refine r_iald (i := i) (pc' := 16) X (kP_7 hop) (by omega) (by omega) (by decide) dX3_firstActedOn_15 rfl ?_
        have hEi := hE i (by omega)
        refine r_if_eq (pc' := 19) (tgt := 21) X dX3_firstActedOn_16 rfl rfl (by omega) (fun h16 => ?_) (fun h16 => ?_)
        · refine r_iinc (pc' := 24) (z' := ((i + 1 : Nat) : Int)) (lc' := [(0, vR G (op, 0)), (1, vI ((i + 1 : Nat) : Int))]) X 1 [1, 0] dX3_firstActedOn_21 rfl (by omega) (by decide) rfl rfl ?_
          refine r_goto (tgt := 2) X dX3_firstActedOn_24 rfl ?_
          exact ih2 (i + 1) (by omega) (by omega) (by rw [hf, show N - i = (N - (i + 1)) + 1 by omega]; show (if M op 7 i ≠ 0 then (i : Int) else _) = _; rw [if_neg (by omega)])
        · refine r_iload_n (pc' := 20) X 1 dX3_firstActedOn_19 rfl rfl rfl ?_
          refine w_iret X hr dX3_firstActedOn_20 ?_
          try dsimp only
          refine ⟨?_, rfl⟩
          rw [hf, show N - i = (N - (i + 1)) + 1 by omega]
          show _ = (if M op 7 i ≠ 0 then (i : Int) else _)
          rw [if_pos (by omega)]
  exact L2 ((N - 0) + 1) 0 (Nat.lt_succ_self _) (by omega) (by rw [Nat.sub_zero])
theorem cf_X3_combinations : wCal yX3_combinations cX3_combinations 1 (some .int) 0 := ⟨gw_911, gw_2, by decide, by decide, by rfl⟩
set_option maxRecDepth 100000 in
set_option maxHeartbeats 4000000 in
theorem c_X3_combinations (l : Launch) (G : wG) (M : wM) (op N P : Nat) (hop : op = 19 ∨ op = 20) (hp : PlOk (M op) N P) : Met l yX3_combinations (gws yX3_combinations cX3_combinations 1 (some .int)) (wrm 1 0 0) (wPc G M [vR G (op, 0)]) (wQi G (fun z M1 => z = (if firstE (M op 7) N 0 = -1 then (N : Int) else N - 1) ∧ M1 = M)) 0 0 (wA G) := by
  refine wMet (lc := [(0, vR G (op, 0))]) (by decide) (Nat.le_of_ble_eq_true rfl) rfl ?_
  intro p e s m args below meth c X hr
  have X : wX p s m args meth c G 1 "StateObserver$Plant" cX3_combinations := X
  obtain ⟨hN, hN1, hN4, hP, hP1, hP3, hA, hB, hE, hC, hQ⟩ := id hp
  have hfe := firstE_rng (M op 7) N
  refine r_aload_n (pc' := 1) X 0 dX3_combinations_0 rfl rfl rfl ?_
  refine w_calli (pc' := 4) (st := []) (w_runV X (c_X3_firstActedOn l G M op N P hop (by first | assumption | omega)) cf_X3_firstActedOn (kP_0 hop) rfl gw_913 gw_914 rfl rfl ⟨Nat.le_of_ble_eq_true rfl, Nat.le_of_ble_eq_true rfl⟩ rfl rfl (Nat.le_of_ble_eq_true rfl) ⟨Nat.le_of_ble_eq_true rfl, Nat.le_of_ble_eq_true rfl⟩ gw_912 dX3_combinations_1) rfl (fun z1 M1 h1 => ?_)
  obtain rfl := h1.1.symm
  obtain rfl := h1.2.symm
  refine r_iconst (pc' := 5) X dX3_combinations_4 rfl ?_
  refine r_icmp_ne (pc' := 8) (tgt := 15) X dX3_combinations_5 rfl rfl (by omega) (by omega) (fun h5 => ?_) (fun h5 => ?_)
  · refine r_aload_n (pc' := 16) X 0 dX3_combinations_15 rfl rfl rfl ?_
    refine gf_P_n (pc' := 19) X hop gw_34 dX3_combinations_16 rfl ?_
    refine r_iconst (pc' := 20) X dX3_combinations_19 rfl ?_
    refine r_isub (pc' := 21) X dX3_combinations_20 rfl ?_
    refine w_iret X hr dX3_combinations_21 ?_
    try dsimp only
    first | exact ⟨by rw [if_pos (by omega)]; exact hN, rfl⟩ | exact ⟨by rw [if_neg (by omega), hN], rfl⟩
  · refine r_aload_n (pc' := 9) X 0 dX3_combinations_8 rfl rfl rfl ?_
    refine gf_P_n (pc' := 12) X hop gw_34 dX3_combinations_9 rfl ?_
    refine r_goto (tgt := 21) X dX3_combinations_12 rfl ?_
    refine w_iret X hr dX3_combinations_21 ?_
    try dsimp only
    first | exact ⟨by rw [if_pos (by omega)]; exact hN, rfl⟩ | exact ⟨by rw [if_neg (by omega), hN], rfl⟩
theorem cf_X3_meetFreshOutputs : wCal yX3_meetFreshOutputs cX3_meetFreshOutputs 4 (some .boolean) 2 := ⟨gw_713, gw_2, by decide, by decide, by rfl⟩
set_option maxRecDepth 100000 in
set_option maxHeartbeats 4000000 in
theorem c_X3_meetFreshOutputs (l : Launch) (G : wG) (M : wM) (op vo vj om N P : Nat) (T : Int) (hop : op = 19 ∨ op = 20) (hom : om < 19) (hv : wkd vo vj = some (.inr (0, 4, wNr))) (hp : PlOk (M op) N P) (hm : MoOk (M om) N P T) (hT6 : T ≤ 1000000) (hV : ∀ i, i < N → -1000000 ≤ M vo vj i ∧ M vo vj i ≤ 1000000) : Met l yX3_meetFreshOutputs (gws yX3_meetFreshOutputs cX3_meetFreshOutputs 4 (some .boolean)) (wrm 2 0 0) (wPc G M [vR G (op, 0), vR G (vo, vj), vR G (om, 0)]) (wQi G (fun z M1 => (z = 0 ∨ z = 1) ∧ (z = 1 ↔ meets N P (M op) (M vo vj) (M om 10) (M om 11)) ∧ M1 = M)) 0 0 (wA G) := by
  refine wMet (lc := [(0, vR G (op, 0)), (1, vR G (vo, vj)), (2, vR G (om, 0))]) (by decide) (Nat.le_of_ble_eq_true rfl) rfl ?_
  intro p e s m args below meth c X hr
  have X : wX p s m args meth c G 4 "StateObserver$Plant" cX3_meetFreshOutputs := X
  obtain ⟨hN, hN1, hN4, hP, hP1, hP3, hA, hB, hE, hC, hQ⟩ := id hp
  obtain ⟨hT, hL, hU, hS, hG, hY, hAg, hHo, hBo, hTi, hLi, hLb, hLl, hLh⟩ := id hm
  have hN0 := hN
  refine r_iconst (pc' := 1) X dX3_meetFreshOutputs_0 rfl ?_
  refine r_istore_n (pc' := 2) (lc' := [(0, vR G (op, 0)), (1, vR G (vo, vj)), (2, vR G (om, 0)), (3, vI 0)]) X [1, 2, 3, 0] dX3_meetFreshOutputs_1 rfl (by decide) rfl rfl ?_
  have L2 : ∀ (fu : Nat) (k : Nat), P - k < fu → (k ≤ P) → (∀ x, x < k → M om 11 x = 0 → (dot N (M op (9 + x)) (M vo vj)).fdiv (M op 12 x) = M om 10 x) → wV p l e (wrm 2 0 0) s m args below meth c G 4 M 0 0 (MQ below (wQi G (fun z M1 => (z = 0 ∨ z = 1) ∧ (z = 1 ↔ meets N P (M op) (M vo vj) (M om 10) (M om 11)) ∧ M1 = M)) args s 0 0 (wA G)) 2 [(0, vR G (op, 0)), (1, vR G (vo, vj)), (2, vR G (om, 0)), (3, vI (k : Int))] [] := by
    intro fu
    induction fu with
    | zero => intro k hfu; exact absurd hfu (Nat.not_lt_zero _)
    | succ fu ih2 =>
      intro k hfu2 hk hd
      refine r_iload_n (pc' := 3) X 3 dX3_meetFreshOutputs_2 rfl rfl rfl ?_
      refine r_aload_n (pc' := 4) X 0 dX3_meetFreshOutputs_3 rfl rfl rfl ?_
      refine gf_P_p (pc' := 7) X hop gw_39 dX3_meetFreshOutputs_4 rfl ?_
      refine r_icmp_ge (pc' := 10) (tgt := 59) X dX3_meetFreshOutputs_7 rfl rfl (by omega) (by omega) (fun h7 => ?_) (fun h7 => ?_)
      · refine r_iconst (pc' := 60) X dX3_meetFreshOutputs_59 rfl ?_
        refine w_zret X hr (by decide) dX3_meetFreshOutputs_60 ?_
        try dsimp only
        refine ⟨Or.inr rfl, ⟨fun _ x hx ha => hd x (by omega) ha, fun _ => rfl⟩, rfl⟩
      · refine r_aload_n (pc' := 11) X 2 dX3_meetFreshOutputs_10 rfl rfl rfl ?_
        refine gf_M_age (pc' := 14) X hom gw_114 dX3_meetFreshOutputs_11 rfl ?_
        refine r_iload_n (pc' := 15) X 3 dX3_meetFreshOutputs_14 rfl rfl rfl ?_
        refine r_iald (i := k) (pc' := 16) X (kM_11 hom) (by omega) (by omega) (by decide) dX3_meetFreshOutputs_15 rfl ?_
        have hag := hAg k (by omega)
        refine r_if_ne (pc' := 19) (tgt := 53) X dX3_meetFreshOutputs_16 rfl rfl (by omega) (fun h16 => ?_) (fun h16 => ?_)
        · refine r_iinc (pc' := 56) (z' := ((k + 1 : Nat) : Int)) (lc' := [(0, vR G (op, 0)), (1, vR G (vo, vj)), (2, vR G (om, 0)), (3, vI ((k + 1 : Nat) : Int))]) X 3 [1, 2, 3, 0] dX3_meetFreshOutputs_53 rfl (by omega) (by decide) rfl rfl ?_
          refine r_goto (tgt := 2) X dX3_meetFreshOutputs_56 rfl ?_
          exact ih2 (k + 1) (by omega) (by omega) (fun x hx ha => by rcases Nat.lt_or_ge x k with q | q; exact hd x q ha; rw [show x = k by omega] at ha ⊢; first | exact absurd ha (by omega) | (have h9 := z47e.mp (by omega); exact h9))
        · have hdb := dot_bd (A := 99) (B := 1000000) (by decide) (by decide) (n := N) (f := M op (9 + k)) (g := M vo vj) (fun i hi => hC k i (by omega) hi) hV
          have hqk := hQ k (by omega)
          have hyk := hY k (by omega)
          refine r_aload_n (pc' := 20) X 0 dX3_meetFreshOutputs_19 rfl rfl rfl ?_
          refine r_aload_n (pc' := 21) X 0 dX3_meetFreshOutputs_20 rfl rfl rfl ?_
          refine gf_P_c (pc' := 24) X hop gw_58 dX3_meetFreshOutputs_21 rfl ?_
          refine r_iload_n (pc' := 25) X 3 dX3_meetFreshOutputs_24 rfl rfl rfl ?_
          refine r_aald (i := k) (x := (op, (9 + k))) (pc' := 26) X (kP_8 hop) (by decide) (by omega) (by omega) (by decide) rfl dX3_meetFreshOutputs_25 rfl ?_
          refine r_aload_n (pc' := 27) X 1 dX3_meetFreshOutputs_26 rfl rfl rfl ?_
          refine w_callj (pc' := 30) (st := []) (w_runV X (c_X3_sum l G M op op (9 + k) vo vj N hop (kP_c hop (by omega)) hv (by first | assumption | omega) (by first | assumption | omega) (fun i hi => by have := hC k i (by omega) hi; omega) (fun i hi => by have := hV i hi; omega)) cf_X3_sum (kP_0 hop) rfl gw_715 gw_716 rfl rfl ⟨Nat.le_of_ble_eq_true rfl, Nat.le_of_ble_eq_true rfl⟩ rfl rfl (Nat.le_of_ble_eq_true rfl) ⟨Nat.le_of_ble_eq_true rfl, Nat.le_of_ble_eq_true rfl⟩ gw_714 dX3_meetFreshOutputs_27) rfl (fun z27 M1 h27 => ?_)
          obtain rfl := h27.1.symm
          obtain rfl := h27.2.symm
          refine r_aload_n (pc' := 31) X 0 dX3_meetFreshOutputs_30 rfl rfl rfl ?_
          refine gf_P_quantum (pc' := 34) X hop gw_63 dX3_meetFreshOutputs_31 rfl ?_
          refine r_iload_n (pc' := 35) X 3 dX3_meetFreshOutputs_34 rfl rfl rfl ?_
          refine r_iald (i := k) (pc' := 36) X (kP_12 hop) (by omega) (by omega) (by decide) dX3_meetFreshOutputs_35 rfl ?_
          refine r_i2l (pc' := 37) X dX3_meetFreshOutputs_36 (by omega) rfl ?_
          refine w_callj (pc' := 40) (st := []) (w_runSN X (c_X8_floorQuotient l G M ((dot N (M op (9 + k)) (M vo vj))) (M op 12 k) (by first | assumption | omega) (by first | assumption | omega) (by first | assumption | omega)) cf_X8_floorQuotient gw_499 rfl rfl ⟨Nat.le_of_ble_eq_true rfl, Nat.le_of_ble_eq_true rfl⟩ rfl rfl (Nat.le_of_ble_eq_true rfl) ⟨Nat.le_of_ble_eq_true rfl, Nat.le_of_ble_eq_true rfl⟩ tn_498 dX3_meetFreshOutputs_37) rfl (fun z37 M2 h37 => ?_)
          obtain rfl := h37.1.symm
          obtain rfl := h37.2.symm
          refine r_aload_n (pc' := 41) X 2 dX3_meetFreshOutputs_40 rfl rfl rfl ?_
          refine gf_M_reading (pc' := 44) X hom gw_110 dX3_meetFreshOutputs_41 rfl ?_
          refine r_iload_n (pc' := 45) X 3 dX3_meetFreshOutputs_44 rfl rfl rfl ?_
          refine r_iald (i := k) (pc' := 46) X (kM_10 hom) (by omega) (by omega) (by decide) dX3_meetFreshOutputs_45 rfl ?_
          refine r_i2l (pc' := 47) X dX3_meetFreshOutputs_46 (by omega) rfl ?_
          have hfd := fdiv_small (a := dot N (M op (9 + k)) (M vo vj)) (b := M op 12 k) (B := 400000000) (by omega) (by omega) (by decide)
          refine r_lcmp (pc' := 48) X dX3_meetFreshOutputs_47 (by omega) (by omega) rfl (fun z47 z47r z47l z47e z47g => ?_)
          refine r_if_eq (pc' := 51) (tgt := 53) X dX3_meetFreshOutputs_48 rfl rfl (by omega) (fun h48 => ?_) (fun h48 => ?_)
          · refine r_iinc (pc' := 56) (z' := ((k + 1 : Nat) : Int)) (lc' := [(0, vR G (op, 0)), (1, vR G (vo, vj)), (2, vR G (om, 0)), (3, vI ((k + 1 : Nat) : Int))]) X 3 [1, 2, 3, 0] dX3_meetFreshOutputs_53 rfl (by omega) (by decide) rfl rfl ?_
            refine r_goto (tgt := 2) X dX3_meetFreshOutputs_56 rfl ?_
            exact ih2 (k + 1) (by omega) (by omega) (fun x hx ha => by rcases Nat.lt_or_ge x k with q | q; exact hd x q ha; rw [show x = k by omega] at ha ⊢; first | exact absurd ha (by omega) | (have h9 := z47e.mp (by omega); exact h9))
          · refine r_iconst (pc' := 52) X dX3_meetFreshOutputs_51 rfl ?_
            refine w_zret X hr (by decide) dX3_meetFreshOutputs_52 ?_
            try dsimp only
            refine ⟨Or.inl rfl, ⟨fun h => absurd h (by decide), fun h => ?_⟩, rfl⟩
            have h9 := h k (by omega) (by omega)
            exact absurd (z47e.mpr h9) (by omega)
  exact L2 ((P - 0) + 1) 0 (Nat.lt_succ_self _) (by omega) (fun x h => absurd h (Nat.not_lt_zero x))
theorem cf_X3_explains : wCal yX3_explains cX3_explains 8 (some .boolean) 2 := ⟨gw_544, gw_2, by decide, by decide, by rfl⟩
set_option maxRecDepth 100000 in
set_option maxHeartbeats 4000000 in
theorem c_X3_explains (l : Launch) (G : wG) (M : wM) (op om N P : Nat) (d T : Int) (hop : op = 19 ∨ op = 20) (hom : om < 19) (hd : -99 ≤ d ∧ d ≤ 99) (hp : PlOk (M op) N P) (hm : MoOk (M om) N P T) (hT6 : T ≤ 1000000) : Met l yX3_explains (gws yX3_explains cX3_explains 8 (some .boolean)) (wrm 0 0 0) (wPc G M [vR G (op, 0), vI d, vR G (om, 0)]) (wQi G (fun z M1 => (z = 0 ∨ z = 1) ∧ (z = 1 ↔ expl N (M op) (M om) d) ∧ M1 = M)) 0 0 (wA G) := by
  refine wMet (lc := [(0, vR G (op, 0)), (1, vI d), (2, vR G (om, 0))]) (by decide) (Nat.le_of_ble_eq_true rfl) rfl ?_
  intro p e s m args below meth c X hr
  have X : wX p s m args meth c G 8 "StateObserver$Plant" cX3_explains := X
  obtain ⟨hN, hN1, hN4, hP, hP1, hP3, hA, hB, hE, hC, hQ⟩ := id hp
  obtain ⟨hT, hL, hU, hS, hG, hY, hAg, hHo, hBo, hTi, hLi, hLb, hLl, hLh⟩ := id hm
  have hN0 := hN
  refine r_iconst (pc' := 1) X dX3_explains_0 rfl ?_
  refine r_istore_n (pc' := 2) (lc' := [(0, vR G (op, 0)), (1, vI d), (2, vR G (om, 0)), (3, vI 0)]) X [1, 2, 3, 0] dX3_explains_1 rfl (by decide) rfl rfl ?_
  have L2 : ∀ (fu : Nat) (i : Nat), N - i < fu → (i ≤ N) → (∀ x, x < i → M op 7 x ≠ 0 → ¬ (-1000000 < M om 2 x ∧ M op 7 x * d < M om 2 x - M op 6 x * M om 0 10 - M om 13 x) ∧ ¬ (M om 3 x < 1000000 ∧ M om 3 x - M op 6 x * M om 0 10 - M om 12 x < M op 7 x * d)) → wV p l e (wrm 0 0 0) s m args below meth c G 8 M 0 0 (MQ below (wQi G (fun z M1 => (z = 0 ∨ z = 1) ∧ (z = 1 ↔ expl N (M op) (M om) d) ∧ M1 = M)) args s 0 0 (wA G)) 2 [(0, vR G (op, 0)), (1, vI d), (2, vR G (om, 0)), (3, vI (i : Int))] [] := by
    intro fu
    induction fu with
    | zero => intro i hfu; exact absurd hfu (Nat.not_lt_zero _)
    | succ fu ih2 =>
      intro i hfu2 hi hx
      refine r_iload_n (pc' := 3) X 3 dX3_explains_2 rfl rfl rfl ?_
      refine r_aload_n (pc' := 4) X 0 dX3_explains_3 rfl rfl rfl ?_
      refine gf_P_n (pc' := 7) X hop gw_34 dX3_explains_4 rfl ?_
      refine r_icmp_ge (pc' := 10) (tgt := 138) X dX3_explains_7 rfl rfl (by omega) (by omega) (fun h7 => ?_) (fun h7 => ?_)
      · refine r_iconst (pc' := 139) X dX3_explains_138 rfl ?_
        refine w_zret X hr (by decide) dX3_explains_139 ?_
        try dsimp only
        exact ⟨Or.inr rfl, ⟨fun _ x hx9 he => hx x (by omega) he, fun _ => rfl⟩, rfl⟩
      · have hLi2 := hL i (by omega)
        have hUi2 := hU i (by omega)
        have hEi := hE i (by omega)
        have hBi := hB i (by omega)
        have hl2 := hLl i (by omega)
        have hh2 := hLh i (by omega)
        have hm1 := mul_bd (A := 99) (B := 99) (by decide) hEi hd
        have hm2 := mul_bd (A := 99) (B := 99) (by decide) hBi hLi
        refine r_aload_n (pc' := 11) X 0 dX3_explains_10 rfl rfl rfl ?_
        refine gf_P_e (pc' := 14) X hop gw_53 dX3_explains_11 rfl ?_
        refine r_iload_n (pc' := 15) X 3 dX3_explains_14 rfl rfl rfl ?_
        refine r_iald (i := i) (pc' := 16) X (kP_7 hop) (by omega) (by omega) (by decide) dX3_explains_15 rfl ?_
        refine r_iload_n (pc' := 17) X 1 dX3_explains_16 rfl rfl rfl ?_
        refine r_imul (pc' := 18) X dX3_explains_17 rfl ?_
        refine r_istore (pc' := 20) (lc' := [(0, vR G (op, 0)), (1, vI d), (2, vR G (om, 0)), (3, vI (i : Int)), (4, vI ((M op 7 i) * d))]) X [1, 2, 3, 4, 0] dX3_explains_18 (by decide) rfl rfl ?_
        refine r_aload_n (pc' := 21) X 0 dX3_explains_20 rfl rfl rfl ?_
        refine gf_P_b (pc' := 24) X hop gw_49 dX3_explains_21 rfl ?_
        refine r_iload_n (pc' := 25) X 3 dX3_explains_24 rfl rfl rfl ?_
        refine r_iald (i := i) (pc' := 26) X (kP_6 hop) (by omega) (by omega) (by decide) dX3_explains_25 rfl ?_
        refine r_aload_n (pc' := 27) X 2 dX3_explains_26 rfl rfl rfl ?_
        refine gf_M_lastInput (pc' := 30) X hom gw_129 dX3_explains_27 rfl ?_
        refine r_imul (pc' := 31) X dX3_explains_30 rfl ?_
        refine r_istore (pc' := 33) (lc' := [(0, vR G (op, 0)), (1, vI d), (2, vR G (om, 0)), (3, vI (i : Int)), (4, vI ((M op 7 i) * d)), (5, vI ((M op 6 i) * (M om 0 10)))]) X [1, 2, 3, 4, 5, 0] dX3_explains_31 (by decide) rfl rfl ?_
        refine r_aload_n (pc' := 34) X 2 dX3_explains_33 rfl rfl rfl ?_
        refine gf_M_lower (pc' := 37) X hom gw_94 dX3_explains_34 rfl ?_
        refine r_iload_n (pc' := 38) X 3 dX3_explains_37 rfl rfl rfl ?_
        refine r_iald (i := i) (pc' := 39) X (kM_2 hom) (by omega) (by omega) (by decide) dX3_explains_38 rfl ?_
        refine r_ldc (pc' := 41) (z := (-1000000)) X gw_545 dX3_explains_39 rfl rfl ?_
        refine r_icmp_le (pc' := 44) (tgt := 69) X dX3_explains_41 rfl rfl (by omega) (by omega) (fun h41 => ?_) (fun h41 => ?_)
        · refine r_iconst (pc' := 70) X dX3_explains_69 rfl ?_
          refine r_istore (pc' := 72) (lc' := [(0, vR G (op, 0)), (1, vI d), (2, vR G (om, 0)), (3, vI (i : Int)), (4, vI ((M op 7 i) * d)), (5, vI ((M op 6 i) * (M om 0 10))), (6, vI 0)]) X [1, 2, 3, 4, 5, 6, 0] dX3_explains_70 (by decide) rfl rfl ?_
          refine r_aload_n (pc' := 73) X 2 dX3_explains_72 rfl rfl rfl ?_
          refine gf_M_upper (pc' := 76) X hom gw_98 dX3_explains_73 rfl ?_
          refine r_iload_n (pc' := 77) X 3 dX3_explains_76 rfl rfl rfl ?_
          refine r_iald (i := i) (pc' := 78) X (kM_3 hom) (by omega) (by omega) (by decide) dX3_explains_77 rfl ?_
          refine r_ldc (pc' := 80) (z := 1000000) X gw_546 dX3_explains_78 rfl rfl ?_
          refine r_icmp_ge (pc' := 83) (tgt := 108) X dX3_explains_80 rfl rfl (by omega) (by omega) (fun h80 => ?_) (fun h80 => ?_)
          · refine r_iconst (pc' := 109) X dX3_explains_108 rfl ?_
            refine r_istore (pc' := 111) (lc' := [(0, vR G (op, 0)), (1, vI d), (2, vR G (om, 0)), (3, vI (i : Int)), (4, vI ((M op 7 i) * d)), (5, vI ((M op 6 i) * (M om 0 10))), (6, vI 0), (7, vI 0)]) X [1, 2, 3, 4, 5, 6, 7, 0] dX3_explains_109 (by decide) rfl rfl ?_
            refine r_aload_n (pc' := 112) X 0 dX3_explains_111 rfl rfl rfl ?_
            refine gf_P_e (pc' := 115) X hop gw_53 dX3_explains_112 rfl ?_
            refine r_iload_n (pc' := 116) X 3 dX3_explains_115 rfl rfl rfl ?_
            refine r_iald (i := i) (pc' := 117) X (kP_7 hop) (by omega) (by omega) (by decide) dX3_explains_116 rfl ?_
            refine r_if_eq (pc' := 120) (tgt := 132) X dX3_explains_117 rfl rfl (by omega) (fun h117 => ?_) (fun h117 => ?_)
            · refine r_iinc (pc' := 135) (z' := ((i + 1 : Nat) : Int)) (lc' := [(0, vR G (op, 0)), (1, vI d), (2, vR G (om, 0)), (3, vI ((i + 1 : Nat) : Int)), (4, vI ((M op 7 i) * d)), (5, vI ((M op 6 i) * (M om 0 10))), (6, vI 0), (7, vI 0)]) X 3 [1, 2, 3, 0, 4, 5, 6, 7] dX3_explains_132 rfl (by omega) (by decide) rfl rfl ?_
              refine r_goto (tgt := 2) X dX3_explains_135 rfl ?_
              refine w_sub (lc' := [(0, vR G (op, 0)), (1, vI d), (2, vR G (om, 0)), (3, vI ((i + 1 : Nat) : Int))]) [0, 1, 2, 3] rfl ?_
              exact ih2 (i + 1) (by omega) (by omega) (fun x hx9 he => by rcases Nat.lt_or_ge x i with q | q; exact hx x q he; rw [show x = i by omega] at he ⊢; constructor <;> omega)
            · refine r_iload (pc' := 122) X 6 dX3_explains_120 rfl rfl ?_
              refine r_if_ne (pc' := 125) (tgt := 130) X dX3_explains_122 rfl rfl (by omega) (fun h122 => absurd h122 (by decide)) (fun h122 => ?_)
              refine r_iload (pc' := 127) X 7 dX3_explains_125 rfl rfl ?_
              refine r_if_eq (pc' := 130) (tgt := 132) X dX3_explains_127 rfl rfl (by omega) (fun h127 => ?_) (fun h127 => absurd h127 (by decide))
              refine r_iinc (pc' := 135) (z' := ((i + 1 : Nat) : Int)) (lc' := [(0, vR G (op, 0)), (1, vI d), (2, vR G (om, 0)), (3, vI ((i + 1 : Nat) : Int)), (4, vI ((M op 7 i) * d)), (5, vI ((M op 6 i) * (M om 0 10))), (6, vI 0), (7, vI 0)]) X 3 [1, 2, 3, 0, 4, 5, 6, 7] dX3_explains_132 rfl (by omega) (by decide) rfl rfl ?_
              refine r_goto (tgt := 2) X dX3_explains_135 rfl ?_
              refine w_sub (lc' := [(0, vR G (op, 0)), (1, vI d), (2, vR G (om, 0)), (3, vI ((i + 1 : Nat) : Int))]) [0, 1, 2, 3] rfl ?_
              exact ih2 (i + 1) (by omega) (by omega) (fun x hx9 he => by rcases Nat.lt_or_ge x i with q | q; exact hx x q he; rw [show x = i by omega] at he ⊢; constructor <;> omega)
          · refine r_iload (pc' := 85) X 4 dX3_explains_83 rfl rfl ?_
            refine r_aload_n (pc' := 86) X 2 dX3_explains_85 rfl rfl rfl ?_
            refine gf_M_upper (pc' := 89) X hom gw_98 dX3_explains_86 rfl ?_
            refine r_iload_n (pc' := 90) X 3 dX3_explains_89 rfl rfl rfl ?_
            refine r_iald (i := i) (pc' := 91) X (kM_3 hom) (by omega) (by omega) (by decide) dX3_explains_90 rfl ?_
            refine r_iload (pc' := 93) X 5 dX3_explains_91 rfl rfl ?_
            refine r_isub (pc' := 94) X dX3_explains_93 rfl ?_
            refine r_aload_n (pc' := 95) X 2 dX3_explains_94 rfl rfl rfl ?_
            refine gf_M_lastLow (pc' := 98) X hom gw_135 dX3_explains_95 rfl ?_
            refine r_iload_n (pc' := 99) X 3 dX3_explains_98 rfl rfl rfl ?_
            refine r_iald (i := i) (pc' := 100) X (kM_12 hom) (by omega) (by omega) (by decide) dX3_explains_99 rfl ?_
            refine r_isub (pc' := 101) X dX3_explains_100 rfl ?_
            refine r_icmp_le (pc' := 104) (tgt := 108) X dX3_explains_101 rfl rfl (by omega) (by omega) (fun h101 => ?_) (fun h101 => ?_)
            · refine r_iconst (pc' := 109) X dX3_explains_108 rfl ?_
              refine r_istore (pc' := 111) (lc' := [(0, vR G (op, 0)), (1, vI d), (2, vR G (om, 0)), (3, vI (i : Int)), (4, vI ((M op 7 i) * d)), (5, vI ((M op 6 i) * (M om 0 10))), (6, vI 0), (7, vI 0)]) X [1, 2, 3, 4, 5, 6, 7, 0] dX3_explains_109 (by decide) rfl rfl ?_
              refine r_aload_n (pc' := 112) X 0 dX3_explains_111 rfl rfl rfl ?_
              refine gf_P_e (pc' := 115) X hop gw_53 dX3_explains_112 rfl ?_
              refine r_iload_n (pc' := 116) X 3 dX3_explains_115 rfl rfl rfl ?_
              refine r_iald (i := i) (pc' := 117) X (kP_7 hop) (by omega) (by omega) (by decide) dX3_explains_116 rfl ?_
              refine r_if_eq (pc' := 120) (tgt := 132) X dX3_explains_117 rfl rfl (by omega) (fun h117 => ?_) (fun h117 => ?_)
              · refine r_iinc (pc' := 135) (z' := ((i + 1 : Nat) : Int)) (lc' := [(0, vR G (op, 0)), (1, vI d), (2, vR G (om, 0)), (3, vI ((i + 1 : Nat) : Int)), (4, vI ((M op 7 i) * d)), (5, vI ((M op 6 i) * (M om 0 10))), (6, vI 0), (7, vI 0)]) X 3 [1, 2, 3, 0, 4, 5, 6, 7] dX3_explains_132 rfl (by omega) (by decide) rfl rfl ?_
                refine r_goto (tgt := 2) X dX3_explains_135 rfl ?_
                refine w_sub (lc' := [(0, vR G (op, 0)), (1, vI d), (2, vR G (om, 0)), (3, vI ((i + 1 : Nat) : Int))]) [0, 1, 2, 3] rfl ?_
                exact ih2 (i + 1) (by omega) (by omega) (fun x hx9 he => by rcases Nat.lt_or_ge x i with q | q; exact hx x q he; rw [show x = i by omega] at he ⊢; constructor <;> omega)
              · refine r_iload (pc' := 122) X 6 dX3_explains_120 rfl rfl ?_
                refine r_if_ne (pc' := 125) (tgt := 130) X dX3_explains_122 rfl rfl (by omega) (fun h122 => absurd h122 (by decide)) (fun h122 => ?_)
                refine r_iload (pc' := 127) X 7 dX3_explains_125 rfl rfl ?_
                refine r_if_eq (pc' := 130) (tgt := 132) X dX3_explains_127 rfl rfl (by omega) (fun h127 => ?_) (fun h127 => absurd h127 (by decide))
                refine r_iinc (pc' := 135) (z' := ((i + 1 : Nat) : Int)) (lc' := [(0, vR G (op, 0)), (1, vI d), (2, vR G (om, 0)), (3, vI ((i + 1 : Nat) : Int)), (4, vI ((M op 7 i) * d)), (5, vI ((M op 6 i) * (M om 0 10))), (6, vI 0), (7, vI 0)]) X 3 [1, 2, 3, 0, 4, 5, 6, 7] dX3_explains_132 rfl (by omega) (by decide) rfl rfl ?_
                refine r_goto (tgt := 2) X dX3_explains_135 rfl ?_
                refine w_sub (lc' := [(0, vR G (op, 0)), (1, vI d), (2, vR G (om, 0)), (3, vI ((i + 1 : Nat) : Int))]) [0, 1, 2, 3] rfl ?_
                exact ih2 (i + 1) (by omega) (by omega) (fun x hx9 he => by rcases Nat.lt_or_ge x i with q | q; exact hx x q he; rw [show x = i by omega] at he ⊢; constructor <;> omega)
            · refine r_iconst (pc' := 105) X dX3_explains_104 rfl ?_
              refine r_goto (tgt := 109) X dX3_explains_105 rfl ?_
              refine r_istore (pc' := 111) (lc' := [(0, vR G (op, 0)), (1, vI d), (2, vR G (om, 0)), (3, vI (i : Int)), (4, vI ((M op 7 i) * d)), (5, vI ((M op 6 i) * (M om 0 10))), (6, vI 0), (7, vI 1)]) X [1, 2, 3, 4, 5, 6, 7, 0] dX3_explains_109 (by decide) rfl rfl ?_
              refine r_aload_n (pc' := 112) X 0 dX3_explains_111 rfl rfl rfl ?_
              refine gf_P_e (pc' := 115) X hop gw_53 dX3_explains_112 rfl ?_
              refine r_iload_n (pc' := 116) X 3 dX3_explains_115 rfl rfl rfl ?_
              refine r_iald (i := i) (pc' := 117) X (kP_7 hop) (by omega) (by omega) (by decide) dX3_explains_116 rfl ?_
              refine r_if_eq (pc' := 120) (tgt := 132) X dX3_explains_117 rfl rfl (by omega) (fun h117 => ?_) (fun h117 => ?_)
              · refine r_iinc (pc' := 135) (z' := ((i + 1 : Nat) : Int)) (lc' := [(0, vR G (op, 0)), (1, vI d), (2, vR G (om, 0)), (3, vI ((i + 1 : Nat) : Int)), (4, vI ((M op 7 i) * d)), (5, vI ((M op 6 i) * (M om 0 10))), (6, vI 0), (7, vI 1)]) X 3 [1, 2, 3, 0, 4, 5, 6, 7] dX3_explains_132 rfl (by omega) (by decide) rfl rfl ?_
                refine r_goto (tgt := 2) X dX3_explains_135 rfl ?_
                refine w_sub (lc' := [(0, vR G (op, 0)), (1, vI d), (2, vR G (om, 0)), (3, vI ((i + 1 : Nat) : Int))]) [0, 1, 2, 3] rfl ?_
                exact ih2 (i + 1) (by omega) (by omega) (fun x hx9 he => by rcases Nat.lt_or_ge x i with q | q; exact hx x q he; rw [show x = i by omega] at he ⊢; constructor <;> omega)
              · refine r_iload (pc' := 122) X 6 dX3_explains_120 rfl rfl ?_
                refine r_if_ne (pc' := 125) (tgt := 130) X dX3_explains_122 rfl rfl (by omega) (fun h122 => absurd h122 (by decide)) (fun h122 => ?_)
                refine r_iload (pc' := 127) X 7 dX3_explains_125 rfl rfl ?_
                refine r_if_eq (pc' := 130) (tgt := 132) X dX3_explains_127 rfl rfl (by omega) (fun h127 => absurd h127 (by decide)) (fun h127 => ?_)
                refine r_iconst (pc' := 131) X dX3_explains_130 rfl ?_
                refine w_zret X hr (by decide) dX3_explains_131 ?_
                try dsimp only
                refine ⟨Or.inl rfl, ⟨fun h => absurd h (by decide), fun h => ?_⟩, rfl⟩
                have h9 := h i (by omega) (by omega)
                omega
        · refine r_iload (pc' := 46) X 4 dX3_explains_44 rfl rfl ?_
          refine r_aload_n (pc' := 47) X 2 dX3_explains_46 rfl rfl rfl ?_
          refine gf_M_lower (pc' := 50) X hom gw_94 dX3_explains_47 rfl ?_
          refine r_iload_n (pc' := 51) X 3 dX3_explains_50 rfl rfl rfl ?_
          refine r_iald (i := i) (pc' := 52) X (kM_2 hom) (by omega) (by omega) (by decide) dX3_explains_51 rfl ?_
          refine r_iload (pc' := 54) X 5 dX3_explains_52 rfl rfl ?_
          refine r_isub (pc' := 55) X dX3_explains_54 rfl ?_
          refine r_aload_n (pc' := 56) X 2 dX3_explains_55 rfl rfl rfl ?_
          refine gf_M_lastHigh (pc' := 59) X hom gw_138 dX3_explains_56 rfl ?_
          refine r_iload_n (pc' := 60) X 3 dX3_explains_59 rfl rfl rfl ?_
          refine r_iald (i := i) (pc' := 61) X (kM_13 hom) (by omega) (by omega) (by decide) dX3_explains_60 rfl ?_
          refine r_isub (pc' := 62) X dX3_explains_61 rfl ?_
          refine r_icmp_ge (pc' := 65) (tgt := 69) X dX3_explains_62 rfl rfl (by omega) (by omega) (fun h62 => ?_) (fun h62 => ?_)
          · refine r_iconst (pc' := 70) X dX3_explains_69 rfl ?_
            refine r_istore (pc' := 72) (lc' := [(0, vR G (op, 0)), (1, vI d), (2, vR G (om, 0)), (3, vI (i : Int)), (4, vI ((M op 7 i) * d)), (5, vI ((M op 6 i) * (M om 0 10))), (6, vI 0)]) X [1, 2, 3, 4, 5, 6, 0] dX3_explains_70 (by decide) rfl rfl ?_
            refine r_aload_n (pc' := 73) X 2 dX3_explains_72 rfl rfl rfl ?_
            refine gf_M_upper (pc' := 76) X hom gw_98 dX3_explains_73 rfl ?_
            refine r_iload_n (pc' := 77) X 3 dX3_explains_76 rfl rfl rfl ?_
            refine r_iald (i := i) (pc' := 78) X (kM_3 hom) (by omega) (by omega) (by decide) dX3_explains_77 rfl ?_
            refine r_ldc (pc' := 80) (z := 1000000) X gw_546 dX3_explains_78 rfl rfl ?_
            refine r_icmp_ge (pc' := 83) (tgt := 108) X dX3_explains_80 rfl rfl (by omega) (by omega) (fun h80 => ?_) (fun h80 => ?_)
            · refine r_iconst (pc' := 109) X dX3_explains_108 rfl ?_
              refine r_istore (pc' := 111) (lc' := [(0, vR G (op, 0)), (1, vI d), (2, vR G (om, 0)), (3, vI (i : Int)), (4, vI ((M op 7 i) * d)), (5, vI ((M op 6 i) * (M om 0 10))), (6, vI 0), (7, vI 0)]) X [1, 2, 3, 4, 5, 6, 7, 0] dX3_explains_109 (by decide) rfl rfl ?_
              refine r_aload_n (pc' := 112) X 0 dX3_explains_111 rfl rfl rfl ?_
              refine gf_P_e (pc' := 115) X hop gw_53 dX3_explains_112 rfl ?_
              refine r_iload_n (pc' := 116) X 3 dX3_explains_115 rfl rfl rfl ?_
              refine r_iald (i := i) (pc' := 117) X (kP_7 hop) (by omega) (by omega) (by decide) dX3_explains_116 rfl ?_
              refine r_if_eq (pc' := 120) (tgt := 132) X dX3_explains_117 rfl rfl (by omega) (fun h117 => ?_) (fun h117 => ?_)
              · refine r_iinc (pc' := 135) (z' := ((i + 1 : Nat) : Int)) (lc' := [(0, vR G (op, 0)), (1, vI d), (2, vR G (om, 0)), (3, vI ((i + 1 : Nat) : Int)), (4, vI ((M op 7 i) * d)), (5, vI ((M op 6 i) * (M om 0 10))), (6, vI 0), (7, vI 0)]) X 3 [1, 2, 3, 0, 4, 5, 6, 7] dX3_explains_132 rfl (by omega) (by decide) rfl rfl ?_
                refine r_goto (tgt := 2) X dX3_explains_135 rfl ?_
                refine w_sub (lc' := [(0, vR G (op, 0)), (1, vI d), (2, vR G (om, 0)), (3, vI ((i + 1 : Nat) : Int))]) [0, 1, 2, 3] rfl ?_
                exact ih2 (i + 1) (by omega) (by omega) (fun x hx9 he => by rcases Nat.lt_or_ge x i with q | q; exact hx x q he; rw [show x = i by omega] at he ⊢; constructor <;> omega)
              · refine r_iload (pc' := 122) X 6 dX3_explains_120 rfl rfl ?_
                refine r_if_ne (pc' := 125) (tgt := 130) X dX3_explains_122 rfl rfl (by omega) (fun h122 => absurd h122 (by decide)) (fun h122 => ?_)
                refine r_iload (pc' := 127) X 7 dX3_explains_125 rfl rfl ?_
                refine r_if_eq (pc' := 130) (tgt := 132) X dX3_explains_127 rfl rfl (by omega) (fun h127 => ?_) (fun h127 => absurd h127 (by decide))
                refine r_iinc (pc' := 135) (z' := ((i + 1 : Nat) : Int)) (lc' := [(0, vR G (op, 0)), (1, vI d), (2, vR G (om, 0)), (3, vI ((i + 1 : Nat) : Int)), (4, vI ((M op 7 i) * d)), (5, vI ((M op 6 i) * (M om 0 10))), (6, vI 0), (7, vI 0)]) X 3 [1, 2, 3, 0, 4, 5, 6, 7] dX3_explains_132 rfl (by omega) (by decide) rfl rfl ?_
                refine r_goto (tgt := 2) X dX3_explains_135 rfl ?_
                refine w_sub (lc' := [(0, vR G (op, 0)), (1, vI d), (2, vR G (om, 0)), (3, vI ((i + 1 : Nat) : Int))]) [0, 1, 2, 3] rfl ?_
                exact ih2 (i + 1) (by omega) (by omega) (fun x hx9 he => by rcases Nat.lt_or_ge x i with q | q; exact hx x q he; rw [show x = i by omega] at he ⊢; constructor <;> omega)
            · refine r_iload (pc' := 85) X 4 dX3_explains_83 rfl rfl ?_
              refine r_aload_n (pc' := 86) X 2 dX3_explains_85 rfl rfl rfl ?_
              refine gf_M_upper (pc' := 89) X hom gw_98 dX3_explains_86 rfl ?_
              refine r_iload_n (pc' := 90) X 3 dX3_explains_89 rfl rfl rfl ?_
              refine r_iald (i := i) (pc' := 91) X (kM_3 hom) (by omega) (by omega) (by decide) dX3_explains_90 rfl ?_
              refine r_iload (pc' := 93) X 5 dX3_explains_91 rfl rfl ?_
              refine r_isub (pc' := 94) X dX3_explains_93 rfl ?_
              refine r_aload_n (pc' := 95) X 2 dX3_explains_94 rfl rfl rfl ?_
              refine gf_M_lastLow (pc' := 98) X hom gw_135 dX3_explains_95 rfl ?_
              refine r_iload_n (pc' := 99) X 3 dX3_explains_98 rfl rfl rfl ?_
              refine r_iald (i := i) (pc' := 100) X (kM_12 hom) (by omega) (by omega) (by decide) dX3_explains_99 rfl ?_
              refine r_isub (pc' := 101) X dX3_explains_100 rfl ?_
              refine r_icmp_le (pc' := 104) (tgt := 108) X dX3_explains_101 rfl rfl (by omega) (by omega) (fun h101 => ?_) (fun h101 => ?_)
              · refine r_iconst (pc' := 109) X dX3_explains_108 rfl ?_
                refine r_istore (pc' := 111) (lc' := [(0, vR G (op, 0)), (1, vI d), (2, vR G (om, 0)), (3, vI (i : Int)), (4, vI ((M op 7 i) * d)), (5, vI ((M op 6 i) * (M om 0 10))), (6, vI 0), (7, vI 0)]) X [1, 2, 3, 4, 5, 6, 7, 0] dX3_explains_109 (by decide) rfl rfl ?_
                refine r_aload_n (pc' := 112) X 0 dX3_explains_111 rfl rfl rfl ?_
                refine gf_P_e (pc' := 115) X hop gw_53 dX3_explains_112 rfl ?_
                refine r_iload_n (pc' := 116) X 3 dX3_explains_115 rfl rfl rfl ?_
                refine r_iald (i := i) (pc' := 117) X (kP_7 hop) (by omega) (by omega) (by decide) dX3_explains_116 rfl ?_
                refine r_if_eq (pc' := 120) (tgt := 132) X dX3_explains_117 rfl rfl (by omega) (fun h117 => ?_) (fun h117 => ?_)
                · refine r_iinc (pc' := 135) (z' := ((i + 1 : Nat) : Int)) (lc' := [(0, vR G (op, 0)), (1, vI d), (2, vR G (om, 0)), (3, vI ((i + 1 : Nat) : Int)), (4, vI ((M op 7 i) * d)), (5, vI ((M op 6 i) * (M om 0 10))), (6, vI 0), (7, vI 0)]) X 3 [1, 2, 3, 0, 4, 5, 6, 7] dX3_explains_132 rfl (by omega) (by decide) rfl rfl ?_
                  refine r_goto (tgt := 2) X dX3_explains_135 rfl ?_
                  refine w_sub (lc' := [(0, vR G (op, 0)), (1, vI d), (2, vR G (om, 0)), (3, vI ((i + 1 : Nat) : Int))]) [0, 1, 2, 3] rfl ?_
                  exact ih2 (i + 1) (by omega) (by omega) (fun x hx9 he => by rcases Nat.lt_or_ge x i with q | q; exact hx x q he; rw [show x = i by omega] at he ⊢; constructor <;> omega)
                · refine r_iload (pc' := 122) X 6 dX3_explains_120 rfl rfl ?_
                  refine r_if_ne (pc' := 125) (tgt := 130) X dX3_explains_122 rfl rfl (by omega) (fun h122 => absurd h122 (by decide)) (fun h122 => ?_)
                  refine r_iload (pc' := 127) X 7 dX3_explains_125 rfl rfl ?_
                  refine r_if_eq (pc' := 130) (tgt := 132) X dX3_explains_127 rfl rfl (by omega) (fun h127 => ?_) (fun h127 => absurd h127 (by decide))
                  refine r_iinc (pc' := 135) (z' := ((i + 1 : Nat) : Int)) (lc' := [(0, vR G (op, 0)), (1, vI d), (2, vR G (om, 0)), (3, vI ((i + 1 : Nat) : Int)), (4, vI ((M op 7 i) * d)), (5, vI ((M op 6 i) * (M om 0 10))), (6, vI 0), (7, vI 0)]) X 3 [1, 2, 3, 0, 4, 5, 6, 7] dX3_explains_132 rfl (by omega) (by decide) rfl rfl ?_
                  refine r_goto (tgt := 2) X dX3_explains_135 rfl ?_
                  refine w_sub (lc' := [(0, vR G (op, 0)), (1, vI d), (2, vR G (om, 0)), (3, vI ((i + 1 : Nat) : Int))]) [0, 1, 2, 3] rfl ?_
                  exact ih2 (i + 1) (by omega) (by omega) (fun x hx9 he => by rcases Nat.lt_or_ge x i with q | q; exact hx x q he; rw [show x = i by omega] at he ⊢; constructor <;> omega)
              · refine r_iconst (pc' := 105) X dX3_explains_104 rfl ?_
                refine r_goto (tgt := 109) X dX3_explains_105 rfl ?_
                refine r_istore (pc' := 111) (lc' := [(0, vR G (op, 0)), (1, vI d), (2, vR G (om, 0)), (3, vI (i : Int)), (4, vI ((M op 7 i) * d)), (5, vI ((M op 6 i) * (M om 0 10))), (6, vI 0), (7, vI 1)]) X [1, 2, 3, 4, 5, 6, 7, 0] dX3_explains_109 (by decide) rfl rfl ?_
                refine r_aload_n (pc' := 112) X 0 dX3_explains_111 rfl rfl rfl ?_
                refine gf_P_e (pc' := 115) X hop gw_53 dX3_explains_112 rfl ?_
                refine r_iload_n (pc' := 116) X 3 dX3_explains_115 rfl rfl rfl ?_
                refine r_iald (i := i) (pc' := 117) X (kP_7 hop) (by omega) (by omega) (by decide) dX3_explains_116 rfl ?_
                refine r_if_eq (pc' := 120) (tgt := 132) X dX3_explains_117 rfl rfl (by omega) (fun h117 => ?_) (fun h117 => ?_)
                · refine r_iinc (pc' := 135) (z' := ((i + 1 : Nat) : Int)) (lc' := [(0, vR G (op, 0)), (1, vI d), (2, vR G (om, 0)), (3, vI ((i + 1 : Nat) : Int)), (4, vI ((M op 7 i) * d)), (5, vI ((M op 6 i) * (M om 0 10))), (6, vI 0), (7, vI 1)]) X 3 [1, 2, 3, 0, 4, 5, 6, 7] dX3_explains_132 rfl (by omega) (by decide) rfl rfl ?_
                  refine r_goto (tgt := 2) X dX3_explains_135 rfl ?_
                  refine w_sub (lc' := [(0, vR G (op, 0)), (1, vI d), (2, vR G (om, 0)), (3, vI ((i + 1 : Nat) : Int))]) [0, 1, 2, 3] rfl ?_
                  exact ih2 (i + 1) (by omega) (by omega) (fun x hx9 he => by rcases Nat.lt_or_ge x i with q | q; exact hx x q he; rw [show x = i by omega] at he ⊢; constructor <;> omega)
                · refine r_iload (pc' := 122) X 6 dX3_explains_120 rfl rfl ?_
                  refine r_if_ne (pc' := 125) (tgt := 130) X dX3_explains_122 rfl rfl (by omega) (fun h122 => absurd h122 (by decide)) (fun h122 => ?_)
                  refine r_iload (pc' := 127) X 7 dX3_explains_125 rfl rfl ?_
                  refine r_if_eq (pc' := 130) (tgt := 132) X dX3_explains_127 rfl rfl (by omega) (fun h127 => absurd h127 (by decide)) (fun h127 => ?_)
                  refine r_iconst (pc' := 131) X dX3_explains_130 rfl ?_
                  refine w_zret X hr (by decide) dX3_explains_131 ?_
                  try dsimp only
                  refine ⟨Or.inl rfl, ⟨fun h => absurd h (by decide), fun h => ?_⟩, rfl⟩
                  have h9 := h i (by omega) (by omega)
                  omega
          · refine r_iconst (pc' := 66) X dX3_explains_65 rfl ?_
            refine r_goto (tgt := 70) X dX3_explains_66 rfl ?_
            refine r_istore (pc' := 72) (lc' := [(0, vR G (op, 0)), (1, vI d), (2, vR G (om, 0)), (3, vI (i : Int)), (4, vI ((M op 7 i) * d)), (5, vI ((M op 6 i) * (M om 0 10))), (6, vI 1)]) X [1, 2, 3, 4, 5, 6, 0] dX3_explains_70 (by decide) rfl rfl ?_
            refine r_aload_n (pc' := 73) X 2 dX3_explains_72 rfl rfl rfl ?_
            refine gf_M_upper (pc' := 76) X hom gw_98 dX3_explains_73 rfl ?_
            refine r_iload_n (pc' := 77) X 3 dX3_explains_76 rfl rfl rfl ?_
            refine r_iald (i := i) (pc' := 78) X (kM_3 hom) (by omega) (by omega) (by decide) dX3_explains_77 rfl ?_
            refine r_ldc (pc' := 80) (z := 1000000) X gw_546 dX3_explains_78 rfl rfl ?_
            refine r_icmp_ge (pc' := 83) (tgt := 108) X dX3_explains_80 rfl rfl (by omega) (by omega) (fun h80 => ?_) (fun h80 => ?_)
            · refine r_iconst (pc' := 109) X dX3_explains_108 rfl ?_
              refine r_istore (pc' := 111) (lc' := [(0, vR G (op, 0)), (1, vI d), (2, vR G (om, 0)), (3, vI (i : Int)), (4, vI ((M op 7 i) * d)), (5, vI ((M op 6 i) * (M om 0 10))), (6, vI 1), (7, vI 0)]) X [1, 2, 3, 4, 5, 6, 7, 0] dX3_explains_109 (by decide) rfl rfl ?_
              refine r_aload_n (pc' := 112) X 0 dX3_explains_111 rfl rfl rfl ?_
              refine gf_P_e (pc' := 115) X hop gw_53 dX3_explains_112 rfl ?_
              refine r_iload_n (pc' := 116) X 3 dX3_explains_115 rfl rfl rfl ?_
              refine r_iald (i := i) (pc' := 117) X (kP_7 hop) (by omega) (by omega) (by decide) dX3_explains_116 rfl ?_
              refine r_if_eq (pc' := 120) (tgt := 132) X dX3_explains_117 rfl rfl (by omega) (fun h117 => ?_) (fun h117 => ?_)
              · refine r_iinc (pc' := 135) (z' := ((i + 1 : Nat) : Int)) (lc' := [(0, vR G (op, 0)), (1, vI d), (2, vR G (om, 0)), (3, vI ((i + 1 : Nat) : Int)), (4, vI ((M op 7 i) * d)), (5, vI ((M op 6 i) * (M om 0 10))), (6, vI 1), (7, vI 0)]) X 3 [1, 2, 3, 0, 4, 5, 6, 7] dX3_explains_132 rfl (by omega) (by decide) rfl rfl ?_
                refine r_goto (tgt := 2) X dX3_explains_135 rfl ?_
                refine w_sub (lc' := [(0, vR G (op, 0)), (1, vI d), (2, vR G (om, 0)), (3, vI ((i + 1 : Nat) : Int))]) [0, 1, 2, 3] rfl ?_
                exact ih2 (i + 1) (by omega) (by omega) (fun x hx9 he => by rcases Nat.lt_or_ge x i with q | q; exact hx x q he; rw [show x = i by omega] at he ⊢; constructor <;> omega)
              · refine r_iload (pc' := 122) X 6 dX3_explains_120 rfl rfl ?_
                refine r_if_ne (pc' := 125) (tgt := 130) X dX3_explains_122 rfl rfl (by omega) (fun h122 => ?_) (fun h122 => absurd h122 (by decide))
                refine r_iconst (pc' := 131) X dX3_explains_130 rfl ?_
                refine w_zret X hr (by decide) dX3_explains_131 ?_
                try dsimp only
                refine ⟨Or.inl rfl, ⟨fun h => absurd h (by decide), fun h => ?_⟩, rfl⟩
                have h9 := h i (by omega) (by omega)
                omega
            · refine r_iload (pc' := 85) X 4 dX3_explains_83 rfl rfl ?_
              refine r_aload_n (pc' := 86) X 2 dX3_explains_85 rfl rfl rfl ?_
              refine gf_M_upper (pc' := 89) X hom gw_98 dX3_explains_86 rfl ?_
              refine r_iload_n (pc' := 90) X 3 dX3_explains_89 rfl rfl rfl ?_
              refine r_iald (i := i) (pc' := 91) X (kM_3 hom) (by omega) (by omega) (by decide) dX3_explains_90 rfl ?_
              refine r_iload (pc' := 93) X 5 dX3_explains_91 rfl rfl ?_
              refine r_isub (pc' := 94) X dX3_explains_93 rfl ?_
              refine r_aload_n (pc' := 95) X 2 dX3_explains_94 rfl rfl rfl ?_
              refine gf_M_lastLow (pc' := 98) X hom gw_135 dX3_explains_95 rfl ?_
              refine r_iload_n (pc' := 99) X 3 dX3_explains_98 rfl rfl rfl ?_
              refine r_iald (i := i) (pc' := 100) X (kM_12 hom) (by omega) (by omega) (by decide) dX3_explains_99 rfl ?_
              refine r_isub (pc' := 101) X dX3_explains_100 rfl ?_
              refine r_icmp_le (pc' := 104) (tgt := 108) X dX3_explains_101 rfl rfl (by omega) (by omega) (fun h101 => ?_) (fun h101 => ?_)
              · refine r_iconst (pc' := 109) X dX3_explains_108 rfl ?_
                refine r_istore (pc' := 111) (lc' := [(0, vR G (op, 0)), (1, vI d), (2, vR G (om, 0)), (3, vI (i : Int)), (4, vI ((M op 7 i) * d)), (5, vI ((M op 6 i) * (M om 0 10))), (6, vI 1), (7, vI 0)]) X [1, 2, 3, 4, 5, 6, 7, 0] dX3_explains_109 (by decide) rfl rfl ?_
                refine r_aload_n (pc' := 112) X 0 dX3_explains_111 rfl rfl rfl ?_
                refine gf_P_e (pc' := 115) X hop gw_53 dX3_explains_112 rfl ?_
                refine r_iload_n (pc' := 116) X 3 dX3_explains_115 rfl rfl rfl ?_
                refine r_iald (i := i) (pc' := 117) X (kP_7 hop) (by omega) (by omega) (by decide) dX3_explains_116 rfl ?_
                refine r_if_eq (pc' := 120) (tgt := 132) X dX3_explains_117 rfl rfl (by omega) (fun h117 => ?_) (fun h117 => ?_)
                · refine r_iinc (pc' := 135) (z' := ((i + 1 : Nat) : Int)) (lc' := [(0, vR G (op, 0)), (1, vI d), (2, vR G (om, 0)), (3, vI ((i + 1 : Nat) : Int)), (4, vI ((M op 7 i) * d)), (5, vI ((M op 6 i) * (M om 0 10))), (6, vI 1), (7, vI 0)]) X 3 [1, 2, 3, 0, 4, 5, 6, 7] dX3_explains_132 rfl (by omega) (by decide) rfl rfl ?_
                  refine r_goto (tgt := 2) X dX3_explains_135 rfl ?_
                  refine w_sub (lc' := [(0, vR G (op, 0)), (1, vI d), (2, vR G (om, 0)), (3, vI ((i + 1 : Nat) : Int))]) [0, 1, 2, 3] rfl ?_
                  exact ih2 (i + 1) (by omega) (by omega) (fun x hx9 he => by rcases Nat.lt_or_ge x i with q | q; exact hx x q he; rw [show x = i by omega] at he ⊢; constructor <;> omega)
                · refine r_iload (pc' := 122) X 6 dX3_explains_120 rfl rfl ?_
                  refine r_if_ne (pc' := 125) (tgt := 130) X dX3_explains_122 rfl rfl (by omega) (fun h122 => ?_) (fun h122 => absurd h122 (by decide))
                  refine r_iconst (pc' := 131) X dX3_explains_130 rfl ?_
                  refine w_zret X hr (by decide) dX3_explains_131 ?_
                  try dsimp only
                  refine ⟨Or.inl rfl, ⟨fun h => absurd h (by decide), fun h => ?_⟩, rfl⟩
                  have h9 := h i (by omega) (by omega)
                  omega
              · refine r_iconst (pc' := 105) X dX3_explains_104 rfl ?_
                refine r_goto (tgt := 109) X dX3_explains_105 rfl ?_
                refine r_istore (pc' := 111) (lc' := [(0, vR G (op, 0)), (1, vI d), (2, vR G (om, 0)), (3, vI (i : Int)), (4, vI ((M op 7 i) * d)), (5, vI ((M op 6 i) * (M om 0 10))), (6, vI 1), (7, vI 1)]) X [1, 2, 3, 4, 5, 6, 7, 0] dX3_explains_109 (by decide) rfl rfl ?_
                refine r_aload_n (pc' := 112) X 0 dX3_explains_111 rfl rfl rfl ?_
                refine gf_P_e (pc' := 115) X hop gw_53 dX3_explains_112 rfl ?_
                refine r_iload_n (pc' := 116) X 3 dX3_explains_115 rfl rfl rfl ?_
                refine r_iald (i := i) (pc' := 117) X (kP_7 hop) (by omega) (by omega) (by decide) dX3_explains_116 rfl ?_
                refine r_if_eq (pc' := 120) (tgt := 132) X dX3_explains_117 rfl rfl (by omega) (fun h117 => ?_) (fun h117 => ?_)
                · refine r_iinc (pc' := 135) (z' := ((i + 1 : Nat) : Int)) (lc' := [(0, vR G (op, 0)), (1, vI d), (2, vR G (om, 0)), (3, vI ((i + 1 : Nat) : Int)), (4, vI ((M op 7 i) * d)), (5, vI ((M op 6 i) * (M om 0 10))), (6, vI 1), (7, vI 1)]) X 3 [1, 2, 3, 0, 4, 5, 6, 7] dX3_explains_132 rfl (by omega) (by decide) rfl rfl ?_
                  refine r_goto (tgt := 2) X dX3_explains_135 rfl ?_
                  refine w_sub (lc' := [(0, vR G (op, 0)), (1, vI d), (2, vR G (om, 0)), (3, vI ((i + 1 : Nat) : Int))]) [0, 1, 2, 3] rfl ?_
                  exact ih2 (i + 1) (by omega) (by omega) (fun x hx9 he => by rcases Nat.lt_or_ge x i with q | q; exact hx x q he; rw [show x = i by omega] at he ⊢; constructor <;> omega)
                · refine r_iload (pc' := 122) X 6 dX3_explains_120 rfl rfl ?_
                  refine r_if_ne (pc' := 125) (tgt := 130) X dX3_explains_122 rfl rfl (by omega) (fun h122 => ?_) (fun h122 => absurd h122 (by decide))
                  refine r_iconst (pc' := 131) X dX3_explains_130 rfl ?_
                  refine w_zret X hr (by decide) dX3_explains_131 ?_
                  try dsimp only
                  refine ⟨Or.inl rfl, ⟨fun h => absurd h (by decide), fun h => ?_⟩, rfl⟩
                  have h9 := h i (by omega) (by omega)
                  omega
  exact L2 ((N - 0) + 1) 0 (Nat.lt_succ_self _) (by omega) (fun x h => absurd h (Nat.not_lt_zero x))
theorem cf_X2_deviationOf : wCal yX2_deviationOf cX2_deviationOf 6 (some .long) 3 := ⟨gw_746, gw_7, by decide, by decide, by rfl⟩
set_option maxRecDepth 100000 in
set_option maxHeartbeats 4000000 in
theorem c_X2_deviationOf (l : Launch) (G : wG) (M : wM) (op om K N P : Nat) (T : Int) (hop : op = 19 ∨ op = 20) (hom : om < 19) (hK : K < P) (hp : PlOk (M op) N P) (hm : MoOk (M om) N P T) (hT6 : T ≤ 1000000) : Met l yX2_deviationOf (gws yX2_deviationOf cX2_deviationOf 6 (some .long)) (wrm 1 0 0) (wPc G M [vR G (21, 0), vR G (op, 0), vR G (om, 0), vI (K : Int)]) (wQj G (fun z M1 => z = devF N (M op) (M om) K ∧ M1 = M)) 0 0 (wA G) := by
  refine wMet (lc := [(0, vR G (21, 0)), (1, vR G (op, 0)), (2, vR G (om, 0)), (3, vI (K : Int))]) (by decide) (Nat.le_of_ble_eq_true rfl) rfl ?_
  intro p e s m args below meth c X hr
  have X : wX p s m args meth c G 6 "StateObserver$Motion" cX2_deviationOf := X
  obtain ⟨hN, hN1, hN4, hP, hP1, hP3, hA, hB, hE, hC, hQ⟩ := id hp
  obtain ⟨hT, hL, hU, hS, hG, hY, hAg, hHo, hBo, hTi, hLi, hLb, hLl, hLh⟩ := id hm
  have hN0 := hN
  have ha := hAg K hK
  have hq := hQ K hK
  have hy := hY K hK
  refine r_aload_n (pc' := 1) X 2 dX2_deviationOf_0 rfl rfl rfl ?_
  refine gf_M_age (pc' := 4) X hom gw_113 dX2_deviationOf_1 rfl ?_
  refine r_iload_n (pc' := 5) X 3 dX2_deviationOf_4 rfl rfl rfl ?_
  refine r_iald (i := K) (pc' := 6) X (kM_11 hom) (by omega) (by omega) (by decide) dX2_deviationOf_5 rfl ?_
  refine r_iconst (pc' := 7) X dX2_deviationOf_6 rfl ?_
  refine r_icmp_eq (pc' := 10) (tgt := 23) X dX2_deviationOf_7 rfl rfl (by omega) (by omega) (fun h7 => ?_) (fun h7 => ?_)
  · refine r_lconst (pc' := 24) (z := 0) X dX2_deviationOf_23 rfl rfl ?_
    refine w_lret X hr dX2_deviationOf_24 ?_
    try dsimp only
    refine ⟨?_, rfl⟩
    unfold devF
    rw [if_pos (by omega)]
  · refine r_aload_n (pc' := 11) X 2 dX2_deviationOf_10 rfl rfl rfl ?_
    refine gf_M_age (pc' := 14) X hom gw_113 dX2_deviationOf_11 rfl ?_
    refine r_iload_n (pc' := 15) X 3 dX2_deviationOf_14 rfl rfl rfl ?_
    refine r_iald (i := K) (pc' := 16) X (kM_11 hom) (by omega) (by omega) (by decide) dX2_deviationOf_15 rfl ?_
    refine r_aload_n (pc' := 17) X 2 dX2_deviationOf_16 rfl rfl rfl ?_
    refine gf_M_hold (pc' := 20) X hom gw_118 dX2_deviationOf_17 rfl ?_
    refine r_icmp_le (pc' := 23) (tgt := 25) X dX2_deviationOf_20 rfl rfl (by omega) (by omega) (fun h20 => ?_) (fun h20 => ?_)
    · refine r_aload_n (pc' := 26) X 1 dX2_deviationOf_25 rfl rfl rfl ?_
      refine gf_P_quantum (pc' := 29) X hop gw_64 dX2_deviationOf_26 rfl ?_
      refine r_iload_n (pc' := 30) X 3 dX2_deviationOf_29 rfl rfl rfl ?_
      refine r_iald (i := K) (pc' := 31) X (kP_12 hop) (by omega) (by omega) (by decide) dX2_deviationOf_30 rfl ?_
      refine r_i2l (pc' := 32) X dX2_deviationOf_31 (by omega) rfl ?_
      refine r_lstore (pc' := 34) (lc' := [(0, vR G (21, 0)), (1, vR G (op, 0)), (2, vR G (om, 0)), (3, vI (K : Int)), (4, vJ (M op 12 K))]) X [1, 2, 3, 4, 0] dX2_deviationOf_32 (by decide) rfl rfl ?_
      refine r_ldc2 (pc' := 37) (z := 16) X gw_747 dX2_deviationOf_34 rfl rfl ?_
      refine r_lload (pc' := 39) X 4 dX2_deviationOf_37 rfl rfl ?_
      refine r_lmul (pc' := 40) X dX2_deviationOf_39 rfl ?_
      refine r_aload_n (pc' := 41) X 2 dX2_deviationOf_40 rfl rfl rfl ?_
      refine gf_M_reading (pc' := 44) X hom gw_109 dX2_deviationOf_41 rfl ?_
      refine r_iload_n (pc' := 45) X 3 dX2_deviationOf_44 rfl rfl rfl ?_
      refine r_iald (i := K) (pc' := 46) X (kM_10 hom) (by omega) (by omega) (by decide) dX2_deviationOf_45 rfl ?_
      refine r_i2l (pc' := 47) X dX2_deviationOf_46 (by omega) rfl ?_
      refine r_lmul (pc' := 48) X dX2_deviationOf_47 rfl ?_
      refine r_ldc2 (pc' := 51) (z := 8) X gw_748 dX2_deviationOf_48 rfl rfl ?_
      refine r_lload (pc' := 53) X 4 dX2_deviationOf_51 rfl rfl ?_
      refine r_lconst (pc' := 54) (z := 1) X dX2_deviationOf_53 rfl rfl ?_
      refine r_lsub (pc' := 55) X dX2_deviationOf_54 rfl ?_
      refine r_lmul (pc' := 56) X dX2_deviationOf_55 rfl ?_
      refine r_ladd (pc' := 57) X dX2_deviationOf_56 rfl ?_
      refine r_aload_n (pc' := 58) X 1 dX2_deviationOf_57 rfl rfl rfl ?_
      refine r_aload_n (pc' := 59) X 1 dX2_deviationOf_58 rfl rfl rfl ?_
      refine gf_P_c (pc' := 62) X hop gw_61 dX2_deviationOf_59 rfl ?_
      refine r_iload_n (pc' := 63) X 3 dX2_deviationOf_62 rfl rfl rfl ?_
      refine r_aald (i := K) (x := (op, (9 + K))) (pc' := 64) X (kP_8 hop) (by decide) (by omega) (by omega) (by decide) rfl dX2_deviationOf_63 rfl ?_
      refine r_aload_n (pc' := 65) X 2 dX2_deviationOf_64 rfl rfl rfl ?_
      refine gf_M_estimate (pc' := 68) X hom gw_102 dX2_deviationOf_65 rfl ?_
      refine w_callj (pc' := 71) (st := [vJ (((16 * (M op 12 K)) * (M om 10 K)) + (8 * ((M op 12 K) - 1)))]) (w_runV X (c_X3_sum l G M op op (9 + K) om 4 N hop (kP_c hop (by omega)) (kM_4 hom) (by first | assumption | omega) (by first | assumption | omega) (fun i hi => by have := hC K i hK hi; omega) (fun i hi => by have := hS i hi; omega)) cf_X3_sum (kP_0 hop) rfl gw_715 gw_716 rfl rfl ⟨Nat.le_of_ble_eq_true rfl, Nat.le_of_ble_eq_true rfl⟩ rfl rfl (Nat.le_of_ble_eq_true rfl) ⟨Nat.le_of_ble_eq_true rfl, Nat.le_of_ble_eq_true rfl⟩ gw_749 dX2_deviationOf_68) rfl (fun z68 M1 h68 => ?_)
      obtain rfl := h68.1.symm
      obtain rfl := h68.2.symm
      refine r_lsub (pc' := 72) X dX2_deviationOf_71 rfl ?_
      refine w_lret X hr dX2_deviationOf_72 ?_
      try dsimp only
      refine ⟨?_, rfl⟩
      unfold devF
      rw [if_neg (by omega)]
    · refine r_lconst (pc' := 24) (z := 0) X dX2_deviationOf_23 rfl rfl ?_
      refine w_lret X hr dX2_deviationOf_24 ?_
      try dsimp only
      refine ⟨?_, rfl⟩
      unfold devF
      rw [if_pos (by omega)]
theorem cf_X2_advanceTruth : wCal yX2_advanceTruth cX2_advanceTruth 8 none 4 := ⟨gw_765, gw_7, by decide, by decide, by rfl⟩
set_option maxRecDepth 100000 in
set_option maxHeartbeats 4000000 in
theorem c_X2_advanceTruth (l : Launch) (G : wG) (M : wM) (op om N P : Nat) (u d T : Int) (hop : op = 19 ∨ op = 20) (hom : om < 19) (hu : -99 ≤ u ∧ u ≤ 99) (hp : PlOk (M op) N P) (hm : MoOk (M om) N P T) (hT6 : T ≤ 1000000) (hd : -99 ≤ d ∧ d ≤ 99) : Met l yX2_advanceTruth (gws yX2_advanceTruth cX2_advanceTruth 8 none) (wrm 2 0 0) (wPc G M [vR G (21, 0), vR G (op, 0), vR G (om, 0), vI u, vI d]) (wQv G (fun M1 => (∀ i, i < N → M1 om 1 i = truthF N (M op) u d (M om 1) i) ∧ (∀ a b, ¬ (a = om ∧ b = 1) → ¬ (a = 21 ∧ b = 1) → M1 a b = M a b))) 0 0 (wA G) := by
  refine wMet (lc := [(0, vR G (21, 0)), (1, vR G (op, 0)), (2, vR G (om, 0)), (3, vI u), (4, vI d)]) (by decide) (Nat.le_of_ble_eq_true rfl) rfl ?_
  intro p e s m args below meth c X hr
  have X : wX p s m args meth c G 8 "StateObserver$Motion" cX2_advanceTruth := X
  obtain ⟨hN, hN1, hN4, hP, hP1, hP3, hA, hB, hE, hC, hQ⟩ := id hp
  obtain ⟨hT, hL, hU, hS, hG, hY, hAg, hHo, hBo, hTi, hLi, hLb, hLl, hLh⟩ := id hm
  have hN0 := hN
  refine r_iconst (pc' := 1) X dX2_advanceTruth_0 rfl ?_
  refine r_istore (pc' := 3) (lc' := [(0, vR G (21, 0)), (1, vR G (op, 0)), (2, vR G (om, 0)), (3, vI u), (4, vI d), (5, vI 0)]) X [1, 2, 3, 4, 5, 0] dX2_advanceTruth_1 (by decide) rfl rfl ?_
  have L3 : ∀ (fu : Nat) (i : Nat) (M2 : wM), N - i < fu → (i ≤ N) → (∀ a b, ¬ (a = 21 ∧ b = 1) → M2 a b = M a b) → (∀ x, x < i → M2 21 1 x = truthF N (M op) u d (M om 1) x) → wV p l e (wrm 2 0 0) s m args below meth c G 8 M2 0 0 (MQ below (wQv G (fun M1 => (∀ i, i < N → M1 om 1 i = truthF N (M op) u d (M om 1) i) ∧ (∀ a b, ¬ (a = om ∧ b = 1) → ¬ (a = 21 ∧ b = 1) → M1 a b = M a b))) args s 0 0 (wA G)) 3 [(0, vR G (21, 0)), (1, vR G (op, 0)), (2, vR G (om, 0)), (3, vI u), (4, vI d), (5, vI (i : Int))] [] := by
    intro fu
    induction fu with
    | zero => intro i M2 hfu; exact absurd hfu (Nat.not_lt_zero _)
    | succ fu ih3 =>
      intro i M2 hfu3 hi hfr hv
      have e1 : M2 op = M op := funext fun b => hfr op b (by omega)
      have e2 : M2 om = M om := funext fun b => hfr om b (by omega)
      have hp2 : PlOk (M2 op) N P := by rw [e1]; exact hp
      have hm2 : MoOk (M2 om) N P T := by rw [e2]; exact hm
      obtain ⟨hN, hN1, hN4, hP, hP1, hP3, hA, hB, hE, hC, hQ⟩ := id hp2
      obtain ⟨hT, hL, hU, hS, hG, hY, hAg, hHo, hBo, hTi, hLi, hLb, hLl, hLh⟩ := id hm2
      refine r_iload (pc' := 5) X 5 dX2_advanceTruth_3 rfl rfl ?_
      refine r_aload_n (pc' := 6) X 1 dX2_advanceTruth_5 rfl rfl rfl ?_
      refine gf_P_n (pc' := 9) X hop gw_36 dX2_advanceTruth_6 rfl ?_
      refine r_icmp_ge (pc' := 12) (tgt := 78) X dX2_advanceTruth_9 rfl rfl (by omega) (by omega) (fun h9 => ?_) (fun h9 => ?_)
      · refine r_aload_n (pc' := 79) X 0 dX2_advanceTruth_78 rfl rfl rfl ?_
        refine gf_21_nextValue (pc' := 82) X gw_245 dX2_advanceTruth_79 rfl ?_
        refine r_aload_n (pc' := 83) X 2 dX2_advanceTruth_82 rfl rfl rfl ?_
        refine gf_M_truth (pc' := 86) X hom gw_91 dX2_advanceTruth_83 rfl ?_
        refine w_callv (pc' := 89) (st := []) (w_runSN X (c_X8_copyRow l G M2 21 1 om 1 4 k21_1 (kM_1 hom) (by first | assumption | omega)) cf_X8_copyRow gw_521 rfl rfl ⟨Nat.le_of_ble_eq_true rfl, Nat.le_of_ble_eq_true rfl⟩ rfl rfl (Nat.le_of_ble_eq_true rfl) ⟨Nat.le_of_ble_eq_true rfl, Nat.le_of_ble_eq_true rfl⟩ tn_761 dX2_advanceTruth_86) rfl (fun M1 h86 => ?_)
        refine w_vret X hr dX2_advanceTruth_89 ?_
        try dsimp only
        refine ⟨fun x hx => ?_, fun a b h1 h2 => ?_⟩
        · rw [h86, wr_eq]
          exact hv x (by omega)
        · rw [h86, wr_ne h1]
          exact hfr a b h2
      · have hAi := fun j hj => hA i j (by omega) hj
        have hBi := hB i (by omega)
        have hEi := hE i (by omega)
        have hm1 := mul_bd (A := 99) (B := 99) (by decide) hBi hu
        have hm3 := mul_bd (A := 99) (B := 99) (by decide) hEi hd
        have hdb := dot_bd (A := 99) (B := 1000000) (by decide) (by decide) (n := N) (f := M2 op (2 + i)) (g := M2 om 1) hAi hT
        have hfd := fdiv_small (a := dot N (M2 op (2 + i)) (M2 om 1)) (b := 16) (B := 400000000) (by omega) (by omega) (by decide)
        refine r_aload_n (pc' := 13) X 1 dX2_advanceTruth_12 rfl rfl rfl ?_
        refine r_aload_n (pc' := 14) X 1 dX2_advanceTruth_13 rfl rfl rfl ?_
        refine gf_P_a (pc' := 17) X hop gw_45 dX2_advanceTruth_14 rfl ?_
        refine r_iload (pc' := 19) X 5 dX2_advanceTruth_17 rfl rfl ?_
        refine r_aald (i := i) (x := (op, (2 + i))) (pc' := 20) X (kP_1 hop) (by decide) (by omega) (by omega) (by decide) rfl dX2_advanceTruth_19 rfl ?_
        refine r_aload_n (pc' := 21) X 2 dX2_advanceTruth_20 rfl rfl rfl ?_
        refine gf_M_truth (pc' := 24) X hom gw_91 dX2_advanceTruth_21 rfl ?_
        refine w_callj (pc' := 27) (st := []) (w_runV X (c_X3_sum l G M2 op op (2 + i) om 1 N hop (kP_a hop (by omega)) (kM_1 hom) (by first | assumption | omega) (by first | assumption | omega) (fun j hj => by have := hAi j hj; omega) (fun j hj => by have := hT j hj; omega)) cf_X3_sum (kP_0 hop) rfl gw_715 gw_716 rfl rfl ⟨Nat.le_of_ble_eq_true rfl, Nat.le_of_ble_eq_true rfl⟩ rfl rfl (Nat.le_of_ble_eq_true rfl) ⟨Nat.le_of_ble_eq_true rfl, Nat.le_of_ble_eq_true rfl⟩ gw_749 dX2_advanceTruth_24) rfl (fun z24 M2 h24 => ?_)
        obtain rfl := h24.1.symm
        obtain rfl := h24.2.symm
        refine r_ldc2 (pc' := 30) (z := 16) X gw_747 dX2_advanceTruth_27 rfl rfl ?_
        refine w_callj (pc' := 33) (st := []) (w_runSN X (c_X8_floorQuotient l G M2 ((dot N (M2 op (2 + i)) (M2 om 1))) 16 (by first | assumption | omega) (by first | assumption | omega) (by first | assumption | omega)) cf_X8_floorQuotient gw_499 rfl rfl ⟨Nat.le_of_ble_eq_true rfl, Nat.le_of_ble_eq_true rfl⟩ rfl rfl (Nat.le_of_ble_eq_true rfl) ⟨Nat.le_of_ble_eq_true rfl, Nat.le_of_ble_eq_true rfl⟩ tn_750 dX2_advanceTruth_30) rfl (fun z30 M3 h30 => ?_)
        obtain rfl := h30.1.symm
        obtain rfl := h30.2.symm
        refine r_lstore (pc' := 35) (lc' := [(0, vR G (21, 0)), (1, vR G (op, 0)), (2, vR G (om, 0)), (3, vI u), (4, vI d), (5, vI (i : Int)), (6, vJ ((((dot N (M2 op (2 + i)) (M2 om 1))).fdiv 16)))]) X [1, 2, 3, 4, 5, 6, 0] dX2_advanceTruth_33 (by decide) rfl rfl ?_
        refine r_aload_n (pc' := 36) X 0 dX2_advanceTruth_35 rfl rfl rfl ?_
        refine gf_21_nextValue (pc' := 39) X gw_245 dX2_advanceTruth_36 rfl ?_
        refine r_iload (pc' := 41) X 5 dX2_advanceTruth_39 rfl rfl ?_
        refine r_lload (pc' := 43) X 6 dX2_advanceTruth_41 rfl rfl ?_
        refine r_aload_n (pc' := 44) X 1 dX2_advanceTruth_43 rfl rfl rfl ?_
        refine gf_P_b (pc' := 47) X hop gw_50 dX2_advanceTruth_44 rfl ?_
        refine r_iload (pc' := 49) X 5 dX2_advanceTruth_47 rfl rfl ?_
        refine r_iald (i := i) (pc' := 50) X (kP_6 hop) (by omega) (by omega) (by decide) dX2_advanceTruth_49 rfl ?_
        refine r_iload_n (pc' := 51) X 3 dX2_advanceTruth_50 rfl rfl rfl ?_
        refine r_imul (pc' := 52) X dX2_advanceTruth_51 rfl ?_
        refine r_i2l (pc' := 53) X dX2_advanceTruth_52 (by omega) rfl ?_
        refine r_ladd (pc' := 54) X dX2_advanceTruth_53 rfl ?_
        refine r_aload_n (pc' := 55) X 1 dX2_advanceTruth_54 rfl rfl rfl ?_
        refine gf_P_e (pc' := 58) X hop gw_54 dX2_advanceTruth_55 rfl ?_
        refine r_iload (pc' := 60) X 5 dX2_advanceTruth_58 rfl rfl ?_
        refine r_iald (i := i) (pc' := 61) X (kP_7 hop) (by omega) (by omega) (by decide) dX2_advanceTruth_60 rfl ?_
        refine r_iload (pc' := 63) X 4 dX2_advanceTruth_61 rfl rfl ?_
        refine r_imul (pc' := 64) X dX2_advanceTruth_63 rfl ?_
        refine r_i2l (pc' := 65) X dX2_advanceTruth_64 (by omega) rfl ?_
        refine r_ladd (pc' := 66) X dX2_advanceTruth_65 rfl ?_
        refine r_ldc (pc' := 68) (z := 1000000) X gw_766 dX2_advanceTruth_66 rfl rfl ?_
        refine w_calli (pc' := 71) (st := [vI (i : Int), vR G (21, 1)]) (w_runSN X (c_X8_limited l G M2 ((((((dot N (M2 op (2 + i)) (M2 om 1))).fdiv 16)) + ((M2 op 6 i) * u)) + ((M2 op 7 i) * d)) 1000000 (by first | assumption | omega) (by first | assumption | omega)) cf_X8_limited gw_753 rfl rfl ⟨Nat.le_of_ble_eq_true rfl, Nat.le_of_ble_eq_true rfl⟩ rfl rfl (Nat.le_of_ble_eq_true rfl) ⟨Nat.le_of_ble_eq_true rfl, Nat.le_of_ble_eq_true rfl⟩ tn_752 dX2_advanceTruth_68) rfl (fun z68 M4 h68 => ?_)
        obtain rfl := h68.1.symm
        obtain rfl := h68.2.symm
        refine r_iast (i := i) (pc' := 72) X k21_1 (by omega) (by omega) (by decide) dX2_advanceTruth_71 rfl (fun M5 hM5 => ?_)
        refine r_iinc (pc' := 75) (z' := ((i + 1 : Nat) : Int)) (lc' := [(0, vR G (21, 0)), (1, vR G (op, 0)), (2, vR G (om, 0)), (3, vI u), (4, vI d), (5, vI ((i + 1 : Nat) : Int)), (6, vJ ((((dot N (M2 op (2 + i)) (M2 om 1))).fdiv 16)))]) X 5 [1, 2, 3, 4, 5, 0, 6] dX2_advanceTruth_72 rfl (by omega) (by decide) rfl rfl ?_
        refine r_goto (tgt := 3) X dX2_advanceTruth_75 rfl ?_
        refine w_sub (lc' := [(0, vR G (21, 0)), (1, vR G (op, 0)), (2, vR G (om, 0)), (3, vI u), (4, vI d), (5, vI ((i + 1 : Nat) : Int))]) [0, 1, 2, 3, 4, 5] rfl ?_
        exact ih3 (i + 1) M5 (by omega) (by omega) (fun a b h => by rw [hM5, wu_ne h]; exact hfr a b h) (fun x hx => by rw [hM5]; exact up_s hv (by rw [← e1, ← e2]; rfl) hx)
  exact L3 ((N - 0) + 1) 0 M (Nat.lt_succ_self _) (by omega) (fun _ _ _ => rfl) (fun x h => absurd h (Nat.not_lt_zero x))
