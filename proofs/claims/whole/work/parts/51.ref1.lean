theorem cf_X9_refused : wCal yX9_refused cX9_refused 2 (some .boolean) 1 := ⟨gw_1088, gw_10, by decide, by decide, by rfl⟩
set_option maxRecDepth 100000 in
set_option maxHeartbeats 4000000 in
theorem c_X9_refused (l : Launch) (G : wG) (M : wM) (w : Int) (hw : rI w) : Met l yX9_refused (gws yX9_refused cX9_refused 2 (some .boolean)) (wrm 0 0 0) (wPc G M [vR G (29, 0), vI w]) (wQi G (fun z M1 => z = (if 0 < w then 1 else 0) ∧ M1 = wu M 29 0 0 w)) 0 0 (wA G) := by
  refine wMet (lc := [(0, vR G (29, 0)), (1, vI w)]) (by decide) (Nat.le_of_ble_eq_true rfl) rfl ?_
  intro p e s m args below meth c X hr
  have X : wX p s m args meth c G 2 "StateObserverModel" cX9_refused := X
  refine r_aload_n (pc' := 1) X 0 dX9_refused_0 rfl rfl rfl ?_
  refine r_iload_n (pc' := 2) X 1 dX9_refused_1 rfl rfl rfl ?_
  refine pf_29_refusal (pc' := 5) X gw_967 dX9_refused_2 rfl (fun M1 hM1 => ?_)
  refine r_iload_n (pc' := 6) X 1 dX9_refused_5 rfl rfl rfl ?_
  refine r_if_le (pc' := 9) (tgt := 13) X dX9_refused_6 rfl rfl (by omega) (fun h6 => ?_) (fun h6 => ?_)
  · refine r_iconst (pc' := 14) X dX9_refused_13 rfl ?_
    refine w_zret X hr (by decide) dX9_refused_14 ?_
    try dsimp only
    refine ⟨?_, hM1⟩
    first | rw [if_pos (by omega)] | rw [if_neg (by omega)]
  · refine r_iconst (pc' := 10) X dX9_refused_9 rfl ?_
    refine r_goto (tgt := 14) X dX9_refused_10 rfl ?_
    refine w_zret X hr (by decide) dX9_refused_14 ?_
    try dsimp only
    refine ⟨?_, hM1⟩
    first | rw [if_pos (by omega)] | rw [if_neg (by omega)]
theorem cf_X9_in : wCal yX9_in cX9_in 6 (some .boolean) 3 := ⟨gw_1084, gw_10, by decide, by decide, by rfl⟩
set_option maxRecDepth 100000 in
set_option maxHeartbeats 4000000 in
theorem c_X9_in (l : Launch) (G : wG) (M : wM) (v a b : Int) (hv : rJ v) (ha : rJ a) (hb : rJ b) : Met l yX9_in (gws yX9_in cX9_in 6 (some .boolean)) (wrm 0 0 0) (wPc G M [vJ v, vJ a, vJ b]) (wQi G (fun z M1 => z = (if a ≤ v ∧ v ≤ b then 1 else 0) ∧ M1 = M)) 0 0 (wA G) := by
  refine wMet (lc := [(0, vJ v), (2, vJ a), (4, vJ b)]) (by decide) (Nat.le_of_ble_eq_true rfl) rfl ?_
  intro p e s m args below meth c X hr
  have X : wX p s m args meth c G 6 "StateObserverModel" cX9_in := X
  refine r_lload_n (pc' := 1) X 0 dX9_in_0 rfl rfl rfl ?_
  refine r_lload_n (pc' := 2) X 1 dX9_in_1 rfl rfl rfl ?_
  refine r_lcmp (pc' := 3) X dX9_in_2 (by omega) (by omega) rfl (fun z2 z2r z2l z2e z2g => ?_)
  refine r_if_lt (pc' := 6) (tgt := 17) X dX9_in_3 rfl rfl (by omega) (fun h3 => ?_) (fun h3 => ?_)
  · refine r_iconst (pc' := 18) X dX9_in_17 rfl ?_
    refine w_zret X hr (by decide) dX9_in_18 ?_
    try dsimp only
    refine ⟨?_, rfl⟩
    first | rw [if_pos (by omega)] | rw [if_neg (by omega)]
  · refine r_lload_n (pc' := 7) X 0 dX9_in_6 rfl rfl rfl ?_
    refine r_lload (pc' := 9) X 2 dX9_in_7 rfl rfl ?_
    refine r_lcmp (pc' := 10) X dX9_in_9 (by omega) (by omega) rfl (fun z9 z9r z9l z9e z9g => ?_)
    refine r_if_gt (pc' := 13) (tgt := 17) X dX9_in_10 rfl rfl (by omega) (fun h10 => ?_) (fun h10 => ?_)
    · refine r_iconst (pc' := 18) X dX9_in_17 rfl ?_
      refine w_zret X hr (by decide) dX9_in_18 ?_
      try dsimp only
      refine ⟨?_, rfl⟩
      first | rw [if_pos (by omega)] | rw [if_neg (by omega)]
    · refine r_iconst (pc' := 14) X dX9_in_13 rfl ?_
      refine r_goto (tgt := 18) X dX9_in_14 rfl ?_
      refine w_zret X hr (by decide) dX9_in_18 ?_
      try dsimp only
      refine ⟨?_, rfl⟩
      first | rw [if_pos (by omega)] | rw [if_neg (by omega)]
theorem cf_X9_down : wCal yX9_down cX9_down 6 (some .long) 2 := ⟨gw_1173, gw_10, by decide, by decide, by rfl⟩
set_option maxRecDepth 100000 in
set_option maxHeartbeats 4000000 in
theorem c_X9_down (l : Launch) (G : wG) (M : wM) (v b : Int) (hv : -4611686018427387904 ≤ v ∧ v ≤ 4611686018427387904) (hb : 0 < b ∧ b ≤ 4611686018427387904) : Met l yX9_down (gws yX9_down cX9_down 6 (some .long)) (wrm 0 0 0) (wPc G M [vJ v, vJ b]) (wQj G (fun z M1 => z = v.fdiv b ∧ M1 = M)) 0 0 (wA G) := by
  refine wMet (lc := [(0, vJ v), (2, vJ b)]) (by decide) (Nat.le_of_ble_eq_true rfl) rfl ?_
  intro p e s m args below meth c X hr
  have X : wX p s m args meth c G 6 "StateObserverModel" cX9_down := X
  have hq0 := q_tdiv (a := v) (b := b) (by omega)
  have hq1 := down_of (a := v) (b := b) hb.1
  have hq2 := tmod_bd (a := v) (b := b) hb.1
  refine r_lload_n (pc' := 1) X 0 dX9_down_0 rfl rfl rfl ?_
  refine r_lload_n (pc' := 2) X 1 dX9_down_1 rfl rfl rfl ?_
  refine r_ldiv (pc' := 3) X dX9_down_2 (by omega) (by omega) (by omega) rfl ?_
  refine r_lstore (pc' := 5) (lc' := [(0, vJ v), (2, vJ b), (4, vJ (v.tdiv b))]) X [1, 2, 0] dX9_down_3 (by decide) rfl rfl ?_
  refine r_lload_n (pc' := 6) X 0 dX9_down_5 rfl rfl rfl ?_
  refine r_lload_n (pc' := 7) X 1 dX9_down_6 rfl rfl rfl ?_
  refine r_lrem (pc' := 8) X dX9_down_7 (by omega) (by omega) (by omega) rfl ?_
  refine r_lconst (pc' := 9) (z := 0) X dX9_down_8 rfl rfl ?_
  refine r_lcmp (pc' := 10) X dX9_down_9 (by omega) (by omega) rfl (fun z9 z9r z9l z9e z9g => ?_)
  refine r_if_ge (pc' := 13) (tgt := 20) X dX9_down_10 rfl rfl (by omega) (fun h10 => ?_) (fun h10 => ?_)
  · refine r_lload (pc' := 22) X 2 dX9_down_20 rfl rfl ?_
    refine w_lret X hr dX9_down_22 ?_
    try dsimp only
    refine ⟨?_, rfl⟩
    rw [hq1]
    first | rw [if_pos (by omega)] | rw [if_neg (by omega)]
  · refine r_lload (pc' := 15) X 2 dX9_down_13 rfl rfl ?_
    refine r_lconst (pc' := 16) (z := 1) X dX9_down_15 rfl rfl ?_
    refine r_lsub (pc' := 17) X dX9_down_16 rfl ?_
    refine r_goto (tgt := 22) X dX9_down_17 rfl ?_
    refine w_lret X hr dX9_down_22 ?_
    try dsimp only
    refine ⟨?_, rfl⟩
    rw [hq1]
    first | rw [if_pos (by omega)] | rw [if_neg (by omega)]
theorem cf_X9_up : wCal yX9_up cX9_up 4 (some .long) 2 := ⟨gw_1248, gw_10, by decide, by decide, by rfl⟩
set_option maxRecDepth 100000 in
set_option maxHeartbeats 4000000 in
theorem c_X9_up (l : Launch) (G : wG) (M : wM) (v b : Int) (hv : -4611686018427387904 ≤ v ∧ v ≤ 4611686018427387904) (hb : 0 < b ∧ b ≤ 4611686018427387904) : Met l yX9_up (gws yX9_up cX9_up 4 (some .long)) (wrm 1 0 0) (wPc G M [vJ v, vJ b]) (wQj G (fun z M1 => z = -((-v).fdiv b) ∧ M1 = M)) 0 0 (wA G) := by
  refine wMet (lc := [(0, vJ v), (2, vJ b)]) (by decide) (Nat.le_of_ble_eq_true rfl) rfl ?_
  intro p e s m args below meth c X hr
  have X : wX p s m args meth c G 4 "StateObserverModel" cX9_up := X
  refine r_lload_n (pc' := 1) X 0 dX9_up_0 rfl rfl rfl ?_
  refine r_lneg (pc' := 2) X dX9_up_1 rfl ?_
  refine r_lload_n (pc' := 3) X 1 dX9_up_2 rfl rfl rfl ?_
  refine w_callj (pc' := 6) (st := []) (w_runS X (c_X9_down l G M (-v) b (by first | assumption | omega) (by first | assumption | omega)) cf_X9_down gw_1172 rfl rfl ⟨Nat.le_of_ble_eq_true rfl, Nat.le_of_ble_eq_true rfl⟩ rfl rfl (Nat.le_of_ble_eq_true rfl) ⟨Nat.le_of_ble_eq_true rfl, Nat.le_of_ble_eq_true rfl⟩ gw_1171 dX9_up_3) rfl (fun z3 M1 h3 => ?_)
  obtain rfl := h3.1.symm
  obtain rfl := h3.2.symm
  refine r_lneg (pc' := 7) X dX9_up_6 rfl ?_
  refine w_lret X hr dX9_up_7 ?_
  try dsimp only
  exact ⟨rfl, rfl⟩
theorem cf_X9_limited : wCal yX9_limited cX9_limited 3 (some .int) 2 := ⟨gw_1221, gw_10, by decide, by decide, by rfl⟩
set_option maxRecDepth 100000 in
set_option maxHeartbeats 4000000 in
theorem c_X9_limited (l : Launch) (G : wG) (M : wM) (a b : Int) (ha : rJ a) (hb : 0 ≤ b ∧ b ≤ 2147483647) : Met l yX9_limited (gws yX9_limited cX9_limited 3 (some .int)) (wrm 0 0 0) (wPc G M [vJ a, vI b]) (wQi G (fun z M1 => z = lim a b ∧ M1 = M)) 0 0 (wA G) := by
  refine wMet (lc := [(0, vJ a), (2, vI b)]) (by decide) (Nat.le_of_ble_eq_true rfl) rfl ?_
  intro p e s m args below meth c X hr
  have X : wX p s m args meth c G 3 "StateObserverModel" cX9_limited := X
  refine r_lload_n (pc' := 1) X 0 dX9_limited_0 rfl rfl rfl ?_
  refine r_iload_n (pc' := 2) X 1 dX9_limited_1 rfl rfl rfl ?_
  refine r_i2l (pc' := 3) X dX9_limited_2 (by omega) rfl ?_
  refine r_lcmp (pc' := 4) X dX9_limited_3 (by omega) (by omega) rfl (fun z3 z3r z3l z3e z3g => ?_)
  refine r_if_le (pc' := 7) (tgt := 11) X dX9_limited_4 rfl rfl (by omega) (fun h4 => ?_) (fun h4 => ?_)
  · refine r_lload_n (pc' := 12) X 0 dX9_limited_11 rfl rfl rfl ?_
    refine r_iload_n (pc' := 13) X 1 dX9_limited_12 rfl rfl rfl ?_
    refine r_ineg (pc' := 14) X dX9_limited_13 rfl ?_
    refine r_i2l (pc' := 15) X dX9_limited_14 (by omega) rfl ?_
    refine r_lcmp (pc' := 16) X dX9_limited_15 (by omega) (by omega) rfl (fun z15 z15r z15l z15e z15g => ?_)
    refine r_if_ge (pc' := 19) (tgt := 24) X dX9_limited_16 rfl rfl (by omega) (fun h16 => ?_) (fun h16 => ?_)
    · refine r_lload_n (pc' := 25) X 0 dX9_limited_24 rfl rfl rfl ?_
      refine r_l2i (pc' := 26) X dX9_limited_25 rfl ?_
      refine w_iret X hr dX9_limited_26 ?_
      try dsimp only
      exact ⟨by unfold lim; split <;> (try split) <;> omega, rfl⟩
    · refine r_iload_n (pc' := 20) X 1 dX9_limited_19 rfl rfl rfl ?_
      refine r_ineg (pc' := 21) X dX9_limited_20 rfl ?_
      refine r_goto (tgt := 26) X dX9_limited_21 rfl ?_
      refine w_iret X hr dX9_limited_26 ?_
      try dsimp only
      exact ⟨by unfold lim; split <;> (try split) <;> omega, rfl⟩
  · refine r_iload_n (pc' := 8) X 1 dX9_limited_7 rfl rfl rfl ?_
    refine r_goto (tgt := 26) X dX9_limited_8 rfl ?_
    refine w_iret X hr dX9_limited_26 ?_
    try dsimp only
    exact ⟨by unfold lim; split <;> (try split) <;> omega, rfl⟩
theorem cf_X9_size : wCal yX9_size cX9_size 1 (some .int) 1 := ⟨gw_1228, gw_10, by decide, by decide, by rfl⟩
set_option maxRecDepth 100000 in
set_option maxHeartbeats 4000000 in
theorem c_X9_size (l : Launch) (G : wG) (M : wM) (a : Int) (ha : rI a) : Met l yX9_size (gws yX9_size cX9_size 1 (some .int)) (wrm 0 0 0) (wPc G M [vI a]) (wQi G (fun z M1 => z = (a.natAbs : Int) ∧ M1 = M)) 0 0 (wA G) := by
  refine wMet (lc := [(0, vI a)]) (by decide) (Nat.le_of_ble_eq_true rfl) rfl ?_
  intro p e s m args below meth c X hr
  have X : wX p s m args meth c G 1 "StateObserverModel" cX9_size := X
  refine r_iload_n (pc' := 1) X 0 dX9_size_0 rfl rfl rfl ?_
  refine r_if_ge (pc' := 4) (tgt := 9) X dX9_size_1 rfl rfl (by omega) (fun h1 => ?_) (fun h1 => ?_)
  · refine r_iload_n (pc' := 10) X 0 dX9_size_9 rfl rfl rfl ?_
    refine w_iret X hr dX9_size_10 ?_
    try dsimp only
    exact ⟨by omega, rfl⟩
  · refine r_iload_n (pc' := 5) X 0 dX9_size_4 rfl rfl rfl ?_
    refine r_ineg (pc' := 6) X dX9_size_5 rfl ?_
    refine r_goto (tgt := 10) X dX9_size_6 rfl ?_
    refine w_iret X hr dX9_size_10 ?_
    try dsimp only
    exact ⟨by omega, rfl⟩
theorem cf_X9_copy : wCal yX9_copy cX9_copy 6 none 5 := ⟨gw_1139, gw_10, by decide, by decide, by rfl⟩
set_option maxRecDepth 100000 in
set_option maxHeartbeats 4000000 in
theorem c_X9_copy (l : Launch) (G : wG) (M : wM) (fo fj fa to tj ta n nf nt : Nat) (hf : wkd fo fj = some (.inr (0, nf, wNr))) (ht : wkd to tj = some (.inr (0, nt, wNr))) (hfn : fa + n ≤ nf) (htn : ta + n ≤ nt) (hnf : nf ≤ 100000) (hnt : nt ≤ 100000) (hov : ¬ (fo = to ∧ fj = tj) ∨ ta ≤ fa) : Met l yX9_copy (gws yX9_copy cX9_copy 6 none) (wrm 0 0 0) (wPc G M [vR G (fo, fj), vI (fa : Int), vR G (to, tj), vI (ta : Int), vI (n : Int)]) (wQv G (fun M1 => (∀ a b, ¬ (a = to ∧ b = tj) → M1 a b = M a b) ∧ (∀ i, i < n → M1 to tj (ta + i) = M fo fj (fa + i)) ∧ ∀ x, ¬ (ta ≤ x ∧ x < ta + n) → M1 to tj x = M to tj x)) 0 0 (wA G) := by
  refine wMet (lc := [(0, vR G (fo, fj)), (1, vI (fa : Int)), (2, vR G (to, tj)), (3, vI (ta : Int)), (4, vI (n : Int))]) (by decide) (Nat.le_of_ble_eq_true rfl) rfl ?_
  intro p e s m args below meth c X hr
  have X : wX p s m args meth c G 6 "StateObserverModel" cX9_copy := X
  refine r_iconst (pc' := 1) X dX9_copy_0 rfl ?_
  refine r_istore (pc' := 3) (lc' := [(0, vR G (fo, fj)), (1, vI (fa : Int)), (2, vR G (to, tj)), (3, vI (ta : Int)), (4, vI (n : Int)), (5, vI 0)]) X [1, 2, 3, 4, 5, 0] dX9_copy_1 (by decide) rfl rfl ?_
  have L3 : ∀ (fu : Nat) (k : Nat) (Ma : wM), n - k < fu → (k ≤ n) → (∀ a b, ¬ (a = to ∧ b = tj) → Ma a b = M a b) → (∀ i, i < k → Ma to tj (ta + i) = M fo fj (fa + i)) → (∀ x, ¬ (ta ≤ x ∧ x < ta + k) → Ma to tj x = M to tj x) → wV p l e (wrm 0 0 0) s m args below meth c G 6 Ma 0 0 (MQ below (wQv G (fun M1 => (∀ a b, ¬ (a = to ∧ b = tj) → M1 a b = M a b) ∧ (∀ i, i < n → M1 to tj (ta + i) = M fo fj (fa + i)) ∧ ∀ x, ¬ (ta ≤ x ∧ x < ta + n) → M1 to tj x = M to tj x)) args s 0 0 (wA G)) 3 [(0, vR G (fo, fj)), (1, vI (fa : Int)), (2, vR G (to, tj)), (3, vI (ta : Int)), (4, vI (n : Int)), (5, vI (k : Int))] [] := by
    intro fu
    induction fu with
    | zero => intro k Ma hfu; exact absurd hfu (Nat.not_lt_zero _)
    | succ fu ih3 =>
      intro k Ma hfu3 hk hfr hlo hhi
      refine r_iload (pc' := 5) X 5 dX9_copy_3 rfl rfl ?_
      refine r_iload (pc' := 7) X 4 dX9_copy_5 rfl rfl ?_
      refine r_icmp_ge (pc' := 10) (tgt := 28) X dX9_copy_7 rfl rfl (by omega) (by omega) (fun h7 => ?_) (fun h7 => ?_)
      · refine w_vret X hr dX9_copy_28 ?_
        try dsimp only
        have ek : k = n := by omega
        subst ek
        exact ⟨hfr, hlo, hhi⟩
      · have hsrc : Ma fo fj (fa + k) = M fo fj (fa + k) := by
          by_cases q : fo = to ∧ fj = tj
          · rw [q.1, q.2]
            exact hhi (fa + k) (by omega)
          · rw [hfr fo fj q]
        refine r_aload_n (pc' := 11) X 2 dX9_copy_10 rfl rfl rfl ?_
        refine r_iload_n (pc' := 12) X 3 dX9_copy_11 rfl rfl rfl ?_
        refine r_iload (pc' := 14) X 5 dX9_copy_12 rfl rfl ?_
        refine r_iadd (pc' := 15) X dX9_copy_14 rfl ?_
        refine r_aload_n (pc' := 16) X 0 dX9_copy_15 rfl rfl rfl ?_
        refine r_iload_n (pc' := 17) X 1 dX9_copy_16 rfl rfl rfl ?_
        refine r_iload (pc' := 19) X 5 dX9_copy_17 rfl rfl ?_
        refine r_iadd (pc' := 20) X dX9_copy_19 rfl ?_
        refine r_iald (i := (fa + k)) (pc' := 21) X hf (by omega) (by omega) (by omega) dX9_copy_20 rfl ?_
        refine r_iast (i := (ta + k)) (pc' := 22) X ht (by omega) (by omega) (by omega) dX9_copy_21 rfl (fun M1 hM1 => ?_)
        refine r_iinc (pc' := 25) (z' := ((k + 1 : Nat) : Int)) (lc' := [(0, vR G (fo, fj)), (1, vI (fa : Int)), (2, vR G (to, tj)), (3, vI (ta : Int)), (4, vI (n : Int)), (5, vI ((k + 1 : Nat) : Int))]) X 5 [1, 2, 3, 4, 5, 0] dX9_copy_22 rfl (by omega) (by decide) rfl rfl ?_
        refine r_goto (tgt := 3) X dX9_copy_25 rfl ?_
        exact ih3 (k + 1) M1 (by omega) (by omega) (fun a b h => by rw [hM1, wu_ne h]; exact hfr a b h) (fun i hi => by rw [hM1]; unfold wu; by_cases q : i = k; rw [if_pos ⟨rfl, rfl, by omega⟩, q]; exact hsrc; rw [if_neg (by omega)]; exact hlo i (by omega)) (fun x hx => by rw [hM1]; unfold wu; rw [if_neg (by omega)]; exact hhi x (by omega))
  exact L3 ((n - 0) + 1) 0 M (Nat.lt_succ_self _) (by omega) (fun _ _ _ => rfl) (fun i h => absurd h (Nat.not_lt_zero i)) (fun _ _ => rfl)
theorem cf_X9_layFirst : wCal yX9_layFirst cX9_layFirst 2 none 1 := ⟨gw_966, gw_10, by decide, by decide, by rfl⟩
set_option maxRecDepth 100000 in
set_option maxHeartbeats 4000000 in
theorem c_X9_layFirst (l : Launch) (G : wG) (M : wM) (o j : Nat) (hk : wkd o j = some (.inr (0, 48, wNr))) : Met l yX9_layFirst (gws yX9_layFirst cX9_layFirst 2 none) (wrm 0 0 0) (wPc G M [vR G (o, j)]) (wQv G (fun M1 => (∀ a b, ¬ (a = o ∧ b = j) → M1 a b = M a b) ∧ ∀ x, x < 48 → M1 o j x = layF x)) 0 0 (wA G) := by
  refine wMet (lc := [(0, vR G (o, j))]) (by decide) (Nat.le_of_ble_eq_true rfl) rfl ?_
  intro p e s m args below meth c X hr
  have X : wX p s m args meth c G 2 "StateObserverModel" cX9_layFirst := X
  refine r_iconst (pc' := 1) X dX9_layFirst_0 rfl ?_
  refine r_istore_n (pc' := 2) (lc' := [(0, vR G (o, j)), (1, vI 0)]) X [1, 0] dX9_layFirst_1 rfl (by decide) rfl rfl ?_
  have L2 : ∀ (fu : Nat) (k : Nat) (Ma : wM), 48 - k < fu → (k ≤ 48) → (∀ a b, ¬ (a = o ∧ b = j) → Ma a b = M a b) → (∀ x, x < k → Ma o j x = 0) → wV p l e (wrm 0 0 0) s m args below meth c G 2 Ma 0 0 (MQ below (wQv G (fun M1 => (∀ a b, ¬ (a = o ∧ b = j) → M1 a b = M a b) ∧ ∀ x, x < 48 → M1 o j x = layF x)) args s 0 0 (wA G)) 2 [(0, vR G (o, j)), (1, vI (k : Int))] [] := by
    intro fu
    induction fu with
    | zero => intro k Ma hfu; exact absurd hfu (Nat.not_lt_zero _)
    | succ fu ih2 =>
      intro k Ma hfu2 hk1 hfr hlo
      refine r_iload_n (pc' := 3) X 1 dX9_layFirst_2 rfl rfl rfl ?_
      refine r_bipush (pc' := 5) X dX9_layFirst_3 rfl rfl ?_
      refine r_icmp_ge (pc' := 8) (tgt := 18) X dX9_layFirst_5 rfl rfl (by omega) (by omega) (fun h5 => ?_) (fun h5 => ?_)
      · refine r_iconst (pc' := 19) X dX9_layFirst_18 rfl ?_
        refine r_istore_n (pc' := 20) (lc' := [(0, vR G (o, j)), (1, vI 0)]) X [1, 0] dX9_layFirst_19 rfl (by decide) rfl rfl ?_
        have L20 : ∀ (fu : Nat) (k : Nat) (Mb : wM), 4 - k < fu → (k ≤ 4) → (∀ a b, ¬ (a = o ∧ b = j) → Mb a b = M a b) → (∀ x, x < 48 → Mb o j x = if 4 ≤ x ∧ x < 4 + k then -1000 else if 8 ≤ x ∧ x < 8 + k then 1000 else 0) → wV p l e (wrm 0 0 0) s m args below meth c G 2 Mb 0 0 (MQ below (wQv G (fun M1 => (∀ a b, ¬ (a = o ∧ b = j) → M1 a b = M a b) ∧ ∀ x, x < 48 → M1 o j x = layF x)) args s 0 0 (wA G)) 20 [(0, vR G (o, j)), (1, vI (k : Int))] [] := by
          intro fu
          induction fu with
          | zero => intro k Mb hfu; exact absurd hfu (Nat.not_lt_zero _)
          | succ fu ih20 =>
            intro k Mb hfu20 hk2 hfr2 hlo2
            refine r_iload_n (pc' := 21) X 1 dX9_layFirst_20 rfl rfl rfl ?_
            refine r_iconst (pc' := 22) X dX9_layFirst_21 rfl ?_
            refine r_icmp_ge (pc' := 25) (tgt := 48) X dX9_layFirst_22 rfl rfl (by omega) (by omega) (fun h22 => ?_) (fun h22 => ?_)
            · refine r_iconst (pc' := 49) X dX9_layFirst_48 rfl ?_
              refine r_istore_n (pc' := 50) (lc' := [(0, vR G (o, j)), (1, vI 0)]) X [1, 0] dX9_layFirst_49 rfl (by decide) rfl rfl ?_
              have L50 : ∀ (fu : Nat) (k : Nat) (Mc : wM), 3 - k < fu → (k ≤ 3) → (∀ a b, ¬ (a = o ∧ b = j) → Mc a b = M a b) → (∀ x, x < 48 → Mc o j x = if 4 ≤ x ∧ x < 8 then -1000 else if 8 ≤ x ∧ x < 12 then 1000 else if 34 ≤ x ∧ x < 34 + k then -1 else 0) → wV p l e (wrm 0 0 0) s m args below meth c G 2 Mc 0 0 (MQ below (wQv G (fun M1 => (∀ a b, ¬ (a = o ∧ b = j) → M1 a b = M a b) ∧ ∀ x, x < 48 → M1 o j x = layF x)) args s 0 0 (wA G)) 50 [(0, vR G (o, j)), (1, vI (k : Int))] [] := by
                intro fu
                induction fu with
                | zero => intro k Mc hfu; exact absurd hfu (Nat.not_lt_zero _)
                | succ fu ih50 =>
                  intro k Mc hfu50 hk3 hfr3 hlo3
                  refine r_iload_n (pc' := 51) X 1 dX9_layFirst_50 rfl rfl rfl ?_
                  refine r_iconst (pc' := 52) X dX9_layFirst_51 rfl ?_
                  refine r_icmp_ge (pc' := 55) (tgt := 68) X dX9_layFirst_52 rfl rfl (by omega) (by omega) (fun h52 => ?_) (fun h52 => ?_)
                  · refine w_vret X hr dX9_layFirst_68 ?_
                    try dsimp only
                    refine ⟨hfr3, fun x hx => ?_⟩
                    rw [hlo3 x hx, show k = 3 by omega]
                    rfl
                  · refine r_aload_n (pc' := 56) X 0 dX9_layFirst_55 rfl rfl rfl ?_
                    refine r_bipush (pc' := 58) X dX9_layFirst_56 rfl rfl ?_
                    refine r_iload_n (pc' := 59) X 1 dX9_layFirst_58 rfl rfl rfl ?_
                    refine r_iadd (pc' := 60) X dX9_layFirst_59 rfl ?_
                    refine r_iconst (pc' := 61) X dX9_layFirst_60 rfl ?_
                    refine r_iast (i := (34 + k)) (pc' := 62) X hk (by omega) (by omega) (by decide) dX9_layFirst_61 rfl (fun M1 hM1 => ?_)
                    refine r_iinc (pc' := 65) (z' := ((k + 1 : Nat) : Int)) (lc' := [(0, vR G (o, j)), (1, vI ((k + 1 : Nat) : Int))]) X 1 [1, 0] dX9_layFirst_62 rfl (by omega) (by decide) rfl rfl ?_
                    refine r_goto (tgt := 50) X dX9_layFirst_65 rfl ?_
                    exact ih50 (k + 1) M1 (by omega) (by omega) (fun a b h => by rw [hM1, wu_ne h]; exact hfr3 a b h) (fun x hx => by rw [hM1]; unfold wu; by_cases q : x = 34 + k; rw [if_pos ⟨rfl, rfl, q⟩, if_neg (by omega), if_neg (by omega), if_pos (by omega)]; rw [if_neg (by omega), hlo3 x hx]; split <;> (try split) <;> (try split) <;> (try split) <;> omega)
              exact L50 ((3 - 0) + 1) 0 Mb (Nat.lt_succ_self _) (by omega) hfr2 (fun x hx => by rw [hlo2 x hx]; split <;> (try split) <;> (try split) <;> (try split) <;> (try split) <;> omega)
            · refine r_aload_n (pc' := 26) X 0 dX9_layFirst_25 rfl rfl rfl ?_
              refine r_iconst (pc' := 27) X dX9_layFirst_26 rfl ?_
              refine r_iload_n (pc' := 28) X 1 dX9_layFirst_27 rfl rfl rfl ?_
              refine r_iadd (pc' := 29) X dX9_layFirst_28 rfl ?_
              refine r_sipush (pc' := 32) X dX9_layFirst_29 rfl rfl ?_
              refine r_iast (i := (4 + k)) (pc' := 33) X hk (by omega) (by omega) (by decide) dX9_layFirst_32 rfl (fun M2 hM2 => ?_)
              refine r_aload_n (pc' := 34) X 0 dX9_layFirst_33 rfl rfl rfl ?_
              refine r_bipush (pc' := 36) X dX9_layFirst_34 rfl rfl ?_
              refine r_iload_n (pc' := 37) X 1 dX9_layFirst_36 rfl rfl rfl ?_
              refine r_iadd (pc' := 38) X dX9_layFirst_37 rfl ?_
              refine r_sipush (pc' := 41) X dX9_layFirst_38 rfl rfl ?_
              refine r_iast (i := (8 + k)) (pc' := 42) X hk (by omega) (by omega) (by decide) dX9_layFirst_41 rfl (fun M3 hM3 => ?_)
              refine r_iinc (pc' := 45) (z' := ((k + 1 : Nat) : Int)) (lc' := [(0, vR G (o, j)), (1, vI ((k + 1 : Nat) : Int))]) X 1 [1, 0] dX9_layFirst_42 rfl (by omega) (by decide) rfl rfl ?_
              refine r_goto (tgt := 20) X dX9_layFirst_45 rfl ?_
              exact ih20 (k + 1) M3 (by omega) (by omega) (fun a b h => by rw [hM3, wu_ne h, hM2, wu_ne h]; exact hfr2 a b h) (fun x hx => by rw [hM3]; unfold wu; by_cases q : x = 8 + k; rw [if_pos ⟨rfl, rfl, q⟩, if_neg (by omega), if_pos (by omega)]; rw [if_neg (by omega), hM2]; unfold wu; by_cases q2 : x = 4 + k; rw [if_pos ⟨rfl, rfl, q2⟩, if_pos (by omega)]; rw [if_neg (by omega), hlo2 x hx]; split <;> split <;> (try split) <;> (try split) <;> omega)
        exact L20 ((4 - 0) + 1) 0 Ma (Nat.lt_succ_self _) (by omega) hfr (fun x hx => by rw [if_neg (by omega), if_neg (by omega)]; exact hlo x (by omega))
      · refine r_aload_n (pc' := 9) X 0 dX9_layFirst_8 rfl rfl rfl ?_
        refine r_iload_n (pc' := 10) X 1 dX9_layFirst_9 rfl rfl rfl ?_
        refine r_iconst (pc' := 11) X dX9_layFirst_10 rfl ?_
        refine r_iast (i := k) (pc' := 12) X hk (by omega) (by omega) (by decide) dX9_layFirst_11 rfl (fun M4 hM4 => ?_)
        refine r_iinc (pc' := 15) (z' := ((k + 1 : Nat) : Int)) (lc' := [(0, vR G (o, j)), (1, vI ((k + 1 : Nat) : Int))]) X 1 [1, 0] dX9_layFirst_12 rfl (by omega) (by decide) rfl rfl ?_
        refine r_goto (tgt := 2) X dX9_layFirst_15 rfl ?_
        exact ih2 (k + 1) M4 (by omega) (by omega) (fun a b h => by rw [hM4, wu_ne h]; exact hfr a b h) (fun x hx => by rw [hM4]; exact up_s (F := fun _ => 0) hlo rfl hx)
  exact L2 ((48 - 0) + 1) 0 M (Nat.lt_succ_self _) (by omega) (fun _ _ _ => rfl) (fun x h => absurd h (Nat.not_lt_zero x))
