theorem cf_J9_floorDiv_f86c9 : wCal yJ9_floorDiv_f86c9 cJ9_floorDiv_f86c9 6 (some .long) 2 := ⟨gw_503, gw_16, by decide, by decide, by rfl⟩
set_option maxRecDepth 100000 in
set_option maxHeartbeats 4000000 in
theorem c_J9_floorDiv_f86c9 (l : Launch) (G : wG) (M : wM) (a b : Int) (ha : -4611686018427387904 ≤ a ∧ a ≤ 4611686018427387904) (hb : rJ b) (hb0 : b ≠ 0) : Met l yJ9_floorDiv_f86c9 (gws yJ9_floorDiv_f86c9 cJ9_floorDiv_f86c9 6 (some .long)) (wrm 0 0 0) (wPc G M [vJ a, vJ b]) (wQj G (fun z M1 => z = a.fdiv b ∧ M1 = M)) 0 0 (wA G) := by
  refine wMetF (lc := [(0, vJ a), (2, vJ b)]) (by decide +kernel) (Nat.le_of_ble_eq_true rfl) rfl ?_
  intro p e s m args below meth c X hr
  have X : wX p s m args meth c G 6 "java/lang/Math" cJ9_floorDiv_f86c9 := X
  have hq0 := q_tdiv (a := a) (b := b) hb0
  have hq1 := fdiv_of (q := a.tdiv b) hb0 rfl
  refine r_lload_n (pc' := 1) X 0 dJ9_floorDiv_f86c9_0 rfl rfl rfl ?_
  refine r_lload_n (pc' := 2) X 1 dJ9_floorDiv_f86c9_1 rfl rfl rfl ?_
  refine r_ldiv (pc' := 3) X dJ9_floorDiv_f86c9_2 (by omega) (by omega) (by omega) rfl ?_
  refine r_lstore (pc' := 5) (lc' := [(0, vJ a), (2, vJ b), (4, vJ (a.tdiv b))]) X [1, 2, 0] dJ9_floorDiv_f86c9_3 (by decide) rfl rfl ?_
  refine r_lload_n (pc' := 6) X 0 dJ9_floorDiv_f86c9_5 rfl rfl rfl ?_
  refine r_lload_n (pc' := 7) X 1 dJ9_floorDiv_f86c9_6 rfl rfl rfl ?_
  refine r_lxor (pc' := 8) X dJ9_floorDiv_f86c9_7 (by omega) (by omega) rfl (fun z7 z7r z7x => ?_)
  refine r_lconst (pc' := 9) (z := 0) X dJ9_floorDiv_f86c9_8 rfl rfl ?_
  refine r_lcmp (pc' := 10) X dJ9_floorDiv_f86c9_9 (by omega) (by omega) rfl (fun z9 z9r z9l z9e z9g => ?_)
  refine r_if_ge (pc' := 13) (tgt := 27) X dJ9_floorDiv_f86c9_10 rfl rfl (by omega) (fun h10 => ?_) (fun h10 => ?_)
  · refine r_lload (pc' := 29) X 2 dJ9_floorDiv_f86c9_27 rfl rfl ?_
    refine w_lret X hr dJ9_floorDiv_f86c9_29 ?_
    try dsimp only
    refine ⟨?_, rfl⟩
    rw [hq1, if_neg (by omega)]
  · refine r_lload (pc' := 15) X 2 dJ9_floorDiv_f86c9_13 rfl rfl ?_
    refine r_lload_n (pc' := 16) X 1 dJ9_floorDiv_f86c9_15 rfl rfl rfl ?_
    refine r_lmul (pc' := 17) X dJ9_floorDiv_f86c9_16 rfl ?_
    refine r_lload_n (pc' := 18) X 0 dJ9_floorDiv_f86c9_17 rfl rfl rfl ?_
    refine r_lcmp (pc' := 19) X dJ9_floorDiv_f86c9_18 (by omega) (by omega) rfl (fun z18 z18r z18l z18e z18g => ?_)
    refine r_if_eq (pc' := 22) (tgt := 27) X dJ9_floorDiv_f86c9_19 rfl rfl (by omega) (fun h19 => ?_) (fun h19 => ?_)
    · refine r_lload (pc' := 29) X 2 dJ9_floorDiv_f86c9_27 rfl rfl ?_
      refine w_lret X hr dJ9_floorDiv_f86c9_29 ?_
      try dsimp only
      refine ⟨?_, rfl⟩
      rw [hq1, if_neg (by omega)]
    · refine r_lload (pc' := 24) X 2 dJ9_floorDiv_f86c9_22 rfl rfl ?_
      refine r_lconst (pc' := 25) (z := 1) X dJ9_floorDiv_f86c9_24 rfl rfl ?_
      refine r_lsub (pc' := 26) X dJ9_floorDiv_f86c9_25 rfl ?_
      refine w_lret X hr dJ9_floorDiv_f86c9_26 ?_
      try dsimp only
      refine ⟨?_, rfl⟩
      rw [hq1, if_pos (by omega)]
theorem cf_J9_floorMod_f86c9 : wCal yJ9_floorMod_f86c9 cJ9_floorMod_f86c9 6 (some .long) 2 := ⟨gw_659, gw_16, by decide, by decide, by rfl⟩
set_option maxRecDepth 100000 in
set_option maxHeartbeats 4000000 in
theorem c_J9_floorMod_f86c9 (l : Launch) (G : wG) (M : wM) (a b : Int) (ha : -4611686018427387904 ≤ a ∧ a ≤ 4611686018427387904) (hb0 : 0 < b) (hb : b ≤ 4611686018427387904) : Met l yJ9_floorMod_f86c9 (gws yJ9_floorMod_f86c9 cJ9_floorMod_f86c9 6 (some .long)) (wrm 0 0 0) (wPc G M [vJ a, vJ b]) (wQj G (fun z M1 => z = a % b ∧ M1 = M)) 0 0 (wA G) := by
  refine wMetF (lc := [(0, vJ a), (2, vJ b)]) (by decide +kernel) (Nat.le_of_ble_eq_true rfl) rfl ?_
  intro p e s m args below meth c X hr
  have X : wX p s m args meth c G 6 "java/lang/Math" cJ9_floorMod_f86c9 := X
  have hq1 := emod_of (a := a) (b := b) hb0
  have hq2 := tmod_bd (a := a) (b := b) hb0
  refine r_lload_n (pc' := 1) X 0 dJ9_floorMod_f86c9_0 rfl rfl rfl ?_
  refine r_lload_n (pc' := 2) X 1 dJ9_floorMod_f86c9_1 rfl rfl rfl ?_
  refine r_lrem (pc' := 3) X dJ9_floorMod_f86c9_2 (by omega) (by omega) (by omega) rfl ?_
  refine r_lstore (pc' := 5) (lc' := [(0, vJ a), (2, vJ b), (4, vJ (a.tmod b))]) X [1, 2, 0] dJ9_floorMod_f86c9_3 (by decide) rfl rfl ?_
  refine r_lload_n (pc' := 6) X 0 dJ9_floorMod_f86c9_5 rfl rfl rfl ?_
  refine r_lload_n (pc' := 7) X 1 dJ9_floorMod_f86c9_6 rfl rfl rfl ?_
  refine r_lxor (pc' := 8) X dJ9_floorMod_f86c9_7 (by omega) (by omega) rfl (fun z7 z7r z7x => ?_)
  refine r_lconst (pc' := 9) (z := 0) X dJ9_floorMod_f86c9_8 rfl rfl ?_
  refine r_lcmp (pc' := 10) X dJ9_floorMod_f86c9_9 (by omega) (by omega) rfl (fun z9 z9r z9l z9e z9g => ?_)
  refine r_if_ge (pc' := 13) (tgt := 25) X dJ9_floorMod_f86c9_10 rfl rfl (by omega) (fun h10 => ?_) (fun h10 => ?_)
  · refine r_lload (pc' := 27) X 2 dJ9_floorMod_f86c9_25 rfl rfl ?_
    refine w_lret X hr dJ9_floorMod_f86c9_27 ?_
    try dsimp only
    refine ⟨?_, rfl⟩
    rw [hq1, if_neg (by omega)]
  · refine r_lload (pc' := 15) X 2 dJ9_floorMod_f86c9_13 rfl rfl ?_
    refine r_lconst (pc' := 16) (z := 0) X dJ9_floorMod_f86c9_15 rfl rfl ?_
    refine r_lcmp (pc' := 17) X dJ9_floorMod_f86c9_16 (by omega) (by omega) rfl (fun z16 z16r z16l z16e z16g => ?_)
    refine r_if_eq (pc' := 20) (tgt := 25) X dJ9_floorMod_f86c9_17 rfl rfl (by omega) (fun h17 => ?_) (fun h17 => ?_)
    · refine r_lload (pc' := 27) X 2 dJ9_floorMod_f86c9_25 rfl rfl ?_
      refine w_lret X hr dJ9_floorMod_f86c9_27 ?_
      try dsimp only
      refine ⟨?_, rfl⟩
      rw [hq1, if_neg (by omega)]
    · refine r_lload (pc' := 22) X 2 dJ9_floorMod_f86c9_20 rfl rfl ?_
      refine r_lload_n (pc' := 23) X 1 dJ9_floorMod_f86c9_22 rfl rfl rfl ?_
      refine r_ladd (pc' := 24) X dJ9_floorMod_f86c9_23 rfl ?_
      refine w_lret X hr dJ9_floorMod_f86c9_24 ?_
      try dsimp only
      refine ⟨?_, rfl⟩
      rw [hq1, if_pos (by omega)]
theorem cf_J9_max_7cf53 : wCal yJ9_max_7cf53 cJ9_max_7cf53 2 (some .int) 2 := ⟨gw_698, gw_16, by decide, by decide, by rfl⟩
set_option maxRecDepth 100000 in
set_option maxHeartbeats 4000000 in
theorem c_J9_max_7cf53 (l : Launch) (G : wG) (M : wM) (a b : Int) (ha : rI a) (hb : rI b) : Met l yJ9_max_7cf53 (gws yJ9_max_7cf53 cJ9_max_7cf53 2 (some .int)) (wrm 0 0 0) (wPc G M [vI a, vI b]) (wQi G (fun z M1 => z = max a b ∧ M1 = M)) 0 0 (wA G) := by
  refine wMetF (lc := [(0, vI a), (1, vI b)]) (by decide +kernel) (Nat.le_of_ble_eq_true rfl) rfl ?_
  intro p e s m args below meth c X hr
  have X : wX p s m args meth c G 2 "java/lang/Math" cJ9_max_7cf53 := X
  refine r_iload_n (pc' := 1) X 0 dJ9_max_7cf53_0 rfl rfl rfl ?_
  refine r_iload_n (pc' := 2) X 1 dJ9_max_7cf53_1 rfl rfl rfl ?_
  refine r_icmp_lt (pc' := 5) (tgt := 9) X dJ9_max_7cf53_2 rfl rfl (by omega) (by omega) (fun h2 => ?_) (fun h2 => ?_)
  · refine r_iload_n (pc' := 10) X 1 dJ9_max_7cf53_9 rfl rfl rfl ?_
    refine w_iret X hr dJ9_max_7cf53_10 ?_
    try dsimp only
    exact ⟨by omega, rfl⟩
  · refine r_iload_n (pc' := 6) X 0 dJ9_max_7cf53_5 rfl rfl rfl ?_
    refine r_goto (tgt := 10) X dJ9_max_7cf53_6 rfl ?_
    refine w_iret X hr dJ9_max_7cf53_10 ?_
    try dsimp only
    exact ⟨by omega, rfl⟩
theorem cf_J9_min_7cf53 : wCal yJ9_min_7cf53 cJ9_min_7cf53 2 (some .int) 2 := ⟨gw_525, gw_16, by decide, by decide, by rfl⟩
set_option maxRecDepth 100000 in
set_option maxHeartbeats 4000000 in
theorem c_J9_min_7cf53 (l : Launch) (G : wG) (M : wM) (a b : Int) (ha : rI a) (hb : rI b) : Met l yJ9_min_7cf53 (gws yJ9_min_7cf53 cJ9_min_7cf53 2 (some .int)) (wrm 0 0 0) (wPc G M [vI a, vI b]) (wQi G (fun z M1 => z = min a b ∧ M1 = M)) 0 0 (wA G) := by
  refine wMetF (lc := [(0, vI a), (1, vI b)]) (by decide +kernel) (Nat.le_of_ble_eq_true rfl) rfl ?_
  intro p e s m args below meth c X hr
  have X : wX p s m args meth c G 2 "java/lang/Math" cJ9_min_7cf53 := X
  refine r_iload_n (pc' := 1) X 0 dJ9_min_7cf53_0 rfl rfl rfl ?_
  refine r_iload_n (pc' := 2) X 1 dJ9_min_7cf53_1 rfl rfl rfl ?_
  refine r_icmp_gt (pc' := 5) (tgt := 9) X dJ9_min_7cf53_2 rfl rfl (by omega) (by omega) (fun h2 => ?_) (fun h2 => ?_)
  · refine r_iload_n (pc' := 10) X 1 dJ9_min_7cf53_9 rfl rfl rfl ?_
    refine w_iret X hr dJ9_min_7cf53_10 ?_
    try dsimp only
    exact ⟨by omega, rfl⟩
  · refine r_iload_n (pc' := 6) X 0 dJ9_min_7cf53_5 rfl rfl rfl ?_
    refine r_goto (tgt := 10) X dJ9_min_7cf53_6 rfl ?_
    refine w_iret X hr dJ9_min_7cf53_10 ?_
    try dsimp only
    exact ⟨by omega, rfl⟩
theorem cf_J9_max_f86c9 : wCal yJ9_max_f86c9 cJ9_max_f86c9 4 (some .long) 2 := ⟨gw_760, gw_16, by decide, by decide, by rfl⟩
set_option maxRecDepth 100000 in
set_option maxHeartbeats 4000000 in
theorem c_J9_max_f86c9 (l : Launch) (G : wG) (M : wM) (a b : Int) (ha : rJ a) (hb : rJ b) : Met l yJ9_max_f86c9 (gws yJ9_max_f86c9 cJ9_max_f86c9 4 (some .long)) (wrm 0 0 0) (wPc G M [vJ a, vJ b]) (wQj G (fun z M1 => z = max a b ∧ M1 = M)) 0 0 (wA G) := by
  refine wMetF (lc := [(0, vJ a), (2, vJ b)]) (by decide +kernel) (Nat.le_of_ble_eq_true rfl) rfl ?_
  intro p e s m args below meth c X hr
  have X : wX p s m args meth c G 4 "java/lang/Math" cJ9_max_f86c9 := X
  refine r_lload_n (pc' := 1) X 0 dJ9_max_f86c9_0 rfl rfl rfl ?_
  refine r_lload_n (pc' := 2) X 1 dJ9_max_f86c9_1 rfl rfl rfl ?_
  refine r_lcmp (pc' := 3) X dJ9_max_f86c9_2 (by omega) (by omega) rfl (fun z2 z2r z2l z2e z2g => ?_)
  refine r_if_lt (pc' := 6) (tgt := 10) X dJ9_max_f86c9_3 rfl rfl (by omega) (fun h3 => ?_) (fun h3 => ?_)
  · refine r_lload_n (pc' := 11) X 1 dJ9_max_f86c9_10 rfl rfl rfl ?_
    refine w_lret X hr dJ9_max_f86c9_11 ?_
    try dsimp only
    exact ⟨by omega, rfl⟩
  · refine r_lload_n (pc' := 7) X 0 dJ9_max_f86c9_6 rfl rfl rfl ?_
    refine r_goto (tgt := 11) X dJ9_max_f86c9_7 rfl ?_
    refine w_lret X hr dJ9_max_f86c9_11 ?_
    try dsimp only
    exact ⟨by omega, rfl⟩
theorem cf_J9_min_f86c9 : wCal yJ9_min_f86c9 cJ9_min_f86c9 4 (some .long) 2 := ⟨gw_757, gw_16, by decide, by decide, by rfl⟩
set_option maxRecDepth 100000 in
set_option maxHeartbeats 4000000 in
theorem c_J9_min_f86c9 (l : Launch) (G : wG) (M : wM) (a b : Int) (ha : rJ a) (hb : rJ b) : Met l yJ9_min_f86c9 (gws yJ9_min_f86c9 cJ9_min_f86c9 4 (some .long)) (wrm 0 0 0) (wPc G M [vJ a, vJ b]) (wQj G (fun z M1 => z = min a b ∧ M1 = M)) 0 0 (wA G) := by
  refine wMetF (lc := [(0, vJ a), (2, vJ b)]) (by decide +kernel) (Nat.le_of_ble_eq_true rfl) rfl ?_
  intro p e s m args below meth c X hr
  have X : wX p s m args meth c G 4 "java/lang/Math" cJ9_min_f86c9 := X
  refine r_lload_n (pc' := 1) X 0 dJ9_min_f86c9_0 rfl rfl rfl ?_
  refine r_lload_n (pc' := 2) X 1 dJ9_min_f86c9_1 rfl rfl rfl ?_
  refine r_lcmp (pc' := 3) X dJ9_min_f86c9_2 (by omega) (by omega) rfl (fun z2 z2r z2l z2e z2g => ?_)
  refine r_if_gt (pc' := 6) (tgt := 10) X dJ9_min_f86c9_3 rfl rfl (by omega) (fun h3 => ?_) (fun h3 => ?_)
  · refine r_lload_n (pc' := 11) X 1 dJ9_min_f86c9_10 rfl rfl rfl ?_
    refine w_lret X hr dJ9_min_f86c9_11 ?_
    try dsimp only
    exact ⟨by omega, rfl⟩
  · refine r_lload_n (pc' := 7) X 0 dJ9_min_f86c9_6 rfl rfl rfl ?_
    refine r_goto (tgt := 11) X dJ9_min_f86c9_7 rfl ?_
    refine w_lret X hr dJ9_min_f86c9_11 ?_
    try dsimp only
    exact ⟨by omega, rfl⟩
theorem cf_J9_abs_0f7a4 : wCal yJ9_abs_0f7a4 cJ9_abs_0f7a4 1 (some .int) 1 := ⟨gw_774, gw_16, by decide, by decide, by rfl⟩
set_option maxRecDepth 100000 in
set_option maxHeartbeats 4000000 in
theorem c_J9_abs_0f7a4 (l : Launch) (G : wG) (M : wM) (a : Int) (ha : rI a) : Met l yJ9_abs_0f7a4 (gws yJ9_abs_0f7a4 cJ9_abs_0f7a4 1 (some .int)) (wrm 0 0 0) (wPc G M [vI a]) (wQi G (fun z M1 => z = (a.natAbs : Int) ∧ M1 = M)) 0 0 (wA G) := by
  refine wMetF (lc := [(0, vI a)]) (by decide +kernel) (Nat.le_of_ble_eq_true rfl) rfl ?_
  intro p e s m args below meth c X hr
  have X : wX p s m args meth c G 1 "java/lang/Math" cJ9_abs_0f7a4 := X
  refine r_iload_n (pc' := 1) X 0 dJ9_abs_0f7a4_0 rfl rfl rfl ?_
  refine r_if_ge (pc' := 4) (tgt := 9) X dJ9_abs_0f7a4_1 rfl rfl (by omega) (fun h1 => ?_) (fun h1 => ?_)
  · refine r_iload_n (pc' := 10) X 0 dJ9_abs_0f7a4_9 rfl rfl rfl ?_
    refine w_iret X hr dJ9_abs_0f7a4_10 ?_
    try dsimp only
    exact ⟨by omega, rfl⟩
  · refine r_iload_n (pc' := 5) X 0 dJ9_abs_0f7a4_4 rfl rfl rfl ?_
    refine r_ineg (pc' := 6) X dJ9_abs_0f7a4_5 rfl ?_
    refine r_goto (tgt := 10) X dJ9_abs_0f7a4_6 rfl ?_
    refine w_iret X hr dJ9_abs_0f7a4_10 ?_
    try dsimp only
    exact ⟨by omega, rfl⟩
theorem cf_X8_floorQuotient : wCal yX8_floorQuotient cX8_floorQuotient 4 (some .long) 2 := ⟨gw_500, gw_1, by decide, by decide, by rfl⟩
set_option maxRecDepth 100000 in
set_option maxHeartbeats 4000000 in
theorem c_X8_floorQuotient (l : Launch) (G : wG) (M : wM) (a b : Int) (ha : -4611686018427387904 ≤ a ∧ a ≤ 4611686018427387904) (hb : rJ b) (hb0 : b ≠ 0) : Met l yX8_floorQuotient (gws yX8_floorQuotient cX8_floorQuotient 4 (some .long)) (wrm 1 0 0) (wPc G M [vJ a, vJ b]) (wQj G (fun z M1 => z = a.fdiv b ∧ M1 = M)) 0 0 (wA G) := by
  refine wMet (lc := [(0, vJ a), (2, vJ b)]) (by decide) (Nat.le_of_ble_eq_true rfl) rfl ?_
  intro p e s m args below meth c X hr
  have X : wX p s m args meth c G 4 "StateObserver" cX8_floorQuotient := X
  refine r_lload_n (pc' := 1) X 1 dX8_floorQuotient_0 rfl rfl rfl ?_
  refine r_lconst (pc' := 2) (z := 0) X dX8_floorQuotient_1 rfl rfl ?_
  refine r_lcmp (pc' := 3) X dX8_floorQuotient_2 (by omega) (by omega) rfl (fun z2 z2r z2l z2e z2g => ?_)
  refine r_if_ne (pc' := 6) (tgt := 10) X dX8_floorQuotient_3 rfl rfl (by omega) (fun h3 => ?_) (fun h3 => by exfalso; omega)
  refine r_lload_n (pc' := 11) X 0 dX8_floorQuotient_10 rfl rfl rfl ?_
  refine r_lload_n (pc' := 12) X 1 dX8_floorQuotient_11 rfl rfl rfl ?_
  refine w_callj (pc' := 15) (st := []) (w_runS X (c_J9_floorDiv_f86c9 l G M a b (by first | assumption | omega) (by first | assumption | omega) (by first | assumption | omega)) cf_J9_floorDiv_f86c9 gw_502 rfl rfl ⟨Nat.le_of_ble_eq_true rfl, Nat.le_of_ble_eq_true rfl⟩ rfl rfl (Nat.le_of_ble_eq_true rfl) ⟨Nat.le_of_ble_eq_true rfl, Nat.le_of_ble_eq_true rfl⟩ gw_501 dX8_floorQuotient_12) rfl (fun z12 M1 h12 => ?_)
  obtain rfl := h12.1.symm
  obtain rfl := h12.2.symm
  refine w_lret X hr dX8_floorQuotient_15 ?_
  try dsimp only
  exact ⟨rfl, rfl⟩
theorem cf_X8_remainder : wCal yX8_remainder cX8_remainder 2 (some .int) 2 := ⟨gw_970, gw_1, by decide, by decide, by rfl⟩
set_option maxRecDepth 100000 in
set_option maxHeartbeats 4000000 in
theorem c_X8_remainder (l : Launch) (G : wG) (M : wM) (a b : Int) (ha : rI a) (hb : rI b) (hb0 : b ≠ 0) : Met l yX8_remainder (gws yX8_remainder cX8_remainder 2 (some .int)) (wrm 0 0 0) (wPc G M [vI a, vI b]) (wQi G (fun z M1 => z = a.tmod b ∧ M1 = M)) 0 0 (wA G) := by
  refine wMet (lc := [(0, vI a), (1, vI b)]) (by decide) (Nat.le_of_ble_eq_true rfl) rfl ?_
  intro p e s m args below meth c X hr
  have X : wX p s m args meth c G 2 "StateObserver" cX8_remainder := X
  refine r_iload_n (pc' := 1) X 1 dX8_remainder_0 rfl rfl rfl ?_
  refine r_if_ne (pc' := 4) (tgt := 8) X dX8_remainder_1 rfl rfl (by omega) (fun h1 => ?_) (fun h1 => by exfalso; omega)
  refine r_iload_n (pc' := 9) X 0 dX8_remainder_8 rfl rfl rfl ?_
  refine r_iload_n (pc' := 10) X 1 dX8_remainder_9 rfl rfl rfl ?_
  refine r_irem (pc' := 11) X dX8_remainder_10 (by omega) (by omega) (by omega) rfl ?_
  refine w_iret X hr dX8_remainder_11 ?_
  try dsimp only
  exact ⟨rfl, rfl⟩
theorem cf_X8_quotient : wCal yX8_quotient cX8_quotient 2 (some .int) 2 := ⟨gw_927, gw_1, by decide, by decide, by rfl⟩
set_option maxRecDepth 100000 in
set_option maxHeartbeats 4000000 in
theorem c_X8_quotient (l : Launch) (G : wG) (M : wM) (a b : Int) (ha : -1000000000 ≤ a ∧ a ≤ 1000000000) (hb : rI b) (hb0 : b ≠ 0) : Met l yX8_quotient (gws yX8_quotient cX8_quotient 2 (some .int)) (wrm 0 0 0) (wPc G M [vI a, vI b]) (wQi G (fun z M1 => z = a.tdiv b ∧ M1 = M)) 0 0 (wA G) := by
  refine wMet (lc := [(0, vI a), (1, vI b)]) (by decide) (Nat.le_of_ble_eq_true rfl) rfl ?_
  intro p e s m args below meth c X hr
  have X : wX p s m args meth c G 2 "StateObserver" cX8_quotient := X
  have hq0 := q_tdiv (a := a) (b := b) hb0
  refine r_iload_n (pc' := 1) X 1 dX8_quotient_0 rfl rfl rfl ?_
  refine r_if_ne (pc' := 4) (tgt := 8) X dX8_quotient_1 rfl rfl (by omega) (fun h1 => ?_) (fun h1 => by exfalso; omega)
  refine r_iload_n (pc' := 9) X 0 dX8_quotient_8 rfl rfl rfl ?_
  refine r_iload_n (pc' := 10) X 1 dX8_quotient_9 rfl rfl rfl ?_
  refine r_idiv (pc' := 11) X dX8_quotient_10 (by omega) (by omega) (by omega) rfl ?_
  refine w_iret X hr dX8_quotient_11 ?_
  try dsimp only
  exact ⟨rfl, rfl⟩
theorem cf_X8_limited : wCal yX8_limited cX8_limited 3 (some .int) 2 := ⟨gw_754, gw_1, by decide, by decide, by rfl⟩
set_option maxRecDepth 100000 in
set_option maxHeartbeats 4000000 in
theorem c_X8_limited (l : Launch) (G : wG) (M : wM) (a b : Int) (ha : rJ a) (hb : 0 ≤ b ∧ b ≤ 2147483647) : Met l yX8_limited (gws yX8_limited cX8_limited 3 (some .int)) (wrm 1 0 0) (wPc G M [vJ a, vI b]) (wQi G (fun z M1 => z = lim a b ∧ M1 = M)) 0 0 (wA G) := by
  refine wMet (lc := [(0, vJ a), (2, vI b)]) (by decide) (Nat.le_of_ble_eq_true rfl) rfl ?_
  intro p e s m args below meth c X hr
  have X : wX p s m args meth c G 3 "StateObserver" cX8_limited := X
  refine r_iload_n (pc' := 1) X 1 dX8_limited_0 rfl rfl rfl ?_
  refine r_ineg (pc' := 2) X dX8_limited_1 rfl ?_
  refine r_i2l (pc' := 3) X dX8_limited_2 (by omega) rfl ?_
  refine r_iload_n (pc' := 4) X 1 dX8_limited_3 rfl rfl rfl ?_
  refine r_i2l (pc' := 5) X dX8_limited_4 (by omega) rfl ?_
  refine r_lload_n (pc' := 6) X 0 dX8_limited_5 rfl rfl rfl ?_
  refine w_callj (pc' := 9) (st := [vJ (-b)]) (w_runS X (c_J9_min_f86c9 l G M b a (by first | assumption | omega) (by first | assumption | omega)) cf_J9_min_f86c9 gw_756 rfl rfl ⟨Nat.le_of_ble_eq_true rfl, Nat.le_of_ble_eq_true rfl⟩ rfl rfl (Nat.le_of_ble_eq_true rfl) ⟨Nat.le_of_ble_eq_true rfl, Nat.le_of_ble_eq_true rfl⟩ gw_755 dX8_limited_6) rfl (fun z6 M1 h6 => ?_)
  obtain rfl := h6.1.symm
  obtain rfl := h6.2.symm
  refine w_callj (pc' := 12) (st := []) (w_runS X (c_J9_max_f86c9 l G M (-b) ((min b a)) (by first | assumption | omega) (by first | assumption | omega)) cf_J9_max_f86c9 gw_759 rfl rfl ⟨Nat.le_of_ble_eq_true rfl, Nat.le_of_ble_eq_true rfl⟩ rfl rfl (Nat.le_of_ble_eq_true rfl) ⟨Nat.le_of_ble_eq_true rfl, Nat.le_of_ble_eq_true rfl⟩ gw_758 dX8_limited_9) rfl (fun z9 M2 h9 => ?_)
  obtain rfl := h9.1.symm
  obtain rfl := h9.2.symm
  refine r_l2i (pc' := 13) X dX8_limited_12 rfl ?_
  refine w_iret X hr dX8_limited_13 ?_
  try dsimp only
  exact ⟨by unfold lim; split <;> (try split) <;> omega, rfl⟩
theorem cf_X8_copyRow : wCal yX8_copyRow cX8_copyRow 2 none 2 := ⟨gw_522, gw_1, by decide, by decide, by rfl⟩
set_option maxRecDepth 100000 in
set_option maxHeartbeats 4000000 in
theorem c_X8_copyRow (l : Launch) (G : wG) (M : wM) (fo fj to tj n : Nat) (hf : wkd fo fj = some (.inr (0, n, wNr))) (ht : wkd to tj = some (.inr (0, n, wNr))) (hn : n ≤ 100000) : Met l yX8_copyRow (gws yX8_copyRow cX8_copyRow 2 none) (wrm 1 0 0) (wPc G M [vR G (fo, fj), vR G (to, tj)]) (wQv G (fun M1 => M1 = wr M to tj (M fo fj))) 0 0 (wA G) := by
  refine wMet (lc := [(0, vR G (fo, fj)), (1, vR G (to, tj))]) (by decide) (Nat.le_of_ble_eq_true rfl) rfl ?_
  intro p e s m args below meth c X hr
  have X : wX p s m args meth c G 2 "StateObserver" cX8_copyRow := X
  refine r_aload_n (pc' := 1) X 0 dX8_copyRow_0 rfl rfl rfl ?_
  refine r_iconst (pc' := 2) X dX8_copyRow_1 rfl ?_
  refine r_aload_n (pc' := 3) X 1 dX8_copyRow_2 rfl rfl rfl ?_
  refine r_iconst (pc' := 4) X dX8_copyRow_3 rfl ?_
  refine r_aload_n (pc' := 5) X 0 dX8_copyRow_4 rfl rfl rfl ?_
  refine r_alen (pc' := 6) X hf (by decide) dX8_copyRow_5 rfl ?_
  refine r_aload_n (pc' := 7) X 1 dX8_copyRow_6 rfl rfl rfl ?_
  refine r_alen (pc' := 8) X ht (by decide) dX8_copyRow_7 rfl ?_
  refine w_calli (pc' := 11) (st := [vI 0, vR G (to, tj), vI 0, vR G (fo, fj)]) (w_runS X (c_J9_min_7cf53 l G M (n : Int) (n : Int) (by first | assumption | omega) (by first | assumption | omega)) cf_J9_min_7cf53 gw_524 rfl rfl ⟨Nat.le_of_ble_eq_true rfl, Nat.le_of_ble_eq_true rfl⟩ rfl rfl (Nat.le_of_ble_eq_true rfl) ⟨Nat.le_of_ble_eq_true rfl, Nat.le_of_ble_eq_true rfl⟩ gw_523 dX8_copyRow_8) rfl (fun z8 M1 h8 => ?_)
  obtain rfl := h8.1.symm
  obtain rfl := h8.2.symm
  refine w_eqI (z' := (n : Int)) (by omega) ?_
  refine r_copyI (N := n) (pc' := 14) X hf ht hn gw_526 gw_528 gw_527 gw_17 (Nat.le_of_ble_eq_true rfl) (Nat.le_of_ble_eq_true rfl) dX8_copyRow_11 rfl (fun M2 hM2 => ?_)
  refine w_vret X hr dX8_copyRow_14 ?_
  try dsimp only
  exact hM2
theorem cf_X8_copyRow_ : wCal yX8_copyRow_ cX8_copyRow_ 2 none 2 := ⟨gw_662, gw_1, by decide, by decide, by rfl⟩
set_option maxRecDepth 100000 in
set_option maxHeartbeats 4000000 in
theorem c_X8_copyRow_ (l : Launch) (G : wG) (M : wM) (fo fj to tj n : Nat) (hf : wkd fo fj = some (.inr (1, n, wNr))) (ht : wkd to tj = some (.inr (1, n, wNr))) (hn : n ≤ 100000) : Met l yX8_copyRow_ (gws yX8_copyRow_ cX8_copyRow_ 2 none) (wrm 1 0 0) (wPc G M [vR G (fo, fj), vR G (to, tj)]) (wQv G (fun M1 => M1 = wr M to tj (M fo fj))) 0 0 (wA G) := by
  refine wMet (lc := [(0, vR G (fo, fj)), (1, vR G (to, tj))]) (by decide) (Nat.le_of_ble_eq_true rfl) rfl ?_
  intro p e s m args below meth c X hr
  have X : wX p s m args meth c G 2 "StateObserver" cX8_copyRow_ := X
  refine r_aload_n (pc' := 1) X 0 dX8_copyRow__0 rfl rfl rfl ?_
  refine r_iconst (pc' := 2) X dX8_copyRow__1 rfl ?_
  refine r_aload_n (pc' := 3) X 1 dX8_copyRow__2 rfl rfl rfl ?_
  refine r_iconst (pc' := 4) X dX8_copyRow__3 rfl ?_
  refine r_aload_n (pc' := 5) X 0 dX8_copyRow__4 rfl rfl rfl ?_
  refine r_alen (pc' := 6) X hf (by decide) dX8_copyRow__5 rfl ?_
  refine r_aload_n (pc' := 7) X 1 dX8_copyRow__6 rfl rfl rfl ?_
  refine r_alen (pc' := 8) X ht (by decide) dX8_copyRow__7 rfl ?_
  refine w_calli (pc' := 11) (st := [vI 0, vR G (to, tj), vI 0, vR G (fo, fj)]) (w_runS X (c_J9_min_7cf53 l G M (n : Int) (n : Int) (by first | assumption | omega) (by first | assumption | omega)) cf_J9_min_7cf53 gw_524 rfl rfl ⟨Nat.le_of_ble_eq_true rfl, Nat.le_of_ble_eq_true rfl⟩ rfl rfl (Nat.le_of_ble_eq_true rfl) ⟨Nat.le_of_ble_eq_true rfl, Nat.le_of_ble_eq_true rfl⟩ gw_523 dX8_copyRow__8) rfl (fun z8 M1 h8 => ?_)
  obtain rfl := h8.1.symm
  obtain rfl := h8.2.symm
  refine w_eqI (z' := (n : Int)) (by omega) ?_
  refine r_copyJ (N := n) (pc' := 14) X hf ht hn gw_526 gw_528 gw_527 gw_17 (Nat.le_of_ble_eq_true rfl) (Nat.le_of_ble_eq_true rfl) dX8_copyRow__11 rfl (fun M2 hM2 => ?_)
  refine w_vret X hr dX8_copyRow__14 ?_
  try dsimp only
  exact hM2
