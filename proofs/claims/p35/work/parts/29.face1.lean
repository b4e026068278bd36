theorem cf_X8_isState : wCal yX8_isState cX8_isState 2 (some .boolean) 1 := ⟨gw_629, gw_1, by decide, by decide, by rfl⟩
set_option maxRecDepth 100000 in
set_option maxHeartbeats 4000000 in
theorem c_X8_isState (l : Launch) (G : wG) (M : wM) (N P : Nat) (T : Int) (hck : COk M N P T) (hT6 : T ≤ 1000000) (i : Int) (hi : rI i) : Met l yX8_isState (gws yX8_isState cX8_isState 2 (some .boolean)) (wrm 0 0 0) (wPc G M [vR G (28, 0), vI i]) (wQi G (fun z M1 => z = (if 0 ≤ i ∧ i < N then 1 else 0) ∧ M1 = M)) 0 0 (wA G) := by
  refine wMet (lc := [(0, vR G (28, 0)), (1, vI i)]) (by decide) (Nat.le_of_ble_eq_true rfl) rfl ?_
  intro p e s m args below meth c X hr
  have X : wX p s m args meth c G 2 "StateObserver" cX8_isState := X
  obtain ⟨hp, hm, hbx⟩ := id hck
  obtain ⟨hN, hN1, hN4, hP, hP1, hP3, hA, hB, hE, hC, hQ⟩ := id hp
  obtain ⟨hT, hL, hU, hS, hG, hY, hAg, hHo, hBo, hTi, hLi, hLb, hLl, hLh⟩ := id hm
  refine r_iload_n (pc' := 1) X 1 dX8_isState_0 rfl rfl rfl ?_
  refine r_if_lt (pc' := 4) (tgt := 19) X dX8_isState_1 rfl rfl (by omega) (fun h1 => ?_) (fun h1 => ?_)
  · refine r_iconst (pc' := 20) X dX8_isState_19 rfl ?_
    refine w_zret X hr (by decide) dX8_isState_20 ?_
    try dsimp only
    refine ⟨?_, rfl⟩
    first | rw [if_pos (by omega)] | rw [if_neg (by omega)]
  · refine r_iload_n (pc' := 5) X 1 dX8_isState_4 rfl rfl rfl ?_
    refine r_aload_n (pc' := 6) X 0 dX8_isState_5 rfl rfl rfl ?_
    refine gf_28_plant (pc' := 9) X gw_296 dX8_isState_6 rfl ?_
    refine gf_P_n (pc' := 12) X (by decide) gw_38 dX8_isState_9 rfl ?_
    refine r_icmp_ge (pc' := 15) (tgt := 19) X dX8_isState_12 rfl rfl (by omega) (by omega) (fun h12 => ?_) (fun h12 => ?_)
    · refine r_iconst (pc' := 20) X dX8_isState_19 rfl ?_
      refine w_zret X hr (by decide) dX8_isState_20 ?_
      try dsimp only
      refine ⟨?_, rfl⟩
      first | rw [if_pos (by omega)] | rw [if_neg (by omega)]
    · refine r_iconst (pc' := 16) X dX8_isState_15 rfl ?_
      refine r_goto (tgt := 20) X dX8_isState_16 rfl ?_
      refine w_zret X hr (by decide) dX8_isState_20 ?_
      try dsimp only
      refine ⟨?_, rfl⟩
      first | rw [if_pos (by omega)] | rw [if_neg (by omega)]
theorem cf_X8_isOutput : wCal yX8_isOutput cX8_isOutput 2 (some .boolean) 1 := ⟨gw_389, gw_1, by decide, by decide, by rfl⟩
set_option maxRecDepth 100000 in
set_option maxHeartbeats 4000000 in
theorem c_X8_isOutput (l : Launch) (G : wG) (M : wM) (N P : Nat) (T : Int) (hck : COk M N P T) (hT6 : T ≤ 1000000) (i : Int) (hi : rI i) : Met l yX8_isOutput (gws yX8_isOutput cX8_isOutput 2 (some .boolean)) (wrm 0 0 0) (wPc G M [vR G (28, 0), vI i]) (wQi G (fun z M1 => z = (if 0 ≤ i ∧ i < P then 1 else 0) ∧ M1 = M)) 0 0 (wA G) := by
  refine wMet (lc := [(0, vR G (28, 0)), (1, vI i)]) (by decide) (Nat.le_of_ble_eq_true rfl) rfl ?_
  intro p e s m args below meth c X hr
  have X : wX p s m args meth c G 2 "StateObserver" cX8_isOutput := X
  obtain ⟨hp, hm, hbx⟩ := id hck
  obtain ⟨hN, hN1, hN4, hP, hP1, hP3, hA, hB, hE, hC, hQ⟩ := id hp
  obtain ⟨hT, hL, hU, hS, hG, hY, hAg, hHo, hBo, hTi, hLi, hLb, hLl, hLh⟩ := id hm
  refine r_iload_n (pc' := 1) X 1 dX8_isOutput_0 rfl rfl rfl ?_
  refine r_if_lt (pc' := 4) (tgt := 19) X dX8_isOutput_1 rfl rfl (by omega) (fun h1 => ?_) (fun h1 => ?_)
  · refine r_iconst (pc' := 20) X dX8_isOutput_19 rfl ?_
    refine w_zret X hr (by decide) dX8_isOutput_20 ?_
    try dsimp only
    refine ⟨?_, rfl⟩
    first | rw [if_pos (by omega)] | rw [if_neg (by omega)]
  · refine r_iload_n (pc' := 5) X 1 dX8_isOutput_4 rfl rfl rfl ?_
    refine r_aload_n (pc' := 6) X 0 dX8_isOutput_5 rfl rfl rfl ?_
    refine gf_28_plant (pc' := 9) X gw_296 dX8_isOutput_6 rfl ?_
    refine gf_P_p (pc' := 12) X (by decide) gw_43 dX8_isOutput_9 rfl ?_
    refine r_icmp_ge (pc' := 15) (tgt := 19) X dX8_isOutput_12 rfl rfl (by omega) (by omega) (fun h12 => ?_) (fun h12 => ?_)
    · refine r_iconst (pc' := 20) X dX8_isOutput_19 rfl ?_
      refine w_zret X hr (by decide) dX8_isOutput_20 ?_
      try dsimp only
      refine ⟨?_, rfl⟩
      first | rw [if_pos (by omega)] | rw [if_neg (by omega)]
    · refine r_iconst (pc' := 16) X dX8_isOutput_15 rfl ?_
      refine r_goto (tgt := 20) X dX8_isOutput_16 rfl ?_
      refine w_zret X hr (by decide) dX8_isOutput_20 ?_
      try dsimp only
      refine ⟨?_, rfl⟩
      first | rw [if_pos (by omega)] | rw [if_neg (by omega)]
theorem cf_X8_isFactor : wCal yX8_isFactor cX8_isFactor 1 (some .boolean) 1 := ⟨gw_733, gw_1, by decide, by decide, by rfl⟩
set_option maxRecDepth 100000 in
set_option maxHeartbeats 4000000 in
theorem c_X8_isFactor (l : Launch) (G : wG) (M : wM) (u : Int) (hu : rI u) : Met l yX8_isFactor (gws yX8_isFactor cX8_isFactor 1 (some .boolean)) (wrm 0 0 0) (wPc G M [vI u]) (wQi G (fun z M1 => z = (if -99 ≤ u ∧ u ≤ 99 then 1 else 0) ∧ M1 = M)) 0 0 (wA G) := by
  refine wMet (lc := [(0, vI u)]) (by decide) (Nat.le_of_ble_eq_true rfl) rfl ?_
  intro p e s m args below meth c X hr
  have X : wX p s m args meth c G 1 "StateObserver" cX8_isFactor := X
  refine r_iload_n (pc' := 1) X 0 dX8_isFactor_0 rfl rfl rfl ?_
  refine r_bipush (pc' := 3) X dX8_isFactor_1 rfl rfl ?_
  refine r_icmp_lt (pc' := 6) (tgt := 16) X dX8_isFactor_3 rfl rfl (by omega) (by omega) (fun h3 => ?_) (fun h3 => ?_)
  · refine r_iconst (pc' := 17) X dX8_isFactor_16 rfl ?_
    refine w_zret X hr (by decide) dX8_isFactor_17 ?_
    try dsimp only
    refine ⟨?_, rfl⟩
    first | rw [if_pos (by omega)] | rw [if_neg (by omega)]
  · refine r_iload_n (pc' := 7) X 0 dX8_isFactor_6 rfl rfl rfl ?_
    refine r_bipush (pc' := 9) X dX8_isFactor_7 rfl rfl ?_
    refine r_icmp_gt (pc' := 12) (tgt := 16) X dX8_isFactor_9 rfl rfl (by omega) (by omega) (fun h9 => ?_) (fun h9 => ?_)
    · refine r_iconst (pc' := 17) X dX8_isFactor_16 rfl ?_
      refine w_zret X hr (by decide) dX8_isFactor_17 ?_
      try dsimp only
      refine ⟨?_, rfl⟩
      first | rw [if_pos (by omega)] | rw [if_neg (by omega)]
    · refine r_iconst (pc' := 13) X dX8_isFactor_12 rfl ?_
      refine r_goto (tgt := 17) X dX8_isFactor_13 rfl ?_
      refine w_zret X hr (by decide) dX8_isFactor_17 ?_
      try dsimp only
      refine ⟨?_, rfl⟩
      first | rw [if_pos (by omega)] | rw [if_neg (by omega)]
theorem cf_X8_columnsOf : wCal yX8_columnsOf cX8_columnsOf 2 (some .int) 1 := ⟨gw_634, gw_1, by decide, by decide, by rfl⟩
set_option maxRecDepth 100000 in
set_option maxHeartbeats 4000000 in
theorem c_X8_columnsOf (l : Launch) (G : wG) (M : wM) (N P : Nat) (T : Int) (hck : COk M N P T) (hT6 : T ≤ 1000000) (w : Int) (hw : rI w) : Met l yX8_columnsOf (gws yX8_columnsOf cX8_columnsOf 2 (some .int)) (wrm 0 0 0) (wPc G M [vR G (28, 0), vI w]) (wQi G (fun z M1 => z = colsF N P w ∧ M1 = M)) 0 0 (wA G) := by
  refine wMet (lc := [(0, vR G (28, 0)), (1, vI w)]) (by decide) (Nat.le_of_ble_eq_true rfl) rfl ?_
  intro p e s m args below meth c X hr
  have X : wX p s m args meth c G 2 "StateObserver" cX8_columnsOf := X
  obtain ⟨hp, hm, hbx⟩ := id hck
  obtain ⟨hN, hN1, hN4, hP, hP1, hP3, hA, hB, hE, hC, hQ⟩ := id hp
  obtain ⟨hT, hL, hU, hS, hG, hY, hAg, hHo, hBo, hTi, hLi, hLb, hLl, hLh⟩ := id hm
  refine r_iload_n (pc' := 1) X 1 dX8_columnsOf_0 rfl rfl rfl ?_
  refine r_if_eq (pc' := 4) (tgt := 9) X dX8_columnsOf_1 rfl rfl (by omega) (fun h1 => ?_) (fun h1 => ?_)
  · refine r_aload_n (pc' := 10) X 0 dX8_columnsOf_9 rfl rfl rfl ?_
    refine gf_28_plant (pc' := 13) X gw_296 dX8_columnsOf_10 rfl ?_
    refine gf_P_n (pc' := 16) X (by decide) gw_38 dX8_columnsOf_13 rfl ?_
    refine w_iret X hr dX8_columnsOf_16 ?_
    try dsimp only
    refine ⟨?_, rfl⟩
    unfold colsF
    first | rw [if_pos (by omega)]; omega | rw [if_neg (by omega), if_pos (by omega)]; omega | rw [if_neg (by omega), if_neg (by omega)]
  · refine r_iload_n (pc' := 5) X 1 dX8_columnsOf_4 rfl rfl rfl ?_
    refine r_iconst (pc' := 6) X dX8_columnsOf_5 rfl ?_
    refine r_icmp_ne (pc' := 9) (tgt := 17) X dX8_columnsOf_6 rfl rfl (by omega) (by omega) (fun h6 => ?_) (fun h6 => ?_)
    · refine r_iload_n (pc' := 18) X 1 dX8_columnsOf_17 rfl rfl rfl ?_
      refine r_iconst (pc' := 19) X dX8_columnsOf_18 rfl ?_
      refine r_icmp_ne (pc' := 22) (tgt := 32) X dX8_columnsOf_19 rfl rfl (by omega) (by omega) (fun h19 => ?_) (fun h19 => ?_)
      · refine r_iconst (pc' := 33) X dX8_columnsOf_32 rfl ?_
        refine w_iret X hr dX8_columnsOf_33 ?_
        try dsimp only
        refine ⟨?_, rfl⟩
        unfold colsF
        first | rw [if_pos (by omega)]; omega | rw [if_neg (by omega), if_pos (by omega)]; omega | rw [if_neg (by omega), if_neg (by omega)]
      · refine r_aload_n (pc' := 23) X 0 dX8_columnsOf_22 rfl rfl rfl ?_
        refine gf_28_plant (pc' := 26) X gw_296 dX8_columnsOf_23 rfl ?_
        refine gf_P_p (pc' := 29) X (by decide) gw_43 dX8_columnsOf_26 rfl ?_
        refine r_goto (tgt := 33) X dX8_columnsOf_29 rfl ?_
        refine w_iret X hr dX8_columnsOf_33 ?_
        try dsimp only
        refine ⟨?_, rfl⟩
        unfold colsF
        first | rw [if_pos (by omega)]; omega | rw [if_neg (by omega), if_pos (by omega)]; omega | rw [if_neg (by omega), if_neg (by omega)]
    · refine r_aload_n (pc' := 10) X 0 dX8_columnsOf_9 rfl rfl rfl ?_
      refine gf_28_plant (pc' := 13) X gw_296 dX8_columnsOf_10 rfl ?_
      refine gf_P_n (pc' := 16) X (by decide) gw_38 dX8_columnsOf_13 rfl ?_
      refine w_iret X hr dX8_columnsOf_16 ?_
      try dsimp only
      refine ⟨?_, rfl⟩
      unfold colsF
      first | rw [if_pos (by omega)]; omega | rw [if_neg (by omega), if_pos (by omega)]; omega | rw [if_neg (by omega), if_neg (by omega)]
theorem cf_X8_append : wCal yX8_append cX8_append 2 (some .int) 1 := ⟨gw_590, gw_1, by decide, by decide, by rfl⟩
set_option maxRecDepth 100000 in
set_option maxHeartbeats 4000000 in
theorem c_X8_append (l : Launch) (G : wG) (M : wM) (hfl : l.stackTraces = false) (L : Nat) (c0 : Int) (hB : TxB (M 27) L) (hc0 : rI c0) : vx_Met l yX8_append (gws yX8_append cX8_append 2 (some .int)) (wrm 6 1 6) (wPc G M [vR G (28, 0), vI c0]) (wQi G (fun z M1 => (0 ≤ c0 ∧ c0 ≤ 255) ∧ L < 200 ∧ z = L + 1 ∧ M1 = wu (wu M 27 1 L c0) 27 0 1 ((L : Int) + 1))) (wQx G (fun E M1 => ((E = "java/lang/IllegalArgumentException" ∧ ¬ (0 ≤ c0 ∧ c0 ≤ 255)) ∨ (E = "java/lang/IllegalStateException" ∧ (0 ≤ c0 ∧ c0 ≤ 255) ∧ ¬ L < 200)) ∧ ScrEq M M1)) 1 6 (wA G) := by
  refine wMetX (lc := [(0, vR G (28, 0)), (1, vI c0)]) (by decide) (Nat.le_of_ble_eq_true rfl) rfl ?_
  intro p e s m args below meth c X hr hex
  have X : wX p s m args meth c G 2 "StateObserver" cX8_append := X
  obtain ⟨hL, hL2, hch⟩ := id hB
  refine r_iload_n (pc' := 1) X 1 dX8_append_0 rfl rfl rfl ?_
  refine r_if_lt (pc' := 4) (tgt := 11) X dX8_append_1 rfl rfl (by omega) (fun h1 => ?_) (fun h1 => ?_)
  · refine r_thA X hfl hex gw_458 ts_591 dX8_append_11 dX8_append_14 dX8_append_15 dX8_append_17 dX8_append_20 (by decide) (by decide) (by decide) (by decide) ?_
    try dsimp only
    exact ⟨(Or.inl ⟨rfl, by omega⟩), ScrEq.rfl⟩
  · refine r_iload_n (pc' := 5) X 1 dX8_append_4 rfl rfl rfl ?_
    refine r_sipush (pc' := 8) X dX8_append_5 rfl rfl ?_
    refine r_icmp_le (pc' := 11) (tgt := 21) X dX8_append_8 rfl rfl (by omega) (by omega) (fun h8 => ?_) (fun h8 => ?_)
    · refine r_aload_n (pc' := 22) X 0 dX8_append_21 rfl rfl rfl ?_
      refine gf_28_text (pc' := 25) X gw_301 dX8_append_22 rfl ?_
      refine gf_27_length (pc' := 28) X gw_218 dX8_append_25 rfl ?_
      refine r_sipush (pc' := 31) X dX8_append_28 rfl rfl ?_
      refine r_icmp_lt (pc' := 34) (tgt := 44) X dX8_append_31 rfl rfl (by omega) (by omega) (fun h31 => ?_) (fun h31 => ?_)
      · refine r_aload_n (pc' := 45) X 0 dX8_append_44 rfl rfl rfl ?_
        refine gf_28_text (pc' := 48) X gw_301 dX8_append_45 rfl ?_
        refine r_iload_n (pc' := 49) X 1 dX8_append_48 rfl rfl rfl ?_
        refine r_i2c (pc' := 50) X dX8_append_49 (by omega) rfl ?_
        refine w_callv (pc' := 53) (st := []) (w_runV X (c_X7_put l G M L c0 (by omega) hL (by omega)) cf_X7_put k27_0 rfl gw_594 gw_595 rfl rfl ⟨Nat.le_of_ble_eq_true rfl, Nat.le_of_ble_eq_true rfl⟩ rfl rfl (Nat.le_of_ble_eq_true rfl) ⟨Nat.le_of_ble_eq_true rfl, Nat.le_of_ble_eq_true rfl⟩ gw_593 dX8_append_50) rfl (fun M1 h50 => ?_)
        refine r_aload_n (pc' := 54) X 0 dX8_append_53 rfl rfl rfl ?_
        refine gf_28_text (pc' := 57) X gw_301 dX8_append_54 rfl ?_
        refine gf_27_length (pc' := 60) X gw_218 dX8_append_57 rfl ?_
        refine w_x (by decide) (by decide) ?_
        refine w_iret X hr dX8_append_60 ?_
        try dsimp only
        refine ⟨by omega, by omega, ?_, h50⟩
        rw [h50]
        unfold wu
        rw [if_pos ⟨rfl, rfl, rfl⟩]
      · refine r_thS X hfl hex gw_474 ts_592 dX8_append_34 dX8_append_37 dX8_append_38 dX8_append_40 dX8_append_43 (by decide) (by decide) (by decide) (by decide) ?_
        try dsimp only
        exact ⟨(Or.inr (⟨rfl, by omega⟩)), ScrEq.rfl⟩
    · refine r_thA X hfl hex gw_458 ts_591 dX8_append_11 dX8_append_14 dX8_append_15 dX8_append_17 dX8_append_20 (by decide) (by decide) (by decide) (by decide) ?_
      try dsimp only
      exact ⟨(Or.inl ⟨rfl, by omega⟩), ScrEq.rfl⟩
theorem cf_X8_clearText : wCal yX8_clearText cX8_clearText 2 (some .int) 0 := ⟨gw_580, gw_1, by decide, by decide, by rfl⟩
set_option maxRecDepth 100000 in
set_option maxHeartbeats 4000000 in
theorem c_X8_clearText (l : Launch) (G : wG) (M : wM) (L : Nat) (hB : TxB (M 27) L) : Met l yX8_clearText (gws yX8_clearText cX8_clearText 2 (some .int)) (wrm 0 0 0) (wPc G M [vR G (28, 0)]) (wQi G (fun z M1 => z = L ∧ M1 = wu M 27 0 1 0)) 0 0 (wA G) := by
  refine wMet (lc := [(0, vR G (28, 0))]) (by decide) (Nat.le_of_ble_eq_true rfl) rfl ?_
  intro p e s m args below meth c X hr
  have X : wX p s m args meth c G 2 "StateObserver" cX8_clearText := X
  obtain ⟨hL, hL2, hch⟩ := id hB
  refine r_aload_n (pc' := 1) X 0 dX8_clearText_0 rfl rfl rfl ?_
  refine gf_28_text (pc' := 4) X gw_301 dX8_clearText_1 rfl ?_
  refine gf_27_length (pc' := 7) X gw_218 dX8_clearText_4 rfl ?_
  refine r_istore_n (pc' := 8) (lc' := [(0, vR G (28, 0)), (1, vI (M 27 0 1))]) X [1, 0] dX8_clearText_7 rfl (by decide) rfl rfl ?_
  refine r_aload_n (pc' := 9) X 0 dX8_clearText_8 rfl rfl rfl ?_
  refine gf_28_text (pc' := 12) X gw_301 dX8_clearText_9 rfl ?_
  refine r_iconst (pc' := 13) X dX8_clearText_12 rfl ?_
  refine pf_27_length (pc' := 16) X gw_218 dX8_clearText_13 rfl (fun M1 hM1 => ?_)
  refine r_iload_n (pc' := 17) X 1 dX8_clearText_16 rfl rfl rfl ?_
  refine w_iret X hr dX8_clearText_17 ?_
  try dsimp only
  exact ⟨hL, hM1⟩
theorem cf_X8_errorPosition : wCal yX8_errorPosition cX8_errorPosition 1 (some .int) 0 := ⟨gw_327, gw_1, by decide, by decide, by rfl⟩
set_option maxRecDepth 100000 in
set_option maxHeartbeats 4000000 in
theorem c_X8_errorPosition (l : Launch) (G : wG) (M : wM) (L : Nat) (hB : TxB (M 27) L) : Met l yX8_errorPosition (gws yX8_errorPosition cX8_errorPosition 1 (some .int)) (wrm 6 0 0) (wPc G M [vR G (28, 0)]) (wQi G (fun z M1 => z = (if (rdE (M 27 1) L).1.2 = 0 then -9 else ((rdE (M 27 1) L).1.1 : Int)) ∧ TxOk (M1 27) L (rdE (M 27 1) L).1 ∧ (∀ a, a ≠ 2 → a ≠ 20 → a ≠ 27 → M1 a = M a) ∧ M1 27 1 = M 27 1 ∧ (∀ b x, ¬ (b = 0 ∧ (x = 7 ∨ x = 8)) → ¬ (6 ≤ b ∧ b < 10) → M1 2 b x = M 2 b x))) 0 0 (wA G) := by
  refine wMet (lc := [(0, vR G (28, 0))]) (by decide) (Nat.le_of_ble_eq_true rfl) rfl ?_
  intro p e s m args below meth c X hr
  have X : wX p s m args meth c G 1 "StateObserver" cX8_errorPosition := X
  refine r_aload_n (pc' := 1) X 0 dX8_errorPosition_0 rfl rfl rfl ?_
  refine gf_28_text (pc' := 4) X gw_301 dX8_errorPosition_1 rfl ?_
  refine w_calli (pc' := 7) (st := []) (w_runV X (c_X7_firstError l G M L hB) cf_X7_firstError k27_0 rfl gw_329 gw_330 rfl rfl ⟨Nat.le_of_ble_eq_true rfl, Nat.le_of_ble_eq_true rfl⟩ rfl rfl (Nat.le_of_ble_eq_true rfl) ⟨Nat.le_of_ble_eq_true rfl, Nat.le_of_ble_eq_true rfl⟩ gw_328 dX8_errorPosition_4) rfl (fun z4 M1 h4 => ?_)
  refine w_iret X hr dX8_errorPosition_7 ?_
  try dsimp only
  exact ⟨h4.1, h4.2.1, h4.2.2.1, h4.2.2.2.1, h4.2.2.2.2.1⟩
theorem cf_X8_load : wCal yX8_load cX8_load 1 (some .int) 0 := ⟨gw_606, gw_1, by decide, by decide, by rfl⟩
set_option maxRecDepth 100000 in
set_option maxHeartbeats 4000000 in
theorem c_X8_load (l : Launch) (G : wG) (M : wM) (hfl : l.stackTraces = false) (L : Nat) (hB : TxB (M 27) L) : vx_Met l yX8_load (gws yX8_load cX8_load 1 (some .int)) (wrm 6 1 6) (wPc G M [vR G (28, 0)]) (wQi G (fun z M1 => (rdE (M 27 1) L).1.2 = 0 ∧ z = (rdN (M 27 1) L : Int) ∧ ∃ M2 : wM, (TxOk (M2 27) L (rdE (M 27 1) L).1 ∧ (∀ a, a ≠ 2 → a ≠ 20 → a ≠ 27 → M2 a = M a) ∧ M2 27 1 = M 27 1 ∧ (∀ b x, ¬ (b = 0 ∧ (x = 7 ∨ x = 8)) → ¬ (6 ≤ b ∧ b < 10) → M2 2 b x = M 2 b x) ∧ TxF M M2 L (rdN (M 27 1) L) (rdP (M 27 1) L) ((hdB (M 27 1) L (0, 0)).1) ((hdH (M 27 1) L (0, 0)).1) (rdS (M 27 1) L) (rdN (M 27 1) L) (rdP (M 27 1) L) ∧ ∀ x y, x < 4 → y < 3 → M2 2 (6 + x) y = (rdE (M 27 1) L).2 x y) ∧ M1 0 = M2 2 ∧ M1 19 = M2 20 ∧ M1 26 0 2 = 0 ∧ M1 25 2 0 = 0 ∧ M1 25 2 1 = 0 ∧ (M1 26 0 1 = M 26 0 1) ∧ ∀ a, a ≠ 0 → a ≠ 19 → a ≠ 25 → a ≠ 26 → M1 a = M2 a)) (wQx G (fun E M1 => E = "java/lang/IllegalStateException" ∧ ¬ (rdE (M 27 1) L).1.2 = 0 ∧ TxOk (M1 27) L (rdE (M 27 1) L).1 ∧ (∀ a, a ≠ 2 → a ≠ 20 → a ≠ 27 → M1 a = M a) ∧ M1 27 1 = M 27 1 ∧ (∀ b x, ¬ (b = 0 ∧ (x = 7 ∨ x = 8)) → ¬ (6 ≤ b ∧ b < 10) → M1 2 b x = M 2 b x))) 1 6 (wA G) := by
  refine wMetX (lc := [(0, vR G (28, 0))]) (by decide) (Nat.le_of_ble_eq_true rfl) rfl ?_
  intro p e s m args below meth c X hr hex
  have X : wX p s m args meth c G 1 "StateObserver" cX8_load := X
  refine r_aload_n (pc' := 1) X 0 dX8_load_0 rfl rfl rfl ?_
  refine gf_28_text (pc' := 4) X gw_301 dX8_load_1 rfl ?_
  refine w_calli (pc' := 7) (st := []) (w_runV X (c_X7_firstError l G M L hB) cf_X7_firstError k27_0 rfl gw_329 gw_330 rfl rfl ⟨Nat.le_of_ble_eq_true rfl, Nat.le_of_ble_eq_true rfl⟩ rfl rfl (Nat.le_of_ble_eq_true rfl) ⟨Nat.le_of_ble_eq_true rfl, Nat.le_of_ble_eq_true rfl⟩ gw_328 dX8_load_4) rfl (fun z4 M1 h4 => ?_)
  have hw := h4.2.1.2.2.2.2.1.2
  have hpl := h4.2.1.2.2.2.2.1.1
  have hL2 := hB.2.1
  refine r_bipush (pc' := 9) X dX8_load_7 rfl rfl ?_
  refine r_icmp_eq (pc' := 12) (tgt := 22) X dX8_load_9 rfl rfl (by omega) (by omega) (fun h9 => ?_) (fun h9 => ?_)
  · refine r_aload_n (pc' := 23) X 0 dX8_load_22 rfl rfl rfl ?_
    refine gf_28_plant (pc' := 26) X gw_296 dX8_load_23 rfl ?_
    refine r_aload_n (pc' := 27) X 0 dX8_load_26 rfl rfl rfl ?_
    refine gf_28_text (pc' := 30) X gw_301 dX8_load_27 rfl ?_
    refine gf_27_plant (pc' := 33) X gw_220 dX8_load_30 rfl ?_
    refine w_callv (pc' := 36) (st := []) (w_runV X (c_X3_copyFrom l G M1 19 20 (by decide) (by decide) (by decide)) cf_X3_copyFrom (kP_0 (by decide)) rfl gw_609 gw_610 rfl rfl ⟨Nat.le_of_ble_eq_true rfl, Nat.le_of_ble_eq_true rfl⟩ rfl rfl (Nat.le_of_ble_eq_true rfl) ⟨Nat.le_of_ble_eq_true rfl, Nat.le_of_ble_eq_true rfl⟩ gw_608 dX8_load_33) rfl (fun M2 h33 => ?_)
    refine r_aload_n (pc' := 37) X 0 dX8_load_36 rfl rfl rfl ?_
    refine gf_28_now (pc' := 40) X gw_297 dX8_load_37 rfl ?_
    refine r_aload_n (pc' := 41) X 0 dX8_load_40 rfl rfl rfl ?_
    refine gf_28_text (pc' := 44) X gw_301 dX8_load_41 rfl ?_
    refine gf_27_start (pc' := 47) X gw_222 dX8_load_44 rfl ?_
    refine w_callv (pc' := 50) (st := []) (w_runV X (c_X1_copyFrom l G M2 0 2 (by decide) (by decide) (by decide)) cf_X1_copyFrom (kM_0 (by decide)) rfl gw_517 gw_518 rfl rfl ⟨Nat.le_of_ble_eq_true rfl, Nat.le_of_ble_eq_true rfl⟩ rfl rfl (Nat.le_of_ble_eq_true rfl) ⟨Nat.le_of_ble_eq_true rfl, Nat.le_of_ble_eq_true rfl⟩ gw_556 dX8_load_47) rfl (fun M3 h47 => ?_)
    refine r_aload_n (pc' := 51) X 0 dX8_load_50 rfl rfl rfl ?_
    refine gf_28_history (pc' := 54) X gw_299 dX8_load_51 rfl ?_
    refine w_callv (pc' := 57) (st := []) (w_runV X (c_X0_forget l G M3 ) cf_X0_forget k26_0 rfl gw_566 gw_567 rfl rfl ⟨Nat.le_of_ble_eq_true rfl, Nat.le_of_ble_eq_true rfl⟩ rfl rfl (Nat.le_of_ble_eq_true rfl) ⟨Nat.le_of_ble_eq_true rfl, Nat.le_of_ble_eq_true rfl⟩ gw_565 dX8_load_54) rfl (fun M4 h54 => ?_)
    refine r_aload_n (pc' := 58) X 0 dX8_load_57 rfl rfl rfl ?_
    refine gf_28_slots (pc' := 61) X gw_300 dX8_load_58 rfl ?_
    refine w_callv (pc' := 64) (st := []) (w_runV X (c_X5_forget l G M4 ) cf_X5_forget k25_0 rfl gw_615 gw_616 rfl rfl ⟨Nat.le_of_ble_eq_true rfl, Nat.le_of_ble_eq_true rfl⟩ rfl rfl (Nat.le_of_ble_eq_true rfl) ⟨Nat.le_of_ble_eq_true rfl, Nat.le_of_ble_eq_true rfl⟩ gw_614 dX8_load_61) rfl (fun M5 h61 => ?_)
    refine r_aload_n (pc' := 65) X 0 dX8_load_64 rfl rfl rfl ?_
    refine gf_28_plant (pc' := 68) X gw_296 dX8_load_65 rfl ?_
    refine gf_P_n (pc' := 71) X (by decide) gw_38 dX8_load_68 rfl ?_
    refine w_x (by decide) (by decide) ?_
    refine w_iret X hr dX8_load_71 ?_
    try dsimp only
    have hz0 : (rdE (M 27 1) L).1.2 = 0 := by
      rcases hw with q | q
      · exact q
      · rw [if_neg (by omega)] at h4; omega
    have hv := h4.2.2.2.2.2 hz0
    have e0 : M5 0 = M1 2 := by
      rw [h61, wu_o (by decide), wu_o (by decide), h54, wu_o (by decide), h47]
      unfold wo
      rw [if_pos rfl, h33]
      unfold wo
      rw [if_neg (by decide)]
    have e19 : M5 19 = M1 20 := by
      rw [h61, wu_o (by decide), wu_o (by decide), h54, wu_o (by decide), h47]
      unfold wo
      rw [if_neg (by decide), h33]
      unfold wo
      rw [if_pos rfl]
    have eo : ∀ a, a ≠ 0 → a ≠ 19 → a ≠ 25 → a ≠ 26 → M5 a = M1 a := fun a h1 h2 h3 h4' => by
      rw [h61, wu_o h3, wu_o h3, h54, wu_o h4', h47]
      unfold wo
      rw [if_neg h1, h33]
      unfold wo
      rw [if_neg h2]
    refine ⟨hz0, ?_, M1, ⟨h4.2.1, h4.2.2.1, h4.2.2.2.1, h4.2.2.2.2.1, hv.1, hv.2⟩, e0, e19, ?_, ?_, ?_, ?_, eo⟩
    · rw [e19]
      exact hv.1.2.2.2.1
    · rw [h61, wu_o (by decide), wu_o (by decide), h54]
      unfold wu
      rw [if_pos ⟨rfl, rfl, rfl⟩]
    · rw [h61]
      unfold wu
      rw [if_neg (by omega), if_pos ⟨rfl, rfl, rfl⟩]
    · rw [h61]
      unfold wu
      rw [if_pos ⟨rfl, rfl, rfl⟩]
    · rw [h61, wu_o (by decide), wu_o (by decide), h54]
      unfold wu
      rw [if_neg (by omega), h47]
      unfold wo
      rw [if_neg (by decide), h33]
      unfold wo
      rw [if_neg (by decide), h4.2.2.1 26 (by decide) (by decide) (by decide)]
  · refine r_thS X hfl hex gw_474 ts_607 dX8_load_12 dX8_load_15 dX8_load_16 dX8_load_18 dX8_load_21 (by decide) (by decide) (by decide) (by decide) ?_
    try dsimp only
    have hne : ¬ (rdE (M 27 1) L).1.2 = 0 := fun q => by rw [if_pos q] at h4; omega
    exact ⟨rfl, hne, h4.2.1, h4.2.2.1, h4.2.2.2.1, h4.2.2.2.2.1⟩
theorem cf_X8_about : wCal yX8_about cX8_about 2 (some .int) 1 := ⟨gw_686, gw_1, by decide, by decide, by rfl⟩
set_option maxRecDepth 100000 in
set_option maxHeartbeats 4000000 in
theorem c_X8_about (l : Launch) (G : wG) (M : wM) (hfl : l.stackTraces = false) (N P : Nat) (T : Int) (hck : COk M N P T) (hT6 : T ≤ 1000000) (w : Int) (hw : rI w) : vx_Met l yX8_about (gws yX8_about cX8_about 2 (some .int)) (wrm 6 1 6) (wPc G M [vR G (28, 0), vI w]) (wQi G (fun z M1 => (0 ≤ w ∧ w ≤ 4) ∧ z = aboutF N P (M 0) w ∧ M1 = M)) (wQx G (fun E M1 => ((E = "java/lang/IllegalArgumentException" ∧ ¬ (0 ≤ w ∧ w ≤ 4))) ∧ ScrEq M M1)) 1 6 (wA G) := by
  refine wMetX (lc := [(0, vR G (28, 0)), (1, vI w)]) (by decide) (Nat.le_of_ble_eq_true rfl) rfl ?_
  intro p e s m args below meth c X hr hex
  have X : wX p s m args meth c G 2 "StateObserver" cX8_about := X
  obtain ⟨hp, hm, hbx⟩ := id hck
  obtain ⟨hN, hN1, hN4, hP, hP1, hP3, hA, hB, hE, hC, hQ⟩ := id hp
  obtain ⟨hT, hL, hU, hS, hG, hY, hAg, hHo, hBo, hTi, hLi, hLb, hLl, hLh⟩ := id hm
  refine r_iload_n (pc' := 1) X 1 dX8_about_0 rfl rfl rfl ?_
  by_cases hs1 : 0 ≤ w ∧ w ≤ 4
  · rcases (show w = 0 ∨ w = 1 ∨ w = 2 ∨ w = 3 ∨ w = 4 by omega) with hs1 | hs1 | hs1 | hs1 | hs1
    · refine r_tsw (v := 0) (tgt := 36) X dX8_about_1 hs1 (by decide) (by decide) (by decide) rfl rfl ?_
      refine r_aload_n (pc' := 37) X 0 dX8_about_36 rfl rfl rfl ?_
      refine gf_28_plant (pc' := 40) X gw_296 dX8_about_37 rfl ?_
      refine gf_P_n (pc' := 43) X (by decide) gw_38 dX8_about_40 rfl ?_
      refine w_x (by decide) (by decide) ?_
      refine w_iret X hr dX8_about_43 ?_
      try dsimp only
      refine ⟨by omega, ?_, rfl⟩
      unfold aboutF
      rw [hs1]
      first | exact hN | exact hP | rfl
    · refine r_tsw (v := 1) (tgt := 44) X dX8_about_1 hs1 (by decide) (by decide) (by decide) rfl rfl ?_
      refine r_aload_n (pc' := 45) X 0 dX8_about_44 rfl rfl rfl ?_
      refine gf_28_plant (pc' := 48) X gw_296 dX8_about_45 rfl ?_
      refine gf_P_p (pc' := 51) X (by decide) gw_43 dX8_about_48 rfl ?_
      refine w_x (by decide) (by decide) ?_
      refine w_iret X hr dX8_about_51 ?_
      try dsimp only
      refine ⟨by omega, ?_, rfl⟩
      unfold aboutF
      rw [hs1]
      first | exact hN | exact hP | rfl
    · refine r_tsw (v := 2) (tgt := 52) X dX8_about_1 hs1 (by decide) (by decide) (by decide) rfl rfl ?_
      refine r_aload_n (pc' := 53) X 0 dX8_about_52 rfl rfl rfl ?_
      refine gf_28_now (pc' := 56) X gw_297 dX8_about_53 rfl ?_
      refine gf_M_bound (pc' := 59) X (by decide) gw_123 dX8_about_56 rfl ?_
      refine w_x (by decide) (by decide) ?_
      refine w_iret X hr dX8_about_59 ?_
      try dsimp only
      refine ⟨by omega, ?_, rfl⟩
      unfold aboutF
      rw [hs1]
      first | exact hN | exact hP | rfl
    · refine r_tsw (v := 3) (tgt := 60) X dX8_about_1 hs1 (by decide) (by decide) (by decide) rfl rfl ?_
      refine r_aload_n (pc' := 61) X 0 dX8_about_60 rfl rfl rfl ?_
      refine gf_28_now (pc' := 64) X gw_297 dX8_about_61 rfl ?_
      refine gf_M_hold (pc' := 67) X (by decide) gw_119 dX8_about_64 rfl ?_
      refine w_x (by decide) (by decide) ?_
      refine w_iret X hr dX8_about_67 ?_
      try dsimp only
      refine ⟨by omega, ?_, rfl⟩
      unfold aboutF
      rw [hs1]
      first | exact hN | exact hP | rfl
    · refine r_tsw (v := 4) (tgt := 68) X dX8_about_1 hs1 (by decide) (by decide) (by decide) rfl rfl ?_
      refine r_aload_n (pc' := 69) X 0 dX8_about_68 rfl rfl rfl ?_
      refine gf_28_now (pc' := 72) X gw_297 dX8_about_69 rfl ?_
      refine gf_M_time (pc' := 75) X (by decide) gw_126 dX8_about_72 rfl ?_
      refine w_x (by decide) (by decide) ?_
      refine w_iret X hr dX8_about_75 ?_
      try dsimp only
      refine ⟨by omega, ?_, rfl⟩
      unfold aboutF
      rw [hs1]
      first | exact hN | exact hP | rfl
  · refine r_tswD (tgt := 76) X dX8_about_1 (by omega) (by omega) rfl ?_
    refine r_thA X hfl hex gw_458 ts_687 dX8_about_76 dX8_about_79 dX8_about_80 dX8_about_82 dX8_about_85 (by decide) (by decide) (by decide) (by decide) ?_
    try dsimp only
    exact ⟨⟨rfl, by omega⟩, ScrEq.rfl⟩
theorem cf_X8_width : wCal yX8_width cX8_width 1 (some .int) 0 := ⟨gw_371, gw_1, by decide, by decide, by rfl⟩
set_option maxRecDepth 100000 in
set_option maxHeartbeats 4000000 in
theorem c_X8_width (l : Launch) (G : wG) (M : wM) (N P : Nat) (T : Int) (hck : COk M N P T) (hT6 : T ≤ 1000000) : Met l yX8_width (gws yX8_width cX8_width 1 (some .int)) (wrm 1 0 0) (wPc G M [vR G (28, 0)]) (wQi G (fun z M1 => z = wid N (M 0 2) (M 0 3) ∧ M1 = M)) 0 0 (wA G) := by
  refine wMet (lc := [(0, vR G (28, 0))]) (by decide) (Nat.le_of_ble_eq_true rfl) rfl ?_
  intro p e s m args below meth c X hr
  have X : wX p s m args meth c G 1 "StateObserver" cX8_width := X
  obtain ⟨hp, hm, hbx⟩ := id hck
  obtain ⟨hN, hN1, hN4, hP, hP1, hP3, hA, hB, hE, hC, hQ⟩ := id hp
  obtain ⟨hT, hL, hU, hS, hG, hY, hAg, hHo, hBo, hTi, hLi, hLb, hLl, hLh⟩ := id hm
  refine r_aload_n (pc' := 1) X 0 dX8_width_0 rfl rfl rfl ?_
  refine gf_28_plant (pc' := 4) X gw_296 dX8_width_1 rfl ?_
  refine r_aload_n (pc' := 5) X 0 dX8_width_4 rfl rfl rfl ?_
  refine gf_28_now (pc' := 8) X gw_297 dX8_width_5 rfl ?_
  refine w_calli (pc' := 11) (st := []) (w_runV X (c_X3_widthOf l G M 19 0 N (by decide) (by decide) hN hN4) cf_X3_widthOf (kP_0 (by decide)) rfl gw_373 gw_374 rfl rfl ⟨Nat.le_of_ble_eq_true rfl, Nat.le_of_ble_eq_true rfl⟩ rfl rfl (Nat.le_of_ble_eq_true rfl) ⟨Nat.le_of_ble_eq_true rfl, Nat.le_of_ble_eq_true rfl⟩ gw_372 dX8_width_8) rfl (fun z8 M1 h8 => ?_)
  obtain rfl := h8.1.symm
  obtain rfl := h8.2.symm
  refine w_iret X hr dX8_width_11 ?_
  try dsimp only
  exact ⟨rfl, rfl⟩
