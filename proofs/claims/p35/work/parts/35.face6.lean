theorem cf_X8_undo : wCal yX8_undo cX8_undo 1 (some .int) 0 := ⟨gw_510, gw_1, by decide, by decide, by rfl⟩
set_option maxRecDepth 100000 in
set_option maxHeartbeats 4000000 in
theorem c_X8_undo (l : Launch) (G : wG) (M : wM) (hfl : l.stackTraces = false) (N P : Nat) (T : Int) (hck : COk M N P T) (hT6 : T ≤ 1000000) (nx ct : Nat) (hnx : M 26 0 1 = (nx : Int)) (hnx14 : nx < 14) (hct : M 26 0 2 = (ct : Int)) (hct14 : ct ≤ 14) : vx_Met l yX8_undo (gws yX8_undo cX8_undo 1 (some .int)) (wrm 6 1 6) (wPc G M [vR G (28, 0)]) (wQi G (fun z M1 => 1 ≤ ct ∧ z = (ct : Int) - 1 ∧ M1 0 = M (5 + (nx + 13) % 14) ∧ M1 26 0 1 = ((((nx + 13) % 14) : Nat) : Int) ∧ M1 26 0 2 = (ct : Int) - 1 ∧ ∀ a, a ≠ 0 → a ≠ 26 → M1 a = M a)) (wQx G (fun E M1 => ((E = "java/lang/IllegalStateException" ∧ ct = 0)) ∧ ScrEq M M1)) 1 6 (wA G) := by
  refine wMetX (lc := [(0, vR G (28, 0))]) (by decide) (Nat.le_of_ble_eq_true rfl) rfl ?_
  intro p e s m args below meth c X hr hex
  have X : wX p s m args meth c G 1 "StateObserver" cX8_undo := X
  refine r_aload_n (pc' := 1) X 0 dX8_undo_0 rfl rfl rfl ?_
  refine gf_28_history (pc' := 4) X gw_299 dX8_undo_1 rfl ?_
  refine gf_26_count (pc' := 7) X gw_180 dX8_undo_4 rfl ?_
  refine r_if_ne (pc' := 10) (tgt := 20) X dX8_undo_7 rfl rfl (by omega) (fun h7 => ?_) (fun h7 => ?_)
  · refine r_aload_n (pc' := 21) X 0 dX8_undo_20 rfl rfl rfl ?_
    refine gf_28_history (pc' := 24) X gw_299 dX8_undo_21 rfl ?_
    refine r_aload_n (pc' := 25) X 0 dX8_undo_24 rfl rfl rfl ?_
    refine gf_28_now (pc' := 28) X gw_297 dX8_undo_25 rfl ?_
    refine w_callv (pc' := 31) (st := []) (w_runV X (c_X0_takeBack l G M 0 (by decide) nx ct (by first | assumption | omega) (by first | assumption | omega) (by first | assumption | omega) (by first | assumption | omega) (by omega)) cf_X0_takeBack k26_0 rfl gw_513 gw_514 rfl rfl ⟨Nat.le_of_ble_eq_true rfl, Nat.le_of_ble_eq_true rfl⟩ rfl rfl (Nat.le_of_ble_eq_true rfl) ⟨Nat.le_of_ble_eq_true rfl, Nat.le_of_ble_eq_true rfl⟩ gw_512 dX8_undo_28) rfl (fun M1 h28 => ?_)
    refine r_aload_n (pc' := 32) X 0 dX8_undo_31 rfl rfl rfl ?_
    refine gf_28_history (pc' := 35) X gw_299 dX8_undo_32 rfl ?_
    refine gf_26_count (pc' := 38) X gw_180 dX8_undo_35 rfl ?_
    refine w_x (by decide) (by decide) ?_
    refine w_iret X hr dX8_undo_38 ?_
    try dsimp only
    have e2 : M1 26 0 2 = (ct : Int) - 1 := by rw [h28]; unfold wo; rw [if_neg (by decide)]; unfold wu; rw [if_pos ⟨rfl, rfl, rfl⟩]
    refine ⟨by omega, e2, ?_, ?_, e2, fun a h0 h26 => ?_⟩
    · rw [h28]; unfold wo; rw [if_pos rfl]
    · rw [h28]; unfold wo; rw [if_neg (by decide)]; unfold wu; rw [if_neg (by omega), if_pos ⟨rfl, rfl, rfl⟩]
    · rw [h28]; unfold wo; rw [if_neg h0, wu_o h26, wu_o h26]
  · refine r_thS X hfl hex gw_474 ts_511 dX8_undo_10 dX8_undo_13 dX8_undo_14 dX8_undo_16 dX8_undo_19 (by decide) (by decide) (by decide) (by decide) ?_
    try dsimp only
    exact ⟨⟨rfl, by omega⟩, ScrEq.rfl⟩
theorem cf_X8_save : wCal yX8_save cX8_save 2 (some .int) 1 := ⟨gw_554, gw_1, by decide, by decide, by rfl⟩
set_option maxRecDepth 100000 in
set_option maxHeartbeats 4000000 in
theorem c_X8_save (l : Launch) (G : wG) (M : wM) (hfl : l.stackTraces = false) (s0 : Int) (hs0 : rI s0) : vx_Met l yX8_save (gws yX8_save cX8_save 2 (some .int)) (wrm 6 1 6) (wPc G M [vR G (28, 0), vI s0]) (wQi G (fun z M1 => (0 ≤ s0 ∧ s0 ≤ 1) ∧ z = M 0 0 9 ∧ M1 (3 + s0.toNat) = M 0 ∧ M1 25 2 s0.toNat = 1 ∧ (∀ x, x ≠ s0.toNat → M1 25 2 x = M 25 2 x) ∧ ∀ a, a ≠ 3 + s0.toNat → a ≠ 25 → M1 a = M a)) (wQx G (fun E M1 => ((E = "java/lang/IndexOutOfBoundsException" ∧ ¬ (0 ≤ s0 ∧ s0 ≤ 1))) ∧ ScrEq M M1)) 1 6 (wA G) := by
  refine wMetX (lc := [(0, vR G (28, 0)), (1, vI s0)]) (by decide) (Nat.le_of_ble_eq_true rfl) rfl ?_
  intro p e s m args below meth c X hr hex
  have X : wX p s m args meth c G 2 "StateObserver" cX8_save := X
  refine r_iload_n (pc' := 1) X 1 dX8_save_0 rfl rfl rfl ?_
  refine r_if_lt (pc' := 4) (tgt := 9) X dX8_save_1 rfl rfl (by omega) (fun h1 => ?_) (fun h1 => ?_)
  · refine r_thXW X hfl hex gw_390 ts_555 dX8_save_9 dX8_save_12 dX8_save_13 dX8_save_16 dX8_save_19 (by decide) (by decide) (by decide) (by decide) ?_
    try dsimp only
    exact ⟨⟨rfl, by omega⟩, ScrEq.rfl⟩
  · refine r_iload_n (pc' := 5) X 1 dX8_save_4 rfl rfl rfl ?_
    refine r_iconst (pc' := 6) X dX8_save_5 rfl ?_
    refine r_icmp_lt (pc' := 9) (tgt := 20) X dX8_save_6 rfl rfl (by omega) (by omega) (fun h6 => ?_) (fun h6 => ?_)
    · refine r_aload_n (pc' := 21) X 0 dX8_save_20 rfl rfl rfl ?_
      refine gf_28_slots (pc' := 24) X gw_300 dX8_save_21 rfl ?_
      refine gf_25_moments (pc' := 27) X gw_197 dX8_save_24 rfl ?_
      refine r_iload_n (pc' := 28) X 1 dX8_save_27 rfl rfl rfl ?_
      refine r_aald (i := s0.toNat) (x := ((3 + s0.toNat), 0)) (pc' := 29) X k25_1 (by decide) (by omega) (by omega) (by decide) rfl dX8_save_28 rfl ?_
      refine r_aload_n (pc' := 30) X 0 dX8_save_29 rfl rfl rfl ?_
      refine gf_28_now (pc' := 33) X gw_297 dX8_save_30 rfl ?_
      refine w_callv (pc' := 36) (st := []) (w_runV X (c_X1_copyFrom l G M (3 + s0.toNat) 0 (by omega) (by decide) (by omega)) cf_X1_copyFrom (kM_0 (by omega)) rfl gw_517 gw_518 rfl rfl ⟨Nat.le_of_ble_eq_true rfl, Nat.le_of_ble_eq_true rfl⟩ rfl rfl (Nat.le_of_ble_eq_true rfl) ⟨Nat.le_of_ble_eq_true rfl, Nat.le_of_ble_eq_true rfl⟩ gw_556 dX8_save_33) rfl (fun M1 h33 => ?_)
      refine r_aload_n (pc' := 37) X 0 dX8_save_36 rfl rfl rfl ?_
      refine gf_28_slots (pc' := 40) X gw_300 dX8_save_37 rfl ?_
      refine gf_25_filled (pc' := 43) X gw_199 dX8_save_40 rfl ?_
      refine r_iload_n (pc' := 44) X 1 dX8_save_43 rfl rfl rfl ?_
      refine r_iconst (pc' := 45) X dX8_save_44 rfl ?_
      refine r_zast (i := s0.toNat) (pc' := 46) X k25_2 (by omega) (by omega) (by decide) (by first | omega | decide) dX8_save_45 rfl (fun M2 hM2 => ?_)
      refine r_aload_n (pc' := 47) X 0 dX8_save_46 rfl rfl rfl ?_
      refine gf_28_now (pc' := 50) X gw_297 dX8_save_47 rfl ?_
      refine gf_M_time (pc' := 53) X (by decide) gw_126 dX8_save_50 rfl ?_
      refine w_x (by decide) (by decide) ?_
      refine w_iret X hr dX8_save_53 ?_
      try dsimp only
      have e3 : M2 (3 + s0.toNat) = M 0 := by rw [hM2, wu_o (by omega), h33]; unfold wo; rw [if_pos rfl]
      have eo : ∀ a, a ≠ 3 + s0.toNat → a ≠ 25 → M2 a = M a := fun a h1 h2 => by rw [hM2, wu_o h2, h33]; unfold wo; rw [if_neg h1]
      refine ⟨by omega, by rw [eo 0 (by omega) (by omega)], e3, ?_, fun x hx => ?_, eo⟩
      · rw [hM2]; unfold wu; rw [if_pos ⟨rfl, rfl, rfl⟩]
      · rw [hM2]; unfold wu; rw [if_neg (by omega), h33]; unfold wo; rw [if_neg (by omega)]
    · refine r_thXW X hfl hex gw_390 ts_555 dX8_save_9 dX8_save_12 dX8_save_13 dX8_save_16 dX8_save_19 (by decide) (by decide) (by decide) (by decide) ?_
      try dsimp only
      exact ⟨⟨rfl, by omega⟩, ScrEq.rfl⟩
theorem cf_X8_restore : wCal yX8_restore cX8_restore 2 (some .int) 1 := ⟨gw_563, gw_1, by decide, by decide, by rfl⟩
set_option maxRecDepth 100000 in
set_option maxHeartbeats 4000000 in
theorem c_X8_restore (l : Launch) (G : wG) (M : wM) (hfl : l.stackTraces = false) (s0 : Int) (hs0 : rI s0) (hf01 : ∀ x, x < 2 → M 25 2 x = 0 ∨ M 25 2 x = 1) : vx_Met l yX8_restore (gws yX8_restore cX8_restore 2 (some .int)) (wrm 6 1 6) (wPc G M [vR G (28, 0), vI s0]) (wQi G (fun z M1 => (0 ≤ s0 ∧ s0 ≤ 1) ∧ M 25 2 s0.toNat = 1 ∧ z = M (3 + s0.toNat) 0 9 ∧ M1 0 = M (3 + s0.toNat) ∧ M1 26 0 2 = 0 ∧ M1 26 0 1 = M 26 0 1 ∧ ∀ a, a ≠ 0 → a ≠ 26 → M1 a = M a)) (wQx G (fun E M1 => ((E = "java/lang/IndexOutOfBoundsException" ∧ ¬ (0 ≤ s0 ∧ s0 ≤ 1)) ∨ (E = "java/lang/IllegalStateException" ∧ (0 ≤ s0 ∧ s0 ≤ 1) ∧ M 25 2 s0.toNat = 0)) ∧ ScrEq M M1)) 1 6 (wA G) := by
  refine wMetX (lc := [(0, vR G (28, 0)), (1, vI s0)]) (by decide) (Nat.le_of_ble_eq_true rfl) rfl ?_
  intro p e s m args below meth c X hr hex
  have X : wX p s m args meth c G 2 "StateObserver" cX8_restore := X
  refine r_iload_n (pc' := 1) X 1 dX8_restore_0 rfl rfl rfl ?_
  refine r_if_lt (pc' := 4) (tgt := 9) X dX8_restore_1 rfl rfl (by omega) (fun h1 => ?_) (fun h1 => ?_)
  · refine r_thXW X hfl hex gw_390 ts_555 dX8_restore_9 dX8_restore_12 dX8_restore_13 dX8_restore_16 dX8_restore_19 (by decide) (by decide) (by decide) (by decide) ?_
    try dsimp only
    exact ⟨(Or.inl ⟨rfl, by omega⟩), ScrEq.rfl⟩
  · refine r_iload_n (pc' := 5) X 1 dX8_restore_4 rfl rfl rfl ?_
    refine r_iconst (pc' := 6) X dX8_restore_5 rfl ?_
    refine r_icmp_lt (pc' := 9) (tgt := 20) X dX8_restore_6 rfl rfl (by omega) (by omega) (fun h6 => ?_) (fun h6 => ?_)
    · refine r_aload_n (pc' := 21) X 0 dX8_restore_20 rfl rfl rfl ?_
      refine gf_28_slots (pc' := 24) X gw_300 dX8_restore_21 rfl ?_
      refine gf_25_filled (pc' := 27) X gw_199 dX8_restore_24 rfl ?_
      refine r_iload_n (pc' := 28) X 1 dX8_restore_27 rfl rfl rfl ?_
      refine r_zald (i := s0.toNat) (pc' := 29) X k25_2 (by omega) (by omega) (by decide) dX8_restore_28 rfl ?_
      have hb01 := hf01 s0.toNat (by omega)
      refine r_if_ne (pc' := 32) (tgt := 43) X dX8_restore_29 rfl rfl (by omega) (fun h29 => ?_) (fun h29 => ?_)
      · refine r_aload_n (pc' := 44) X 0 dX8_restore_43 rfl rfl rfl ?_
        refine gf_28_now (pc' := 47) X gw_297 dX8_restore_44 rfl ?_
        refine r_aload_n (pc' := 48) X 0 dX8_restore_47 rfl rfl rfl ?_
        refine gf_28_slots (pc' := 51) X gw_300 dX8_restore_48 rfl ?_
        refine gf_25_moments (pc' := 54) X gw_197 dX8_restore_51 rfl ?_
        refine r_iload_n (pc' := 55) X 1 dX8_restore_54 rfl rfl rfl ?_
        refine r_aald (i := s0.toNat) (x := ((3 + s0.toNat), 0)) (pc' := 56) X k25_1 (by decide) (by omega) (by omega) (by decide) rfl dX8_restore_55 rfl ?_
        refine w_callv (pc' := 59) (st := []) (w_runV X (c_X1_copyFrom l G M 0 (3 + s0.toNat) (by decide) (by omega) (by omega)) cf_X1_copyFrom (kM_0 (by decide)) rfl gw_517 gw_518 rfl rfl ⟨Nat.le_of_ble_eq_true rfl, Nat.le_of_ble_eq_true rfl⟩ rfl rfl (Nat.le_of_ble_eq_true rfl) ⟨Nat.le_of_ble_eq_true rfl, Nat.le_of_ble_eq_true rfl⟩ gw_556 dX8_restore_56) rfl (fun M1 h56 => ?_)
        refine r_aload_n (pc' := 60) X 0 dX8_restore_59 rfl rfl rfl ?_
        refine gf_28_history (pc' := 63) X gw_299 dX8_restore_60 rfl ?_
        refine w_callv (pc' := 66) (st := []) (w_runV X (c_X0_forget l G M1 ) cf_X0_forget k26_0 rfl gw_566 gw_567 rfl rfl ⟨Nat.le_of_ble_eq_true rfl, Nat.le_of_ble_eq_true rfl⟩ rfl rfl (Nat.le_of_ble_eq_true rfl) ⟨Nat.le_of_ble_eq_true rfl, Nat.le_of_ble_eq_true rfl⟩ gw_565 dX8_restore_63) rfl (fun M2 h63 => ?_)
        refine r_aload_n (pc' := 67) X 0 dX8_restore_66 rfl rfl rfl ?_
        refine gf_28_now (pc' := 70) X gw_297 dX8_restore_67 rfl ?_
        refine gf_M_time (pc' := 73) X (by decide) gw_126 dX8_restore_70 rfl ?_
        refine w_x (by decide) (by decide) ?_
        refine w_iret X hr dX8_restore_73 ?_
        try dsimp only
        have e0 : M2 0 = M (3 + s0.toNat) := by rw [h63, wu_o (by decide), h56]; unfold wo; rw [if_pos rfl]
        refine ⟨by omega, by omega, by rw [e0], e0, ?_, ?_, fun a h0 h26 => ?_⟩
        · rw [h63]; unfold wu; rw [if_pos ⟨rfl, rfl, rfl⟩]
        · rw [h63]; unfold wu; rw [if_neg (by omega), h56]; unfold wo; rw [if_neg (by decide)]
        · rw [h63, wu_o h26, h56]; unfold wo; rw [if_neg h0]
      · refine r_thSW X hfl hex gw_474 ts_564 dX8_restore_32 dX8_restore_35 dX8_restore_36 dX8_restore_39 dX8_restore_42 (by decide) (by decide) (by decide) (by decide) ?_
        try dsimp only
        exact ⟨(Or.inr (⟨rfl, by omega⟩)), ScrEq.rfl⟩
    · refine r_thXW X hfl hex gw_390 ts_555 dX8_restore_9 dX8_restore_12 dX8_restore_13 dX8_restore_16 dX8_restore_19 (by decide) (by decide) (by decide) (by decide) ?_
      try dsimp only
      exact ⟨(Or.inl ⟨rfl, by omega⟩), ScrEq.rfl⟩
theorem cf_X8_cannotHave : wCal yX8_cannotHave cX8_cannotHave 3 (some .boolean) 2 := ⟨gw_814, gw_1, by decide, by decide, by rfl⟩
set_option maxRecDepth 100000 in
set_option maxHeartbeats 4000000 in
theorem c_X8_cannotHave (l : Launch) (G : wG) (M : wM) (N P : Nat) (T : Int) (hck : COk M N P T) (hT6 : T ≤ 1000000) (i v : Int) (hi : 0 ≤ i ∧ i < N) (hv : -1000000 ≤ v ∧ v ≤ 1000000) : Met l yX8_cannotHave (gws yX8_cannotHave cX8_cannotHave 3 (some .boolean)) (wrm 4 0 0) (wPc G M [vR G (28, 0), vI i, vI v]) (wQi G (fun z M1 => z = (if (tight N P (M 19) (M 0 10) (M 0 11) 100 (up1 (M 0 2) i.toNat v) (up1 (M 0 3) i.toNat v)).1 = 2 then 1 else 0) ∧ ∀ a, a ≠ 1 → M1 a = M a)) 0 0 (wA G) := by
  refine wMet (lc := [(0, vR G (28, 0)), (1, vI i), (2, vI v)]) (by decide) (Nat.le_of_ble_eq_true rfl) rfl ?_
  intro p e s m args below meth c X hr
  have X : wX p s m args meth c G 3 "StateObserver" cX8_cannotHave := X
  obtain ⟨hp, hm, hbx⟩ := id hck
  obtain ⟨hN, hN1, hN4, hP, hP1, hP3, hA, hB, hE, hC, hQ⟩ := id hp
  obtain ⟨hT, hL, hU, hS, hG, hY, hAg, hHo, hBo, hTi, hLi, hLb, hLl, hLh⟩ := id hm
  refine r_aload_n (pc' := 1) X 0 dX8_cannotHave_0 rfl rfl rfl ?_
  refine gf_28_copy (pc' := 4) X gw_298 dX8_cannotHave_1 rfl ?_
  refine r_aload_n (pc' := 5) X 0 dX8_cannotHave_4 rfl rfl rfl ?_
  refine gf_28_now (pc' := 8) X gw_297 dX8_cannotHave_5 rfl ?_
  refine w_callv (pc' := 11) (st := []) (w_runV X (c_X1_copyFrom l G M 1 0 (by decide) (by decide) (by decide)) cf_X1_copyFrom (kM_0 (by decide)) rfl gw_517 gw_518 rfl rfl ⟨Nat.le_of_ble_eq_true rfl, Nat.le_of_ble_eq_true rfl⟩ rfl rfl (Nat.le_of_ble_eq_true rfl) ⟨Nat.le_of_ble_eq_true rfl, Nat.le_of_ble_eq_true rfl⟩ gw_556 dX8_cannotHave_8) rfl (fun M1 h8 => ?_)
  have ecp : M1 1 = M 0 := by rw [h8]; unfold wo; rw [if_pos rfl]
  have ecf : ∀ a, a ≠ 1 → M1 a = M a := fun a ha => by rw [h8]; unfold wo; rw [if_neg ha]
  refine r_aload_n (pc' := 12) X 0 dX8_cannotHave_11 rfl rfl rfl ?_
  refine gf_28_copy (pc' := 15) X gw_298 dX8_cannotHave_12 rfl ?_
  refine gf_M_lower (pc' := 18) X (by decide) gw_96 dX8_cannotHave_15 rfl ?_
  refine r_iload_n (pc' := 19) X 1 dX8_cannotHave_18 rfl rfl rfl ?_
  refine r_iload_n (pc' := 20) X 2 dX8_cannotHave_19 rfl rfl rfl ?_
  refine r_iast (i := i.toNat) (pc' := 21) X (kM_2 (by decide)) (by omega) (by omega) (by decide) dX8_cannotHave_20 rfl (fun M2 hM2 => ?_)
  refine r_aload_n (pc' := 22) X 0 dX8_cannotHave_21 rfl rfl rfl ?_
  refine gf_28_copy (pc' := 25) X gw_298 dX8_cannotHave_22 rfl ?_
  refine gf_M_upper (pc' := 28) X (by decide) gw_100 dX8_cannotHave_25 rfl ?_
  refine r_iload_n (pc' := 29) X 1 dX8_cannotHave_28 rfl rfl rfl ?_
  refine r_iload_n (pc' := 30) X 2 dX8_cannotHave_29 rfl rfl rfl ?_
  refine r_iast (i := i.toNat) (pc' := 31) X (kM_3 (by decide)) (by omega) (by omega) (by decide) dX8_cannotHave_30 rfl (fun M3 hM3 => ?_)
  have hlh : M3 = setLH M1 1 (up1 (M 0 2) i.toNat v) (up1 (M 0 3) i.toNat v) := by rw [hM3, hM2, setLH_up, ecp]
  have eo : ∀ a, a ≠ 1 → M3 a = M a := fun a ha => by rw [hlh, setLH_o ha]; exact ecf a ha
  have e19 := eo 19 (by decide)
  have e2 : M3 1 2 = up1 (M 0 2) i.toNat v := by rw [hlh, setLH_2]
  have e3 : M3 1 3 = up1 (M 0 3) i.toNat v := by rw [hlh, setLH_3]
  have m10 : M3 1 10 = M 0 10 := by rw [hlh, setLH_ne (by omega), ecp]
  have m11 : M3 1 11 = M 0 11 := by rw [hlh, setLH_ne (by omega), ecp]
  have hb2 : BoxOk N (M3 1 2) (M3 1 3) := by
    rw [e2, e3]
    intro j hj
    have := hbx j hj
    unfold up1
    split <;> omega
  have hm2 : MoOk (M3 1) N P T := by rw [hlh]; exact MoOk_box (by rw [ecp]; exact hm) (by rw [← e2, ← e3]; exact hb2)
  refine r_aload_n (pc' := 32) X 0 dX8_cannotHave_31 rfl rfl rfl ?_
  refine gf_28_motion (pc' := 35) X gw_302 dX8_cannotHave_32 rfl ?_
  refine r_aload_n (pc' := 36) X 0 dX8_cannotHave_35 rfl rfl rfl ?_
  refine gf_28_plant (pc' := 39) X gw_296 dX8_cannotHave_36 rfl ?_
  refine r_aload_n (pc' := 40) X 0 dX8_cannotHave_39 rfl rfl rfl ?_
  refine gf_28_copy (pc' := 43) X gw_298 dX8_cannotHave_40 rfl ?_
  refine w_calli (pc' := 46) (st := []) (w_runV X (c_X2_tighten l G M3 19 1 N P T (by decide) (by decide) (by rw [e19]; exact hp) hm2 (by first | assumption | omega) hb2) cf_X2_tighten k21_0 rfl gw_788 gw_789 rfl rfl ⟨Nat.le_of_ble_eq_true rfl, Nat.le_of_ble_eq_true rfl⟩ rfl rfl (Nat.le_of_ble_eq_true rfl) ⟨Nat.le_of_ble_eq_true rfl, Nat.le_of_ble_eq_true rfl⟩ gw_815 dX8_cannotHave_43) rfl (fun z43 M4 h43 => ?_)
  have hz43 := h43.1
  rw [e19, m10, m11, e2, e3] at hz43
  have eof : ∀ a, a ≠ 1 → M4 a = M a := fun a ha => by rw [h43.2, setLH_o ha]; exact eo a ha
  refine r_if_ne (pc' := 49) (tgt := 53) X dX8_cannotHave_46 rfl rfl (by omega) (fun h46 => ?_) (fun h46 => ?_)
  · refine r_iconst (pc' := 54) X dX8_cannotHave_53 rfl ?_
    refine w_zret X hr (by decide) dX8_cannotHave_54 ?_
    try dsimp only
    refine ⟨?_, eof⟩
    split at hz43 <;> rename_i q <;> first | (exfalso; omega) | (rw [if_pos q]) | (rw [if_neg q])
  · refine r_iconst (pc' := 50) X dX8_cannotHave_49 rfl ?_
    refine r_goto (tgt := 54) X dX8_cannotHave_50 rfl ?_
    refine w_zret X hr (by decide) dX8_cannotHave_54 ?_
    try dsimp only
    refine ⟨?_, eof⟩
    split at hz43 <;> rename_i q <;> first | (exfalso; omega) | (rw [if_pos q]) | (rw [if_neg q])
