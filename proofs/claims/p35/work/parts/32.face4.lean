theorem cf_X8_step : wCal yX8_step cX8_step 3 (some .int) 2 := ⟨gw_730, gw_1, by decide, by decide, by rfl⟩
set_option maxRecDepth 100000 in
set_option maxHeartbeats 4000000 in
theorem c_X8_step (l : Launch) (G : wG) (M : wM) (hfl : l.stackTraces = false) (N P : Nat) (T : Int) (hck : COk M N P T) (hT6 : T ≤ 1000000) (nx ct : Nat) (hnx : M 26 0 1 = (nx : Int)) (hnx14 : nx < 14) (hct : M 26 0 2 = (ct : Int)) (hct14 : ct ≤ 14) (u d : Int) (hu : rI u) (hd : rI d) : vx_Met l yX8_step (gws yX8_step cX8_step 3 (some .int)) (wrm 6 1 6) (wPc G M [vR G (28, 0), vI u, vI d]) (wQi G (fun z M1 => ((-99 ≤ u ∧ u ≤ 99) ∧ -(M 0 0 8) ≤ d ∧ d ≤ M 0 0 8) ∧ StepV N P (M 19) (M 0) (M1 0) u d ∧ z = M 0 0 9 + 1 ∧ Noted M M1 nx ct)) (wQx G (fun E M1 => ((E = "java/lang/IllegalArgumentException" ∧ ¬ ((-99 ≤ u ∧ u ≤ 99) ∧ -(M 0 0 8) ≤ d ∧ d ≤ M 0 0 8))) ∧ ScrEq M M1)) 1 6 (wA G) := by
  refine wMetX (lc := [(0, vR G (28, 0)), (1, vI u), (2, vI d)]) (by decide) (Nat.le_of_ble_eq_true rfl) rfl ?_
  intro p e s m args below meth c X hr hex
  have X : wX p s m args meth c G 3 "StateObserver" cX8_step := X
  obtain ⟨hp, hm, hbx⟩ := id hck
  obtain ⟨hN, hN1, hN4, hP, hP1, hP3, hA, hB, hE, hC, hQ⟩ := id hp
  obtain ⟨hT, hL, hU, hS, hG, hY, hAg, hHo, hBo, hTi, hLi, hLb, hLl, hLh⟩ := id hm
  refine r_iload_n (pc' := 1) X 1 dX8_step_0 rfl rfl rfl ?_
  refine w_calli (pc' := 4) (st := []) (w_runS X (c_X8_isFactor l G M u (by first | assumption | omega)) cf_X8_isFactor gw_732 rfl rfl ⟨Nat.le_of_ble_eq_true rfl, Nat.le_of_ble_eq_true rfl⟩ rfl rfl (Nat.le_of_ble_eq_true rfl) ⟨Nat.le_of_ble_eq_true rfl, Nat.le_of_ble_eq_true rfl⟩ gw_731 dX8_step_1) rfl (fun z1 M1 h1 => ?_)
  have hz1 := h1.1
  obtain rfl := h1.2.symm
  have hi1 : z1 = 0 ∨ z1 = 1 := by rw [hz1]; split <;> omega
  have hq1 : z1 = 1 ↔ (-99 ≤ u ∧ u ≤ 99) := by rw [hz1]; split <;> omega
  refine r_if_eq (pc' := 7) (tgt := 30) X dX8_step_4 rfl rfl (by omega) (fun h4 => ?_) (fun h4 => ?_)
  · refine r_thA X hfl hex gw_458 ts_734 dX8_step_30 dX8_step_33 dX8_step_34 dX8_step_36 dX8_step_39 (by decide) (by decide) (by decide) (by decide) ?_
    try dsimp only
    exact ⟨⟨rfl, by omega⟩, ScrEq.rfl⟩
  · refine r_iload_n (pc' := 8) X 2 dX8_step_7 rfl rfl rfl ?_
    refine r_aload_n (pc' := 9) X 0 dX8_step_8 rfl rfl rfl ?_
    refine gf_28_now (pc' := 12) X gw_297 dX8_step_9 rfl ?_
    refine gf_M_bound (pc' := 15) X (by decide) gw_123 dX8_step_12 rfl ?_
    refine r_ineg (pc' := 16) X dX8_step_15 rfl ?_
    refine r_icmp_lt (pc' := 19) (tgt := 30) X dX8_step_16 rfl rfl (by omega) (by omega) (fun h16 => ?_) (fun h16 => ?_)
    · refine r_thA X hfl hex gw_458 ts_734 dX8_step_30 dX8_step_33 dX8_step_34 dX8_step_36 dX8_step_39 (by decide) (by decide) (by decide) (by decide) ?_
      try dsimp only
      exact ⟨⟨rfl, by omega⟩, ScrEq.rfl⟩
    · refine r_iload_n (pc' := 20) X 2 dX8_step_19 rfl rfl rfl ?_
      refine r_aload_n (pc' := 21) X 0 dX8_step_20 rfl rfl rfl ?_
      refine gf_28_now (pc' := 24) X gw_297 dX8_step_21 rfl ?_
      refine gf_M_bound (pc' := 27) X (by decide) gw_123 dX8_step_24 rfl ?_
      refine r_icmp_le (pc' := 30) (tgt := 40) X dX8_step_27 rfl rfl (by omega) (by omega) (fun h27 => ?_) (fun h27 => ?_)
      · refine r_aload_n (pc' := 41) X 0 dX8_step_40 rfl rfl rfl ?_
        refine gf_28_history (pc' := 44) X gw_299 dX8_step_41 rfl ?_
        refine r_aload_n (pc' := 45) X 0 dX8_step_44 rfl rfl rfl ?_
        refine gf_28_now (pc' := 48) X gw_297 dX8_step_45 rfl ?_
        refine w_callv (pc' := 51) (st := []) (w_runV X (c_X0_remember l G M 0 (by decide) nx ct (by first | assumption | omega) (by first | assumption | omega) (by first | assumption | omega) (by first | assumption | omega)) cf_X0_remember k26_0 rfl gw_720 gw_721 rfl rfl ⟨Nat.le_of_ble_eq_true rfl, Nat.le_of_ble_eq_true rfl⟩ rfl rfl (Nat.le_of_ble_eq_true rfl) ⟨Nat.le_of_ble_eq_true rfl, Nat.le_of_ble_eq_true rfl⟩ gw_719 dX8_step_48) rfl (fun M2 h48 => ?_)
        have hR : M2 = noteM M nx ct := h48
        have hck2 : COk M2 N P T := by rw [hR]; exact hck.note hnx14
        obtain ⟨hp2, hm2, hbx2⟩ := id hck2
        have r0 : M2 0 = M 0 := by rw [hR]; exact note_o (by omega) (by omega)
        have r19 : M2 19 = M 19 := by rw [hR]; exact note_o (by omega) (by omega)
        refine r_aload_n (pc' := 52) X 0 dX8_step_51 rfl rfl rfl ?_
        refine gf_28_motion (pc' := 55) X gw_302 dX8_step_52 rfl ?_
        refine r_aload_n (pc' := 56) X 0 dX8_step_55 rfl rfl rfl ?_
        refine gf_28_plant (pc' := 59) X gw_296 dX8_step_56 rfl ?_
        refine r_aload_n (pc' := 60) X 0 dX8_step_59 rfl rfl rfl ?_
        refine gf_28_now (pc' := 63) X gw_297 dX8_step_60 rfl ?_
        refine r_iload_n (pc' := 64) X 1 dX8_step_63 rfl rfl rfl ?_
        refine r_iload_n (pc' := 65) X 2 dX8_step_64 rfl rfl rfl ?_
        refine w_callv (pc' := 68) (st := []) (w_runV X (c_X2_advance l G M2 19 0 N P u d T (by decide) (by decide) (by omega) hp2 hm2 (by first | assumption | omega) (by omega)) cf_X2_advance k21_0 rfl gw_736 gw_737 rfl rfl ⟨Nat.le_of_ble_eq_true rfl, Nat.le_of_ble_eq_true rfl⟩ rfl rfl (Nat.le_of_ble_eq_true rfl) ⟨Nat.le_of_ble_eq_true rfl, Nat.le_of_ble_eq_true rfl⟩ gw_735 dX8_step_65) rfl (fun M3 h65 => ?_)
        refine r_aload_n (pc' := 69) X 0 dX8_step_68 rfl rfl rfl ?_
        refine gf_28_now (pc' := 72) X gw_297 dX8_step_69 rfl ?_
        refine gf_M_time (pc' := 75) X (by decide) gw_126 dX8_step_72 rfl ?_
        refine w_x (by decide) (by decide) ?_
        refine w_iret X hr dX8_step_75 ?_
        try dsimp only
        have hst := h65.1
        rw [r19, r0] at hst
        exact ⟨by omega, hst, hst.2.2.2.2.2.2.2.2.1, Noted.of hnx14 (fun a a0 a1 a21 a22 a23 a24 a28 => by rw [h65.2 a a0 a21, hR])⟩
      · refine r_thA X hfl hex gw_458 ts_734 dX8_step_30 dX8_step_33 dX8_step_34 dX8_step_36 dX8_step_39 (by decide) (by decide) (by decide) (by decide) ?_
        try dsimp only
        exact ⟨⟨rfl, by omega⟩, ScrEq.rfl⟩
theorem cf_X8_read : wCal yX8_read cX8_read 2 (some .int) 1 := ⟨gw_781, gw_1, by decide, by decide, by rfl⟩
set_option maxRecDepth 100000 in
set_option maxHeartbeats 4000000 in
theorem c_X8_read (l : Launch) (G : wG) (M : wM) (hfl : l.stackTraces = false) (N P : Nat) (T : Int) (hck : COk M N P T) (hT6 : T ≤ 1000000) (nx ct : Nat) (hnx : M 26 0 1 = (nx : Int)) (hnx14 : nx < 14) (hct : M 26 0 2 = (ct : Int)) (hct14 : ct ≤ 14) (hT0 : 0 ≤ T) (i : Int) (hi : rI i) : vx_Met l yX8_read (gws yX8_read cX8_read 2 (some .int)) (wrm 6 1 6) (wPc G M [vR G (28, 0), vI i]) (wQi G (fun z M1 => (0 ≤ i ∧ i < P) ∧ M1 0 = (obsV N P (M 19) (M 0) i.toNat) ∧ z = obsY N (M 19) (M 0) i.toNat i.toNat ∧ Noted M M1 nx ct)) (wQx G (fun E M1 => ((E = "java/lang/IndexOutOfBoundsException" ∧ ¬ (0 ≤ i ∧ i < P))) ∧ ScrEq M M1)) 1 6 (wA G) := by
  refine wMetX (lc := [(0, vR G (28, 0)), (1, vI i)]) (by decide) (Nat.le_of_ble_eq_true rfl) rfl ?_
  intro p e s m args below meth c X hr hex
  have X : wX p s m args meth c G 2 "StateObserver" cX8_read := X
  obtain ⟨hp, hm, hbx⟩ := id hck
  obtain ⟨hN, hN1, hN4, hP, hP1, hP3, hA, hB, hE, hC, hQ⟩ := id hp
  obtain ⟨hT, hL, hU, hS, hG, hY, hAg, hHo, hBo, hTi, hLi, hLb, hLl, hLh⟩ := id hm
  refine r_aload_n (pc' := 1) X 0 dX8_read_0 rfl rfl rfl ?_
  refine r_iload_n (pc' := 2) X 1 dX8_read_1 rfl rfl rfl ?_
  refine w_calli (pc' := 5) (st := []) (w_runV X (c_X8_isOutput l G M N P T hck (by first | assumption | omega) i (by first | assumption | omega)) cf_X8_isOutput k28_0 rfl gw_388 gp_8 rfl rfl ⟨Nat.le_of_ble_eq_true rfl, Nat.le_of_ble_eq_true rfl⟩ rfl rfl (Nat.le_of_ble_eq_true rfl) ⟨Nat.le_of_ble_eq_true rfl, Nat.le_of_ble_eq_true rfl⟩ gw_386 dX8_read_2) rfl (fun z2 M1 h2 => ?_)
  have hz2 := h2.1
  obtain rfl := h2.2.symm
  have hi2 : z2 = 0 ∨ z2 = 1 := by rw [hz2]; split <;> omega
  have hq2 : z2 = 1 ↔ (0 ≤ i ∧ i < P) := by rw [hz2]; split <;> omega
  refine r_if_ne (pc' := 8) (tgt := 18) X dX8_read_5 rfl rfl (by omega) (fun h5 => ?_) (fun h5 => ?_)
  · refine r_aload_n (pc' := 19) X 0 dX8_read_18 rfl rfl rfl ?_
    refine gf_28_history (pc' := 22) X gw_299 dX8_read_19 rfl ?_
    refine r_aload_n (pc' := 23) X 0 dX8_read_22 rfl rfl rfl ?_
    refine gf_28_now (pc' := 26) X gw_297 dX8_read_23 rfl ?_
    refine w_callv (pc' := 29) (st := []) (w_runV X (c_X0_remember l G M 0 (by decide) nx ct (by first | assumption | omega) (by first | assumption | omega) (by first | assumption | omega) (by first | assumption | omega)) cf_X0_remember k26_0 rfl gw_720 gw_721 rfl rfl ⟨Nat.le_of_ble_eq_true rfl, Nat.le_of_ble_eq_true rfl⟩ rfl rfl (Nat.le_of_ble_eq_true rfl) ⟨Nat.le_of_ble_eq_true rfl, Nat.le_of_ble_eq_true rfl⟩ gw_719 dX8_read_26) rfl (fun M2 h26 => ?_)
    have hR : M2 = noteM M nx ct := h26
    have hck2 : COk M2 N P T := by rw [hR]; exact hck.note hnx14
    obtain ⟨hp2, hm2, hbx2⟩ := id hck2
    have r0 : M2 0 = M 0 := by rw [hR]; exact note_o (by omega) (by omega)
    have r19 : M2 19 = M 19 := by rw [hR]; exact note_o (by omega) (by omega)
    refine r_aload_n (pc' := 30) X 0 dX8_read_29 rfl rfl rfl ?_
    refine gf_28_motion (pc' := 33) X gw_302 dX8_read_30 rfl ?_
    refine r_aload_n (pc' := 34) X 0 dX8_read_33 rfl rfl rfl ?_
    refine gf_28_plant (pc' := 37) X gw_296 dX8_read_34 rfl ?_
    refine r_aload_n (pc' := 38) X 0 dX8_read_37 rfl rfl rfl ?_
    refine gf_28_now (pc' := 41) X gw_297 dX8_read_38 rfl ?_
    refine r_iload_n (pc' := 42) X 1 dX8_read_41 rfl rfl rfl ?_
    refine w_eqI (z' := ((i.toNat : Nat) : Int)) (by omega) ?_
    refine w_callv (pc' := 45) (st := []) (w_runV X (c_X2_observe l G M2 19 0 i.toNat N P T (by decide) (by decide) (by omega) hp2 hm2 (by first | assumption | omega) hbx2 (by first | assumption | omega)) cf_X2_observe k21_0 rfl gw_783 gw_784 rfl rfl ⟨Nat.le_of_ble_eq_true rfl, Nat.le_of_ble_eq_true rfl⟩ rfl rfl (Nat.le_of_ble_eq_true rfl) ⟨Nat.le_of_ble_eq_true rfl, Nat.le_of_ble_eq_true rfl⟩ gw_782 dX8_read_42) rfl (fun M3 h42 => ?_)
    have e0 : M3 0 = (obsV N P (M 19) (M 0) i.toNat) := by
      rw [h42, setLH_V, r0, r19]
      rfl
    have eo : ∀ a, a ≠ 0 → M3 a = M2 a := fun a ha => by rw [h42, setLH_o ha, wr_o ha, wr_o ha]
    refine r_aload_n (pc' := 46) X 0 dX8_read_45 rfl rfl rfl ?_
    refine gf_28_now (pc' := 49) X gw_297 dX8_read_46 rfl ?_
    refine gf_M_reading (pc' := 52) X (by decide) gw_111 dX8_read_49 rfl ?_
    refine r_iload_n (pc' := 53) X 1 dX8_read_52 rfl rfl rfl ?_
    refine r_iald (i := i.toNat) (pc' := 54) X (kM_10 (by decide)) (by omega) (by omega) (by decide) dX8_read_53 rfl ?_
    refine w_x (by decide) (by decide) ?_
    refine w_iret X hr dX8_read_54 ?_
    try dsimp only
    refine ⟨by omega, e0, ?_, Noted.of hnx14 (fun a a0 a1 a21 a22 a23 a24 a28 => by rw [eo a a0, hR])⟩
    rw [e0]
    rfl
  · refine r_thX X hfl hex gw_390 ts_431 dX8_read_8 dX8_read_11 dX8_read_12 dX8_read_14 dX8_read_17 (by decide) (by decide) (by decide) (by decide) ?_
    try dsimp only
    exact ⟨⟨rfl, by omega⟩, ScrEq.rfl⟩
theorem cf_X8_setHold : wCal yX8_setHold cX8_setHold 3 (some .int) 1 := ⟨gw_831, gw_1, by decide, by decide, by rfl⟩
set_option maxRecDepth 100000 in
set_option maxHeartbeats 4000000 in
theorem c_X8_setHold (l : Launch) (G : wG) (M : wM) (hfl : l.stackTraces = false) (N P : Nat) (T : Int) (hck : COk M N P T) (hT6 : T ≤ 1000000) (nx ct : Nat) (hnx : M 26 0 1 = (nx : Int)) (hnx14 : nx < 14) (hct : M 26 0 2 = (ct : Int)) (hct14 : ct ≤ 14) (v : Int) (hv : rI v) : vx_Met l yX8_setHold (gws yX8_setHold cX8_setHold 3 (some .int)) (wrm 6 1 6) (wPc G M [vR G (28, 0), vI v]) (wQi G (fun z M1 => (0 ≤ v ∧ v ≤ 9) ∧ M1 0 = setV (M 0) 0 7 v ∧ z = M 0 0 7 ∧ Noted M M1 nx ct)) (wQx G (fun E M1 => ((E = "java/lang/IllegalArgumentException" ∧ ¬ (0 ≤ v ∧ v ≤ 9))) ∧ ScrEq M M1)) 1 6 (wA G) := by
  refine wMetX (lc := [(0, vR G (28, 0)), (1, vI v)]) (by decide) (Nat.le_of_ble_eq_true rfl) rfl ?_
  intro p e s m args below meth c X hr hex
  have X : wX p s m args meth c G 3 "StateObserver" cX8_setHold := X
  obtain ⟨hp, hm, hbx⟩ := id hck
  obtain ⟨hN, hN1, hN4, hP, hP1, hP3, hA, hB, hE, hC, hQ⟩ := id hp
  obtain ⟨hT, hL, hU, hS, hG, hY, hAg, hHo, hBo, hTi, hLi, hLb, hLl, hLh⟩ := id hm
  refine r_iload_n (pc' := 1) X 1 dX8_setHold_0 rfl rfl rfl ?_
  refine r_if_lt (pc' := 4) (tgt := 10) X dX8_setHold_1 rfl rfl (by omega) (fun h1 => ?_) (fun h1 => ?_)
  · refine r_thA X hfl hex gw_458 ts_832 dX8_setHold_10 dX8_setHold_13 dX8_setHold_14 dX8_setHold_16 dX8_setHold_19 (by decide) (by decide) (by decide) (by decide) ?_
    try dsimp only
    exact ⟨⟨rfl, by omega⟩, ScrEq.rfl⟩
  · refine r_iload_n (pc' := 5) X 1 dX8_setHold_4 rfl rfl rfl ?_
    refine r_bipush (pc' := 7) X dX8_setHold_5 rfl rfl ?_
    refine r_icmp_le (pc' := 10) (tgt := 20) X dX8_setHold_7 rfl rfl (by omega) (by omega) (fun h7 => ?_) (fun h7 => ?_)
    · refine r_aload_n (pc' := 21) X 0 dX8_setHold_20 rfl rfl rfl ?_
      refine gf_28_history (pc' := 24) X gw_299 dX8_setHold_21 rfl ?_
      refine r_aload_n (pc' := 25) X 0 dX8_setHold_24 rfl rfl rfl ?_
      refine gf_28_now (pc' := 28) X gw_297 dX8_setHold_25 rfl ?_
      refine w_callv (pc' := 31) (st := []) (w_runV X (c_X0_remember l G M 0 (by decide) nx ct (by first | assumption | omega) (by first | assumption | omega) (by first | assumption | omega) (by first | assumption | omega)) cf_X0_remember k26_0 rfl gw_720 gw_721 rfl rfl ⟨Nat.le_of_ble_eq_true rfl, Nat.le_of_ble_eq_true rfl⟩ rfl rfl (Nat.le_of_ble_eq_true rfl) ⟨Nat.le_of_ble_eq_true rfl, Nat.le_of_ble_eq_true rfl⟩ gw_719 dX8_setHold_28) rfl (fun M1 h28 => ?_)
      have hR : M1 = noteM M nx ct := h28
      have hck2 : COk M1 N P T := by rw [hR]; exact hck.note hnx14
      obtain ⟨hp2, hm2, hbx2⟩ := id hck2
      have r0 : M1 0 = M 0 := by rw [hR]; exact note_o (by omega) (by omega)
      have r19 : M1 19 = M 19 := by rw [hR]; exact note_o (by omega) (by omega)
      refine r_aload_n (pc' := 32) X 0 dX8_setHold_31 rfl rfl rfl ?_
      refine gf_28_now (pc' := 35) X gw_297 dX8_setHold_32 rfl ?_
      refine gf_M_hold (pc' := 38) X (by decide) gw_119 dX8_setHold_35 rfl ?_
      refine r_istore_n (pc' := 39) (lc' := [(0, vR G (28, 0)), (1, vI v), (2, vI (M1 0 0 7))]) X [1, 2, 0] dX8_setHold_38 rfl (by decide) rfl rfl ?_
      refine r_aload_n (pc' := 40) X 0 dX8_setHold_39 rfl rfl rfl ?_
      refine gf_28_now (pc' := 43) X gw_297 dX8_setHold_40 rfl ?_
      refine r_iload_n (pc' := 44) X 1 dX8_setHold_43 rfl rfl rfl ?_
      refine pf_M_hold (pc' := 47) X (by decide) gw_119 dX8_setHold_44 rfl (fun M2 hM2 => ?_)
      refine r_iload_n (pc' := 48) X 2 dX8_setHold_47 rfl rfl rfl ?_
      refine w_x (by decide) (by decide) ?_
      refine w_iret X hr dX8_setHold_48 ?_
      try dsimp only
      refine ⟨by omega, ?_, by rw [r0], Noted.of hnx14 (fun a a0 a1 a21 a22 a23 a24 a28 => by rw [hM2, wu_o a0, hR])⟩
      rw [hM2, wu_V, r0]
    · refine r_thA X hfl hex gw_458 ts_832 dX8_setHold_10 dX8_setHold_13 dX8_setHold_14 dX8_setHold_16 dX8_setHold_19 (by decide) (by decide) (by decide) (by decide) ?_
      try dsimp only
      exact ⟨⟨rfl, by omega⟩, ScrEq.rfl⟩
theorem cf_X8_setBound : wCal yX8_setBound cX8_setBound 3 (some .int) 1 := ⟨gw_839, gw_1, by decide, by decide, by rfl⟩
set_option maxRecDepth 100000 in
set_option maxHeartbeats 4000000 in
theorem c_X8_setBound (l : Launch) (G : wG) (M : wM) (hfl : l.stackTraces = false) (N P : Nat) (T : Int) (hck : COk M N P T) (hT6 : T ≤ 1000000) (nx ct : Nat) (hnx : M 26 0 1 = (nx : Int)) (hnx14 : nx < 14) (hct : M 26 0 2 = (ct : Int)) (hct14 : ct ≤ 14) (v : Int) (hv : rI v) : vx_Met l yX8_setBound (gws yX8_setBound cX8_setBound 3 (some .int)) (wrm 6 1 6) (wPc G M [vR G (28, 0), vI v]) (wQi G (fun z M1 => (0 ≤ v ∧ v ≤ 99) ∧ M1 0 = setV (M 0) 0 8 v ∧ z = M 0 0 8 ∧ Noted M M1 nx ct)) (wQx G (fun E M1 => ((E = "java/lang/IllegalArgumentException" ∧ ¬ (0 ≤ v ∧ v ≤ 99))) ∧ ScrEq M M1)) 1 6 (wA G) := by
  refine wMetX (lc := [(0, vR G (28, 0)), (1, vI v)]) (by decide) (Nat.le_of_ble_eq_true rfl) rfl ?_
  intro p e s m args below meth c X hr hex
  have X : wX p s m args meth c G 3 "StateObserver" cX8_setBound := X
  obtain ⟨hp, hm, hbx⟩ := id hck
  obtain ⟨hN, hN1, hN4, hP, hP1, hP3, hA, hB, hE, hC, hQ⟩ := id hp
  obtain ⟨hT, hL, hU, hS, hG, hY, hAg, hHo, hBo, hTi, hLi, hLb, hLl, hLh⟩ := id hm
  refine r_iload_n (pc' := 1) X 1 dX8_setBound_0 rfl rfl rfl ?_
  refine r_if_lt (pc' := 4) (tgt := 10) X dX8_setBound_1 rfl rfl (by omega) (fun h1 => ?_) (fun h1 => ?_)
  · refine r_thA X hfl hex gw_458 ts_840 dX8_setBound_10 dX8_setBound_13 dX8_setBound_14 dX8_setBound_16 dX8_setBound_19 (by decide) (by decide) (by decide) (by decide) ?_
    try dsimp only
    exact ⟨⟨rfl, by omega⟩, ScrEq.rfl⟩
  · refine r_iload_n (pc' := 5) X 1 dX8_setBound_4 rfl rfl rfl ?_
    refine r_bipush (pc' := 7) X dX8_setBound_5 rfl rfl ?_
    refine r_icmp_le (pc' := 10) (tgt := 20) X dX8_setBound_7 rfl rfl (by omega) (by omega) (fun h7 => ?_) (fun h7 => ?_)
    · refine r_aload_n (pc' := 21) X 0 dX8_setBound_20 rfl rfl rfl ?_
      refine gf_28_history (pc' := 24) X gw_299 dX8_setBound_21 rfl ?_
      refine r_aload_n (pc' := 25) X 0 dX8_setBound_24 rfl rfl rfl ?_
      refine gf_28_now (pc' := 28) X gw_297 dX8_setBound_25 rfl ?_
      refine w_callv (pc' := 31) (st := []) (w_runV X (c_X0_remember l G M 0 (by decide) nx ct (by first | assumption | omega) (by first | assumption | omega) (by first | assumption | omega) (by first | assumption | omega)) cf_X0_remember k26_0 rfl gw_720 gw_721 rfl rfl ⟨Nat.le_of_ble_eq_true rfl, Nat.le_of_ble_eq_true rfl⟩ rfl rfl (Nat.le_of_ble_eq_true rfl) ⟨Nat.le_of_ble_eq_true rfl, Nat.le_of_ble_eq_true rfl⟩ gw_719 dX8_setBound_28) rfl (fun M1 h28 => ?_)
      have hR : M1 = noteM M nx ct := h28
      have hck2 : COk M1 N P T := by rw [hR]; exact hck.note hnx14
      obtain ⟨hp2, hm2, hbx2⟩ := id hck2
      have r0 : M1 0 = M 0 := by rw [hR]; exact note_o (by omega) (by omega)
      have r19 : M1 19 = M 19 := by rw [hR]; exact note_o (by omega) (by omega)
      refine r_aload_n (pc' := 32) X 0 dX8_setBound_31 rfl rfl rfl ?_
      refine gf_28_now (pc' := 35) X gw_297 dX8_setBound_32 rfl ?_
      refine gf_M_bound (pc' := 38) X (by decide) gw_123 dX8_setBound_35 rfl ?_
      refine r_istore_n (pc' := 39) (lc' := [(0, vR G (28, 0)), (1, vI v), (2, vI (M1 0 0 8))]) X [1, 2, 0] dX8_setBound_38 rfl (by decide) rfl rfl ?_
      refine r_aload_n (pc' := 40) X 0 dX8_setBound_39 rfl rfl rfl ?_
      refine gf_28_now (pc' := 43) X gw_297 dX8_setBound_40 rfl ?_
      refine r_iload_n (pc' := 44) X 1 dX8_setBound_43 rfl rfl rfl ?_
      refine pf_M_bound (pc' := 47) X (by decide) gw_123 dX8_setBound_44 rfl (fun M2 hM2 => ?_)
      refine r_iload_n (pc' := 48) X 2 dX8_setBound_47 rfl rfl rfl ?_
      refine w_x (by decide) (by decide) ?_
      refine w_iret X hr dX8_setBound_48 ?_
      try dsimp only
      refine ⟨by omega, ?_, by rw [r0], Noted.of hnx14 (fun a a0 a1 a21 a22 a23 a24 a28 => by rw [hM2, wu_o a0, hR])⟩
      rw [hM2, wu_V, r0]
    · refine r_thA X hfl hex gw_458 ts_840 dX8_setBound_10 dX8_setBound_13 dX8_setBound_14 dX8_setBound_16 dX8_setBound_19 (by decide) (by decide) (by decide) (by decide) ?_
      try dsimp only
      exact ⟨⟨rfl, by omega⟩, ScrEq.rfl⟩
theorem cf_X8_setGain : wCal yX8_setGain cX8_setGain 5 (some .int) 3 := ⟨gw_822, gw_1, by decide, by decide, by rfl⟩
set_option maxRecDepth 100000 in
set_option maxHeartbeats 4000000 in
theorem c_X8_setGain (l : Launch) (G : wG) (M : wM) (hfl : l.stackTraces = false) (N P : Nat) (T : Int) (hck : COk M N P T) (hT6 : T ≤ 1000000) (nx ct : Nat) (hnx : M 26 0 1 = (nx : Int)) (hnx14 : nx < 14) (hct : M 26 0 2 = (ct : Int)) (hct14 : ct ≤ 14) (i k v : Int) (hi : rI i) (hk : rI k) (hv : rI v) : vx_Met l yX8_setGain (gws yX8_setGain cX8_setGain 5 (some .int)) (wrm 6 1 6) (wPc G M [vR G (28, 0), vI i, vI k, vI v]) (wQi G (fun z M1 => (((0 ≤ i ∧ i < N) ∧ 0 ≤ k ∧ k < P) ∧ -99 ≤ v ∧ v ≤ 99) ∧ M1 0 = setV (M 0) (6 + i.toNat) k.toNat v ∧ z = M 0 (6 + i.toNat) k.toNat ∧ Noted M M1 nx ct)) (wQx G (fun E M1 => ((E = "java/lang/IndexOutOfBoundsException" ∧ ¬ ((0 ≤ i ∧ i < N) ∧ 0 ≤ k ∧ k < P)) ∨ (E = "java/lang/IllegalArgumentException" ∧ ((0 ≤ i ∧ i < N) ∧ 0 ≤ k ∧ k < P) ∧ ¬ (-99 ≤ v ∧ v ≤ 99))) ∧ ScrEq M M1)) 1 6 (wA G) := by
  refine wMetX (lc := [(0, vR G (28, 0)), (1, vI i), (2, vI k), (3, vI v)]) (by decide) (Nat.le_of_ble_eq_true rfl) rfl ?_
  intro p e s m args below meth c X hr hex
  have X : wX p s m args meth c G 5 "StateObserver" cX8_setGain := X
  obtain ⟨hp, hm, hbx⟩ := id hck
  obtain ⟨hN, hN1, hN4, hP, hP1, hP3, hA, hB, hE, hC, hQ⟩ := id hp
  obtain ⟨hT, hL, hU, hS, hG, hY, hAg, hHo, hBo, hTi, hLi, hLb, hLl, hLh⟩ := id hm
  refine r_aload_n (pc' := 1) X 0 dX8_setGain_0 rfl rfl rfl ?_
  refine r_iload_n (pc' := 2) X 1 dX8_setGain_1 rfl rfl rfl ?_
  refine w_calli (pc' := 5) (st := []) (w_runV X (c_X8_isState l G M N P T hck (by first | assumption | omega) i (by first | assumption | omega)) cf_X8_isState k28_0 rfl gw_628 gp_10 rfl rfl ⟨Nat.le_of_ble_eq_true rfl, Nat.le_of_ble_eq_true rfl⟩ rfl rfl (Nat.le_of_ble_eq_true rfl) ⟨Nat.le_of_ble_eq_true rfl, Nat.le_of_ble_eq_true rfl⟩ gw_626 dX8_setGain_2) rfl (fun z2 M1 h2 => ?_)
  have hz2 := h2.1
  obtain rfl := h2.2.symm
  have hi2 : z2 = 0 ∨ z2 = 1 := by rw [hz2]; split <;> omega
  have hq2 : z2 = 1 ↔ (0 ≤ i ∧ i < N) := by rw [hz2]; split <;> omega
  refine r_if_eq (pc' := 8) (tgt := 16) X dX8_setGain_5 rfl rfl (by omega) (fun h5 => ?_) (fun h5 => ?_)
  · refine r_thX X hfl hex gw_390 ts_823 dX8_setGain_16 dX8_setGain_19 dX8_setGain_20 dX8_setGain_22 dX8_setGain_25 (by decide) (by decide) (by decide) (by decide) ?_
    try dsimp only
    exact ⟨(Or.inl ⟨rfl, by omega⟩), ScrEq.rfl⟩
  · refine r_aload_n (pc' := 9) X 0 dX8_setGain_8 rfl rfl rfl ?_
    refine r_iload_n (pc' := 10) X 2 dX8_setGain_9 rfl rfl rfl ?_
    refine w_calli (pc' := 13) (st := []) (w_runV X (c_X8_isOutput l G M N P T hck (by first | assumption | omega) k (by first | assumption | omega)) cf_X8_isOutput k28_0 rfl gw_388 gp_8 rfl rfl ⟨Nat.le_of_ble_eq_true rfl, Nat.le_of_ble_eq_true rfl⟩ rfl rfl (Nat.le_of_ble_eq_true rfl) ⟨Nat.le_of_ble_eq_true rfl, Nat.le_of_ble_eq_true rfl⟩ gw_386 dX8_setGain_10) rfl (fun z10 M2 h10 => ?_)
    have hz10 := h10.1
    obtain rfl := h10.2.symm
    have hi10 : z10 = 0 ∨ z10 = 1 := by rw [hz10]; split <;> omega
    have hq10 : z10 = 1 ↔ (0 ≤ k ∧ k < P) := by rw [hz10]; split <;> omega
    refine r_if_ne (pc' := 16) (tgt := 26) X dX8_setGain_13 rfl rfl (by omega) (fun h13 => ?_) (fun h13 => ?_)
    · refine r_iload_n (pc' := 27) X 3 dX8_setGain_26 rfl rfl rfl ?_
      refine w_calli (pc' := 30) (st := []) (w_runS X (c_X8_isFactor l G M v (by first | assumption | omega)) cf_X8_isFactor gw_732 rfl rfl ⟨Nat.le_of_ble_eq_true rfl, Nat.le_of_ble_eq_true rfl⟩ rfl rfl (Nat.le_of_ble_eq_true rfl) ⟨Nat.le_of_ble_eq_true rfl, Nat.le_of_ble_eq_true rfl⟩ gw_731 dX8_setGain_27) rfl (fun z27 M3 h27 => ?_)
      have hz27 := h27.1
      obtain rfl := h27.2.symm
      have hi27 : z27 = 0 ∨ z27 = 1 := by rw [hz27]; split <;> omega
      have hq27 : z27 = 1 ↔ (-99 ≤ v ∧ v ≤ 99) := by rw [hz27]; split <;> omega
      refine r_if_ne (pc' := 33) (tgt := 43) X dX8_setGain_30 rfl rfl (by omega) (fun h30 => ?_) (fun h30 => ?_)
      · refine r_aload_n (pc' := 44) X 0 dX8_setGain_43 rfl rfl rfl ?_
        refine gf_28_history (pc' := 47) X gw_299 dX8_setGain_44 rfl ?_
        refine r_aload_n (pc' := 48) X 0 dX8_setGain_47 rfl rfl rfl ?_
        refine gf_28_now (pc' := 51) X gw_297 dX8_setGain_48 rfl ?_
        refine w_callv (pc' := 54) (st := []) (w_runV X (c_X0_remember l G M 0 (by decide) nx ct (by first | assumption | omega) (by first | assumption | omega) (by first | assumption | omega) (by first | assumption | omega)) cf_X0_remember k26_0 rfl gw_720 gw_721 rfl rfl ⟨Nat.le_of_ble_eq_true rfl, Nat.le_of_ble_eq_true rfl⟩ rfl rfl (Nat.le_of_ble_eq_true rfl) ⟨Nat.le_of_ble_eq_true rfl, Nat.le_of_ble_eq_true rfl⟩ gw_719 dX8_setGain_51) rfl (fun M4 h51 => ?_)
        have hR : M4 = noteM M nx ct := h51
        have hck2 : COk M4 N P T := by rw [hR]; exact hck.note hnx14
        obtain ⟨hp2, hm2, hbx2⟩ := id hck2
        have r0 : M4 0 = M 0 := by rw [hR]; exact note_o (by omega) (by omega)
        have r19 : M4 19 = M 19 := by rw [hR]; exact note_o (by omega) (by omega)
        refine r_aload_n (pc' := 55) X 0 dX8_setGain_54 rfl rfl rfl ?_
        refine gf_28_now (pc' := 58) X gw_297 dX8_setGain_55 rfl ?_
        refine gf_M_gain (pc' := 61) X (by decide) gw_107 dX8_setGain_58 rfl ?_
        refine r_iload_n (pc' := 62) X 1 dX8_setGain_61 rfl rfl rfl ?_
        refine r_aald (i := i.toNat) (x := (0, (6 + i.toNat))) (pc' := 63) X (kM_5 (by decide)) (by decide) (by omega) (by omega) (by decide) rfl dX8_setGain_62 rfl ?_
        refine r_iload_n (pc' := 64) X 2 dX8_setGain_63 rfl rfl rfl ?_
        refine r_iald (i := k.toNat) (pc' := 65) X (kM_g (by decide) (by omega)) (by omega) (by omega) (by decide) dX8_setGain_64 rfl ?_
        refine r_istore (pc' := 67) (lc' := [(0, vR G (28, 0)), (1, vI i), (2, vI k), (3, vI v), (4, vI (M4 0 (6 + i.toNat) k.toNat))]) X [1, 2, 3, 4, 0] dX8_setGain_65 (by decide) rfl rfl ?_
        refine r_aload_n (pc' := 68) X 0 dX8_setGain_67 rfl rfl rfl ?_
        refine gf_28_now (pc' := 71) X gw_297 dX8_setGain_68 rfl ?_
        refine gf_M_gain (pc' := 74) X (by decide) gw_107 dX8_setGain_71 rfl ?_
        refine r_iload_n (pc' := 75) X 1 dX8_setGain_74 rfl rfl rfl ?_
        refine r_aald (i := i.toNat) (x := (0, (6 + i.toNat))) (pc' := 76) X (kM_5 (by decide)) (by decide) (by omega) (by omega) (by decide) rfl dX8_setGain_75 rfl ?_
        refine r_iload_n (pc' := 77) X 2 dX8_setGain_76 rfl rfl rfl ?_
        refine r_iload_n (pc' := 78) X 3 dX8_setGain_77 rfl rfl rfl ?_
        refine r_iast (i := k.toNat) (pc' := 79) X (kM_g (by decide) (by omega)) (by omega) (by omega) (by decide) dX8_setGain_78 rfl (fun M5 hM5 => ?_)
        refine r_iload (pc' := 81) X 4 dX8_setGain_79 rfl rfl ?_
        refine w_x (by decide) (by decide) ?_
        refine w_iret X hr dX8_setGain_81 ?_
        try dsimp only
        refine ⟨by omega, ?_, by rw [r0], Noted.of hnx14 (fun a a0 a1 a21 a22 a23 a24 a28 => by rw [hM5, wu_o a0, hR])⟩
        rw [hM5, wu_V, r0]
      · refine r_thA X hfl hex gw_458 ts_824 dX8_setGain_33 dX8_setGain_36 dX8_setGain_37 dX8_setGain_39 dX8_setGain_42 (by decide) (by decide) (by decide) (by decide) ?_
        try dsimp only
        exact ⟨(Or.inr (⟨rfl, by omega⟩)), ScrEq.rfl⟩
    · refine r_thX X hfl hex gw_390 ts_823 dX8_setGain_16 dX8_setGain_19 dX8_setGain_20 dX8_setGain_22 dX8_setGain_25 (by decide) (by decide) (by decide) (by decide) ?_
      try dsimp only
      exact ⟨(Or.inl ⟨rfl, by omega⟩), ScrEq.rfl⟩
theorem cf_X8_place : wCal yX8_place cX8_place 4 (some .int) 2 := ⟨gw_709, gw_1, by decide, by decide, by rfl⟩
set_option maxRecDepth 100000 in
set_option maxHeartbeats 4000000 in
theorem c_X8_place (l : Launch) (G : wG) (M : wM) (hfl : l.stackTraces = false) (N P : Nat) (T : Int) (hck : COk M N P T) (hT6 : T ≤ 1000000) (nx ct : Nat) (hnx : M 26 0 1 = (nx : Int)) (hnx14 : nx < 14) (hct : M 26 0 2 = (ct : Int)) (hct14 : ct ≤ 14) (i v : Int) (hi : rI i) (hv : rI v) : vx_Met l yX8_place (gws yX8_place cX8_place 4 (some .int)) (wrm 6 1 6) (wPc G M [vR G (28, 0), vI i, vI v]) (wQi G (fun z M1 => (0 ≤ i ∧ i < N) ∧ ((M 0 2 i.toNat ≤ v ∧ v ≤ M 0 3 i.toNat) ∧ meets N P (M 19) (up1 (M 0 1) i.toNat v) (M 0 10) (M 0 11)) ∧ M1 0 = setV (M 0) 1 i.toNat v ∧ z = M 0 1 i.toNat ∧ Noted M M1 nx ct)) (wQx G (fun E M1 => ((E = "java/lang/IndexOutOfBoundsException" ∧ ¬ (0 ≤ i ∧ i < N)) ∨ (E = "java/lang/IllegalStateException" ∧ (0 ≤ i ∧ i < N) ∧ ¬ ((M 0 2 i.toNat ≤ v ∧ v ≤ M 0 3 i.toNat) ∧ meets N P (M 19) (up1 (M 0 1) i.toNat v) (M 0 10) (M 0 11)))) ∧ ScrEq M M1)) 1 6 (wA G) := by
  refine wMetX (lc := [(0, vR G (28, 0)), (1, vI i), (2, vI v)]) (by decide) (Nat.le_of_ble_eq_true rfl) rfl ?_
  intro p e s m args below meth c X hr hex
  have X : wX p s m args meth c G 4 "StateObserver" cX8_place := X
  obtain ⟨hp, hm, hbx⟩ := id hck
  obtain ⟨hN, hN1, hN4, hP, hP1, hP3, hA, hB, hE, hC, hQ⟩ := id hp
  obtain ⟨hT, hL, hU, hS, hG, hY, hAg, hHo, hBo, hTi, hLi, hLb, hLl, hLh⟩ := id hm
  refine r_aload_n (pc' := 1) X 0 dX8_place_0 rfl rfl rfl ?_
  refine r_iload_n (pc' := 2) X 1 dX8_place_1 rfl rfl rfl ?_
  refine w_calli (pc' := 5) (st := []) (w_runV X (c_X8_isState l G M N P T hck (by first | assumption | omega) i (by first | assumption | omega)) cf_X8_isState k28_0 rfl gw_628 gp_10 rfl rfl ⟨Nat.le_of_ble_eq_true rfl, Nat.le_of_ble_eq_true rfl⟩ rfl rfl (Nat.le_of_ble_eq_true rfl) ⟨Nat.le_of_ble_eq_true rfl, Nat.le_of_ble_eq_true rfl⟩ gw_626 dX8_place_2) rfl (fun z2 M1 h2 => ?_)
  have hz2 := h2.1
  obtain rfl := h2.2.symm
  have hi2 : z2 = 0 ∨ z2 = 1 := by rw [hz2]; split <;> omega
  have hq2 : z2 = 1 ↔ (0 ≤ i ∧ i < N) := by rw [hz2]; split <;> omega
  refine r_if_ne (pc' := 8) (tgt := 18) X dX8_place_5 rfl rfl (by omega) (fun h5 => ?_) (fun h5 => ?_)
  · refine r_aload_n (pc' := 19) X 0 dX8_place_18 rfl rfl rfl ?_
    refine gf_28_now (pc' := 22) X gw_297 dX8_place_19 rfl ?_
    refine gf_M_truth (pc' := 25) X (by decide) gw_92 dX8_place_22 rfl ?_
    refine r_aload_n (pc' := 26) X 0 dX8_place_25 rfl rfl rfl ?_
    refine gf_28_row (pc' := 29) X gw_304 dX8_place_26 rfl ?_
    refine w_callv (pc' := 32) (st := []) (w_runS X (c_X8_copyRow l G M 0 1 28 1 4 (kM_1 (by decide)) k28_1 (by first | assumption | omega)) cf_X8_copyRow gw_521 rfl rfl ⟨Nat.le_of_ble_eq_true rfl, Nat.le_of_ble_eq_true rfl⟩ rfl rfl (Nat.le_of_ble_eq_true rfl) ⟨Nat.le_of_ble_eq_true rfl, Nat.le_of_ble_eq_true rfl⟩ gw_532 dX8_place_29) rfl (fun M2 h29 => ?_)
    refine r_aload_n (pc' := 33) X 0 dX8_place_32 rfl rfl rfl ?_
    refine gf_28_row (pc' := 36) X gw_304 dX8_place_33 rfl ?_
    refine r_iload_n (pc' := 37) X 1 dX8_place_36 rfl rfl rfl ?_
    refine r_iload_n (pc' := 38) X 2 dX8_place_37 rfl rfl rfl ?_
    refine r_iast (i := i.toNat) (pc' := 39) X k28_1 (by omega) (by omega) (by decide) dX8_place_38 rfl (fun M3 hM3 => ?_)
    have eo : ∀ a, a ≠ 28 → M3 a = M a := fun a ha => by rw [hM3, wu_o ha, h29, wr_o ha]
    have e0 := eo 0 (by decide)
    have e19 := eo 19 (by decide)
    have e28 : M3 28 1 = (up1 (M 0 1) i.toNat v) := by rw [hM3, wu_wr, h29, wr_eq, wr_eq]
    have b2 := hL i.toNat (by omega)
    have b3 := hU i.toNat (by omega)
    refine r_iload_n (pc' := 40) X 2 dX8_place_39 rfl rfl rfl ?_
    refine r_aload_n (pc' := 41) X 0 dX8_place_40 rfl rfl rfl ?_
    refine gf_28_now (pc' := 44) X gw_297 dX8_place_41 rfl ?_
    refine gf_M_lower (pc' := 47) X (by decide) gw_96 dX8_place_44 rfl ?_
    refine r_iload_n (pc' := 48) X 1 dX8_place_47 rfl rfl rfl ?_
    refine r_iald (i := i.toNat) (pc' := 49) X (kM_2 (by decide)) (by omega) (by omega) (by decide) dX8_place_48 rfl ?_
    have b2a : M3 0 2 i.toNat = M 0 2 i.toNat := by rw [e0]
    refine r_icmp_lt (pc' := 52) (tgt := 83) X dX8_place_49 rfl rfl (by omega) (by omega) (fun h49 => ?_) (fun h49 => ?_)
    · refine r_thS X hfl hex gw_474 ts_718 dX8_place_83 dX8_place_86 dX8_place_87 dX8_place_89 dX8_place_92 (by decide) (by decide) (by decide) (by decide) ?_
      try dsimp only
      refine ⟨Or.inr ⟨rfl, by omega, fun q => ?_⟩, fun a _ _ _ _ _ h28 => eo a h28⟩
      first
        | omega
        | (have := hme.mpr q.2; omega)
    · refine r_iload_n (pc' := 53) X 2 dX8_place_52 rfl rfl rfl ?_
      refine r_aload_n (pc' := 54) X 0 dX8_place_53 rfl rfl rfl ?_
      refine gf_28_now (pc' := 57) X gw_297 dX8_place_54 rfl ?_
      refine gf_M_upper (pc' := 60) X (by decide) gw_100 dX8_place_57 rfl ?_
      refine r_iload_n (pc' := 61) X 1 dX8_place_60 rfl rfl rfl ?_
      refine r_iald (i := i.toNat) (pc' := 62) X (kM_3 (by decide)) (by omega) (by omega) (by decide) dX8_place_61 rfl ?_
      have b3a : M3 0 3 i.toNat = M 0 3 i.toNat := by rw [e0]
      refine r_icmp_gt (pc' := 65) (tgt := 83) X dX8_place_62 rfl rfl (by omega) (by omega) (fun h62 => ?_) (fun h62 => ?_)
      · refine r_thS X hfl hex gw_474 ts_718 dX8_place_83 dX8_place_86 dX8_place_87 dX8_place_89 dX8_place_92 (by decide) (by decide) (by decide) (by decide) ?_
        try dsimp only
        refine ⟨Or.inr ⟨rfl, by omega, fun q => ?_⟩, fun a _ _ _ _ _ h28 => eo a h28⟩
        first
          | omega
          | (have := hme.mpr q.2; omega)
      · have hV2 : ∀ j, j < N → -1000000 ≤ M3 28 1 j ∧ M3 28 1 j ≤ 1000000 := fun j hj => by rw [e28]; unfold up1; split; omega; exact hT j hj
        refine r_aload_n (pc' := 66) X 0 dX8_place_65 rfl rfl rfl ?_
        refine gf_28_plant (pc' := 69) X gw_296 dX8_place_66 rfl ?_
        refine r_aload_n (pc' := 70) X 0 dX8_place_69 rfl rfl rfl ?_
        refine gf_28_row (pc' := 73) X gw_304 dX8_place_70 rfl ?_
        refine r_aload_n (pc' := 74) X 0 dX8_place_73 rfl rfl rfl ?_
        refine gf_28_now (pc' := 77) X gw_297 dX8_place_74 rfl ?_
        refine w_calli (pc' := 80) (st := []) (w_runV X (c_X3_meetFreshOutputs l G M3 19 28 1 0 N P T (by decide) (by decide) k28_1 (by rw [e19]; exact hp) (by rw [e0]; exact hm) (by first | assumption | omega) hV2) cf_X3_meetFreshOutputs (kP_0 (by decide)) rfl gw_711 gw_712 rfl rfl ⟨Nat.le_of_ble_eq_true rfl, Nat.le_of_ble_eq_true rfl⟩ rfl rfl (Nat.le_of_ble_eq_true rfl) ⟨Nat.le_of_ble_eq_true rfl, Nat.le_of_ble_eq_true rfl⟩ gw_710 dX8_place_77) rfl (fun z77 M4 h77 => ?_)
        have hz77 := h77.1
        have hme := h77.2.1
        obtain rfl := h77.2.2.symm
        rw [e19, e0, e28] at hme
        refine r_if_ne (pc' := 83) (tgt := 93) X dX8_place_80 rfl rfl (by omega) (fun h80 => ?_) (fun h80 => ?_)
        · refine r_aload_n (pc' := 94) X 0 dX8_place_93 rfl rfl rfl ?_
          refine gf_28_history (pc' := 97) X gw_299 dX8_place_94 rfl ?_
          refine r_aload_n (pc' := 98) X 0 dX8_place_97 rfl rfl rfl ?_
          refine gf_28_now (pc' := 101) X gw_297 dX8_place_98 rfl ?_
          refine w_callv (pc' := 104) (st := []) (w_runV X (c_X0_remember l G M3 0 (by decide) nx ct (by rw [eo 26 (by decide)]; exact hnx) (by first | assumption | omega) (by rw [eo 26 (by decide)]; exact hct) (by first | assumption | omega)) cf_X0_remember k26_0 rfl gw_720 gw_721 rfl rfl ⟨Nat.le_of_ble_eq_true rfl, Nat.le_of_ble_eq_true rfl⟩ rfl rfl (Nat.le_of_ble_eq_true rfl) ⟨Nat.le_of_ble_eq_true rfl, Nat.le_of_ble_eq_true rfl⟩ gw_719 dX8_place_101) rfl (fun M5 h101 => ?_)
          have hR : M5 = noteM M3 nx ct := h101
          have r0 : M5 0 = M 0 := by rw [hR, note_o (by omega) (by omega), e0]
          refine r_aload_n (pc' := 105) X 0 dX8_place_104 rfl rfl rfl ?_
          refine gf_28_now (pc' := 108) X gw_297 dX8_place_105 rfl ?_
          refine gf_M_truth (pc' := 111) X (by decide) gw_92 dX8_place_108 rfl ?_
          refine r_iload_n (pc' := 112) X 1 dX8_place_111 rfl rfl rfl ?_
          refine r_iald (i := i.toNat) (pc' := 113) X (kM_1 (by decide)) (by omega) (by omega) (by decide) dX8_place_112 rfl ?_
          refine r_istore_n (pc' := 114) (lc' := [(0, vR G (28, 0)), (1, vI i), (2, vI v), (3, vI (M5 0 1 i.toNat))]) X [1, 2, 3, 0] dX8_place_113 rfl (by decide) rfl rfl ?_
          refine r_aload_n (pc' := 115) X 0 dX8_place_114 rfl rfl rfl ?_
          refine gf_28_now (pc' := 118) X gw_297 dX8_place_115 rfl ?_
          refine gf_M_truth (pc' := 121) X (by decide) gw_92 dX8_place_118 rfl ?_
          refine r_iload_n (pc' := 122) X 1 dX8_place_121 rfl rfl rfl ?_
          refine r_iload_n (pc' := 123) X 2 dX8_place_122 rfl rfl rfl ?_
          refine r_iast (i := i.toNat) (pc' := 124) X (kM_1 (by decide)) (by omega) (by omega) (by decide) dX8_place_123 rfl (fun M6 hM6 => ?_)
          refine r_iload_n (pc' := 125) X 3 dX8_place_124 rfl rfl rfl ?_
          refine w_x (by decide) (by decide) ?_
          refine w_iret X hr dX8_place_125 ?_
          try dsimp only
          refine ⟨by omega, ⟨by omega, hme.mp (by omega)⟩, by rw [hM6, wu_V, r0], by rw [r0], Noted.of hnx14 (fun a a0 a1 a21 a22 a23 a24 a28 => ?_)⟩
          rw [hM6, wu_o a0, hR]
          unfold noteM
          rw [e0]
          by_cases q26 : a = 26
          · subst q26
            funext b x
            simp only [wu]
            split
            · rfl
            · split
              · rfl
              · unfold wo
                rw [if_neg (by omega), if_neg (by omega), eo 26 (by decide)]
          · rw [wu_o q26, wu_o q26, wu_o q26, wu_o q26]
            unfold wo
            split
            · rfl
            · exact eo a a28
        · refine r_thS X hfl hex gw_474 ts_718 dX8_place_83 dX8_place_86 dX8_place_87 dX8_place_89 dX8_place_92 (by decide) (by decide) (by decide) (by decide) ?_
          try dsimp only
          refine ⟨Or.inr ⟨rfl, by omega, fun q => ?_⟩, fun a _ _ _ _ _ h28 => eo a h28⟩
          first
            | omega
            | (have := hme.mpr q.2; omega)
  · refine r_thX X hfl hex gw_390 ts_695 dX8_place_8 dX8_place_11 dX8_place_12 dX8_place_14 dX8_place_17 (by decide) (by decide) (by decide) (by decide) ?_
    try dsimp only
    exact ⟨Or.inl ⟨rfl, by omega⟩, ScrEq.rfl⟩
