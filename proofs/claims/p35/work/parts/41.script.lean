theorem cf_X8_advancesCopy : wCal yX8_advancesCopy cX8_advancesCopy 4 (some .boolean) 3 := ⟨gw_954, gw_1, by decide, by decide, by rfl⟩
set_option maxRecDepth 100000 in
set_option maxHeartbeats 4000000 in
theorem c_X8_advancesCopy (l : Launch) (G : wG) (M : wM) (N P : Nat) (T : Int) (hcc : CCk M N P T) (hT6 : T ≤ 900000) (hT0 : 0 ≤ T) (u d : Nat) (sg : Int) (hu : u ≤ 99) (hd : d ≤ 9) (hsg : sg = 1 ∨ sg = -1) : Met l yX8_advancesCopy (gws yX8_advancesCopy cX8_advancesCopy 4 (some .boolean)) (wrm 4 0 0) (wPc G M [vR G (28, 0), vI (u : Int), vI (d : Int), vI sg]) (wQi G (fun z M1 => ((z = 0 ∧ M 1 0 8 < (d : Int)) ∨ (z = 1 ∧ ¬ M 1 0 8 < (d : Int) ∧ StepV N P (M 19) (M 1) (M1 1) (sg * u) (sg * d))) ∧ ∀ a, a ≠ 1 → a ≠ 21 → M1 a = M a)) 0 0 (wA G) := by
  refine wMet (lc := [(0, vR G (28, 0)), (1, vI (u : Int)), (2, vI (d : Int)), (3, vI sg)]) (by decide) (Nat.le_of_ble_eq_true rfl) rfl ?_
  intro p e s m args below meth c X hr
  have X : wX p s m args meth c G 4 "StateObserver" cX8_advancesCopy := X
  obtain ⟨hp, hm, hbx, htr⟩ := id hcc
  obtain ⟨hN, hN1, hN4, hP, hP1, hP3, hA, hB, hE, hC, hQ⟩ := id hp
  obtain ⟨hT, hL, hU, hS, hG, hY, hAg, hHo, hBo, hTi, hLi, hLb, hLl, hLh⟩ := id hm
  have hsu : -99 ≤ sg * (u : Int) ∧ sg * (u : Int) ≤ 99 := by rcases hsg with w | w <;> rw [w] <;> omega
  have hsd : -99 ≤ sg * (d : Int) ∧ sg * (d : Int) ≤ 99 := by rcases hsg with w | w <;> rw [w] <;> omega
  refine r_iload_n (pc' := 1) X 2 dX8_advancesCopy_0 rfl rfl rfl ?_
  refine r_aload_n (pc' := 2) X 0 dX8_advancesCopy_1 rfl rfl rfl ?_
  refine gf_28_copy (pc' := 5) X gw_298 dX8_advancesCopy_2 rfl ?_
  refine gf_M_bound (pc' := 8) X (by decide) gw_123 dX8_advancesCopy_5 rfl ?_
  refine r_icmp_le (pc' := 11) (tgt := 13) X dX8_advancesCopy_8 rfl rfl (by omega) (by omega) (fun h8 => ?_) (fun h8 => ?_)
  · refine r_aload_n (pc' := 14) X 0 dX8_advancesCopy_13 rfl rfl rfl ?_
    refine gf_28_motion (pc' := 17) X gw_302 dX8_advancesCopy_14 rfl ?_
    refine r_aload_n (pc' := 18) X 0 dX8_advancesCopy_17 rfl rfl rfl ?_
    refine gf_28_plant (pc' := 21) X gw_296 dX8_advancesCopy_18 rfl ?_
    refine r_aload_n (pc' := 22) X 0 dX8_advancesCopy_21 rfl rfl rfl ?_
    refine gf_28_copy (pc' := 25) X gw_298 dX8_advancesCopy_22 rfl ?_
    refine r_iload_n (pc' := 26) X 3 dX8_advancesCopy_25 rfl rfl rfl ?_
    refine r_iload_n (pc' := 27) X 1 dX8_advancesCopy_26 rfl rfl rfl ?_
    refine r_imul (pc' := 28) X dX8_advancesCopy_27 rfl ?_
    refine r_iload_n (pc' := 29) X 3 dX8_advancesCopy_28 rfl rfl rfl ?_
    refine r_iload_n (pc' := 30) X 2 dX8_advancesCopy_29 rfl rfl rfl ?_
    refine r_imul (pc' := 31) X dX8_advancesCopy_30 rfl ?_
    refine w_callv (pc' := 34) (st := []) (w_runV X (c_X2_advance l G M 19 1 N P (sg * (u : Int)) (sg * (d : Int)) T (by decide) (by decide) hsu hp hm (by first | assumption | omega) hsd) cf_X2_advance k21_0 rfl gw_736 gw_737 rfl rfl ⟨Nat.le_of_ble_eq_true rfl, Nat.le_of_ble_eq_true rfl⟩ rfl rfl (Nat.le_of_ble_eq_true rfl) ⟨Nat.le_of_ble_eq_true rfl, Nat.le_of_ble_eq_true rfl⟩ gw_735 dX8_advancesCopy_31) rfl (fun M1 h31 => ?_)
    refine r_iconst (pc' := 35) X dX8_advancesCopy_34 rfl ?_
    refine w_zret X hr (by decide) dX8_advancesCopy_35 ?_
    try dsimp only
    exact ⟨Or.inr ⟨rfl, by omega, h31.1⟩, h31.2⟩
  · refine r_iconst (pc' := 12) X dX8_advancesCopy_11 rfl ?_
    refine w_zret X hr (by decide) dX8_advancesCopy_12 ?_
    try dsimp only
    exact ⟨Or.inl ⟨rfl, by omega⟩, fun _ _ _ => rfl⟩
theorem cf_X8_succeeds : wCal yX8_succeeds cX8_succeeds 4 (some .boolean) 1 := ⟨gw_950, gw_1, by decide, by decide, by rfl⟩
set_option maxRecDepth 100000 in
set_option maxHeartbeats 4000000 in
theorem c_X8_succeeds (l : Launch) (G : wG) (M : wM) (N P : Nat) (T : Int) (hcc : CCk M N P T) (hT6 : T ≤ 900000) (hT0 : 0 ≤ T) (hck : COk M N P T) (cd : Nat) (hcd : cd < 10000) : Met l yX8_succeeds (gws yX8_succeeds cX8_succeeds 4 (some .boolean)) (wrm 5 0 0) (wPc G M [vR G (28, 0), vI (cd : Int)]) (wQi G (fun z M1 => ((z = 0 ∧ cmdF N P (M 19) (M 1) cd = none) ∨ (z = 1 ∧ ∃ w, cmdF N P (M 19) (M 1) cd = some w ∧ VEq N P (M1 1) w)) ∧ (z = 1 → CCk M1 N P (T + 1)) ∧ ∀ a, a ≠ 1 → a ≠ 21 → M1 a = M a)) 0 0 (wA G) := by
  refine wMet (lc := [(0, vR G (28, 0)), (1, vI (cd : Int))]) (by decide) (Nat.le_of_ble_eq_true rfl) rfl ?_
  intro p e s m args below meth c X hr
  have X : wX p s m args meth c G 4 "StateObserver" cX8_succeeds := X
  obtain ⟨hp, hm, hbx, htr⟩ := id hcc
  obtain ⟨hN, hN1, hN4, hP, hP1, hP3, hA, hB, hE, hC, hQ⟩ := id hp
  obtain ⟨hT, hL, hU, hS, hG, hY, hAg, hHo, hBo, hTi, hLi, hLb, hLl, hLh⟩ := id hm
  refine r_iload_n (pc' := 1) X 1 dX8_succeeds_0 rfl rfl rfl ?_
  refine r_bipush (pc' := 3) X dX8_succeeds_1 rfl rfl ?_
  refine r_idiv (pc' := 4) X dX8_succeeds_3 (by omega) (by omega) (by omega) rfl ?_
  refine w_eqI (z' := ((cd / 100 : Nat) : Int)) rfl ?_
  refine r_bipush (pc' := 6) X dX8_succeeds_4 rfl rfl ?_
  refine r_irem (pc' := 7) X dX8_succeeds_6 (by omega) (by omega) (by omega) rfl ?_
  refine w_eqI (z' := ((cd / 100 % 10 : Nat) : Int)) rfl ?_
  refine r_istore_n (pc' := 8) (lc' := [(0, vR G (28, 0)), (1, vI (cd : Int)), (2, vI ((cd / 100 % 10 : Nat) : Int))]) X [1, 2, 0] dX8_succeeds_7 rfl (by decide) rfl rfl ?_
  refine r_iload_n (pc' := 9) X 1 dX8_succeeds_8 rfl rfl rfl ?_
  refine r_bipush (pc' := 11) X dX8_succeeds_9 rfl rfl ?_
  refine r_irem (pc' := 12) X dX8_succeeds_11 (by omega) (by omega) (by omega) rfl ?_
  refine w_eqI (z' := ((cd % 100 : Nat) : Int)) rfl ?_
  refine r_istore_n (pc' := 13) (lc' := [(0, vR G (28, 0)), (1, vI (cd : Int)), (2, vI ((cd / 100 % 10 : Nat) : Int)), (3, vI ((cd % 100 : Nat) : Int))]) X [1, 2, 3, 0] dX8_succeeds_12 rfl (by decide) rfl rfl ?_
  refine r_iload_n (pc' := 14) X 1 dX8_succeeds_13 rfl rfl rfl ?_
  refine r_sipush (pc' := 17) X dX8_succeeds_14 rfl rfl ?_
  refine r_idiv (pc' := 18) X dX8_succeeds_17 (by omega) (by omega) (by omega) rfl ?_
  refine w_eqI (z' := ((cd / 1000 : Nat) : Int)) rfl ?_
  by_cases hs18 : 1 ≤ ((cd / 1000 : Nat) : Int) ∧ ((cd / 1000 : Nat) : Int) ≤ 7
  · rcases (show ((cd / 1000 : Nat) : Int) = 1 ∨ ((cd / 1000 : Nat) : Int) = 2 ∨ ((cd / 1000 : Nat) : Int) = 3 ∨ ((cd / 1000 : Nat) : Int) = 4 ∨ ((cd / 1000 : Nat) : Int) = 5 ∨ ((cd / 1000 : Nat) : Int) = 6 ∨ ((cd / 1000 : Nat) : Int) = 7 by omega) with hs18 | hs18 | hs18 | hs18 | hs18 | hs18 | hs18
    · refine r_tsw (v := 1) (tgt := 60) X dX8_succeeds_18 hs18 (by decide) (by decide) (by decide) rfl rfl ?_
      refine r_aload_n (pc' := 61) X 0 dX8_succeeds_60 rfl rfl rfl ?_
      refine r_iload_n (pc' := 62) X 1 dX8_succeeds_61 rfl rfl rfl ?_
      refine r_bipush (pc' := 64) X dX8_succeeds_62 rfl rfl ?_
      refine r_idiv (pc' := 65) X dX8_succeeds_64 (by omega) (by omega) (by omega) rfl ?_
      refine w_eqI (z' := ((cd / 10 : Nat) : Int)) rfl ?_
      refine r_bipush (pc' := 67) X dX8_succeeds_65 rfl rfl ?_
      refine r_irem (pc' := 68) X dX8_succeeds_67 (by omega) (by omega) (by omega) rfl ?_
      refine w_eqI (z' := ((cd / 10 % 100 : Nat) : Int)) rfl ?_
      refine r_iload_n (pc' := 69) X 1 dX8_succeeds_68 rfl rfl rfl ?_
      refine r_bipush (pc' := 71) X dX8_succeeds_69 rfl rfl ?_
      refine r_irem (pc' := 72) X dX8_succeeds_71 (by omega) (by omega) (by omega) rfl ?_
      refine w_eqI (z' := ((cd % 10 : Nat) : Int)) rfl ?_
      refine r_iconst (pc' := 73) X dX8_succeeds_72 rfl ?_
      refine w_calli (pc' := 76) (st := []) (w_runV X (c_X8_advancesCopy l G M N P T hcc (by first | assumption | omega) (by first | assumption | omega) (cd / 10 % 100) (cd % 10) 1 (by omega) (by omega) (by first | assumption | omega)) cf_X8_advancesCopy k28_0 rfl gw_953 gp_24 rfl rfl ⟨Nat.le_of_ble_eq_true rfl, Nat.le_of_ble_eq_true rfl⟩ rfl rfl (Nat.le_of_ble_eq_true rfl) ⟨Nat.le_of_ble_eq_true rfl, Nat.le_of_ble_eq_true rfl⟩ gw_951 dX8_succeeds_73) rfl (fun z73 M1 h73 => ?_)
      have hadv := h73.1
      have hfa := h73.2
      have hsgu : 1 * ((cd / 10 % 100 : Nat) : Int) = ((cd / 10 % 100 : Nat) : Int) := by omega
      have hsgd : 1 * ((cd % 10 : Nat) : Int) = ((cd % 10 : Nat) : Int) := by omega
      rw [hsgu, hsgd] at hadv
      refine w_zret X hr (by omega) dX8_succeeds_76 ?_
      try dsimp only
      rcases hadv with ⟨w1, w2⟩ | ⟨w1, w2, w3⟩
      · refine ⟨Or.inl ⟨w1, ?_⟩, fun w => absurd (w1.symm.trans w) (by decide), hfa⟩
        unfold cmdF
        rw [show cd / 1000 = 1 by omega]
        rw [if_pos rfl]
        rw [if_pos w2]
      · have hok := StepV.ok hp hm hbx w3 (by omega)
        have htk := StepV.tr hm htr w3 (by omega)
        refine ⟨Or.inr ⟨w1, _, ?_, w3.eqF hN4⟩, fun _ => ⟨by rw [hfa 19 (by decide) (by decide)]; exact hp, hok.1, hok.2, by rw [hfa 19 (by decide) (by decide)]; exact htk⟩, hfa⟩
        unfold cmdF
        rw [show cd / 1000 = 1 by omega]
        rw [if_pos rfl]
        rw [if_neg w2]
    · refine r_tsw (v := 2) (tgt := 77) X dX8_succeeds_18 hs18 (by decide) (by decide) (by decide) rfl rfl ?_
      refine r_aload_n (pc' := 78) X 0 dX8_succeeds_77 rfl rfl rfl ?_
      refine r_iload_n (pc' := 79) X 1 dX8_succeeds_78 rfl rfl rfl ?_
      refine r_bipush (pc' := 81) X dX8_succeeds_79 rfl rfl ?_
      refine r_idiv (pc' := 82) X dX8_succeeds_81 (by omega) (by omega) (by omega) rfl ?_
      refine w_eqI (z' := ((cd / 10 : Nat) : Int)) rfl ?_
      refine r_bipush (pc' := 84) X dX8_succeeds_82 rfl rfl ?_
      refine r_irem (pc' := 85) X dX8_succeeds_84 (by omega) (by omega) (by omega) rfl ?_
      refine w_eqI (z' := ((cd / 10 % 100 : Nat) : Int)) rfl ?_
      refine r_iload_n (pc' := 86) X 1 dX8_succeeds_85 rfl rfl rfl ?_
      refine r_bipush (pc' := 88) X dX8_succeeds_86 rfl rfl ?_
      refine r_irem (pc' := 89) X dX8_succeeds_88 (by omega) (by omega) (by omega) rfl ?_
      refine w_eqI (z' := ((cd % 10 : Nat) : Int)) rfl ?_
      refine r_iconst (pc' := 90) X dX8_succeeds_89 rfl ?_
      refine w_calli (pc' := 93) (st := []) (w_runV X (c_X8_advancesCopy l G M N P T hcc (by first | assumption | omega) (by first | assumption | omega) (cd / 10 % 100) (cd % 10) (-1) (by omega) (by omega) (by first | assumption | omega)) cf_X8_advancesCopy k28_0 rfl gw_953 gp_24 rfl rfl ⟨Nat.le_of_ble_eq_true rfl, Nat.le_of_ble_eq_true rfl⟩ rfl rfl (Nat.le_of_ble_eq_true rfl) ⟨Nat.le_of_ble_eq_true rfl, Nat.le_of_ble_eq_true rfl⟩ gw_951 dX8_succeeds_90) rfl (fun z90 M2 h90 => ?_)
      have hadv := h90.1
      have hfa := h90.2
      have hsgu : (-1) * ((cd / 10 % 100 : Nat) : Int) = -((cd / 10 % 100 : Nat) : Int) := by omega
      have hsgd : (-1) * ((cd % 10 : Nat) : Int) = -((cd % 10 : Nat) : Int) := by omega
      rw [hsgu, hsgd] at hadv
      refine w_zret X hr (by omega) dX8_succeeds_93 ?_
      try dsimp only
      rcases hadv with ⟨w1, w2⟩ | ⟨w1, w2, w3⟩
      · refine ⟨Or.inl ⟨w1, ?_⟩, fun w => absurd (w1.symm.trans w) (by decide), hfa⟩
        unfold cmdF
        rw [show cd / 1000 = 2 by omega]
        rw [if_neg (by decide)]
        rw [if_pos rfl]
        rw [if_pos w2]
      · have hok := StepV.ok hp hm hbx w3 (by omega)
        have htk := StepV.tr hm htr w3 (by omega)
        refine ⟨Or.inr ⟨w1, _, ?_, w3.eqF hN4⟩, fun _ => ⟨by rw [hfa 19 (by decide) (by decide)]; exact hp, hok.1, hok.2, by rw [hfa 19 (by decide) (by decide)]; exact htk⟩, hfa⟩
        unfold cmdF
        rw [show cd / 1000 = 2 by omega]
        rw [if_neg (by decide)]
        rw [if_pos rfl]
        rw [if_neg w2]
    · refine r_tsw (v := 3) (tgt := 94) X dX8_succeeds_18 hs18 (by decide) (by decide) (by decide) rfl rfl ?_
      refine r_iload_n (pc' := 95) X 2 dX8_succeeds_94 rfl rfl rfl ?_
      refine r_if_ne (pc' := 98) (tgt := 106) X dX8_succeeds_95 rfl rfl (by omega) (fun h95 => ?_) (fun h95 => ?_)
      · refine r_iconst (pc' := 107) X dX8_succeeds_106 rfl ?_
        refine w_zret X hr (by decide) dX8_succeeds_107 ?_
        try dsimp only
        refine ⟨Or.inl ⟨rfl, ?_⟩, fun w => absurd w (by decide), fun _ _ _ => rfl⟩
        unfold cmdF
        rw [show cd / 1000 = 3 by omega]
        rw [if_neg (by decide)]
        rw [if_neg (by decide)]
        rw [if_pos rfl]
        rw [if_neg (by omega)]
      · refine r_aload_n (pc' := 99) X 0 dX8_succeeds_98 rfl rfl rfl ?_
        refine r_iload_n (pc' := 100) X 3 dX8_succeeds_99 rfl rfl rfl ?_
        refine w_calli (pc' := 103) (st := []) (w_runV X (c_X8_isOutput l G M N P T hck (by first | assumption | omega) ((cd % 100 : Nat) : Int) (by first | assumption | omega)) cf_X8_isOutput k28_0 rfl gw_388 gp_8 rfl rfl ⟨Nat.le_of_ble_eq_true rfl, Nat.le_of_ble_eq_true rfl⟩ rfl rfl (Nat.le_of_ble_eq_true rfl) ⟨Nat.le_of_ble_eq_true rfl, Nat.le_of_ble_eq_true rfl⟩ gw_386 dX8_succeeds_100) rfl (fun z100 M3 h100 => ?_)
        have hz100 := h100.1
        obtain rfl := h100.2.symm
        have hi100 : z100 = 0 ∨ z100 = 1 := by rw [hz100]; split <;> omega
        have hq100 : z100 = 1 ↔ (0 ≤ ((cd % 100 : Nat) : Int) ∧ ((cd % 100 : Nat) : Int) < P) := by rw [hz100]; split <;> omega
        refine r_if_ne (pc' := 106) (tgt := 108) X dX8_succeeds_103 rfl rfl (by omega) (fun h103 => ?_) (fun h103 => ?_)
        · refine r_aload_n (pc' := 109) X 0 dX8_succeeds_108 rfl rfl rfl ?_
          refine gf_28_motion (pc' := 112) X gw_302 dX8_succeeds_109 rfl ?_
          refine r_aload_n (pc' := 113) X 0 dX8_succeeds_112 rfl rfl rfl ?_
          refine gf_28_plant (pc' := 116) X gw_296 dX8_succeeds_113 rfl ?_
          refine r_aload_n (pc' := 117) X 0 dX8_succeeds_116 rfl rfl rfl ?_
          refine gf_28_copy (pc' := 120) X gw_298 dX8_succeeds_117 rfl ?_
          refine r_iload_n (pc' := 121) X 3 dX8_succeeds_120 rfl rfl rfl ?_
          refine w_callv (pc' := 124) (st := []) (w_runV X (c_X2_observe l G M 19 1 (cd % 100) N P T (by decide) (by decide) (by omega) hp hm (by first | assumption | omega) hbx (by first | assumption | omega)) cf_X2_observe k21_0 rfl gw_783 gw_784 rfl rfl ⟨Nat.le_of_ble_eq_true rfl, Nat.le_of_ble_eq_true rfl⟩ rfl rfl (Nat.le_of_ble_eq_true rfl) ⟨Nat.le_of_ble_eq_true rfl, Nat.le_of_ble_eq_true rfl⟩ gw_782 dX8_succeeds_121) rfl (fun M4 h121 => ?_)
          have e3 : M4 1 = obsV N P (M 19) (M 1) (cd % 100) := by
            rw [h121, setLH_V]
            rfl
          have hf3 : ∀ a, a ≠ 1 → a ≠ 21 → M4 a = M a := fun a ha _ => by rw [h121, setLH_o ha, wr_o ha, wr_o ha]
          have hob := obs_ok hp hm hT0 hbx htr (show cd % 100 < P by omega)
          have hcc3 : CCk M4 N P (T + 1) := ⟨by rw [hf3 19 (by decide) (by decide)]; exact hp, by rw [e3]; exact hob.1.mono (by omega), by rw [e3]; exact hob.2.1, by rw [e3, hf3 19 (by decide) (by decide)]; exact hob.2.2⟩
          refine r_iconst (pc' := 125) X dX8_succeeds_124 rfl ?_
          refine w_zret X hr (by decide) dX8_succeeds_125 ?_
          try dsimp only
          refine ⟨Or.inr ⟨rfl, _, ?_, VEq.self⟩, fun _ => hcc3, hf3⟩
          unfold cmdF
          rw [show cd / 1000 = 3 by omega]
          rw [if_neg (by decide)]
          rw [if_neg (by decide)]
          rw [if_pos rfl]
          rw [if_pos (by omega), e3]
        · refine r_iconst (pc' := 107) X dX8_succeeds_106 rfl ?_
          refine w_zret X hr (by decide) dX8_succeeds_107 ?_
          try dsimp only
          refine ⟨Or.inl ⟨rfl, ?_⟩, fun w => absurd w (by decide), fun _ _ _ => rfl⟩
          unfold cmdF
          rw [show cd / 1000 = 3 by omega]
          rw [if_neg (by decide)]
          rw [if_neg (by decide)]
          rw [if_pos rfl]
          rw [if_neg (by omega)]
    · refine r_tsw (v := 4) (tgt := 126) X dX8_succeeds_18 hs18 (by decide) (by decide) (by decide) rfl rfl ?_
      refine r_aload_n (pc' := 127) X 0 dX8_succeeds_126 rfl rfl rfl ?_
      refine r_iload_n (pc' := 128) X 2 dX8_succeeds_127 rfl rfl rfl ?_
      refine w_calli (pc' := 131) (st := []) (w_runV X (c_X8_isState l G M N P T hck (by first | assumption | omega) ((cd / 100 % 10 : Nat) : Int) (by first | assumption | omega)) cf_X8_isState k28_0 rfl gw_628 gp_10 rfl rfl ⟨Nat.le_of_ble_eq_true rfl, Nat.le_of_ble_eq_true rfl⟩ rfl rfl (Nat.le_of_ble_eq_true rfl) ⟨Nat.le_of_ble_eq_true rfl, Nat.le_of_ble_eq_true rfl⟩ gw_626 dX8_succeeds_128) rfl (fun z128 M5 h128 => ?_)
      have hz128 := h128.1
      obtain rfl := h128.2.symm
      have hi128 : z128 = 0 ∨ z128 = 1 := by rw [hz128]; split <;> omega
      have hq128 : z128 = 1 ↔ (0 ≤ ((cd / 100 % 10 : Nat) : Int) ∧ ((cd / 100 % 10 : Nat) : Int) < N) := by rw [hz128]; split <;> omega
      refine r_if_eq (pc' := 134) (tgt := 161) X dX8_succeeds_131 rfl rfl (by omega) (fun h131 => ?_) (fun h131 => ?_)
      · refine r_iconst (pc' := 162) X dX8_succeeds_161 rfl ?_
        refine w_zret X hr (by decide) dX8_succeeds_162 ?_
        try dsimp only
        refine ⟨Or.inl ⟨rfl, ?_⟩, fun w => absurd w (by decide), fun _ _ _ => rfl⟩
        unfold cmdF
        rw [show cd / 1000 = 4 by omega]
        rw [if_neg (by decide)]
        rw [if_neg (by decide)]
        rw [if_neg (by decide)]
        rw [if_pos rfl]
        rw [if_neg (by omega)]
      · have b1 := hL (cd / 100 % 10) (by omega)
        have b2 := hU (cd / 100 % 10) (by omega)
        refine r_aload_n (pc' := 135) X 0 dX8_succeeds_134 rfl rfl rfl ?_
        refine gf_28_copy (pc' := 138) X gw_298 dX8_succeeds_135 rfl ?_
        refine gf_M_upper (pc' := 141) X (by decide) gw_100 dX8_succeeds_138 rfl ?_
        refine r_iload_n (pc' := 142) X 2 dX8_succeeds_141 rfl rfl rfl ?_
        refine r_iald (i := (cd / 100 % 10)) (pc' := 143) X (kM_3 (by decide)) rfl (by omega) (by decide) dX8_succeeds_142 rfl ?_
        refine r_aload_n (pc' := 144) X 0 dX8_succeeds_143 rfl rfl rfl ?_
        refine gf_28_copy (pc' := 147) X gw_298 dX8_succeeds_144 rfl ?_
        refine gf_M_lower (pc' := 150) X (by decide) gw_96 dX8_succeeds_147 rfl ?_
        refine r_iload_n (pc' := 151) X 2 dX8_succeeds_150 rfl rfl rfl ?_
        refine r_iald (i := (cd / 100 % 10)) (pc' := 152) X (kM_2 (by decide)) rfl (by omega) (by decide) dX8_succeeds_151 rfl ?_
        refine r_isub (pc' := 153) X dX8_succeeds_152 rfl ?_
        refine r_iload_n (pc' := 154) X 3 dX8_succeeds_153 rfl rfl rfl ?_
        refine r_icmp_gt (pc' := 157) (tgt := 161) X dX8_succeeds_154 rfl rfl (by omega) (by omega) (fun h154 => ?_) (fun h154 => ?_)
        · refine r_iconst (pc' := 162) X dX8_succeeds_161 rfl ?_
          refine w_zret X hr (by decide) dX8_succeeds_162 ?_
          try dsimp only
          refine ⟨Or.inl ⟨rfl, ?_⟩, fun w => absurd w (by decide), fun _ _ _ => rfl⟩
          unfold cmdF
          rw [show cd / 1000 = 4 by omega]
          rw [if_neg (by decide)]
          rw [if_neg (by decide)]
          rw [if_neg (by decide)]
          rw [if_pos rfl]
          rw [if_neg (by omega)]
        · refine r_iconst (pc' := 158) X dX8_succeeds_157 rfl ?_
          refine r_goto (tgt := 162) X dX8_succeeds_158 rfl ?_
          refine w_zret X hr (by decide) dX8_succeeds_162 ?_
          try dsimp only
          refine ⟨Or.inr ⟨rfl, _, ?_, VEq.self⟩, fun _ => ⟨hp, hm.mono (by omega), hbx, htr⟩, fun _ _ _ => rfl⟩
          unfold cmdF
          rw [show cd / 1000 = 4 by omega]
          rw [if_neg (by decide)]
          rw [if_neg (by decide)]
          rw [if_neg (by decide)]
          rw [if_pos rfl]
          rw [if_pos (by omega)]
    · refine r_tsw (v := 5) (tgt := 163) X dX8_succeeds_18 hs18 (by decide) (by decide) (by decide) rfl rfl ?_
      refine r_aload_n (pc' := 164) X 0 dX8_succeeds_163 rfl rfl rfl ?_
      refine r_iload_n (pc' := 165) X 2 dX8_succeeds_164 rfl rfl rfl ?_
      refine w_calli (pc' := 168) (st := []) (w_runV X (c_X8_isState l G M N P T hck (by first | assumption | omega) ((cd / 100 % 10 : Nat) : Int) (by first | assumption | omega)) cf_X8_isState k28_0 rfl gw_628 gp_10 rfl rfl ⟨Nat.le_of_ble_eq_true rfl, Nat.le_of_ble_eq_true rfl⟩ rfl rfl (Nat.le_of_ble_eq_true rfl) ⟨Nat.le_of_ble_eq_true rfl, Nat.le_of_ble_eq_true rfl⟩ gw_626 dX8_succeeds_165) rfl (fun z165 M6 h165 => ?_)
      have hz165 := h165.1
      obtain rfl := h165.2.symm
      have hi165 : z165 = 0 ∨ z165 = 1 := by rw [hz165]; split <;> omega
      have hq165 : z165 = 1 ↔ (0 ≤ ((cd / 100 % 10 : Nat) : Int) ∧ ((cd / 100 % 10 : Nat) : Int) < N) := by rw [hz165]; split <;> omega
      refine r_if_eq (pc' := 171) (tgt := 188) X dX8_succeeds_168 rfl rfl (by omega) (fun h168 => ?_) (fun h168 => ?_)
      · refine r_iconst (pc' := 189) X dX8_succeeds_188 rfl ?_
        refine w_zret X hr (by decide) dX8_succeeds_189 ?_
        try dsimp only
        refine ⟨Or.inl ⟨rfl, ?_⟩, fun w => absurd w (by decide), fun _ _ _ => rfl⟩
        unfold cmdF
        rw [show cd / 1000 = 5 by omega]
        rw [if_neg (by decide)]
        rw [if_neg (by decide)]
        rw [if_neg (by decide)]
        rw [if_neg (by decide)]
        rw [if_pos rfl]
        rw [if_neg (by omega)]
      · have b1 := hL (cd / 100 % 10) (by omega)
        refine r_aload_n (pc' := 172) X 0 dX8_succeeds_171 rfl rfl rfl ?_
        refine gf_28_copy (pc' := 175) X gw_298 dX8_succeeds_172 rfl ?_
        refine gf_M_lower (pc' := 178) X (by decide) gw_96 dX8_succeeds_175 rfl ?_
        refine r_iload_n (pc' := 179) X 2 dX8_succeeds_178 rfl rfl rfl ?_
        refine r_iald (i := (cd / 100 % 10)) (pc' := 180) X (kM_2 (by decide)) rfl (by omega) (by decide) dX8_succeeds_179 rfl ?_
        refine r_iload_n (pc' := 181) X 3 dX8_succeeds_180 rfl rfl rfl ?_
        refine r_icmp_lt (pc' := 184) (tgt := 188) X dX8_succeeds_181 rfl rfl (by omega) (by omega) (fun h181 => ?_) (fun h181 => ?_)
        · refine r_iconst (pc' := 189) X dX8_succeeds_188 rfl ?_
          refine w_zret X hr (by decide) dX8_succeeds_189 ?_
          try dsimp only
          refine ⟨Or.inl ⟨rfl, ?_⟩, fun w => absurd w (by decide), fun _ _ _ => rfl⟩
          unfold cmdF
          rw [show cd / 1000 = 5 by omega]
          rw [if_neg (by decide)]
          rw [if_neg (by decide)]
          rw [if_neg (by decide)]
          rw [if_neg (by decide)]
          rw [if_pos rfl]
          rw [if_neg (by omega)]
        · refine r_iconst (pc' := 185) X dX8_succeeds_184 rfl ?_
          refine r_goto (tgt := 189) X dX8_succeeds_185 rfl ?_
          refine w_zret X hr (by decide) dX8_succeeds_189 ?_
          try dsimp only
          refine ⟨Or.inr ⟨rfl, _, ?_, VEq.self⟩, fun _ => ⟨hp, hm.mono (by omega), hbx, htr⟩, fun _ _ _ => rfl⟩
          unfold cmdF
          rw [show cd / 1000 = 5 by omega]
          rw [if_neg (by decide)]
          rw [if_neg (by decide)]
          rw [if_neg (by decide)]
          rw [if_neg (by decide)]
          rw [if_pos rfl]
          rw [if_pos (by omega)]
    · refine r_tsw (v := 6) (tgt := 190) X dX8_succeeds_18 hs18 (by decide) (by decide) (by decide) rfl rfl ?_
      refine r_iload_n (pc' := 191) X 3 dX8_succeeds_190 rfl rfl rfl ?_
      refine r_bipush (pc' := 193) X dX8_succeeds_191 rfl rfl ?_
      refine r_icmp_ge (pc' := 196) (tgt := 221) X dX8_succeeds_193 rfl rfl (by omega) (by omega) (fun h193 => ?_) (fun h193 => ?_)
      · refine r_iconst (pc' := 222) X dX8_succeeds_221 rfl ?_
        refine w_zret X hr (by decide) dX8_succeeds_222 ?_
        try dsimp only
        refine ⟨Or.inl ⟨rfl, ?_⟩, fun w => absurd w (by decide), fun _ _ _ => rfl⟩
        unfold cmdF
        rw [show cd / 1000 = 6 by omega]
        rw [if_neg (by decide)]
        rw [if_neg (by decide)]
        rw [if_neg (by decide)]
        rw [if_neg (by decide)]
        rw [if_neg (by decide)]
        rw [if_pos rfl]
        rw [if_neg (by omega)]
      · refine r_aload_n (pc' := 197) X 0 dX8_succeeds_196 rfl rfl rfl ?_
        refine r_iload_n (pc' := 198) X 2 dX8_succeeds_197 rfl rfl rfl ?_
        refine w_calli (pc' := 201) (st := []) (w_runV X (c_X8_isOutput l G M N P T hck (by first | assumption | omega) ((cd / 100 % 10 : Nat) : Int) (by first | assumption | omega)) cf_X8_isOutput k28_0 rfl gw_388 gp_8 rfl rfl ⟨Nat.le_of_ble_eq_true rfl, Nat.le_of_ble_eq_true rfl⟩ rfl rfl (Nat.le_of_ble_eq_true rfl) ⟨Nat.le_of_ble_eq_true rfl, Nat.le_of_ble_eq_true rfl⟩ gw_386 dX8_succeeds_198) rfl (fun z198 M7 h198 => ?_)
        have hz198 := h198.1
        obtain rfl := h198.2.symm
        have hi198 : z198 = 0 ∨ z198 = 1 := by rw [hz198]; split <;> omega
        have hq198 : z198 = 1 ↔ (0 ≤ ((cd / 100 % 10 : Nat) : Int) ∧ ((cd / 100 % 10 : Nat) : Int) < P) := by rw [hz198]; split <;> omega
        refine r_if_eq (pc' := 204) (tgt := 221) X dX8_succeeds_201 rfl rfl (by omega) (fun h201 => ?_) (fun h201 => ?_)
        · refine r_iconst (pc' := 222) X dX8_succeeds_221 rfl ?_
          refine w_zret X hr (by decide) dX8_succeeds_222 ?_
          try dsimp only
          refine ⟨Or.inl ⟨rfl, ?_⟩, fun w => absurd w (by decide), fun _ _ _ => rfl⟩
          unfold cmdF
          rw [show cd / 1000 = 6 by omega]
          rw [if_neg (by decide)]
          rw [if_neg (by decide)]
          rw [if_neg (by decide)]
          rw [if_neg (by decide)]
          rw [if_neg (by decide)]
          rw [if_pos rfl]
          rw [if_neg (by omega)]
        · have b1 := hAg (cd / 100 % 10) (by omega)
          refine r_aload_n (pc' := 205) X 0 dX8_succeeds_204 rfl rfl rfl ?_
          refine gf_28_copy (pc' := 208) X gw_298 dX8_succeeds_205 rfl ?_
          refine gf_M_age (pc' := 211) X (by decide) gw_115 dX8_succeeds_208 rfl ?_
          refine r_iload_n (pc' := 212) X 2 dX8_succeeds_211 rfl rfl rfl ?_
          refine r_iald (i := (cd / 100 % 10)) (pc' := 213) X (kM_11 (by decide)) rfl (by omega) (by decide) dX8_succeeds_212 rfl ?_
          refine r_iload_n (pc' := 214) X 3 dX8_succeeds_213 rfl rfl rfl ?_
          refine r_icmp_ne (pc' := 217) (tgt := 221) X dX8_succeeds_214 rfl rfl (by omega) (by omega) (fun h214 => ?_) (fun h214 => ?_)
          · refine r_iconst (pc' := 222) X dX8_succeeds_221 rfl ?_
            refine w_zret X hr (by decide) dX8_succeeds_222 ?_
            try dsimp only
            refine ⟨Or.inl ⟨rfl, ?_⟩, fun w => absurd w (by decide), fun _ _ _ => rfl⟩
            unfold cmdF
            rw [show cd / 1000 = 6 by omega]
            rw [if_neg (by decide)]
            rw [if_neg (by decide)]
            rw [if_neg (by decide)]
            rw [if_neg (by decide)]
            rw [if_neg (by decide)]
            rw [if_pos rfl]
            rw [if_neg (by omega)]
          · refine r_iconst (pc' := 218) X dX8_succeeds_217 rfl ?_
            refine r_goto (tgt := 222) X dX8_succeeds_218 rfl ?_
            refine w_zret X hr (by decide) dX8_succeeds_222 ?_
            try dsimp only
            refine ⟨Or.inr ⟨rfl, _, ?_, VEq.self⟩, fun _ => ⟨hp, hm.mono (by omega), hbx, htr⟩, fun _ _ _ => rfl⟩
            unfold cmdF
            rw [show cd / 1000 = 6 by omega]
            rw [if_neg (by decide)]
            rw [if_neg (by decide)]
            rw [if_neg (by decide)]
            rw [if_neg (by decide)]
            rw [if_neg (by decide)]
            rw [if_pos rfl]
            rw [if_pos (by omega)]
    · refine r_tsw (v := 7) (tgt := 223) X dX8_succeeds_18 hs18 (by decide) (by decide) (by decide) rfl rfl ?_
      refine r_aload_n (pc' := 224) X 0 dX8_succeeds_223 rfl rfl rfl ?_
      refine r_iload_n (pc' := 225) X 2 dX8_succeeds_224 rfl rfl rfl ?_
      refine w_calli (pc' := 228) (st := []) (w_runV X (c_X8_isState l G M N P T hck (by first | assumption | omega) ((cd / 100 % 10 : Nat) : Int) (by first | assumption | omega)) cf_X8_isState k28_0 rfl gw_628 gp_10 rfl rfl ⟨Nat.le_of_ble_eq_true rfl, Nat.le_of_ble_eq_true rfl⟩ rfl rfl (Nat.le_of_ble_eq_true rfl) ⟨Nat.le_of_ble_eq_true rfl, Nat.le_of_ble_eq_true rfl⟩ gw_626 dX8_succeeds_225) rfl (fun z225 M8 h225 => ?_)
      have hz225 := h225.1
      obtain rfl := h225.2.symm
      have hi225 : z225 = 0 ∨ z225 = 1 := by rw [hz225]; split <;> omega
      have hq225 : z225 = 1 ↔ (0 ≤ ((cd / 100 % 10 : Nat) : Int) ∧ ((cd / 100 % 10 : Nat) : Int) < N) := by rw [hz225]; split <;> omega
      refine r_if_eq (pc' := 231) (tgt := 248) X dX8_succeeds_228 rfl rfl (by omega) (fun h228 => ?_) (fun h228 => ?_)
      · refine r_iconst (pc' := 249) X dX8_succeeds_248 rfl ?_
        refine w_zret X hr (by decide) dX8_succeeds_249 ?_
        try dsimp only
        refine ⟨Or.inl ⟨rfl, ?_⟩, fun w => absurd w (by decide), fun _ _ _ => rfl⟩
        unfold cmdF
        rw [show cd / 1000 = 7 by omega]
        rw [if_neg (by decide)]
        rw [if_neg (by decide)]
        rw [if_neg (by decide)]
        rw [if_neg (by decide)]
        rw [if_neg (by decide)]
        rw [if_neg (by decide)]
        rw [if_pos rfl]
        rw [if_neg (by omega)]
      · have b1 := hT (cd / 100 % 10) (by omega)
        refine r_aload_n (pc' := 232) X 0 dX8_succeeds_231 rfl rfl rfl ?_
        refine gf_28_copy (pc' := 235) X gw_298 dX8_succeeds_232 rfl ?_
        refine gf_M_truth (pc' := 238) X (by decide) gw_92 dX8_succeeds_235 rfl ?_
        refine r_iload_n (pc' := 239) X 2 dX8_succeeds_238 rfl rfl rfl ?_
        refine r_iald (i := (cd / 100 % 10)) (pc' := 240) X (kM_1 (by decide)) rfl (by omega) (by decide) dX8_succeeds_239 rfl ?_
        refine r_iload_n (pc' := 241) X 3 dX8_succeeds_240 rfl rfl rfl ?_
        refine r_icmp_gt (pc' := 244) (tgt := 248) X dX8_succeeds_241 rfl rfl (by omega) (by omega) (fun h241 => ?_) (fun h241 => ?_)
        · refine r_iconst (pc' := 249) X dX8_succeeds_248 rfl ?_
          refine w_zret X hr (by decide) dX8_succeeds_249 ?_
          try dsimp only
          refine ⟨Or.inl ⟨rfl, ?_⟩, fun w => absurd w (by decide), fun _ _ _ => rfl⟩
          unfold cmdF
          rw [show cd / 1000 = 7 by omega]
          rw [if_neg (by decide)]
          rw [if_neg (by decide)]
          rw [if_neg (by decide)]
          rw [if_neg (by decide)]
          rw [if_neg (by decide)]
          rw [if_neg (by decide)]
          rw [if_pos rfl]
          rw [if_neg (by omega)]
        · refine r_iconst (pc' := 245) X dX8_succeeds_244 rfl ?_
          refine r_goto (tgt := 249) X dX8_succeeds_245 rfl ?_
          refine w_zret X hr (by decide) dX8_succeeds_249 ?_
          try dsimp only
          refine ⟨Or.inr ⟨rfl, _, ?_, VEq.self⟩, fun _ => ⟨hp, hm.mono (by omega), hbx, htr⟩, fun _ _ _ => rfl⟩
          unfold cmdF
          rw [show cd / 1000 = 7 by omega]
          rw [if_neg (by decide)]
          rw [if_neg (by decide)]
          rw [if_neg (by decide)]
          rw [if_neg (by decide)]
          rw [if_neg (by decide)]
          rw [if_neg (by decide)]
          rw [if_pos rfl]
          rw [if_pos (by omega)]
  · refine r_tswD (tgt := 250) X dX8_succeeds_18 (by omega) (by omega) rfl ?_
    refine r_iconst (pc' := 251) X dX8_succeeds_250 rfl ?_
    refine w_zret X hr (by decide) dX8_succeeds_251 ?_
    try dsimp only
    refine ⟨Or.inl ⟨rfl, ?_⟩, fun w => absurd w (by decide), fun _ _ _ => rfl⟩
    unfold cmdF
    rw [if_neg (by omega), if_neg (by omega), if_neg (by omega), if_neg (by omega), if_neg (by omega), if_neg (by omega), if_neg (by omega)]
