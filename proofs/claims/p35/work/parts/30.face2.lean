theorem cf_X8_state : wCal yX8_state cX8_state 3 (some .int) 2 := ⟨gw_694, gw_1, by decide, by decide, by rfl⟩
set_option maxRecDepth 100000 in
set_option maxHeartbeats 4000000 in
theorem c_X8_state (l : Launch) (G : wG) (M : wM) (hfl : l.stackTraces = false) (N P : Nat) (T : Int) (hck : COk M N P T) (hT6 : T ≤ 1000000) (i w : Int) (hi : rI i) (hw : rI w) : vx_Met l yX8_state (gws yX8_state cX8_state 3 (some .int)) (wrm 6 1 6) (wPc G M [vR G (28, 0), vI i, vI w]) (wQi G (fun z M1 => (0 ≤ i ∧ i < N) ∧ (0 ≤ w ∧ w ≤ 4) ∧ z = stateF (M 0) i.toNat w ∧ M1 = M)) (wQx G (fun E M1 => ((E = "java/lang/IndexOutOfBoundsException" ∧ ¬ (0 ≤ i ∧ i < N)) ∨ (E = "java/lang/IllegalArgumentException" ∧ (0 ≤ i ∧ i < N) ∧ ¬ (0 ≤ w ∧ w ≤ 4))) ∧ ScrEq M M1)) 1 6 (wA G) := by
  refine wMetX (lc := [(0, vR G (28, 0)), (1, vI i), (2, vI w)]) (by decide) (Nat.le_of_ble_eq_true rfl) rfl ?_
  intro p e s m args below meth c X hr hex
  have X : wX p s m args meth c G 3 "StateObserver" cX8_state := X
  obtain ⟨hp, hm, hbx⟩ := id hck
  obtain ⟨hN, hN1, hN4, hP, hP1, hP3, hA, hB, hE, hC, hQ⟩ := id hp
  obtain ⟨hT, hL, hU, hS, hG, hY, hAg, hHo, hBo, hTi, hLi, hLb, hLl, hLh⟩ := id hm
  refine r_aload_n (pc' := 1) X 0 dX8_state_0 rfl rfl rfl ?_
  refine r_iload_n (pc' := 2) X 1 dX8_state_1 rfl rfl rfl ?_
  refine w_calli (pc' := 5) (st := []) (w_runV X (c_X8_isState l G M N P T hck (by first | assumption | omega) i (by first | assumption | omega)) cf_X8_isState k28_0 rfl gw_628 gp_10 rfl rfl ⟨Nat.le_of_ble_eq_true rfl, Nat.le_of_ble_eq_true rfl⟩ rfl rfl (Nat.le_of_ble_eq_true rfl) ⟨Nat.le_of_ble_eq_true rfl, Nat.le_of_ble_eq_true rfl⟩ gw_626 dX8_state_2) rfl (fun z2 M1 h2 => ?_)
  have hz2 := h2.1
  obtain rfl := h2.2.symm
  have hi2 : z2 = 0 ∨ z2 = 1 := by rw [hz2]; split <;> omega
  have hq2 : z2 = 1 ↔ (0 ≤ i ∧ i < N) := by rw [hz2]; split <;> omega
  refine r_if_ne (pc' := 8) (tgt := 18) X dX8_state_5 rfl rfl (by omega) (fun h5 => ?_) (fun h5 => ?_)
  · refine r_iload_n (pc' := 19) X 2 dX8_state_18 rfl rfl rfl ?_
    by_cases hs19 : 0 ≤ w ∧ w ≤ 4
    · rcases (show w = 0 ∨ w = 1 ∨ w = 2 ∨ w = 3 ∨ w = 4 by omega) with hs19 | hs19 | hs19 | hs19 | hs19
      · refine r_tsw (v := 0) (tgt := 52) X dX8_state_19 hs19 (by decide) (by decide) (by decide) rfl rfl ?_
        refine r_aload_n (pc' := 53) X 0 dX8_state_52 rfl rfl rfl ?_
        refine gf_28_now (pc' := 56) X gw_297 dX8_state_53 rfl ?_
        refine gf_M_truth (pc' := 59) X (by decide) gw_92 dX8_state_56 rfl ?_
        refine r_iload_n (pc' := 60) X 1 dX8_state_59 rfl rfl rfl ?_
        refine r_iald (i := i.toNat) (pc' := 61) X (kM_1 (by decide)) (by omega) (by omega) (by decide) dX8_state_60 rfl ?_
        refine w_x (by decide) (by decide) ?_
        refine w_iret X hr dX8_state_61 ?_
        try dsimp only
        refine ⟨by omega, by omega, ?_, rfl⟩
        unfold stateF
        rw [hs19]
        rfl
      · refine r_tsw (v := 1) (tgt := 62) X dX8_state_19 hs19 (by decide) (by decide) (by decide) rfl rfl ?_
        refine r_aload_n (pc' := 63) X 0 dX8_state_62 rfl rfl rfl ?_
        refine gf_28_now (pc' := 66) X gw_297 dX8_state_63 rfl ?_
        refine gf_M_lower (pc' := 69) X (by decide) gw_96 dX8_state_66 rfl ?_
        refine r_iload_n (pc' := 70) X 1 dX8_state_69 rfl rfl rfl ?_
        refine r_iald (i := i.toNat) (pc' := 71) X (kM_2 (by decide)) (by omega) (by omega) (by decide) dX8_state_70 rfl ?_
        refine w_x (by decide) (by decide) ?_
        refine w_iret X hr dX8_state_71 ?_
        try dsimp only
        refine ⟨by omega, by omega, ?_, rfl⟩
        unfold stateF
        rw [hs19]
        rfl
      · refine r_tsw (v := 2) (tgt := 72) X dX8_state_19 hs19 (by decide) (by decide) (by decide) rfl rfl ?_
        refine r_aload_n (pc' := 73) X 0 dX8_state_72 rfl rfl rfl ?_
        refine gf_28_now (pc' := 76) X gw_297 dX8_state_73 rfl ?_
        refine gf_M_upper (pc' := 79) X (by decide) gw_100 dX8_state_76 rfl ?_
        refine r_iload_n (pc' := 80) X 1 dX8_state_79 rfl rfl rfl ?_
        refine r_iald (i := i.toNat) (pc' := 81) X (kM_3 (by decide)) (by omega) (by omega) (by decide) dX8_state_80 rfl ?_
        refine w_x (by decide) (by decide) ?_
        refine w_iret X hr dX8_state_81 ?_
        try dsimp only
        refine ⟨by omega, by omega, ?_, rfl⟩
        unfold stateF
        rw [hs19]
        rfl
      · refine r_tsw (v := 3) (tgt := 82) X dX8_state_19 hs19 (by decide) (by decide) (by decide) rfl rfl ?_
        refine r_aload_n (pc' := 83) X 0 dX8_state_82 rfl rfl rfl ?_
        refine gf_28_now (pc' := 86) X gw_297 dX8_state_83 rfl ?_
        refine gf_M_estimate (pc' := 89) X (by decide) gw_103 dX8_state_86 rfl ?_
        refine r_iload_n (pc' := 90) X 1 dX8_state_89 rfl rfl rfl ?_
        refine r_iald (i := i.toNat) (pc' := 91) X (kM_4 (by decide)) (by omega) (by omega) (by decide) dX8_state_90 rfl ?_
        refine w_x (by decide) (by decide) ?_
        refine w_iret X hr dX8_state_91 ?_
        try dsimp only
        refine ⟨by omega, by omega, ?_, rfl⟩
        unfold stateF
        rw [hs19]
        rfl
      · refine r_tsw (v := 4) (tgt := 92) X dX8_state_19 hs19 (by decide) (by decide) (by decide) rfl rfl ?_
        refine r_bipush (pc' := 94) X dX8_state_92 rfl rfl ?_
        refine r_aload_n (pc' := 95) X 0 dX8_state_94 rfl rfl rfl ?_
        refine gf_28_now (pc' := 98) X gw_297 dX8_state_95 rfl ?_
        refine gf_M_lower (pc' := 101) X (by decide) gw_96 dX8_state_98 rfl ?_
        refine r_iload_n (pc' := 102) X 1 dX8_state_101 rfl rfl rfl ?_
        refine r_iald (i := i.toNat) (pc' := 103) X (kM_2 (by decide)) (by omega) (by omega) (by decide) dX8_state_102 rfl ?_
        refine r_imul (pc' := 104) X dX8_state_103 rfl ?_
        refine r_bipush (pc' := 106) X dX8_state_104 rfl rfl ?_
        refine r_aload_n (pc' := 107) X 0 dX8_state_106 rfl rfl rfl ?_
        refine gf_28_now (pc' := 110) X gw_297 dX8_state_107 rfl ?_
        refine gf_M_upper (pc' := 113) X (by decide) gw_100 dX8_state_110 rfl ?_
        refine r_iload_n (pc' := 114) X 1 dX8_state_113 rfl rfl rfl ?_
        refine r_iald (i := i.toNat) (pc' := 115) X (kM_3 (by decide)) (by omega) (by omega) (by decide) dX8_state_114 rfl ?_
        refine r_imul (pc' := 116) X dX8_state_115 rfl ?_
        refine r_aload_n (pc' := 117) X 0 dX8_state_116 rfl rfl rfl ?_
        refine gf_28_now (pc' := 120) X gw_297 dX8_state_117 rfl ?_
        refine gf_M_estimate (pc' := 123) X (by decide) gw_103 dX8_state_120 rfl ?_
        refine r_iload_n (pc' := 124) X 1 dX8_state_123 rfl rfl rfl ?_
        refine r_iald (i := i.toNat) (pc' := 125) X (kM_4 (by decide)) (by omega) (by omega) (by decide) dX8_state_124 rfl ?_
        have b1 := hL i.toNat (by omega)
        have b2 := hU i.toNat (by omega)
        have b3 := hS i.toNat (by omega)
        refine w_calli (pc' := 128) (st := [vI (16 * (M 0 2 i.toNat))]) (w_runS X (c_J9_min_7cf53 l G M (16 * (M 0 3 i.toNat)) (M 0 4 i.toNat) (by first | assumption | omega) (by first | assumption | omega)) cf_J9_min_7cf53 gw_524 rfl rfl ⟨Nat.le_of_ble_eq_true rfl, Nat.le_of_ble_eq_true rfl⟩ rfl rfl (Nat.le_of_ble_eq_true rfl) ⟨Nat.le_of_ble_eq_true rfl, Nat.le_of_ble_eq_true rfl⟩ gw_523 dX8_state_125) rfl (fun z125 M2 h125 => ?_)
        obtain rfl := h125.1.symm
        obtain rfl := h125.2.symm
        refine w_calli (pc' := 131) (st := []) (w_runS X (c_J9_max_7cf53 l G M (16 * (M 0 2 i.toNat)) ((min (16 * (M 0 3 i.toNat)) (M 0 4 i.toNat))) (by first | assumption | omega) (by first | assumption | omega)) cf_J9_max_7cf53 gw_697 rfl rfl ⟨Nat.le_of_ble_eq_true rfl, Nat.le_of_ble_eq_true rfl⟩ rfl rfl (Nat.le_of_ble_eq_true rfl) ⟨Nat.le_of_ble_eq_true rfl, Nat.le_of_ble_eq_true rfl⟩ gw_696 dX8_state_128) rfl (fun z128 M3 h128 => ?_)
        obtain rfl := h128.1.symm
        obtain rfl := h128.2.symm
        refine w_x (by decide) (by decide) ?_
        refine w_iret X hr dX8_state_131 ?_
        try dsimp only
        refine ⟨by omega, by omega, ?_, rfl⟩
        unfold stateF
        rw [hs19]
        rfl
    · refine r_tswD (tgt := 132) X dX8_state_19 (by omega) (by omega) rfl ?_
      refine r_thA X hfl hex gw_458 ts_699 dX8_state_132 dX8_state_135 dX8_state_136 dX8_state_138 dX8_state_141 (by decide) (by decide) (by decide) (by decide) ?_
      try dsimp only
      exact ⟨(Or.inr (⟨rfl, by omega⟩)), ScrEq.rfl⟩
  · refine r_thX X hfl hex gw_390 ts_695 dX8_state_8 dX8_state_11 dX8_state_12 dX8_state_14 dX8_state_17 (by decide) (by decide) (by decide) (by decide) ?_
    try dsimp only
    exact ⟨(Or.inl ⟨rfl, by omega⟩), ScrEq.rfl⟩
theorem cf_X8_coefficient : wCal yX8_coefficient cX8_coefficient 5 (some .int) 3 := ⟨gw_624, gw_1, by decide, by decide, by rfl⟩
set_option maxRecDepth 100000 in
set_option maxHeartbeats 4000000 in
theorem c_X8_coefficient (l : Launch) (G : wG) (M : wM) (hfl : l.stackTraces = false) (N P : Nat) (T : Int) (hck : COk M N P T) (hT6 : T ≤ 1000000) (w i j : Int) (hw : rI w) (hi : rI i) (hj : rI j) : vx_Met l yX8_coefficient (gws yX8_coefficient cX8_coefficient 5 (some .int)) (wrm 6 1 6) (wPc G M [vR G (28, 0), vI w, vI i, vI j]) (wQi G (fun z M1 => (0 ≤ w ∧ w ≤ 5) ∧ (0 ≤ i ∧ i < (if w = 3 ∨ w = 4 then (P : Int) else N)) ∧ (0 ≤ j ∧ j < colsF N P w) ∧ z = coefF (M 19) (M 0) w i.toNat j.toNat ∧ M1 = M)) (wQx G (fun E M1 => ((E = "java/lang/IllegalArgumentException" ∧ ¬ (0 ≤ w ∧ w ≤ 5)) ∨ (E = "java/lang/IndexOutOfBoundsException" ∧ (0 ≤ w ∧ w ≤ 5) ∧ ¬ ((0 ≤ i ∧ i < (if w = 3 ∨ w = 4 then (P : Int) else N)) ∧ (0 ≤ j ∧ j < colsF N P w)))) ∧ ScrEq M M1)) 1 6 (wA G) := by
  refine wMetX (lc := [(0, vR G (28, 0)), (1, vI w), (2, vI i), (3, vI j)]) (by decide) (Nat.le_of_ble_eq_true rfl) rfl ?_
  intro p e s m args below meth c X hr hex
  have X : wX p s m args meth c G 5 "StateObserver" cX8_coefficient := X
  obtain ⟨hp, hm, hbx⟩ := id hck
  obtain ⟨hN, hN1, hN4, hP, hP1, hP3, hA, hB, hE, hC, hQ⟩ := id hp
  obtain ⟨hT, hL, hU, hS, hG, hY, hAg, hHo, hBo, hTi, hLi, hLb, hLl, hLh⟩ := id hm
  obtain ⟨rb, hrb⟩ : ∃ x, x = (if w = 3 ∨ w = 4 then (P : Int) else N) := ⟨_, rfl⟩
  obtain ⟨cb, hcb⟩ : ∃ x, x = colsF N P w := ⟨_, rfl⟩
  have hrb1 : w = 3 ∨ w = 4 → rb = P := fun q => by rw [hrb, if_pos q]
  have hrb2 : ¬ (w = 3 ∨ w = 4) → rb = N := fun q => by rw [hrb, if_neg q]
  have hcb1 : w = 0 ∨ w = 3 → cb = N := fun q => by rw [hcb]; unfold colsF; rw [if_pos q]
  have hcb2 : w = 5 → cb = P := fun q => by rw [hcb]; unfold colsF; rw [if_neg (by omega), if_pos q]
  have hcb3 : ¬ (w = 0 ∨ w = 3 ∨ w = 5) → cb = 1 := fun q => by rw [hcb]; unfold colsF; rw [if_neg (by omega), if_neg (by omega)]
  rw [← hrb, ← hcb]
  refine r_iload_n (pc' := 1) X 1 dX8_coefficient_0 rfl rfl rfl ?_
  refine r_if_lt (pc' := 4) (tgt := 9) X dX8_coefficient_1 rfl rfl (by omega) (fun h1 => ?_) (fun h1 => ?_)
  · refine r_thA X hfl hex gw_458 ts_625 dX8_coefficient_9 dX8_coefficient_12 dX8_coefficient_13 dX8_coefficient_15 dX8_coefficient_18 (by decide) (by decide) (by decide) (by decide) ?_
    try dsimp only
    exact ⟨(Or.inl ⟨rfl, by omega⟩), ScrEq.rfl⟩
  · refine r_iload_n (pc' := 5) X 1 dX8_coefficient_4 rfl rfl rfl ?_
    refine r_iconst (pc' := 6) X dX8_coefficient_5 rfl ?_
    refine r_icmp_le (pc' := 9) (tgt := 19) X dX8_coefficient_6 rfl rfl (by omega) (by omega) (fun h6 => ?_) (fun h6 => ?_)
    · refine r_iload_n (pc' := 20) X 1 dX8_coefficient_19 rfl rfl rfl ?_
      refine r_iconst (pc' := 21) X dX8_coefficient_20 rfl ?_
      refine r_icmp_eq (pc' := 24) (tgt := 29) X dX8_coefficient_21 rfl rfl (by omega) (by omega) (fun h21 => ?_) (fun h21 => ?_)
      · refine r_iconst (pc' := 30) X dX8_coefficient_29 rfl ?_
        refine r_goto (tgt := 34) X dX8_coefficient_30 rfl ?_
        refine r_istore (pc' := 36) (lc' := [(0, vR G (28, 0)), (1, vI w), (2, vI i), (3, vI j), (4, vI 1)]) X [1, 2, 3, 4, 0] dX8_coefficient_34 (by decide) rfl rfl ?_
        refine r_iload (pc' := 38) X 4 dX8_coefficient_36 rfl rfl ?_
        refine r_if_eq (pc' := 41) (tgt := 52) X dX8_coefficient_38 rfl rfl (by omega) (fun h38 => absurd h38 (by decide)) (fun h38 => ?_)
        refine r_aload_n (pc' := 42) X 0 dX8_coefficient_41 rfl rfl rfl ?_
        refine r_iload_n (pc' := 43) X 2 dX8_coefficient_42 rfl rfl rfl ?_
        refine w_calli (pc' := 46) (st := []) (w_runV X (c_X8_isOutput l G M N P T hck (by first | assumption | omega) i (by first | assumption | omega)) cf_X8_isOutput k28_0 rfl gw_388 gp_8 rfl rfl ⟨Nat.le_of_ble_eq_true rfl, Nat.le_of_ble_eq_true rfl⟩ rfl rfl (Nat.le_of_ble_eq_true rfl) ⟨Nat.le_of_ble_eq_true rfl, Nat.le_of_ble_eq_true rfl⟩ gw_386 dX8_coefficient_43) rfl (fun z43 M1 h43 => ?_)
        have hz43 := h43.1
        obtain rfl := h43.2.symm
        have hi43 : z43 = 0 ∨ z43 = 1 := by rw [hz43]; split <;> omega
        have hq43 : z43 = 1 ↔ (0 ≤ i ∧ i < P) := by rw [hz43]; split <;> omega
        refine r_if_ne (pc' := 49) (tgt := 70) X dX8_coefficient_46 rfl rfl (by omega) (fun h46 => ?_) (fun h46 => ?_)
        · refine r_iload_n (pc' := 71) X 3 dX8_coefficient_70 rfl rfl rfl ?_
          refine r_if_lt (pc' := 74) (tgt := 83) X dX8_coefficient_71 rfl rfl (by omega) (fun h71 => ?_) (fun h71 => ?_)
          · refine r_thX X hfl hex gw_390 ts_635 dX8_coefficient_83 dX8_coefficient_86 dX8_coefficient_87 dX8_coefficient_89 dX8_coefficient_92 (by decide) (by decide) (by decide) (by decide) ?_
            try dsimp only
            exact ⟨(Or.inr (⟨rfl, by omega⟩)), ScrEq.rfl⟩
          · refine r_iload_n (pc' := 75) X 3 dX8_coefficient_74 rfl rfl rfl ?_
            refine r_aload_n (pc' := 76) X 0 dX8_coefficient_75 rfl rfl rfl ?_
            refine r_iload_n (pc' := 77) X 1 dX8_coefficient_76 rfl rfl rfl ?_
            refine w_calli (pc' := 80) (st := [vI j]) (w_runV X (c_X8_columnsOf l G M N P T hck (by first | assumption | omega) w (by first | assumption | omega)) cf_X8_columnsOf k28_0 rfl gw_633 gp_11 rfl rfl ⟨Nat.le_of_ble_eq_true rfl, Nat.le_of_ble_eq_true rfl⟩ rfl rfl (Nat.le_of_ble_eq_true rfl) ⟨Nat.le_of_ble_eq_true rfl, Nat.le_of_ble_eq_true rfl⟩ gw_631 dX8_coefficient_77) rfl (fun z77 M2 h77 => ?_)
            have hz77 := h77.1
            obtain rfl := h77.2.symm
            rw [← hcb] at hz77
            have hcbr : rI cb := by have := hcb1; have := hcb2; have := hcb3; omega
            refine r_icmp_lt (pc' := 83) (tgt := 93) X dX8_coefficient_80 rfl rfl (by omega) (by omega) (fun h80 => ?_) (fun h80 => ?_)
            · refine r_iload_n (pc' := 94) X 1 dX8_coefficient_93 rfl rfl rfl ?_
              by_cases hs94 : 0 ≤ w ∧ w ≤ 4
              · rcases (show w = 0 ∨ w = 1 ∨ w = 2 ∨ w = 3 ∨ w = 4 by omega) with hs94 | hs94 | hs94 | hs94 | hs94
                · refine r_tsw (v := 0) (tgt := 128) X dX8_coefficient_94 hs94 (by decide) (by decide) (by decide) rfl rfl ?_
                  refine r_aload_n (pc' := 129) X 0 dX8_coefficient_128 rfl rfl rfl ?_
                  refine gf_28_plant (pc' := 132) X gw_296 dX8_coefficient_129 rfl ?_
                  refine gf_P_a (pc' := 135) X (by decide) gw_48 dX8_coefficient_132 rfl ?_
                  refine r_iload_n (pc' := 136) X 2 dX8_coefficient_135 rfl rfl rfl ?_
                  refine r_aald (i := i.toNat) (x := (19, (2 + i.toNat))) (pc' := 137) X (kP_1 (by decide)) (by decide) (by omega) (by omega) (by decide) rfl dX8_coefficient_136 rfl ?_
                  refine r_iload_n (pc' := 138) X 3 dX8_coefficient_137 rfl rfl rfl ?_
                  refine r_iald (i := j.toNat) (pc' := 139) X (kP_a (by decide) (by omega)) (by omega) (by omega) (by decide) dX8_coefficient_138 rfl ?_
                  refine w_x (by decide) (by decide) ?_
                  refine w_iret X hr dX8_coefficient_139 ?_
                  try dsimp only
                  refine ⟨by omega, by omega, by omega, ?_, rfl⟩
                  unfold coefF
                  first | (rw [hs94]; rfl) | (rw [show w = 5 by omega]; rfl)
                · refine r_tsw (v := 1) (tgt := 140) X dX8_coefficient_94 hs94 (by decide) (by decide) (by decide) rfl rfl ?_
                  refine r_aload_n (pc' := 141) X 0 dX8_coefficient_140 rfl rfl rfl ?_
                  refine gf_28_plant (pc' := 144) X gw_296 dX8_coefficient_141 rfl ?_
                  refine gf_P_b (pc' := 147) X (by decide) gw_52 dX8_coefficient_144 rfl ?_
                  refine r_iload_n (pc' := 148) X 2 dX8_coefficient_147 rfl rfl rfl ?_
                  refine r_iald (i := i.toNat) (pc' := 149) X (kP_6 (by decide)) (by omega) (by omega) (by decide) dX8_coefficient_148 rfl ?_
                  refine w_x (by decide) (by decide) ?_
                  refine w_iret X hr dX8_coefficient_149 ?_
                  try dsimp only
                  refine ⟨by omega, by omega, by omega, ?_, rfl⟩
                  unfold coefF
                  first | (rw [hs94]; rfl) | (rw [show w = 5 by omega]; rfl)
                · refine r_tsw (v := 2) (tgt := 150) X dX8_coefficient_94 hs94 (by decide) (by decide) (by decide) rfl rfl ?_
                  refine r_aload_n (pc' := 151) X 0 dX8_coefficient_150 rfl rfl rfl ?_
                  refine gf_28_plant (pc' := 154) X gw_296 dX8_coefficient_151 rfl ?_
                  refine gf_P_e (pc' := 157) X (by decide) gw_57 dX8_coefficient_154 rfl ?_
                  refine r_iload_n (pc' := 158) X 2 dX8_coefficient_157 rfl rfl rfl ?_
                  refine r_iald (i := i.toNat) (pc' := 159) X (kP_7 (by decide)) (by omega) (by omega) (by decide) dX8_coefficient_158 rfl ?_
                  refine w_x (by decide) (by decide) ?_
                  refine w_iret X hr dX8_coefficient_159 ?_
                  try dsimp only
                  refine ⟨by omega, by omega, by omega, ?_, rfl⟩
                  unfold coefF
                  first | (rw [hs94]; rfl) | (rw [show w = 5 by omega]; rfl)
                · refine r_tsw (v := 3) (tgt := 160) X dX8_coefficient_94 hs94 (by decide) (by decide) (by decide) rfl rfl ?_
                  refine r_aload_n (pc' := 161) X 0 dX8_coefficient_160 rfl rfl rfl ?_
                  refine gf_28_plant (pc' := 164) X gw_296 dX8_coefficient_161 rfl ?_
                  refine gf_P_c (pc' := 167) X (by decide) gw_62 dX8_coefficient_164 rfl ?_
                  refine r_iload_n (pc' := 168) X 2 dX8_coefficient_167 rfl rfl rfl ?_
                  refine r_aald (i := i.toNat) (x := (19, (9 + i.toNat))) (pc' := 169) X (kP_8 (by decide)) (by decide) (by omega) (by omega) (by decide) rfl dX8_coefficient_168 rfl ?_
                  refine r_iload_n (pc' := 170) X 3 dX8_coefficient_169 rfl rfl rfl ?_
                  refine r_iald (i := j.toNat) (pc' := 171) X (kP_c (by decide) (by omega)) (by omega) (by omega) (by decide) dX8_coefficient_170 rfl ?_
                  refine w_x (by decide) (by decide) ?_
                  refine w_iret X hr dX8_coefficient_171 ?_
                  try dsimp only
                  refine ⟨by omega, by omega, by omega, ?_, rfl⟩
                  unfold coefF
                  first | (rw [hs94]; rfl) | (rw [show w = 5 by omega]; rfl)
                · refine r_tsw (v := 4) (tgt := 172) X dX8_coefficient_94 hs94 (by decide) (by decide) (by decide) rfl rfl ?_
                  refine r_aload_n (pc' := 173) X 0 dX8_coefficient_172 rfl rfl rfl ?_
                  refine gf_28_plant (pc' := 176) X gw_296 dX8_coefficient_173 rfl ?_
                  refine gf_P_quantum (pc' := 179) X (by decide) gw_66 dX8_coefficient_176 rfl ?_
                  refine r_iload_n (pc' := 180) X 2 dX8_coefficient_179 rfl rfl rfl ?_
                  refine r_iald (i := i.toNat) (pc' := 181) X (kP_12 (by decide)) (by omega) (by omega) (by decide) dX8_coefficient_180 rfl ?_
                  refine w_x (by decide) (by decide) ?_
                  refine w_iret X hr dX8_coefficient_181 ?_
                  try dsimp only
                  refine ⟨by omega, by omega, by omega, ?_, rfl⟩
                  unfold coefF
                  first | (rw [hs94]; rfl) | (rw [show w = 5 by omega]; rfl)
              · refine r_tswD (tgt := 182) X dX8_coefficient_94 (by omega) (by omega) rfl ?_
                refine r_aload_n (pc' := 183) X 0 dX8_coefficient_182 rfl rfl rfl ?_
                refine gf_28_now (pc' := 186) X gw_297 dX8_coefficient_183 rfl ?_
                refine gf_M_gain (pc' := 189) X (by decide) gw_107 dX8_coefficient_186 rfl ?_
                refine r_iload_n (pc' := 190) X 2 dX8_coefficient_189 rfl rfl rfl ?_
                refine r_aald (i := i.toNat) (x := (0, (6 + i.toNat))) (pc' := 191) X (kM_5 (by decide)) (by decide) (by omega) (by omega) (by decide) rfl dX8_coefficient_190 rfl ?_
                refine r_iload_n (pc' := 192) X 3 dX8_coefficient_191 rfl rfl rfl ?_
                refine r_iald (i := j.toNat) (pc' := 193) X (kM_g (by decide) (by omega)) (by omega) (by omega) (by decide) dX8_coefficient_192 rfl ?_
                refine w_x (by decide) (by decide) ?_
                refine w_iret X hr dX8_coefficient_193 ?_
                try dsimp only
                refine ⟨by omega, by omega, by omega, ?_, rfl⟩
                unfold coefF
                first | (rw [hs94]; rfl) | (rw [show w = 5 by omega]; rfl)
            · refine r_thX X hfl hex gw_390 ts_635 dX8_coefficient_83 dX8_coefficient_86 dX8_coefficient_87 dX8_coefficient_89 dX8_coefficient_92 (by decide) (by decide) (by decide) (by decide) ?_
              try dsimp only
              exact ⟨(Or.inr (⟨rfl, by omega⟩)), ScrEq.rfl⟩
        · refine r_goto (tgt := 60) X dX8_coefficient_49 rfl ?_
          refine r_thX X hfl hex gw_390 ts_630 dX8_coefficient_60 dX8_coefficient_63 dX8_coefficient_64 dX8_coefficient_66 dX8_coefficient_69 (by decide) (by decide) (by decide) (by decide) ?_
          try dsimp only
          exact ⟨(Or.inr (⟨rfl, by omega⟩)), ScrEq.rfl⟩
      · refine r_iload_n (pc' := 25) X 1 dX8_coefficient_24 rfl rfl rfl ?_
        refine r_iconst (pc' := 26) X dX8_coefficient_25 rfl ?_
        refine r_icmp_ne (pc' := 29) (tgt := 33) X dX8_coefficient_26 rfl rfl (by omega) (by omega) (fun h26 => ?_) (fun h26 => ?_)
        · refine r_iconst (pc' := 34) X dX8_coefficient_33 rfl ?_
          refine r_istore (pc' := 36) (lc' := [(0, vR G (28, 0)), (1, vI w), (2, vI i), (3, vI j), (4, vI 0)]) X [1, 2, 3, 4, 0] dX8_coefficient_34 (by decide) rfl rfl ?_
          refine r_iload (pc' := 38) X 4 dX8_coefficient_36 rfl rfl ?_
          refine r_if_eq (pc' := 41) (tgt := 52) X dX8_coefficient_38 rfl rfl (by omega) (fun h38 => ?_) (fun h38 => absurd h38 (by decide))
          refine r_aload_n (pc' := 53) X 0 dX8_coefficient_52 rfl rfl rfl ?_
          refine r_iload_n (pc' := 54) X 2 dX8_coefficient_53 rfl rfl rfl ?_
          refine w_calli (pc' := 57) (st := []) (w_runV X (c_X8_isState l G M N P T hck (by first | assumption | omega) i (by first | assumption | omega)) cf_X8_isState k28_0 rfl gw_628 gp_10 rfl rfl ⟨Nat.le_of_ble_eq_true rfl, Nat.le_of_ble_eq_true rfl⟩ rfl rfl (Nat.le_of_ble_eq_true rfl) ⟨Nat.le_of_ble_eq_true rfl, Nat.le_of_ble_eq_true rfl⟩ gw_626 dX8_coefficient_54) rfl (fun z54 M3 h54 => ?_)
          have hz54 := h54.1
          obtain rfl := h54.2.symm
          have hi54 : z54 = 0 ∨ z54 = 1 := by rw [hz54]; split <;> omega
          have hq54 : z54 = 1 ↔ (0 ≤ i ∧ i < N) := by rw [hz54]; split <;> omega
          refine r_if_ne (pc' := 60) (tgt := 70) X dX8_coefficient_57 rfl rfl (by omega) (fun h57 => ?_) (fun h57 => ?_)
          · refine r_iload_n (pc' := 71) X 3 dX8_coefficient_70 rfl rfl rfl ?_
            refine r_if_lt (pc' := 74) (tgt := 83) X dX8_coefficient_71 rfl rfl (by omega) (fun h71 => ?_) (fun h71 => ?_)
            · refine r_thX X hfl hex gw_390 ts_635 dX8_coefficient_83 dX8_coefficient_86 dX8_coefficient_87 dX8_coefficient_89 dX8_coefficient_92 (by decide) (by decide) (by decide) (by decide) ?_
              try dsimp only
              exact ⟨(Or.inr (⟨rfl, by omega⟩)), ScrEq.rfl⟩
            · refine r_iload_n (pc' := 75) X 3 dX8_coefficient_74 rfl rfl rfl ?_
              refine r_aload_n (pc' := 76) X 0 dX8_coefficient_75 rfl rfl rfl ?_
              refine r_iload_n (pc' := 77) X 1 dX8_coefficient_76 rfl rfl rfl ?_
              refine w_calli (pc' := 80) (st := [vI j]) (w_runV X (c_X8_columnsOf l G M N P T hck (by first | assumption | omega) w (by first | assumption | omega)) cf_X8_columnsOf k28_0 rfl gw_633 gp_11 rfl rfl ⟨Nat.le_of_ble_eq_true rfl, Nat.le_of_ble_eq_true rfl⟩ rfl rfl (Nat.le_of_ble_eq_true rfl) ⟨Nat.le_of_ble_eq_true rfl, Nat.le_of_ble_eq_true rfl⟩ gw_631 dX8_coefficient_77) rfl (fun z77 M4 h77 => ?_)
              have hz77 := h77.1
              obtain rfl := h77.2.symm
              rw [← hcb] at hz77
              have hcbr : rI cb := by have := hcb1; have := hcb2; have := hcb3; omega
              refine r_icmp_lt (pc' := 83) (tgt := 93) X dX8_coefficient_80 rfl rfl (by omega) (by omega) (fun h80 => ?_) (fun h80 => ?_)
              · refine r_iload_n (pc' := 94) X 1 dX8_coefficient_93 rfl rfl rfl ?_
                by_cases hs94 : 0 ≤ w ∧ w ≤ 4
                · rcases (show w = 0 ∨ w = 1 ∨ w = 2 ∨ w = 3 ∨ w = 4 by omega) with hs94 | hs94 | hs94 | hs94 | hs94
                  · refine r_tsw (v := 0) (tgt := 128) X dX8_coefficient_94 hs94 (by decide) (by decide) (by decide) rfl rfl ?_
                    refine r_aload_n (pc' := 129) X 0 dX8_coefficient_128 rfl rfl rfl ?_
                    refine gf_28_plant (pc' := 132) X gw_296 dX8_coefficient_129 rfl ?_
                    refine gf_P_a (pc' := 135) X (by decide) gw_48 dX8_coefficient_132 rfl ?_
                    refine r_iload_n (pc' := 136) X 2 dX8_coefficient_135 rfl rfl rfl ?_
                    refine r_aald (i := i.toNat) (x := (19, (2 + i.toNat))) (pc' := 137) X (kP_1 (by decide)) (by decide) (by omega) (by omega) (by decide) rfl dX8_coefficient_136 rfl ?_
                    refine r_iload_n (pc' := 138) X 3 dX8_coefficient_137 rfl rfl rfl ?_
                    refine r_iald (i := j.toNat) (pc' := 139) X (kP_a (by decide) (by omega)) (by omega) (by omega) (by decide) dX8_coefficient_138 rfl ?_
                    refine w_x (by decide) (by decide) ?_
                    refine w_iret X hr dX8_coefficient_139 ?_
                    try dsimp only
                    refine ⟨by omega, by omega, by omega, ?_, rfl⟩
                    unfold coefF
                    first | (rw [hs94]; rfl) | (rw [show w = 5 by omega]; rfl)
                  · refine r_tsw (v := 1) (tgt := 140) X dX8_coefficient_94 hs94 (by decide) (by decide) (by decide) rfl rfl ?_
                    refine r_aload_n (pc' := 141) X 0 dX8_coefficient_140 rfl rfl rfl ?_
                    refine gf_28_plant (pc' := 144) X gw_296 dX8_coefficient_141 rfl ?_
                    refine gf_P_b (pc' := 147) X (by decide) gw_52 dX8_coefficient_144 rfl ?_
                    refine r_iload_n (pc' := 148) X 2 dX8_coefficient_147 rfl rfl rfl ?_
                    refine r_iald (i := i.toNat) (pc' := 149) X (kP_6 (by decide)) (by omega) (by omega) (by decide) dX8_coefficient_148 rfl ?_
                    refine w_x (by decide) (by decide) ?_
                    refine w_iret X hr dX8_coefficient_149 ?_
                    try dsimp only
                    refine ⟨by omega, by omega, by omega, ?_, rfl⟩
                    unfold coefF
                    first | (rw [hs94]; rfl) | (rw [show w = 5 by omega]; rfl)
                  · refine r_tsw (v := 2) (tgt := 150) X dX8_coefficient_94 hs94 (by decide) (by decide) (by decide) rfl rfl ?_
                    refine r_aload_n (pc' := 151) X 0 dX8_coefficient_150 rfl rfl rfl ?_
                    refine gf_28_plant (pc' := 154) X gw_296 dX8_coefficient_151 rfl ?_
                    refine gf_P_e (pc' := 157) X (by decide) gw_57 dX8_coefficient_154 rfl ?_
                    refine r_iload_n (pc' := 158) X 2 dX8_coefficient_157 rfl rfl rfl ?_
                    refine r_iald (i := i.toNat) (pc' := 159) X (kP_7 (by decide)) (by omega) (by omega) (by decide) dX8_coefficient_158 rfl ?_
                    refine w_x (by decide) (by decide) ?_
                    refine w_iret X hr dX8_coefficient_159 ?_
                    try dsimp only
                    refine ⟨by omega, by omega, by omega, ?_, rfl⟩
                    unfold coefF
                    first | (rw [hs94]; rfl) | (rw [show w = 5 by omega]; rfl)
                  · refine r_tsw (v := 3) (tgt := 160) X dX8_coefficient_94 hs94 (by decide) (by decide) (by decide) rfl rfl ?_
                    refine r_aload_n (pc' := 161) X 0 dX8_coefficient_160 rfl rfl rfl ?_
                    refine gf_28_plant (pc' := 164) X gw_296 dX8_coefficient_161 rfl ?_
                    refine gf_P_c (pc' := 167) X (by decide) gw_62 dX8_coefficient_164 rfl ?_
                    refine r_iload_n (pc' := 168) X 2 dX8_coefficient_167 rfl rfl rfl ?_
                    refine r_aald (i := i.toNat) (x := (19, (9 + i.toNat))) (pc' := 169) X (kP_8 (by decide)) (by decide) (by omega) (by omega) (by decide) rfl dX8_coefficient_168 rfl ?_
                    refine r_iload_n (pc' := 170) X 3 dX8_coefficient_169 rfl rfl rfl ?_
                    refine r_iald (i := j.toNat) (pc' := 171) X (kP_c (by decide) (by omega)) (by omega) (by omega) (by decide) dX8_coefficient_170 rfl ?_
                    refine w_x (by decide) (by decide) ?_
                    refine w_iret X hr dX8_coefficient_171 ?_
                    try dsimp only
                    refine ⟨by omega, by omega, by omega, ?_, rfl⟩
                    unfold coefF
                    first | (rw [hs94]; rfl) | (rw [show w = 5 by omega]; rfl)
                  · refine r_tsw (v := 4) (tgt := 172) X dX8_coefficient_94 hs94 (by decide) (by decide) (by decide) rfl rfl ?_
                    refine r_aload_n (pc' := 173) X 0 dX8_coefficient_172 rfl rfl rfl ?_
                    refine gf_28_plant (pc' := 176) X gw_296 dX8_coefficient_173 rfl ?_
                    refine gf_P_quantum (pc' := 179) X (by decide) gw_66 dX8_coefficient_176 rfl ?_
                    refine r_iload_n (pc' := 180) X 2 dX8_coefficient_179 rfl rfl rfl ?_
                    refine r_iald (i := i.toNat) (pc' := 181) X (kP_12 (by decide)) (by omega) (by omega) (by decide) dX8_coefficient_180 rfl ?_
                    refine w_x (by decide) (by decide) ?_
                    refine w_iret X hr dX8_coefficient_181 ?_
                    try dsimp only
                    refine ⟨by omega, by omega, by omega, ?_, rfl⟩
                    unfold coefF
                    first | (rw [hs94]; rfl) | (rw [show w = 5 by omega]; rfl)
                · refine r_tswD (tgt := 182) X dX8_coefficient_94 (by omega) (by omega) rfl ?_
                  refine r_aload_n (pc' := 183) X 0 dX8_coefficient_182 rfl rfl rfl ?_
                  refine gf_28_now (pc' := 186) X gw_297 dX8_coefficient_183 rfl ?_
                  refine gf_M_gain (pc' := 189) X (by decide) gw_107 dX8_coefficient_186 rfl ?_
                  refine r_iload_n (pc' := 190) X 2 dX8_coefficient_189 rfl rfl rfl ?_
                  refine r_aald (i := i.toNat) (x := (0, (6 + i.toNat))) (pc' := 191) X (kM_5 (by decide)) (by decide) (by omega) (by omega) (by decide) rfl dX8_coefficient_190 rfl ?_
                  refine r_iload_n (pc' := 192) X 3 dX8_coefficient_191 rfl rfl rfl ?_
                  refine r_iald (i := j.toNat) (pc' := 193) X (kM_g (by decide) (by omega)) (by omega) (by omega) (by decide) dX8_coefficient_192 rfl ?_
                  refine w_x (by decide) (by decide) ?_
                  refine w_iret X hr dX8_coefficient_193 ?_
                  try dsimp only
                  refine ⟨by omega, by omega, by omega, ?_, rfl⟩
                  unfold coefF
                  first | (rw [hs94]; rfl) | (rw [show w = 5 by omega]; rfl)
              · refine r_thX X hfl hex gw_390 ts_635 dX8_coefficient_83 dX8_coefficient_86 dX8_coefficient_87 dX8_coefficient_89 dX8_coefficient_92 (by decide) (by decide) (by decide) (by decide) ?_
                try dsimp only
                exact ⟨(Or.inr (⟨rfl, by omega⟩)), ScrEq.rfl⟩
          · refine r_thX X hfl hex gw_390 ts_630 dX8_coefficient_60 dX8_coefficient_63 dX8_coefficient_64 dX8_coefficient_66 dX8_coefficient_69 (by decide) (by decide) (by decide) (by decide) ?_
            try dsimp only
            exact ⟨(Or.inr (⟨rfl, by omega⟩)), ScrEq.rfl⟩
        · refine r_iconst (pc' := 30) X dX8_coefficient_29 rfl ?_
          refine r_goto (tgt := 34) X dX8_coefficient_30 rfl ?_
          refine r_istore (pc' := 36) (lc' := [(0, vR G (28, 0)), (1, vI w), (2, vI i), (3, vI j), (4, vI 1)]) X [1, 2, 3, 4, 0] dX8_coefficient_34 (by decide) rfl rfl ?_
          refine r_iload (pc' := 38) X 4 dX8_coefficient_36 rfl rfl ?_
          refine r_if_eq (pc' := 41) (tgt := 52) X dX8_coefficient_38 rfl rfl (by omega) (fun h38 => absurd h38 (by decide)) (fun h38 => ?_)
          refine r_aload_n (pc' := 42) X 0 dX8_coefficient_41 rfl rfl rfl ?_
          refine r_iload_n (pc' := 43) X 2 dX8_coefficient_42 rfl rfl rfl ?_
          refine w_calli (pc' := 46) (st := []) (w_runV X (c_X8_isOutput l G M N P T hck (by first | assumption | omega) i (by first | assumption | omega)) cf_X8_isOutput k28_0 rfl gw_388 gp_8 rfl rfl ⟨Nat.le_of_ble_eq_true rfl, Nat.le_of_ble_eq_true rfl⟩ rfl rfl (Nat.le_of_ble_eq_true rfl) ⟨Nat.le_of_ble_eq_true rfl, Nat.le_of_ble_eq_true rfl⟩ gw_386 dX8_coefficient_43) rfl (fun z43 M5 h43 => ?_)
          have hz43 := h43.1
          obtain rfl := h43.2.symm
          have hi43 : z43 = 0 ∨ z43 = 1 := by rw [hz43]; split <;> omega
          have hq43 : z43 = 1 ↔ (0 ≤ i ∧ i < P) := by rw [hz43]; split <;> omega
          refine r_if_ne (pc' := 49) (tgt := 70) X dX8_coefficient_46 rfl rfl (by omega) (fun h46 => ?_) (fun h46 => ?_)
          · refine r_iload_n (pc' := 71) X 3 dX8_coefficient_70 rfl rfl rfl ?_
            refine r_if_lt (pc' := 74) (tgt := 83) X dX8_coefficient_71 rfl rfl (by omega) (fun h71 => ?_) (fun h71 => ?_)
            · refine r_thX X hfl hex gw_390 ts_635 dX8_coefficient_83 dX8_coefficient_86 dX8_coefficient_87 dX8_coefficient_89 dX8_coefficient_92 (by decide) (by decide) (by decide) (by decide) ?_
              try dsimp only
              exact ⟨(Or.inr (⟨rfl, by omega⟩)), ScrEq.rfl⟩
            · refine r_iload_n (pc' := 75) X 3 dX8_coefficient_74 rfl rfl rfl ?_
              refine r_aload_n (pc' := 76) X 0 dX8_coefficient_75 rfl rfl rfl ?_
              refine r_iload_n (pc' := 77) X 1 dX8_coefficient_76 rfl rfl rfl ?_
              refine w_calli (pc' := 80) (st := [vI j]) (w_runV X (c_X8_columnsOf l G M N P T hck (by first | assumption | omega) w (by first | assumption | omega)) cf_X8_columnsOf k28_0 rfl gw_633 gp_11 rfl rfl ⟨Nat.le_of_ble_eq_true rfl, Nat.le_of_ble_eq_true rfl⟩ rfl rfl (Nat.le_of_ble_eq_true rfl) ⟨Nat.le_of_ble_eq_true rfl, Nat.le_of_ble_eq_true rfl⟩ gw_631 dX8_coefficient_77) rfl (fun z77 M6 h77 => ?_)
              have hz77 := h77.1
              obtain rfl := h77.2.symm
              rw [← hcb] at hz77
              have hcbr : rI cb := by have := hcb1; have := hcb2; have := hcb3; omega
              refine r_icmp_lt (pc' := 83) (tgt := 93) X dX8_coefficient_80 rfl rfl (by omega) (by omega) (fun h80 => ?_) (fun h80 => ?_)
              · refine r_iload_n (pc' := 94) X 1 dX8_coefficient_93 rfl rfl rfl ?_
                by_cases hs94 : 0 ≤ w ∧ w ≤ 4
                · rcases (show w = 0 ∨ w = 1 ∨ w = 2 ∨ w = 3 ∨ w = 4 by omega) with hs94 | hs94 | hs94 | hs94 | hs94
                  · refine r_tsw (v := 0) (tgt := 128) X dX8_coefficient_94 hs94 (by decide) (by decide) (by decide) rfl rfl ?_
                    refine r_aload_n (pc' := 129) X 0 dX8_coefficient_128 rfl rfl rfl ?_
                    refine gf_28_plant (pc' := 132) X gw_296 dX8_coefficient_129 rfl ?_
                    refine gf_P_a (pc' := 135) X (by decide) gw_48 dX8_coefficient_132 rfl ?_
                    refine r_iload_n (pc' := 136) X 2 dX8_coefficient_135 rfl rfl rfl ?_
                    refine r_aald (i := i.toNat) (x := (19, (2 + i.toNat))) (pc' := 137) X (kP_1 (by decide)) (by decide) (by omega) (by omega) (by decide) rfl dX8_coefficient_136 rfl ?_
                    refine r_iload_n (pc' := 138) X 3 dX8_coefficient_137 rfl rfl rfl ?_
                    refine r_iald (i := j.toNat) (pc' := 139) X (kP_a (by decide) (by omega)) (by omega) (by omega) (by decide) dX8_coefficient_138 rfl ?_
                    refine w_x (by decide) (by decide) ?_
                    refine w_iret X hr dX8_coefficient_139 ?_
                    try dsimp only
                    refine ⟨by omega, by omega, by omega, ?_, rfl⟩
                    unfold coefF
                    first | (rw [hs94]; rfl) | (rw [show w = 5 by omega]; rfl)
                  · refine r_tsw (v := 1) (tgt := 140) X dX8_coefficient_94 hs94 (by decide) (by decide) (by decide) rfl rfl ?_
                    refine r_aload_n (pc' := 141) X 0 dX8_coefficient_140 rfl rfl rfl ?_
                    refine gf_28_plant (pc' := 144) X gw_296 dX8_coefficient_141 rfl ?_
                    refine gf_P_b (pc' := 147) X (by decide) gw_52 dX8_coefficient_144 rfl ?_
                    refine r_iload_n (pc' := 148) X 2 dX8_coefficient_147 rfl rfl rfl ?_
                    refine r_iald (i := i.toNat) (pc' := 149) X (kP_6 (by decide)) (by omega) (by omega) (by decide) dX8_coefficient_148 rfl ?_
                    refine w_x (by decide) (by decide) ?_
                    refine w_iret X hr dX8_coefficient_149 ?_
                    try dsimp only
                    refine ⟨by omega, by omega, by omega, ?_, rfl⟩
                    unfold coefF
                    first | (rw [hs94]; rfl) | (rw [show w = 5 by omega]; rfl)
                  · refine r_tsw (v := 2) (tgt := 150) X dX8_coefficient_94 hs94 (by decide) (by decide) (by decide) rfl rfl ?_
                    refine r_aload_n (pc' := 151) X 0 dX8_coefficient_150 rfl rfl rfl ?_
                    refine gf_28_plant (pc' := 154) X gw_296 dX8_coefficient_151 rfl ?_
                    refine gf_P_e (pc' := 157) X (by decide) gw_57 dX8_coefficient_154 rfl ?_
                    refine r_iload_n (pc' := 158) X 2 dX8_coefficient_157 rfl rfl rfl ?_
                    refine r_iald (i := i.toNat) (pc' := 159) X (kP_7 (by decide)) (by omega) (by omega) (by decide) dX8_coefficient_158 rfl ?_
                    refine w_x (by decide) (by decide) ?_
                    refine w_iret X hr dX8_coefficient_159 ?_
                    try dsimp only
                    refine ⟨by omega, by omega, by omega, ?_, rfl⟩
                    unfold coefF
                    first | (rw [hs94]; rfl) | (rw [show w = 5 by omega]; rfl)
                  · refine r_tsw (v := 3) (tgt := 160) X dX8_coefficient_94 hs94 (by decide) (by decide) (by decide) rfl rfl ?_
                    refine r_aload_n (pc' := 161) X 0 dX8_coefficient_160 rfl rfl rfl ?_
                    refine gf_28_plant (pc' := 164) X gw_296 dX8_coefficient_161 rfl ?_
                    refine gf_P_c (pc' := 167) X (by decide) gw_62 dX8_coefficient_164 rfl ?_
                    refine r_iload_n (pc' := 168) X 2 dX8_coefficient_167 rfl rfl rfl ?_
                    refine r_aald (i := i.toNat) (x := (19, (9 + i.toNat))) (pc' := 169) X (kP_8 (by decide)) (by decide) (by omega) (by omega) (by decide) rfl dX8_coefficient_168 rfl ?_
                    refine r_iload_n (pc' := 170) X 3 dX8_coefficient_169 rfl rfl rfl ?_
                    refine r_iald (i := j.toNat) (pc' := 171) X (kP_c (by decide) (by omega)) (by omega) (by omega) (by decide) dX8_coefficient_170 rfl ?_
                    refine w_x (by decide) (by decide) ?_
                    refine w_iret X hr dX8_coefficient_171 ?_
                    try dsimp only
                    refine ⟨by omega, by omega, by omega, ?_, rfl⟩
                    unfold coefF
                    first | (rw [hs94]; rfl) | (rw [show w = 5 by omega]; rfl)
                  · refine r_tsw (v := 4) (tgt := 172) X dX8_coefficient_94 hs94 (by decide) (by decide) (by decide) rfl rfl ?_
                    refine r_aload_n (pc' := 173) X 0 dX8_coefficient_172 rfl rfl rfl ?_
                    refine gf_28_plant (pc' := 176) X gw_296 dX8_coefficient_173 rfl ?_
                    refine gf_P_quantum (pc' := 179) X (by decide) gw_66 dX8_coefficient_176 rfl ?_
                    refine r_iload_n (pc' := 180) X 2 dX8_coefficient_179 rfl rfl rfl ?_
                    refine r_iald (i := i.toNat) (pc' := 181) X (kP_12 (by decide)) (by omega) (by omega) (by decide) dX8_coefficient_180 rfl ?_
                    refine w_x (by decide) (by decide) ?_
                    refine w_iret X hr dX8_coefficient_181 ?_
                    try dsimp only
                    refine ⟨by omega, by omega, by omega, ?_, rfl⟩
                    unfold coefF
                    first | (rw [hs94]; rfl) | (rw [show w = 5 by omega]; rfl)
                · refine r_tswD (tgt := 182) X dX8_coefficient_94 (by omega) (by omega) rfl ?_
                  refine r_aload_n (pc' := 183) X 0 dX8_coefficient_182 rfl rfl rfl ?_
                  refine gf_28_now (pc' := 186) X gw_297 dX8_coefficient_183 rfl ?_
                  refine gf_M_gain (pc' := 189) X (by decide) gw_107 dX8_coefficient_186 rfl ?_
                  refine r_iload_n (pc' := 190) X 2 dX8_coefficient_189 rfl rfl rfl ?_
                  refine r_aald (i := i.toNat) (x := (0, (6 + i.toNat))) (pc' := 191) X (kM_5 (by decide)) (by decide) (by omega) (by omega) (by decide) rfl dX8_coefficient_190 rfl ?_
                  refine r_iload_n (pc' := 192) X 3 dX8_coefficient_191 rfl rfl rfl ?_
                  refine r_iald (i := j.toNat) (pc' := 193) X (kM_g (by decide) (by omega)) (by omega) (by omega) (by decide) dX8_coefficient_192 rfl ?_
                  refine w_x (by decide) (by decide) ?_
                  refine w_iret X hr dX8_coefficient_193 ?_
                  try dsimp only
                  refine ⟨by omega, by omega, by omega, ?_, rfl⟩
                  unfold coefF
                  first | (rw [hs94]; rfl) | (rw [show w = 5 by omega]; rfl)
              · refine r_thX X hfl hex gw_390 ts_635 dX8_coefficient_83 dX8_coefficient_86 dX8_coefficient_87 dX8_coefficient_89 dX8_coefficient_92 (by decide) (by decide) (by decide) (by decide) ?_
                try dsimp only
                exact ⟨(Or.inr (⟨rfl, by omega⟩)), ScrEq.rfl⟩
          · refine r_goto (tgt := 60) X dX8_coefficient_49 rfl ?_
            refine r_thX X hfl hex gw_390 ts_630 dX8_coefficient_60 dX8_coefficient_63 dX8_coefficient_64 dX8_coefficient_66 dX8_coefficient_69 (by decide) (by decide) (by decide) (by decide) ?_
            try dsimp only
            exact ⟨(Or.inr (⟨rfl, by omega⟩)), ScrEq.rfl⟩
    · refine r_thA X hfl hex gw_458 ts_625 dX8_coefficient_9 dX8_coefficient_12 dX8_coefficient_13 dX8_coefficient_15 dX8_coefficient_18 (by decide) (by decide) (by decide) (by decide) ?_
      try dsimp only
      exact ⟨(Or.inl ⟨rfl, by omega⟩), ScrEq.rfl⟩
theorem cf_X8_output : wCal yX8_output cX8_output 3 (some .int) 2 := ⟨gw_385, gw_1, by decide, by decide, by rfl⟩
set_option maxRecDepth 100000 in
set_option maxHeartbeats 4000000 in
theorem c_X8_output (l : Launch) (G : wG) (M : wM) (hfl : l.stackTraces = false) (N P : Nat) (T : Int) (hck : COk M N P T) (hT6 : T ≤ 1000000) (i w : Int) (hi : rI i) (hw : rI w) : vx_Met l yX8_output (gws yX8_output cX8_output 3 (some .int)) (wrm 6 1 6) (wPc G M [vR G (28, 0), vI i, vI w]) (wQi G (fun z M1 => (0 ≤ i ∧ i < P) ∧ (0 ≤ w ∧ w ≤ 3) ∧ ¬ (w ≤ 1 ∧ M 0 11 i.toNat = -1) ∧ z = outF N (M 19) (M 0) i.toNat w ∧ M1 = M)) (wQx G (fun E M1 => ((E = "java/lang/IndexOutOfBoundsException" ∧ ¬ (0 ≤ i ∧ i < P)) ∨ (E = "java/lang/IllegalArgumentException" ∧ (0 ≤ i ∧ i < P) ∧ ¬ (0 ≤ w ∧ w ≤ 3)) ∨ (E = "java/lang/IllegalStateException" ∧ (0 ≤ i ∧ i < P) ∧ (0 ≤ w ∧ w ≤ 3) ∧ (w ≤ 1 ∧ M 0 11 i.toNat = -1))) ∧ ScrEq M M1)) 1 6 (wA G) := by
  refine wMetX (lc := [(0, vR G (28, 0)), (1, vI i), (2, vI w)]) (by decide) (Nat.le_of_ble_eq_true rfl) rfl ?_
  intro p e s m args below meth c X hr hex
  have X : wX p s m args meth c G 3 "StateObserver" cX8_output := X
  obtain ⟨hp, hm, hbx⟩ := id hck
  obtain ⟨hN, hN1, hN4, hP, hP1, hP3, hA, hB, hE, hC, hQ⟩ := id hp
  obtain ⟨hT, hL, hU, hS, hG, hY, hAg, hHo, hBo, hTi, hLi, hLb, hLl, hLh⟩ := id hm
  refine r_aload_n (pc' := 1) X 0 dX8_output_0 rfl rfl rfl ?_
  refine r_iload_n (pc' := 2) X 1 dX8_output_1 rfl rfl rfl ?_
  refine w_calli (pc' := 5) (st := []) (w_runV X (c_X8_isOutput l G M N P T hck (by first | assumption | omega) i (by first | assumption | omega)) cf_X8_isOutput k28_0 rfl gw_388 gp_8 rfl rfl ⟨Nat.le_of_ble_eq_true rfl, Nat.le_of_ble_eq_true rfl⟩ rfl rfl (Nat.le_of_ble_eq_true rfl) ⟨Nat.le_of_ble_eq_true rfl, Nat.le_of_ble_eq_true rfl⟩ gw_386 dX8_output_2) rfl (fun z2 M1 h2 => ?_)
  have hz2 := h2.1
  obtain rfl := h2.2.symm
  have hi2 : z2 = 0 ∨ z2 = 1 := by rw [hz2]; split <;> omega
  have hq2 : z2 = 1 ↔ (0 ≤ i ∧ i < P) := by rw [hz2]; split <;> omega
  refine r_if_ne (pc' := 8) (tgt := 18) X dX8_output_5 rfl rfl (by omega) (fun h5 => ?_) (fun h5 => ?_)
  · refine r_iload_n (pc' := 19) X 2 dX8_output_18 rfl rfl rfl ?_
    refine r_if_lt (pc' := 22) (tgt := 27) X dX8_output_19 rfl rfl (by omega) (fun h19 => ?_) (fun h19 => ?_)
    · refine r_thA X hfl hex gw_458 ts_467 dX8_output_27 dX8_output_30 dX8_output_31 dX8_output_33 dX8_output_36 (by decide) (by decide) (by decide) (by decide) ?_
      try dsimp only
      exact ⟨(Or.inr (Or.inl ⟨rfl, by omega⟩)), ScrEq.rfl⟩
    · refine r_iload_n (pc' := 23) X 2 dX8_output_22 rfl rfl rfl ?_
      refine r_iconst (pc' := 24) X dX8_output_23 rfl ?_
      refine r_icmp_le (pc' := 27) (tgt := 37) X dX8_output_24 rfl rfl (by omega) (by omega) (fun h24 => ?_) (fun h24 => ?_)
      · refine r_iload_n (pc' := 38) X 2 dX8_output_37 rfl rfl rfl ?_
        refine r_iconst (pc' := 39) X dX8_output_38 rfl ?_
        refine r_icmp_gt (pc' := 42) (tgt := 65) X dX8_output_39 rfl rfl (by omega) (by omega) (fun h39 => ?_) (fun h39 => ?_)
        · refine r_iload_n (pc' := 66) X 2 dX8_output_65 rfl rfl rfl ?_
          by_cases hs66 : w = 0 ∨ w = 1
          · rcases hs66 with hs66 | hs66
            · refine r_lsw (tgt := 92) (off := 26) X dX8_output_66 (by omega) (by decide) (by rw [hs66]; rfl) rfl ?_
              refine r_aload_n (pc' := 93) X 0 dX8_output_92 rfl rfl rfl ?_
              refine gf_28_now (pc' := 96) X gw_297 dX8_output_93 rfl ?_
              refine gf_M_reading (pc' := 99) X (by decide) gw_111 dX8_output_96 rfl ?_
              refine r_iload_n (pc' := 100) X 1 dX8_output_99 rfl rfl rfl ?_
              refine r_iald (i := i.toNat) (pc' := 101) X (kM_10 (by decide)) (by omega) (by omega) (by decide) dX8_output_100 rfl ?_
              refine w_x (by decide) (by decide) ?_
              refine w_iret X hr dX8_output_101 ?_
              try dsimp only
              refine ⟨by omega, by omega, by omega, ?_, rfl⟩
              unfold outF
              first | (rw [hs66]; rfl) | (exfalso; omega) | (rw [if_neg (by omega), if_neg (by omega)]; first | rw [if_pos (by omega)] | rw [if_neg (by omega)])
            · refine r_lsw (tgt := 102) (off := 36) X dX8_output_66 (by omega) (by decide) (by rw [hs66]; rfl) rfl ?_
              refine r_aload_n (pc' := 103) X 0 dX8_output_102 rfl rfl rfl ?_
              refine gf_28_now (pc' := 106) X gw_297 dX8_output_103 rfl ?_
              refine gf_M_age (pc' := 109) X (by decide) gw_115 dX8_output_106 rfl ?_
              refine r_iload_n (pc' := 110) X 1 dX8_output_109 rfl rfl rfl ?_
              refine r_iald (i := i.toNat) (pc' := 111) X (kM_11 (by decide)) (by omega) (by omega) (by decide) dX8_output_110 rfl ?_
              refine w_x (by decide) (by decide) ?_
              refine w_iret X hr dX8_output_111 ?_
              try dsimp only
              refine ⟨by omega, by omega, by omega, ?_, rfl⟩
              unfold outF
              first | (rw [hs66]; rfl) | (exfalso; omega) | (rw [if_neg (by omega), if_neg (by omega)]; first | rw [if_pos (by omega)] | rw [if_neg (by omega)])
          · refine r_lsw (tgt := 112) (off := 46) X dX8_output_66 (by omega) (by decide) (lsw_d2 (by omega) (by omega) ) rfl ?_
            have hCf : ∀ j, j < N → -99 ≤ M 19 (9 + i.toNat) j ∧ M 19 (9 + i.toNat) j ≤ 99 := fun j hj => hC i.toNat j (by omega) hj
            have hx0 := ext_bd (n := N) (f := M 19 (9 + i.toNat)) (lo := M 0 2) (hi := M 0 3) (but := -1) (gr := 0) (A := 99) (B := 1000000) (by decide) (by decide) hCf hL hU
            have hx1 := ext_bd (n := N) (f := M 19 (9 + i.toNat)) (lo := M 0 2) (hi := M 0 3) (but := -1) (gr := 1) (A := 99) (B := 1000000) (by decide) (by decide) hCf hL hU
            refine r_aload_n (pc' := 113) X 0 dX8_output_112 rfl rfl rfl ?_
            refine gf_28_plant (pc' := 116) X gw_296 dX8_output_113 rfl ?_
            refine r_iload_n (pc' := 117) X 1 dX8_output_116 rfl rfl rfl ?_
            refine w_eqI (z' := ((i.toNat : Nat) : Int)) (by omega) ?_
            refine r_aload_n (pc' := 118) X 0 dX8_output_117 rfl rfl rfl ?_
            refine gf_28_plant (pc' := 121) X gw_296 dX8_output_118 rfl ?_
            refine r_aload_n (pc' := 122) X 0 dX8_output_121 rfl rfl rfl ?_
            refine gf_28_plant (pc' := 125) X gw_296 dX8_output_122 rfl ?_
            refine gf_P_c (pc' := 128) X (by decide) gw_62 dX8_output_125 rfl ?_
            refine r_iload_n (pc' := 129) X 1 dX8_output_128 rfl rfl rfl ?_
            refine r_aald (i := i.toNat) (x := (19, (9 + i.toNat))) (pc' := 130) X (kP_8 (by decide)) (by decide) (by omega) (by omega) (by decide) rfl dX8_output_129 rfl ?_
            refine r_aload_n (pc' := 131) X 0 dX8_output_130 rfl rfl rfl ?_
            refine gf_28_now (pc' := 134) X gw_297 dX8_output_131 rfl ?_
            refine r_iconst (pc' := 135) X dX8_output_134 rfl ?_
            refine r_iload_n (pc' := 136) X 2 dX8_output_135 rfl rfl rfl ?_
            refine r_iconst (pc' := 137) X dX8_output_136 rfl ?_
            refine r_icmp_ne (pc' := 140) (tgt := 144) X dX8_output_137 rfl rfl (by omega) (by omega) (fun h137 => ?_) (fun h137 => ?_)
            · refine r_iconst (pc' := 145) X dX8_output_144 rfl ?_
              refine w_callj (pc' := 148) (st := [vI ((i.toNat : Nat) : Int), vR G (19, 0)]) (w_runV X (c_X3_extreme l G M 19 19 (9 + i.toNat) 0 N (-1) 0 (by decide) (by decide) (kP_c (by decide) (by omega)) (by first | assumption | omega) (by first | assumption | omega) (by first | assumption | omega) (by first | assumption | omega) (fun j hj => by have := hCf j hj; omega) (fun j hj => by have := hL j hj; omega) (fun j hj => by have := hU j hj; omega)) cf_X3_extreme (kP_0 (by decide)) rfl gw_491 gw_492 rfl rfl ⟨Nat.le_of_ble_eq_true rfl, Nat.le_of_ble_eq_true rfl⟩ rfl rfl (Nat.le_of_ble_eq_true rfl) ⟨Nat.le_of_ble_eq_true rfl, Nat.le_of_ble_eq_true rfl⟩ gw_490 dX8_output_145) rfl (fun z145 M2 h145 => ?_)
              obtain rfl := h145.1.symm
              obtain rfl := h145.2.symm
              refine w_calli (pc' := 151) (st := []) (w_runV X (c_X3_quantized l G M 19 i.toNat ((ext N (M 19 (9 + i.toNat)) (M 0 2) (M 0 3) (-1) 0)) (by decide) (by omega) (hQ i.toNat (by omega)) (by omega)) cf_X3_quantized (kP_0 (by decide)) rfl gw_495 gw_496 rfl rfl ⟨Nat.le_of_ble_eq_true rfl, Nat.le_of_ble_eq_true rfl⟩ rfl rfl (Nat.le_of_ble_eq_true rfl) ⟨Nat.le_of_ble_eq_true rfl, Nat.le_of_ble_eq_true rfl⟩ gw_494 dX8_output_148) rfl (fun z148 M3 h148 => ?_)
              obtain rfl := h148.1.symm
              obtain rfl := h148.2.symm
              refine w_x (by decide) (by decide) ?_
              refine w_iret X hr dX8_output_151 ?_
              try dsimp only
              refine ⟨by omega, by omega, by omega, ?_, rfl⟩
              unfold outF
              first | (rw [hs66]; rfl) | (exfalso; omega) | (rw [if_neg (by omega), if_neg (by omega)]; first | rw [if_pos (by omega)] | rw [if_neg (by omega)])
            · refine r_iconst (pc' := 141) X dX8_output_140 rfl ?_
              refine r_goto (tgt := 145) X dX8_output_141 rfl ?_
              refine w_callj (pc' := 148) (st := [vI ((i.toNat : Nat) : Int), vR G (19, 0)]) (w_runV X (c_X3_extreme l G M 19 19 (9 + i.toNat) 0 N (-1) 1 (by decide) (by decide) (kP_c (by decide) (by omega)) (by first | assumption | omega) (by first | assumption | omega) (by first | assumption | omega) (by first | assumption | omega) (fun j hj => by have := hCf j hj; omega) (fun j hj => by have := hL j hj; omega) (fun j hj => by have := hU j hj; omega)) cf_X3_extreme (kP_0 (by decide)) rfl gw_491 gw_492 rfl rfl ⟨Nat.le_of_ble_eq_true rfl, Nat.le_of_ble_eq_true rfl⟩ rfl rfl (Nat.le_of_ble_eq_true rfl) ⟨Nat.le_of_ble_eq_true rfl, Nat.le_of_ble_eq_true rfl⟩ gw_490 dX8_output_145) rfl (fun z145 M4 h145 => ?_)
              obtain rfl := h145.1.symm
              obtain rfl := h145.2.symm
              refine w_calli (pc' := 151) (st := []) (w_runV X (c_X3_quantized l G M 19 i.toNat ((ext N (M 19 (9 + i.toNat)) (M 0 2) (M 0 3) (-1) 1)) (by decide) (by omega) (hQ i.toNat (by omega)) (by omega)) cf_X3_quantized (kP_0 (by decide)) rfl gw_495 gw_496 rfl rfl ⟨Nat.le_of_ble_eq_true rfl, Nat.le_of_ble_eq_true rfl⟩ rfl rfl (Nat.le_of_ble_eq_true rfl) ⟨Nat.le_of_ble_eq_true rfl, Nat.le_of_ble_eq_true rfl⟩ gw_494 dX8_output_148) rfl (fun z148 M5 h148 => ?_)
              obtain rfl := h148.1.symm
              obtain rfl := h148.2.symm
              refine w_x (by decide) (by decide) ?_
              refine w_iret X hr dX8_output_151 ?_
              try dsimp only
              refine ⟨by omega, by omega, by omega, ?_, rfl⟩
              unfold outF
              first | (rw [hs66]; rfl) | (exfalso; omega) | (rw [if_neg (by omega), if_neg (by omega)]; first | rw [if_pos (by omega)] | rw [if_neg (by omega)])
        · refine r_aload_n (pc' := 43) X 0 dX8_output_42 rfl rfl rfl ?_
          refine gf_28_now (pc' := 46) X gw_297 dX8_output_43 rfl ?_
          refine gf_M_age (pc' := 49) X (by decide) gw_115 dX8_output_46 rfl ?_
          refine r_iload_n (pc' := 50) X 1 dX8_output_49 rfl rfl rfl ?_
          have hage := hAg i.toNat (by omega)
          refine r_iald (i := i.toNat) (pc' := 51) X (kM_11 (by decide)) (by omega) (by omega) (by decide) dX8_output_50 rfl ?_
          refine r_iconst (pc' := 52) X dX8_output_51 rfl ?_
          refine r_icmp_ne (pc' := 55) (tgt := 65) X dX8_output_52 rfl rfl (by omega) (by omega) (fun h52 => ?_) (fun h52 => ?_)
          · refine r_iload_n (pc' := 66) X 2 dX8_output_65 rfl rfl rfl ?_
            by_cases hs66 : w = 0 ∨ w = 1
            · rcases hs66 with hs66 | hs66
              · refine r_lsw (tgt := 92) (off := 26) X dX8_output_66 (by omega) (by decide) (by rw [hs66]; rfl) rfl ?_
                refine r_aload_n (pc' := 93) X 0 dX8_output_92 rfl rfl rfl ?_
                refine gf_28_now (pc' := 96) X gw_297 dX8_output_93 rfl ?_
                refine gf_M_reading (pc' := 99) X (by decide) gw_111 dX8_output_96 rfl ?_
                refine r_iload_n (pc' := 100) X 1 dX8_output_99 rfl rfl rfl ?_
                refine r_iald (i := i.toNat) (pc' := 101) X (kM_10 (by decide)) (by omega) (by omega) (by decide) dX8_output_100 rfl ?_
                refine w_x (by decide) (by decide) ?_
                refine w_iret X hr dX8_output_101 ?_
                try dsimp only
                refine ⟨by omega, by omega, by omega, ?_, rfl⟩
                unfold outF
                first | (rw [hs66]; rfl) | (exfalso; omega) | (rw [if_neg (by omega), if_neg (by omega)]; first | rw [if_pos (by omega)] | rw [if_neg (by omega)])
              · refine r_lsw (tgt := 102) (off := 36) X dX8_output_66 (by omega) (by decide) (by rw [hs66]; rfl) rfl ?_
                refine r_aload_n (pc' := 103) X 0 dX8_output_102 rfl rfl rfl ?_
                refine gf_28_now (pc' := 106) X gw_297 dX8_output_103 rfl ?_
                refine gf_M_age (pc' := 109) X (by decide) gw_115 dX8_output_106 rfl ?_
                refine r_iload_n (pc' := 110) X 1 dX8_output_109 rfl rfl rfl ?_
                refine r_iald (i := i.toNat) (pc' := 111) X (kM_11 (by decide)) (by omega) (by omega) (by decide) dX8_output_110 rfl ?_
                refine w_x (by decide) (by decide) ?_
                refine w_iret X hr dX8_output_111 ?_
                try dsimp only
                refine ⟨by omega, by omega, by omega, ?_, rfl⟩
                unfold outF
                first | (rw [hs66]; rfl) | (exfalso; omega) | (rw [if_neg (by omega), if_neg (by omega)]; first | rw [if_pos (by omega)] | rw [if_neg (by omega)])
            · refine r_lsw (tgt := 112) (off := 46) X dX8_output_66 (by omega) (by decide) (lsw_d2 (by omega) (by omega) ) rfl ?_
              have hCf : ∀ j, j < N → -99 ≤ M 19 (9 + i.toNat) j ∧ M 19 (9 + i.toNat) j ≤ 99 := fun j hj => hC i.toNat j (by omega) hj
              have hx0 := ext_bd (n := N) (f := M 19 (9 + i.toNat)) (lo := M 0 2) (hi := M 0 3) (but := -1) (gr := 0) (A := 99) (B := 1000000) (by decide) (by decide) hCf hL hU
              have hx1 := ext_bd (n := N) (f := M 19 (9 + i.toNat)) (lo := M 0 2) (hi := M 0 3) (but := -1) (gr := 1) (A := 99) (B := 1000000) (by decide) (by decide) hCf hL hU
              refine r_aload_n (pc' := 113) X 0 dX8_output_112 rfl rfl rfl ?_
              refine gf_28_plant (pc' := 116) X gw_296 dX8_output_113 rfl ?_
              refine r_iload_n (pc' := 117) X 1 dX8_output_116 rfl rfl rfl ?_
              refine w_eqI (z' := ((i.toNat : Nat) : Int)) (by omega) ?_
              refine r_aload_n (pc' := 118) X 0 dX8_output_117 rfl rfl rfl ?_
              refine gf_28_plant (pc' := 121) X gw_296 dX8_output_118 rfl ?_
              refine r_aload_n (pc' := 122) X 0 dX8_output_121 rfl rfl rfl ?_
              refine gf_28_plant (pc' := 125) X gw_296 dX8_output_122 rfl ?_
              refine gf_P_c (pc' := 128) X (by decide) gw_62 dX8_output_125 rfl ?_
              refine r_iload_n (pc' := 129) X 1 dX8_output_128 rfl rfl rfl ?_
              refine r_aald (i := i.toNat) (x := (19, (9 + i.toNat))) (pc' := 130) X (kP_8 (by decide)) (by decide) (by omega) (by omega) (by decide) rfl dX8_output_129 rfl ?_
              refine r_aload_n (pc' := 131) X 0 dX8_output_130 rfl rfl rfl ?_
              refine gf_28_now (pc' := 134) X gw_297 dX8_output_131 rfl ?_
              refine r_iconst (pc' := 135) X dX8_output_134 rfl ?_
              refine r_iload_n (pc' := 136) X 2 dX8_output_135 rfl rfl rfl ?_
              refine r_iconst (pc' := 137) X dX8_output_136 rfl ?_
              refine r_icmp_ne (pc' := 140) (tgt := 144) X dX8_output_137 rfl rfl (by omega) (by omega) (fun h137 => ?_) (fun h137 => ?_)
              · refine r_iconst (pc' := 145) X dX8_output_144 rfl ?_
                refine w_callj (pc' := 148) (st := [vI ((i.toNat : Nat) : Int), vR G (19, 0)]) (w_runV X (c_X3_extreme l G M 19 19 (9 + i.toNat) 0 N (-1) 0 (by decide) (by decide) (kP_c (by decide) (by omega)) (by first | assumption | omega) (by first | assumption | omega) (by first | assumption | omega) (by first | assumption | omega) (fun j hj => by have := hCf j hj; omega) (fun j hj => by have := hL j hj; omega) (fun j hj => by have := hU j hj; omega)) cf_X3_extreme (kP_0 (by decide)) rfl gw_491 gw_492 rfl rfl ⟨Nat.le_of_ble_eq_true rfl, Nat.le_of_ble_eq_true rfl⟩ rfl rfl (Nat.le_of_ble_eq_true rfl) ⟨Nat.le_of_ble_eq_true rfl, Nat.le_of_ble_eq_true rfl⟩ gw_490 dX8_output_145) rfl (fun z145 M6 h145 => ?_)
                obtain rfl := h145.1.symm
                obtain rfl := h145.2.symm
                refine w_calli (pc' := 151) (st := []) (w_runV X (c_X3_quantized l G M 19 i.toNat ((ext N (M 19 (9 + i.toNat)) (M 0 2) (M 0 3) (-1) 0)) (by decide) (by omega) (hQ i.toNat (by omega)) (by omega)) cf_X3_quantized (kP_0 (by decide)) rfl gw_495 gw_496 rfl rfl ⟨Nat.le_of_ble_eq_true rfl, Nat.le_of_ble_eq_true rfl⟩ rfl rfl (Nat.le_of_ble_eq_true rfl) ⟨Nat.le_of_ble_eq_true rfl, Nat.le_of_ble_eq_true rfl⟩ gw_494 dX8_output_148) rfl (fun z148 M7 h148 => ?_)
                obtain rfl := h148.1.symm
                obtain rfl := h148.2.symm
                refine w_x (by decide) (by decide) ?_
                refine w_iret X hr dX8_output_151 ?_
                try dsimp only
                refine ⟨by omega, by omega, by omega, ?_, rfl⟩
                unfold outF
                first | (rw [hs66]; rfl) | (exfalso; omega) | (rw [if_neg (by omega), if_neg (by omega)]; first | rw [if_pos (by omega)] | rw [if_neg (by omega)])
              · refine r_iconst (pc' := 141) X dX8_output_140 rfl ?_
                refine r_goto (tgt := 145) X dX8_output_141 rfl ?_
                refine w_callj (pc' := 148) (st := [vI ((i.toNat : Nat) : Int), vR G (19, 0)]) (w_runV X (c_X3_extreme l G M 19 19 (9 + i.toNat) 0 N (-1) 1 (by decide) (by decide) (kP_c (by decide) (by omega)) (by first | assumption | omega) (by first | assumption | omega) (by first | assumption | omega) (by first | assumption | omega) (fun j hj => by have := hCf j hj; omega) (fun j hj => by have := hL j hj; omega) (fun j hj => by have := hU j hj; omega)) cf_X3_extreme (kP_0 (by decide)) rfl gw_491 gw_492 rfl rfl ⟨Nat.le_of_ble_eq_true rfl, Nat.le_of_ble_eq_true rfl⟩ rfl rfl (Nat.le_of_ble_eq_true rfl) ⟨Nat.le_of_ble_eq_true rfl, Nat.le_of_ble_eq_true rfl⟩ gw_490 dX8_output_145) rfl (fun z145 M8 h145 => ?_)
                obtain rfl := h145.1.symm
                obtain rfl := h145.2.symm
                refine w_calli (pc' := 151) (st := []) (w_runV X (c_X3_quantized l G M 19 i.toNat ((ext N (M 19 (9 + i.toNat)) (M 0 2) (M 0 3) (-1) 1)) (by decide) (by omega) (hQ i.toNat (by omega)) (by omega)) cf_X3_quantized (kP_0 (by decide)) rfl gw_495 gw_496 rfl rfl ⟨Nat.le_of_ble_eq_true rfl, Nat.le_of_ble_eq_true rfl⟩ rfl rfl (Nat.le_of_ble_eq_true rfl) ⟨Nat.le_of_ble_eq_true rfl, Nat.le_of_ble_eq_true rfl⟩ gw_494 dX8_output_148) rfl (fun z148 M9 h148 => ?_)
                obtain rfl := h148.1.symm
                obtain rfl := h148.2.symm
                refine w_x (by decide) (by decide) ?_
                refine w_iret X hr dX8_output_151 ?_
                try dsimp only
                refine ⟨by omega, by omega, by omega, ?_, rfl⟩
                unfold outF
                first | (rw [hs66]; rfl) | (exfalso; omega) | (rw [if_neg (by omega), if_neg (by omega)]; first | rw [if_pos (by omega)] | rw [if_neg (by omega)])
          · refine r_thS X hfl hex gw_474 ts_483 dX8_output_55 dX8_output_58 dX8_output_59 dX8_output_61 dX8_output_64 (by decide) (by decide) (by decide) (by decide) ?_
            try dsimp only
            exact ⟨(Or.inr (Or.inr (⟨rfl, by omega⟩))), ScrEq.rfl⟩
      · refine r_thA X hfl hex gw_458 ts_467 dX8_output_27 dX8_output_30 dX8_output_31 dX8_output_33 dX8_output_36 (by decide) (by decide) (by decide) (by decide) ?_
        try dsimp only
        exact ⟨(Or.inr (Or.inl ⟨rfl, by omega⟩)), ScrEq.rfl⟩
  · refine r_thX X hfl hex gw_390 ts_431 dX8_output_8 dX8_output_11 dX8_output_12 dX8_output_14 dX8_output_17 (by decide) (by decide) (by decide) (by decide) ?_
    try dsimp only
    exact ⟨(Or.inl ⟨rfl, by omega⟩), ScrEq.rfl⟩
