/-! an action by lot -/
theorem cf_L_act : wCal yL_act cL_act 6 (some .int) 3 := ⟨gw_1027, gw_0, by decide, by decide, by rfl⟩
set_option maxRecDepth 100000 in
set_option maxHeartbeats 4000000 in
theorem c_L_act (l : Launch) (G : wG) (M : wM) (hfl : l.stackTraces = false) (N P L nx ct : Nat) (T : Int) (lo : Lo N P L nx ct T M) (x y : Int) (hx : 0 ≤ x ∧ x ≤ 2147483647) (hy : 0 ≤ y ∧ y ≤ 2147483647) : Met l yL_act (gws yL_act cL_act 6 (some .int)) (wrm 8 12 72) (wPc G M [vR G (28, 0), vI x, vI y]) (wQi G (fun z M1 => ActP N P nx ct T M M1 x y z)) 12 72 (wA G) := by
  refine wMet (lc := [(0, vR G (28, 0)), (1, vI x), (2, vI y)]) (by decide) (Nat.le_of_ble_eq_true rfl) rfl ?_
  intro p e s m args below meth c X hr
  have X : wX p s m args meth c G 6 "StateObserverLaw" cL_act := X
  have hn := lo.n
  have hbo := lo.bo
  have x10 := tmn (a := x) (b := 10) (by omega) (by decide)
  have y21 := tmn (a := y) (b := 21) (by omega) (by decide)
  have d32 : 0 ≤ y.tdiv 32 ∧ y.tdiv 32 ≤ y := by
    have h1 := q_tdiv (a := y) (b := 32) (by decide)
    have h2 := Int.tdiv_nonneg (a := y) (b := 32) hy.1 (by decide)
    omega
  have yB := tmn (a := y.tdiv 32) (b := 2 * M 0 0 8 + 1) (by omega) (by omega)
  have yP := tmn (a := y) (b := (P : Int)) (by omega) (by omega)
  have yN := tmn (a := y) (b := (N : Int)) (by omega) (by omega)
  have d4 : 0 ≤ y.tdiv 4 ∧ y.tdiv 4 ≤ y := by
    have h1 := q_tdiv (a := y) (b := 4) (by decide)
    have h2 := Int.tdiv_nonneg (a := y) (b := 4) hy.1 (by decide)
    omega
  have d3 : 0 ≤ y.tdiv 3 ∧ y.tdiv 3 ≤ y := by
    have h1 := q_tdiv (a := y) (b := 3) (by decide)
    have h2 := Int.tdiv_nonneg (a := y) (b := 3) hy.1 (by decide)
    omega
  have d12 : 0 ≤ y.tdiv 12 ∧ y.tdiv 12 ≤ y := by
    have h1 := q_tdiv (a := y) (b := 12) (by decide)
    have h2 := Int.tdiv_nonneg (a := y) (b := 12) hy.1 (by decide)
    omega
  have d64 : 0 ≤ y.tdiv 64 ∧ y.tdiv 64 ≤ y := by
    have h1 := q_tdiv (a := y) (b := 64) (by decide)
    have h2 := Int.tdiv_nonneg (a := y) (b := 64) hy.1 (by decide)
    omega
  have y3 := tmn (a := y) (b := 3) (by omega) (by decide)
  have g1 := tmn (a := y.tdiv 3) (b := (N : Int)) (by omega) (by omega)
  have g2 := tmn (a := y.tdiv 12) (b := (P : Int)) (by omega) (by omega)
  have g3 := tmn (a := y.tdiv 64) (b := 61) (by omega) (by decide)
  have g4 := tmn (a := y.tdiv 3) (b := 10) (by omega) (by decide)
  have g5 := tmn (a := y.tdiv 3) (b := 12) (by omega) (by decide)
  have g6 := tmn (a := y.tdiv 4) (b := 9) (by omega) (by decide)
  have y2 := tmn (a := y) (b := 2) (by omega) (by decide)
  have hbi := lo.box (i := (y.tmod N).toNat) (by omega)
  have yW := tmn (a := y.tdiv 4) (b := 1 + M 0 3 (y.tmod N).toNat - M 0 2 (y.tmod N).toNat) (by omega) (by omega)
  refine r_aload_n (pc' := 1) X 0 dL_act_0 rfl rfl rfl ?_
  refine r_iconst (pc' := 2) X dL_act_1 rfl ?_
  refine w_calli (pc' := 5) (st := []) (w_runSH X (c_L_tryAbout l G M hfl N P T lo.ck (by have := lo.t; omega) 0 (by first | omega | assumption | decide)) cf_L_tryAbout gw_681 rfl rfl ⟨Nat.le_of_ble_eq_true rfl, Nat.le_of_ble_eq_true rfl⟩ rfl rfl (Nat.le_of_ble_eq_true rfl) ⟨by show _ ≤ 12; omega, by show _ ≤ 72; omega⟩ gw_680 dL_act_2) rfl (fun z2 M1 h2 => ?_)
  rcases h2 with h2 | h2
  rotate_left 1
  · exfalso
    have hd := h2.2.1; clear h2; omega
  obtain ⟨-, hv2, hm2⟩ := h2
  obtain rfl := hm2.symm
  refine w_eqI (z' := (N : Int)) hv2 ?_
  refine r_istore_n (pc' := 6) (lc' := [(0, vR G (28, 0)), (1, vI x), (2, vI y), (3, vI (N : Int))]) X [1, 2, 3, 0] dL_act_5 rfl (by decide) rfl rfl ?_
  refine r_aload_n (pc' := 7) X 0 dL_act_6 rfl rfl rfl ?_
  refine r_iconst (pc' := 8) X dL_act_7 rfl ?_
  refine w_calli (pc' := 11) (st := []) (w_runSH X (c_L_tryAbout l G M hfl N P T lo.ck (by have := lo.t; omega) 1 (by first | omega | assumption | decide)) cf_L_tryAbout gw_681 rfl rfl ⟨Nat.le_of_ble_eq_true rfl, Nat.le_of_ble_eq_true rfl⟩ rfl rfl (Nat.le_of_ble_eq_true rfl) ⟨by show _ ≤ 12; omega, by show _ ≤ 72; omega⟩ gw_680 dL_act_8) rfl (fun z8 M2 h8 => ?_)
  rcases h8 with h8 | h8
  rotate_left 1
  · exfalso
    have hd := h8.2.1; clear h8; omega
  obtain ⟨-, hv8, hm8⟩ := h8
  obtain rfl := hm8.symm
  refine w_eqI (z' := (P : Int)) hv8 ?_
  refine r_istore (pc' := 13) (lc' := [(0, vR G (28, 0)), (1, vI x), (2, vI y), (3, vI (N : Int)), (4, vI (P : Int))]) X [1, 2, 3, 4, 0] dL_act_11 (by decide) rfl rfl ?_
  refine r_aload_n (pc' := 14) X 0 dL_act_13 rfl rfl rfl ?_
  refine r_iconst (pc' := 15) X dL_act_14 rfl ?_
  refine w_calli (pc' := 18) (st := []) (w_runSH X (c_L_tryAbout l G M hfl N P T lo.ck (by have := lo.t; omega) 2 (by first | omega | assumption | decide)) cf_L_tryAbout gw_681 rfl rfl ⟨Nat.le_of_ble_eq_true rfl, Nat.le_of_ble_eq_true rfl⟩ rfl rfl (Nat.le_of_ble_eq_true rfl) ⟨by show _ ≤ 12; omega, by show _ ≤ 72; omega⟩ gw_680 dL_act_15) rfl (fun z15 M3 h15 => ?_)
  rcases h15 with h15 | h15
  rotate_left 1
  · exfalso
    have hd := h15.2.1; clear h15; omega
  obtain ⟨-, hv15, hm15⟩ := h15
  obtain rfl := hm15.symm
  refine w_eqI (z' := M 0 0 8) hv15 ?_
  refine r_istore (pc' := 20) (lc' := [(0, vR G (28, 0)), (1, vI x), (2, vI y), (3, vI (N : Int)), (4, vI (P : Int)), (5, vI (M 0 0 8))]) X [1, 2, 3, 4, 5, 0] dL_act_18 (by decide) rfl rfl ?_
  refine r_iload_n (pc' := 21) X 1 dL_act_20 rfl rfl rfl ?_
  refine r_bipush (pc' := 23) X dL_act_21 rfl rfl ?_
  refine r_irem (pc' := 24) X dL_act_23 (by omega) (by omega) (by omega) rfl ?_
  by_cases hs24 : 0 ≤ (x.tmod 10) ∧ (x.tmod 10) ≤ 8
  · rcases (show (x.tmod 10) = 0 ∨ (x.tmod 10) = 1 ∨ (x.tmod 10) = 2 ∨ (x.tmod 10) = 3 ∨ (x.tmod 10) = 4 ∨ (x.tmod 10) = 5 ∨ (x.tmod 10) = 6 ∨ (x.tmod 10) = 7 ∨ (x.tmod 10) = 8 by omega) with hs24 | hs24 | hs24 | hs24 | hs24 | hs24 | hs24 | hs24 | hs24
    · refine r_tsw (v := 0) (tgt := 76) X dL_act_24 hs24 (by decide) (by decide) (by decide) rfl rfl ?_
      refine r_aload_n (pc' := 77) X 0 dL_act_76 rfl rfl rfl ?_
      refine r_iload_n (pc' := 78) X 2 dL_act_77 rfl rfl rfl ?_
      refine r_bipush (pc' := 80) X dL_act_78 rfl rfl ?_
      refine r_irem (pc' := 81) X dL_act_80 (by omega) (by omega) (by omega) rfl ?_
      refine r_bipush (pc' := 83) X dL_act_81 rfl rfl ?_
      refine r_isub (pc' := 84) X dL_act_83 rfl ?_
      refine r_iload_n (pc' := 85) X 2 dL_act_84 rfl rfl rfl ?_
      refine r_bipush (pc' := 87) X dL_act_85 rfl rfl ?_
      refine r_idiv (pc' := 88) X dL_act_87 (by omega) (by omega) (by omega) rfl ?_
      refine r_iconst (pc' := 89) X dL_act_88 rfl ?_
      refine r_iload (pc' := 91) X 5 dL_act_89 rfl rfl ?_
      refine r_imul (pc' := 92) X dL_act_91 rfl ?_
      refine r_iconst (pc' := 93) X dL_act_92 rfl ?_
      refine r_iadd (pc' := 94) X dL_act_93 rfl ?_
      refine r_irem (pc' := 95) X dL_act_94 (by omega) (by omega) (by omega) rfl ?_
      refine r_iload (pc' := 97) X 5 dL_act_95 rfl rfl ?_
      refine r_isub (pc' := 98) X dL_act_97 rfl ?_
      refine w_calli (pc' := 101) (st := []) (w_runSH X (c_L_tryStep l G M hfl N P T lo.ck (by have := lo.t; omega) nx ct lo.nxe lo.nx14 lo.cte lo.ct14 ((y.tmod 21) - 10) (((y.tdiv 32).tmod ((2 * (M 0 0 8)) + 1)) - (M 0 0 8)) (by first | omega | assumption | decide) (by first | omega | assumption | decide)) cf_L_tryStep gw_725 rfl rfl ⟨Nat.le_of_ble_eq_true rfl, Nat.le_of_ble_eq_true rfl⟩ rfl rfl (Nat.le_of_ble_eq_true rfl) ⟨by show _ ≤ 12; omega, by show _ ≤ 72; omega⟩ gw_724 dL_act_98) rfl (fun z98 M4 h98 => ?_)
      rcases h98 with h98 | h98
      rotate_left 1
      · exfalso
        have hd := h98.2.1; clear h98; omega
      refine w_widen (k' := 12) (n' := 72) (by omega) (by omega) ?_
      refine w_iret X hr dL_act_101 ?_
      try dsimp only
      refine ⟨fun q => ?_, fun q => ?_, fun q => ?_, fun q q1 => ?_, fun q q1 => ?_, fun q q1 => ?_, fun q => ?_, fun q => ?_, fun q q1 => ?_, fun q q1 => ?_⟩
      all_goals first
        | (exfalso; omega)
        | exact ⟨h98.2.2.1, h98.2.1, h98.2.2.2⟩
    · refine r_tsw (v := 1) (tgt := 76) X dL_act_24 hs24 (by decide) (by decide) (by decide) rfl rfl ?_
      refine r_aload_n (pc' := 77) X 0 dL_act_76 rfl rfl rfl ?_
      refine r_iload_n (pc' := 78) X 2 dL_act_77 rfl rfl rfl ?_
      refine r_bipush (pc' := 80) X dL_act_78 rfl rfl ?_
      refine r_irem (pc' := 81) X dL_act_80 (by omega) (by omega) (by omega) rfl ?_
      refine r_bipush (pc' := 83) X dL_act_81 rfl rfl ?_
      refine r_isub (pc' := 84) X dL_act_83 rfl ?_
      refine r_iload_n (pc' := 85) X 2 dL_act_84 rfl rfl rfl ?_
      refine r_bipush (pc' := 87) X dL_act_85 rfl rfl ?_
      refine r_idiv (pc' := 88) X dL_act_87 (by omega) (by omega) (by omega) rfl ?_
      refine r_iconst (pc' := 89) X dL_act_88 rfl ?_
      refine r_iload (pc' := 91) X 5 dL_act_89 rfl rfl ?_
      refine r_imul (pc' := 92) X dL_act_91 rfl ?_
      refine r_iconst (pc' := 93) X dL_act_92 rfl ?_
      refine r_iadd (pc' := 94) X dL_act_93 rfl ?_
      refine r_irem (pc' := 95) X dL_act_94 (by omega) (by omega) (by omega) rfl ?_
      refine r_iload (pc' := 97) X 5 dL_act_95 rfl rfl ?_
      refine r_isub (pc' := 98) X dL_act_97 rfl ?_
      refine w_calli (pc' := 101) (st := []) (w_runSH X (c_L_tryStep l G M hfl N P T lo.ck (by have := lo.t; omega) nx ct lo.nxe lo.nx14 lo.cte lo.ct14 ((y.tmod 21) - 10) (((y.tdiv 32).tmod ((2 * (M 0 0 8)) + 1)) - (M 0 0 8)) (by first | omega | assumption | decide) (by first | omega | assumption | decide)) cf_L_tryStep gw_725 rfl rfl ⟨Nat.le_of_ble_eq_true rfl, Nat.le_of_ble_eq_true rfl⟩ rfl rfl (Nat.le_of_ble_eq_true rfl) ⟨by show _ ≤ 12; omega, by show _ ≤ 72; omega⟩ gw_724 dL_act_98) rfl (fun z98 M5 h98 => ?_)
      rcases h98 with h98 | h98
      rotate_left 1
      · exfalso
        have hd := h98.2.1; clear h98; omega
      refine w_widen (k' := 12) (n' := 72) (by omega) (by omega) ?_
      refine w_iret X hr dL_act_101 ?_
      try dsimp only
      refine ⟨fun q => ?_, fun q => ?_, fun q => ?_, fun q q1 => ?_, fun q q1 => ?_, fun q q1 => ?_, fun q => ?_, fun q => ?_, fun q q1 => ?_, fun q q1 => ?_⟩
      all_goals first
        | (exfalso; omega)
        | exact ⟨h98.2.2.1, h98.2.1, h98.2.2.2⟩
    · refine r_tsw (v := 2) (tgt := 76) X dL_act_24 hs24 (by decide) (by decide) (by decide) rfl rfl ?_
      refine r_aload_n (pc' := 77) X 0 dL_act_76 rfl rfl rfl ?_
      refine r_iload_n (pc' := 78) X 2 dL_act_77 rfl rfl rfl ?_
      refine r_bipush (pc' := 80) X dL_act_78 rfl rfl ?_
      refine r_irem (pc' := 81) X dL_act_80 (by omega) (by omega) (by omega) rfl ?_
      refine r_bipush (pc' := 83) X dL_act_81 rfl rfl ?_
      refine r_isub (pc' := 84) X dL_act_83 rfl ?_
      refine r_iload_n (pc' := 85) X 2 dL_act_84 rfl rfl rfl ?_
      refine r_bipush (pc' := 87) X dL_act_85 rfl rfl ?_
      refine r_idiv (pc' := 88) X dL_act_87 (by omega) (by omega) (by omega) rfl ?_
      refine r_iconst (pc' := 89) X dL_act_88 rfl ?_
      refine r_iload (pc' := 91) X 5 dL_act_89 rfl rfl ?_
      refine r_imul (pc' := 92) X dL_act_91 rfl ?_
      refine r_iconst (pc' := 93) X dL_act_92 rfl ?_
      refine r_iadd (pc' := 94) X dL_act_93 rfl ?_
      refine r_irem (pc' := 95) X dL_act_94 (by omega) (by omega) (by omega) rfl ?_
      refine r_iload (pc' := 97) X 5 dL_act_95 rfl rfl ?_
      refine r_isub (pc' := 98) X dL_act_97 rfl ?_
      refine w_calli (pc' := 101) (st := []) (w_runSH X (c_L_tryStep l G M hfl N P T lo.ck (by have := lo.t; omega) nx ct lo.nxe lo.nx14 lo.cte lo.ct14 ((y.tmod 21) - 10) (((y.tdiv 32).tmod ((2 * (M 0 0 8)) + 1)) - (M 0 0 8)) (by first | omega | assumption | decide) (by first | omega | assumption | decide)) cf_L_tryStep gw_725 rfl rfl ⟨Nat.le_of_ble_eq_true rfl, Nat.le_of_ble_eq_true rfl⟩ rfl rfl (Nat.le_of_ble_eq_true rfl) ⟨by show _ ≤ 12; omega, by show _ ≤ 72; omega⟩ gw_724 dL_act_98) rfl (fun z98 M6 h98 => ?_)
      rcases h98 with h98 | h98
      rotate_left 1
      · exfalso
        have hd := h98.2.1; clear h98; omega
      refine w_widen (k' := 12) (n' := 72) (by omega) (by omega) ?_
      refine w_iret X hr dL_act_101 ?_
      try dsimp only
      refine ⟨fun q => ?_, fun q => ?_, fun q => ?_, fun q q1 => ?_, fun q q1 => ?_, fun q q1 => ?_, fun q => ?_, fun q => ?_, fun q q1 => ?_, fun q q1 => ?_⟩
      all_goals first
        | (exfalso; omega)
        | exact ⟨h98.2.2.1, h98.2.1, h98.2.2.2⟩
    · refine r_tsw (v := 3) (tgt := 102) X dL_act_24 hs24 (by decide) (by decide) (by decide) rfl rfl ?_
      refine r_aload_n (pc' := 103) X 0 dL_act_102 rfl rfl rfl ?_
      refine r_iload_n (pc' := 104) X 2 dL_act_103 rfl rfl rfl ?_
      refine r_iload (pc' := 106) X 4 dL_act_104 rfl rfl ?_
      refine r_irem (pc' := 107) X dL_act_106 (by omega) (by omega) (by omega) rfl ?_
      refine w_calli (pc' := 110) (st := []) (w_runSH X (c_L_tryRead l G M hfl N P T lo.ck (by have := lo.t; omega) nx ct lo.nxe lo.nx14 lo.cte lo.ct14 lo.t.1 (y.tmod (P : Int)) (by first | omega | assumption | decide)) cf_L_tryRead gw_776 rfl rfl ⟨Nat.le_of_ble_eq_true rfl, Nat.le_of_ble_eq_true rfl⟩ rfl rfl (Nat.le_of_ble_eq_true rfl) ⟨by show _ ≤ 12; omega, by show _ ≤ 72; omega⟩ gw_775 dL_act_107) rfl (fun z107 M7 h107 => ?_)
      rcases h107 with h107 | h107
      rotate_left 1
      · exfalso
        have hd := h107.2.1; clear h107; omega
      refine w_widen (k' := 12) (n' := 72) (by omega) (by omega) ?_
      refine w_iret X hr dL_act_110 ?_
      try dsimp only
      refine ⟨fun q => ?_, fun q => ?_, fun q => ?_, fun q q1 => ?_, fun q q1 => ?_, fun q q1 => ?_, fun q => ?_, fun q => ?_, fun q q1 => ?_, fun q q1 => ?_⟩
      all_goals first
        | (exfalso; omega)
        | exact ⟨h107.2.2.1, h107.2.1, h107.2.2.2⟩
    · refine r_tsw (v := 4) (tgt := 102) X dL_act_24 hs24 (by decide) (by decide) (by decide) rfl rfl ?_
      refine r_aload_n (pc' := 103) X 0 dL_act_102 rfl rfl rfl ?_
      refine r_iload_n (pc' := 104) X 2 dL_act_103 rfl rfl rfl ?_
      refine r_iload (pc' := 106) X 4 dL_act_104 rfl rfl ?_
      refine r_irem (pc' := 107) X dL_act_106 (by omega) (by omega) (by omega) rfl ?_
      refine w_calli (pc' := 110) (st := []) (w_runSH X (c_L_tryRead l G M hfl N P T lo.ck (by have := lo.t; omega) nx ct lo.nxe lo.nx14 lo.cte lo.ct14 lo.t.1 (y.tmod (P : Int)) (by first | omega | assumption | decide)) cf_L_tryRead gw_776 rfl rfl ⟨Nat.le_of_ble_eq_true rfl, Nat.le_of_ble_eq_true rfl⟩ rfl rfl (Nat.le_of_ble_eq_true rfl) ⟨by show _ ≤ 12; omega, by show _ ≤ 72; omega⟩ gw_775 dL_act_107) rfl (fun z107 M8 h107 => ?_)
      rcases h107 with h107 | h107
      rotate_left 1
      · exfalso
        have hd := h107.2.1; clear h107; omega
      refine w_widen (k' := 12) (n' := 72) (by omega) (by omega) ?_
      refine w_iret X hr dL_act_110 ?_
      try dsimp only
      refine ⟨fun q => ?_, fun q => ?_, fun q => ?_, fun q q1 => ?_, fun q q1 => ?_, fun q q1 => ?_, fun q => ?_, fun q => ?_, fun q q1 => ?_, fun q q1 => ?_⟩
      all_goals first
        | (exfalso; omega)
        | exact ⟨h107.2.2.1, h107.2.1, h107.2.2.2⟩
    · refine r_tsw (v := 5) (tgt := 111) X dL_act_24 hs24 (by decide) (by decide) (by decide) rfl rfl ?_
      refine r_aload_n (pc' := 112) X 0 dL_act_111 rfl rfl rfl ?_
      refine r_iload_n (pc' := 113) X 2 dL_act_112 rfl rfl rfl ?_
      refine r_iload_n (pc' := 114) X 3 dL_act_113 rfl rfl rfl ?_
      refine r_irem (pc' := 115) X dL_act_114 (by omega) (by omega) (by omega) rfl ?_
      refine r_aload_n (pc' := 116) X 0 dL_act_115 rfl rfl rfl ?_
      refine r_iload_n (pc' := 117) X 2 dL_act_116 rfl rfl rfl ?_
      refine r_iload_n (pc' := 118) X 3 dL_act_117 rfl rfl rfl ?_
      refine r_irem (pc' := 119) X dL_act_118 (by omega) (by omega) (by omega) rfl ?_
      refine r_iconst (pc' := 120) X dL_act_119 rfl ?_
      refine w_calli (pc' := 123) (st := [vI (y.tmod (N : Int)), vR G (28, 0)]) (w_runSH X (c_L_tryState l G M hfl N P T lo.ck (by have := lo.t; omega) (y.tmod (N : Int)) 1 (by first | omega | assumption | decide) (by first | omega | assumption | decide)) cf_L_tryState gw_689 rfl rfl ⟨Nat.le_of_ble_eq_true rfl, Nat.le_of_ble_eq_true rfl⟩ rfl rfl (Nat.le_of_ble_eq_true rfl) ⟨by show _ ≤ 12; omega, by show _ ≤ 72; omega⟩ gw_688 dL_act_120) rfl (fun z120 M9 h120 => ?_)
      rcases h120 with h120 | h120 | h120
      rotate_left 1
      · exfalso
        have hd := h120.2.1; clear h120; omega
      · exfalso
        have hd := h120.2.1; clear h120; omega
      obtain ⟨-, -, hv120, hm120⟩ := h120
      obtain rfl := hm120.symm
      refine w_eqI (z' := M 0 2 (((y.tmod (N : Int))).toNat)) hv120 ?_
      refine r_iload_n (pc' := 124) X 2 dL_act_123 rfl rfl rfl ?_
      refine r_iconst (pc' := 125) X dL_act_124 rfl ?_
      refine r_idiv (pc' := 126) X dL_act_125 (by omega) (by omega) (by omega) rfl ?_
      refine r_iconst (pc' := 127) X dL_act_126 rfl ?_
      refine r_aload_n (pc' := 128) X 0 dL_act_127 rfl rfl rfl ?_
      refine r_iload_n (pc' := 129) X 2 dL_act_128 rfl rfl rfl ?_
      refine r_iload_n (pc' := 130) X 3 dL_act_129 rfl rfl rfl ?_
      refine r_irem (pc' := 131) X dL_act_130 (by omega) (by omega) (by omega) rfl ?_
      refine r_iconst (pc' := 132) X dL_act_131 rfl ?_
      refine w_calli (pc' := 135) (st := [vI 1, vI (y.tdiv 4), vI (M 0 2 (((y.tmod (N : Int))).toNat)), vI (y.tmod (N : Int)), vR G (28, 0)]) (w_runSH X (c_L_tryState l G M hfl N P T lo.ck (by have := lo.t; omega) (y.tmod (N : Int)) 2 (by first | omega | assumption | decide) (by first | omega | assumption | decide)) cf_L_tryState gw_689 rfl rfl ⟨Nat.le_of_ble_eq_true rfl, Nat.le_of_ble_eq_true rfl⟩ rfl rfl (Nat.le_of_ble_eq_true rfl) ⟨by show _ ≤ 12; omega, by show _ ≤ 72; omega⟩ gw_688 dL_act_132) rfl (fun z132 M10 h132 => ?_)
      rcases h132 with h132 | h132 | h132
      rotate_left 1
      · exfalso
        have hd := h132.2.1; clear h132; omega
      · exfalso
        have hd := h132.2.1; clear h132; omega
      obtain ⟨-, -, hv132, hm132⟩ := h132
      obtain rfl := hm132.symm
      refine w_eqI (z' := M 0 3 (((y.tmod (N : Int))).toNat)) hv132 ?_
      refine r_iadd (pc' := 136) X dL_act_135 rfl ?_
      refine r_aload_n (pc' := 137) X 0 dL_act_136 rfl rfl rfl ?_
      refine r_iload_n (pc' := 138) X 2 dL_act_137 rfl rfl rfl ?_
      refine r_iload_n (pc' := 139) X 3 dL_act_138 rfl rfl rfl ?_
      refine r_irem (pc' := 140) X dL_act_139 (by omega) (by omega) (by omega) rfl ?_
      refine r_iconst (pc' := 141) X dL_act_140 rfl ?_
      refine w_calli (pc' := 144) (st := [vI (1 + (M 0 3 (((y.tmod (N : Int))).toNat))), vI (y.tdiv 4), vI (M 0 2 (((y.tmod (N : Int))).toNat)), vI (y.tmod (N : Int)), vR G (28, 0)]) (w_runSH X (c_L_tryState l G M hfl N P T lo.ck (by have := lo.t; omega) (y.tmod (N : Int)) 1 (by first | omega | assumption | decide) (by first | omega | assumption | decide)) cf_L_tryState gw_689 rfl rfl ⟨Nat.le_of_ble_eq_true rfl, Nat.le_of_ble_eq_true rfl⟩ rfl rfl (Nat.le_of_ble_eq_true rfl) ⟨by show _ ≤ 12; omega, by show _ ≤ 72; omega⟩ gw_688 dL_act_141) rfl (fun z141 M11 h141 => ?_)
      rcases h141 with h141 | h141 | h141
      rotate_left 1
      · exfalso
        have hd := h141.2.1; clear h141; omega
      · exfalso
        have hd := h141.2.1; clear h141; omega
      obtain ⟨-, -, hv141, hm141⟩ := h141
      obtain rfl := hm141.symm
      refine w_eqI (z' := M 0 2 (((y.tmod (N : Int))).toNat)) hv141 ?_
      refine r_isub (pc' := 145) X dL_act_144 rfl ?_
      refine r_irem (pc' := 146) X dL_act_145 (by omega) (by omega) (by omega) rfl ?_
      refine r_iadd (pc' := 147) X dL_act_146 rfl ?_
      refine w_calli (pc' := 150) (st := []) (w_runSH X (c_L_tryPlace l G M hfl N P T lo.ck (by have := lo.t; omega) nx ct lo.nxe lo.nx14 lo.cte lo.ct14 (y.tmod (N : Int)) ((M 0 2 (((y.tmod (N : Int))).toNat)) + ((y.tdiv 4).tmod ((1 + (M 0 3 (((y.tmod (N : Int))).toNat))) - (M 0 2 (((y.tmod (N : Int))).toNat))))) (by first | omega | assumption | decide) (by first | omega | assumption | decide)) cf_L_tryPlace gw_704 rfl rfl ⟨Nat.le_of_ble_eq_true rfl, Nat.le_of_ble_eq_true rfl⟩ rfl rfl (Nat.le_of_ble_eq_true rfl) ⟨by show _ ≤ 12; omega, by show _ ≤ 72; omega⟩ gw_703 dL_act_147) rfl (fun z147 M12 h147 => ?_)
      refine w_widen (k' := 12) (n' := 72) (by omega) (by omega) ?_
      refine w_iret X hr dL_act_150 ?_
      try dsimp only
      have hr : PlaceP N P nx ct M M12 (y.tmod N).toNat (M 0 2 (y.tmod N).toNat + (y.tdiv 4).tmod (1 + M 0 3 (y.tmod N).toNat - M 0 2 (y.tmod N).toNat)) z147 := by
        rcases h147 with q | q | q
        · exact Or.inl ⟨q.2.1.2, q.2.2.2.1, q.2.2.1, q.2.2.2.2⟩
        · exfalso; have hd := q.2.1; omega
        · exact Or.inr ⟨fun w => q.2.1.2 ⟨by omega, w⟩, q.1, q.2.2⟩
      refine ⟨fun q => ?_, fun q => ?_, fun q => ?_, fun q q1 => ?_, fun q q1 => ?_, fun q q1 => ?_, fun q => ?_, fun q => ?_, fun q q1 => ?_, fun q q1 => ?_⟩
      all_goals first
        | (exfalso; omega)
        | exact hr
    · refine r_tsw (v := 6) (tgt := 151) X dL_act_24 hs24 (by decide) (by decide) (by decide) rfl rfl ?_
      refine r_iload_n (pc' := 152) X 2 dL_act_151 rfl rfl rfl ?_
      refine r_iconst (pc' := 153) X dL_act_152 rfl ?_
      refine r_irem (pc' := 154) X dL_act_153 (by omega) (by omega) (by omega) rfl ?_
      refine r_if_ne (pc' := 157) (tgt := 186) X dL_act_154 rfl rfl (by omega) (fun h154 => ?_) (fun h154 => ?_)
      · refine r_iload_n (pc' := 187) X 2 dL_act_186 rfl rfl rfl ?_
        refine r_iconst (pc' := 188) X dL_act_187 rfl ?_
        refine r_irem (pc' := 189) X dL_act_188 (by omega) (by omega) (by omega) rfl ?_
        refine r_iconst (pc' := 190) X dL_act_189 rfl ?_
        refine r_icmp_ne (pc' := 193) (tgt := 206) X dL_act_190 rfl rfl (by omega) (by omega) (fun h190 => ?_) (fun h190 => ?_)
        · refine r_aload_n (pc' := 207) X 0 dL_act_206 rfl rfl rfl ?_
          refine r_iload_n (pc' := 208) X 2 dL_act_207 rfl rfl rfl ?_
          refine r_iconst (pc' := 209) X dL_act_208 rfl ?_
          refine r_idiv (pc' := 210) X dL_act_209 (by omega) (by omega) (by omega) rfl ?_
          refine r_bipush (pc' := 212) X dL_act_210 rfl rfl ?_
          refine r_irem (pc' := 213) X dL_act_212 (by omega) (by omega) (by omega) rfl ?_
          refine w_calli (pc' := 216) (st := []) (w_runSH X (c_L_trySetBound l G M hfl N P T lo.ck (by have := lo.t; omega) nx ct lo.nxe lo.nx14 lo.cte lo.ct14 ((y.tdiv 3).tmod 12) (by first | omega | assumption | decide)) cf_L_trySetBound gw_834 rfl rfl ⟨Nat.le_of_ble_eq_true rfl, Nat.le_of_ble_eq_true rfl⟩ rfl rfl (Nat.le_of_ble_eq_true rfl) ⟨by show _ ≤ 12; omega, by show _ ≤ 72; omega⟩ gw_833 dL_act_213) rfl (fun z213 M13 h213 => ?_)
          rcases h213 with h213 | h213
          rotate_left 1
          · exfalso
            have hd := h213.2.1; clear h213; omega
          refine w_widen (k' := 12) (n' := 72) (by omega) (by omega) ?_
          refine w_iret X hr dL_act_216 ?_
          try dsimp only
          refine ⟨fun q => ?_, fun q => ?_, fun q => ?_, fun q q1 => ?_, fun q q1 => ?_, fun q q1 => ?_, fun q => ?_, fun q => ?_, fun q q1 => ?_, fun q q1 => ?_⟩
          all_goals first
            | (exfalso; omega)
            | exact ⟨h213.2.1, h213.2.2.1, h213.2.2.2⟩
        · refine r_aload_n (pc' := 194) X 0 dL_act_193 rfl rfl rfl ?_
          refine r_iload_n (pc' := 195) X 2 dL_act_194 rfl rfl rfl ?_
          refine r_iconst (pc' := 196) X dL_act_195 rfl ?_
          refine r_idiv (pc' := 197) X dL_act_196 (by omega) (by omega) (by omega) rfl ?_
          refine r_bipush (pc' := 199) X dL_act_197 rfl rfl ?_
          refine r_irem (pc' := 200) X dL_act_199 (by omega) (by omega) (by omega) rfl ?_
          refine w_calli (pc' := 203) (st := []) (w_runSH X (c_L_trySetHold l G M hfl N P T lo.ck (by have := lo.t; omega) nx ct lo.nxe lo.nx14 lo.cte lo.ct14 ((y.tdiv 3).tmod 10) (by first | omega | assumption | decide)) cf_L_trySetHold gw_826 rfl rfl ⟨Nat.le_of_ble_eq_true rfl, Nat.le_of_ble_eq_true rfl⟩ rfl rfl (Nat.le_of_ble_eq_true rfl) ⟨by show _ ≤ 12; omega, by show _ ≤ 72; omega⟩ gw_825 dL_act_200) rfl (fun z200 M14 h200 => ?_)
          rcases h200 with h200 | h200
          rotate_left 1
          · exfalso
            have hd := h200.2.1; clear h200; omega
          refine r_goto (tgt := 216) X dL_act_203 rfl ?_
          refine w_widen (k' := 12) (n' := 72) (by omega) (by omega) ?_
          refine w_iret X hr dL_act_216 ?_
          try dsimp only
          refine ⟨fun q => ?_, fun q => ?_, fun q => ?_, fun q q1 => ?_, fun q q1 => ?_, fun q q1 => ?_, fun q => ?_, fun q => ?_, fun q q1 => ?_, fun q q1 => ?_⟩
          all_goals first
            | (exfalso; omega)
            | exact ⟨h200.2.1, h200.2.2.1, h200.2.2.2⟩
      · refine r_aload_n (pc' := 158) X 0 dL_act_157 rfl rfl rfl ?_
        refine r_iload_n (pc' := 159) X 2 dL_act_158 rfl rfl rfl ?_
        refine r_iconst (pc' := 160) X dL_act_159 rfl ?_
        refine r_idiv (pc' := 161) X dL_act_160 (by omega) (by omega) (by omega) rfl ?_
        refine r_iload_n (pc' := 162) X 3 dL_act_161 rfl rfl rfl ?_
        refine r_irem (pc' := 163) X dL_act_162 (by omega) (by omega) (by omega) rfl ?_
        refine r_iload_n (pc' := 164) X 2 dL_act_163 rfl rfl rfl ?_
        refine r_bipush (pc' := 166) X dL_act_164 rfl rfl ?_
        refine r_idiv (pc' := 167) X dL_act_166 (by omega) (by omega) (by omega) rfl ?_
        refine r_iload (pc' := 169) X 4 dL_act_167 rfl rfl ?_
        refine r_irem (pc' := 170) X dL_act_169 (by omega) (by omega) (by omega) rfl ?_
        refine r_iload_n (pc' := 171) X 2 dL_act_170 rfl rfl rfl ?_
        refine r_bipush (pc' := 173) X dL_act_171 rfl rfl ?_
        refine r_idiv (pc' := 174) X dL_act_173 (by omega) (by omega) (by omega) rfl ?_
        refine r_bipush (pc' := 176) X dL_act_174 rfl rfl ?_
        refine r_irem (pc' := 177) X dL_act_176 (by omega) (by omega) (by omega) rfl ?_
        refine r_bipush (pc' := 179) X dL_act_177 rfl rfl ?_
        refine r_isub (pc' := 180) X dL_act_179 rfl ?_
        refine w_calli (pc' := 183) (st := []) (w_runSH X (c_L_trySetGain l G M hfl N P T lo.ck (by have := lo.t; omega) nx ct lo.nxe lo.nx14 lo.cte lo.ct14 ((y.tdiv 3).tmod (N : Int)) ((y.tdiv 12).tmod (P : Int)) (((y.tdiv 64).tmod 61) - 30) (by first | omega | assumption | decide) (by first | omega | assumption | decide) (by first | omega | assumption | decide)) cf_L_trySetGain gw_817 rfl rfl ⟨Nat.le_of_ble_eq_true rfl, Nat.le_of_ble_eq_true rfl⟩ rfl rfl (Nat.le_of_ble_eq_true rfl) ⟨by show _ ≤ 12; omega, by show _ ≤ 72; omega⟩ gw_816 dL_act_180) rfl (fun z180 M15 h180 => ?_)
        rcases h180 with h180 | h180 | h180
        rotate_left 1
        · exfalso
          have hd := h180.2.1; clear h180; omega
        · exfalso
          have hd := h180.2.1; clear h180; omega
        refine r_goto (tgt := 216) X dL_act_183 rfl ?_
        refine w_widen (k' := 12) (n' := 72) (by omega) (by omega) ?_
        refine w_iret X hr dL_act_216 ?_
        try dsimp only
        refine ⟨fun q => ?_, fun q => ?_, fun q => ?_, fun q q1 => ?_, fun q q1 => ?_, fun q q1 => ?_, fun q => ?_, fun q => ?_, fun q q1 => ?_, fun q q1 => ?_⟩
        all_goals first
          | (exfalso; omega)
          | exact ⟨h180.2.1, h180.2.2.1, h180.2.2.2⟩
    · refine r_tsw (v := 7) (tgt := 217) X dL_act_24 hs24 (by decide) (by decide) (by decide) rfl rfl ?_
      refine r_aload_n (pc' := 218) X 0 dL_act_217 rfl rfl rfl ?_
      refine r_iload_n (pc' := 219) X 2 dL_act_218 rfl rfl rfl ?_
      refine r_iload_n (pc' := 220) X 3 dL_act_219 rfl rfl rfl ?_
      refine r_irem (pc' := 221) X dL_act_220 (by omega) (by omega) (by omega) rfl ?_
      refine r_iconst (pc' := 222) X dL_act_221 rfl ?_
      refine r_iload_n (pc' := 223) X 2 dL_act_222 rfl rfl rfl ?_
      refine r_iconst (pc' := 224) X dL_act_223 rfl ?_
      refine r_idiv (pc' := 225) X dL_act_224 (by omega) (by omega) (by omega) rfl ?_
      refine r_bipush (pc' := 227) X dL_act_225 rfl rfl ?_
      refine r_irem (pc' := 228) X dL_act_227 (by omega) (by omega) (by omega) rfl ?_
      refine r_iadd (pc' := 229) X dL_act_228 rfl ?_
      refine w_calli (pc' := 232) (st := []) (w_runSH X (c_L_tryShave l G M hfl N P T lo.ck (by have := lo.t; omega) nx ct lo.nxe lo.nx14 lo.cte lo.ct14 lo.tr (y.tmod (N : Int)) (1 + ((y.tdiv 4).tmod 9)) (by first | omega | assumption | decide) (by first | omega | assumption | decide)) cf_L_tryShave gw_804 rfl rfl ⟨Nat.le_of_ble_eq_true rfl, Nat.le_of_ble_eq_true rfl⟩ rfl rfl (Nat.le_of_ble_eq_true rfl) ⟨by show _ ≤ 12; omega, by show _ ≤ 72; omega⟩ gw_803 dL_act_229) rfl (fun z229 M16 h229 => ?_)
      rcases h229 with h229 | h229 | h229
      rotate_left 1
      · exfalso
        have hd := h229.2.1; clear h229; omega
      · exfalso
        have hd := h229.2.1; clear h229; omega
      refine w_widen (k' := 12) (n' := 72) (by omega) (by omega) ?_
      refine w_iret X hr dL_act_232 ?_
      try dsimp only
      refine ⟨fun q => ?_, fun q => ?_, fun q => ?_, fun q q1 => ?_, fun q q1 => ?_, fun q q1 => ?_, fun q => ?_, fun q => ?_, fun q q1 => ?_, fun q q1 => ?_⟩
      all_goals first
        | (exfalso; omega)
        | exact ⟨h229.2.1, h229.2.2.1, h229.2.2.2.1, h229.2.2.2.2.1, h229.2.2.2.2.2.1, h229.2.2.2.2.2.2⟩
    · refine r_tsw (v := 8) (tgt := 233) X dL_act_24 hs24 (by decide) (by decide) (by decide) rfl rfl ?_
      refine r_aload_n (pc' := 234) X 0 dL_act_233 rfl rfl rfl ?_
      refine w_calli (pc' := 237) (st := []) (w_runSH X (c_L_tryUndo l G M hfl N P T lo.ck (by have := lo.t; omega) nx ct lo.nxe lo.nx14 lo.cte lo.ct14) cf_L_tryUndo gw_505 rfl rfl ⟨Nat.le_of_ble_eq_true rfl, Nat.le_of_ble_eq_true rfl⟩ rfl rfl (Nat.le_of_ble_eq_true rfl) ⟨by show _ ≤ 12; omega, by show _ ≤ 72; omega⟩ gw_504 dL_act_234) rfl (fun z234 M17 h234 => ?_)
      refine w_widen (k' := 12) (n' := 72) (by omega) (by omega) ?_
      refine w_iret X hr dL_act_237 ?_
      try dsimp only
      have hr : UndoP nx ct M M17 z234 := by
        rcases h234 with q | q
        · exact Or.inl q
        · exact Or.inr ⟨q.2.1, q.1, q.2.2⟩
      refine ⟨fun q => ?_, fun q => ?_, fun q => ?_, fun q q1 => ?_, fun q q1 => ?_, fun q q1 => ?_, fun q => ?_, fun q => ?_, fun q q1 => ?_, fun q q1 => ?_⟩
      all_goals first
        | (exfalso; omega)
        | exact hr
  · refine r_tswD (tgt := 238) X dL_act_24 (by omega) (by omega) rfl ?_
    refine r_iload_n (pc' := 239) X 2 dL_act_238 rfl rfl rfl ?_
    refine r_iconst (pc' := 240) X dL_act_239 rfl ?_
    refine r_irem (pc' := 241) X dL_act_240 (by omega) (by omega) (by omega) rfl ?_
    refine r_if_ne (pc' := 244) (tgt := 252) X dL_act_241 rfl rfl (by omega) (fun h241 => ?_) (fun h241 => ?_)
    · refine r_aload_n (pc' := 253) X 0 dL_act_252 rfl rfl rfl ?_
      refine r_iconst (pc' := 254) X dL_act_253 rfl ?_
      refine w_calli (pc' := 257) (st := []) (w_runSH X (c_L_tryRestore l G M hfl 1 (by first | omega | assumption | decide) lo.sl) cf_L_tryRestore gw_558 rfl rfl ⟨Nat.le_of_ble_eq_true rfl, Nat.le_of_ble_eq_true rfl⟩ rfl rfl (Nat.le_of_ble_eq_true rfl) ⟨by show _ ≤ 12; omega, by show _ ≤ 72; omega⟩ gw_557 dL_act_254) rfl (fun z254 M18 h254 => ?_)
      refine w_widen (k' := 12) (n' := 72) (by omega) (by omega) ?_
      refine w_iret X hr dL_act_257 ?_
      try dsimp only
      have hr : RestP M M18 1 z254 := by
        rcases h254 with q | q | q
        · exact Or.inl ⟨q.2.1, q.2.2.1, q.2.2.2.1, q.2.2.2.2.1, q.2.2.2.2.2.1, q.2.2.2.2.2.2⟩
        · exfalso; have hd := q.2.1; omega
        · exact Or.inr ⟨q.2.1.2, q.1, q.2.2⟩
      refine ⟨fun q => ?_, fun q => ?_, fun q => ?_, fun q q1 => ?_, fun q q1 => ?_, fun q q1 => ?_, fun q => ?_, fun q => ?_, fun q q1 => ?_, fun q q1 => ?_⟩
      all_goals first
        | (exfalso; omega)
        | exact hr
    · refine r_aload_n (pc' := 245) X 0 dL_act_244 rfl rfl rfl ?_
      refine r_iconst (pc' := 246) X dL_act_245 rfl ?_
      refine w_calli (pc' := 249) (st := []) (w_runSH X (c_L_trySave l G M hfl 1 (by first | omega | assumption | decide)) cf_L_trySave gw_549 rfl rfl ⟨Nat.le_of_ble_eq_true rfl, Nat.le_of_ble_eq_true rfl⟩ rfl rfl (Nat.le_of_ble_eq_true rfl) ⟨by show _ ≤ 12; omega, by show _ ≤ 72; omega⟩ gw_548 dL_act_246) rfl (fun z246 M19 h246 => ?_)
      rcases h246 with h246 | h246
      rotate_left 1
      · exfalso
        have hd := h246.2.1; clear h246; omega
      refine r_goto (tgt := 257) X dL_act_249 rfl ?_
      refine w_widen (k' := 12) (n' := 72) (by omega) (by omega) ?_
      refine w_iret X hr dL_act_257 ?_
      try dsimp only
      have hr : SaveP M M19 1 z246 := by
        simp only [show (1 : Int).toNat = 1 from rfl] at h246
        exact h246.2
      clear h246
      refine ⟨fun q => ?_, fun q => ?_, fun q => ?_, fun q q1 => ?_, fun q q1 => ?_, fun q q1 => ?_, fun q => ?_, fun q => ?_, fun q q1 => ?_, fun q q1 => ?_⟩
      all_goals first
        | (exfalso; omega)
        | exact hr
