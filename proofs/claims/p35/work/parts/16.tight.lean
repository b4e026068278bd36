theorem cf_X2_cutDown : wCal yX2_cutDown cX2_cutDown 20 (some .int) 4 := ⟨gw_798, gw_7, by decide, by decide, by rfl⟩
set_option maxRecDepth 100000 in
set_option maxHeartbeats 4000000 in
theorem c_X2_cutDown (l : Launch) (G : wG) (M : wM) (op om K J N P : Nat) (T : Int) (hop : op = 19 ∨ op = 20) (hom : om < 19) (hK : K < P) (hJ : J < N) (hp : PlOk (M op) N P) (hm : MoOk (M om) N P T) (hT6 : T ≤ 1000000) (hbx : BoxOk N (M om 2) (M om 3)) : Met l yX2_cutDown (gws yX2_cutDown cX2_cutDown 20 (some .int)) (wrm 1 0 0) (wPc G M [vR G (21, 0), vR G (op, 0), vR G (om, 0), vI (K : Int), vI (J : Int)]) (wQi G (fun z M1 => z = (cut1 N (M op (9 + K)) (M op 12 K) (M om 10 K) J (0, M om 2, M om 3)).1 ∧ M1 = setLH M om (cut1 N (M op (9 + K)) (M op 12 K) (M om 10 K) J (0, M om 2, M om 3)).2.1 (cut1 N (M op (9 + K)) (M op 12 K) (M om 10 K) J (0, M om 2, M om 3)).2.2)) 0 0 (wA G) := by
  refine wMet (lc := [(0, vR G (21, 0)), (1, vR G (op, 0)), (2, vR G (om, 0)), (3, vI (K : Int)), (4, vI (J : Int))]) (by decide) (Nat.le_of_ble_eq_true rfl) rfl ?_
  intro p e s m args below meth c X hr
  have X : wX p s m args meth c G 20 "StateObserver$Motion" cX2_cutDown := X
  obtain ⟨hN, hN1, hN4, hP, hP1, hP3, hA, hB, hE, hC, hQ⟩ := id hp
  obtain ⟨hT, hL, hU, hS, hG, hY, hAg, hHo, hBo, hTi, hLi, hLb, hLl, hLh⟩ := id hm
  have hN0 := hN
  have hCf : ∀ j, j < N → -99 ≤ M op (9 + K) j ∧ M op (9 + K) j ≤ 99 := fun j hj => hC K j hK hj
  have hcj := hCf J hJ
  have hq := hQ K hK
  have hy := hY K hK
  have hlj := hL J hJ
  have huj := hU J hJ
  have hm1 := mul_bd (A := 99) (B := 400000000) (a := M op 12 K) (b := M om 10 K) (by decide) (by omega) hy
  have hx0 := ext_bd (n := N) (f := M op (9 + K)) (lo := M om 2) (hi := M om 3) (but := (J : Int)) (gr := 0) (A := 99) (B := 1000000) (by decide) (by decide) hCf hL hU
  have hx1 := ext_bd (n := N) (f := M op (9 + K)) (lo := M om 2) (hi := M om 3) (but := (J : Int)) (gr := 1) (A := 99) (B := 1000000) (by decide) (by decide) hCf hL hU
  refine r_aload_n (pc' := 1) X 1 dX2_cutDown_0 rfl rfl rfl ?_
  refine gf_P_c (pc' := 4) X hop gw_61 dX2_cutDown_1 rfl ?_
  refine r_iload_n (pc' := 5) X 3 dX2_cutDown_4 rfl rfl rfl ?_
  refine r_aald (i := K) (x := (op, (9 + K))) (pc' := 6) X (kP_8 hop) (by decide) (by omega) (by omega) (by decide) rfl dX2_cutDown_5 rfl ?_
  refine r_astore (pc' := 8) (lc' := [(0, vR G (21, 0)), (1, vR G (op, 0)), (2, vR G (om, 0)), (3, vI (K : Int)), (4, vI (J : Int)), (5, vR G (op, (9 + K)))]) X [1, 2, 3, 4, 5, 0] dX2_cutDown_6 (by decide) rfl rfl ?_
  refine r_aload (pc' := 10) X 5 dX2_cutDown_8 rfl rfl ?_
  refine r_iload (pc' := 12) X 4 dX2_cutDown_10 rfl rfl ?_
  refine r_iald (i := J) (pc' := 13) X (kP_c hop (by omega)) (by omega) (by omega) (by decide) dX2_cutDown_12 rfl ?_
  refine r_i2l (pc' := 14) X dX2_cutDown_13 (by omega) rfl ?_
  refine r_lstore (pc' := 16) (lc' := [(0, vR G (21, 0)), (1, vR G (op, 0)), (2, vR G (om, 0)), (3, vI (K : Int)), (4, vI (J : Int)), (5, vR G (op, (9 + K))), (6, vJ (M op (9 + K) J))]) X [1, 2, 3, 4, 5, 6, 0] dX2_cutDown_14 (by decide) rfl rfl ?_
  refine r_lload (pc' := 18) X 6 dX2_cutDown_16 rfl rfl ?_
  refine r_lconst (pc' := 19) (z := 0) X dX2_cutDown_18 rfl rfl ?_
  refine r_lcmp (pc' := 20) X dX2_cutDown_19 (by omega) (by omega) rfl (fun z19 z19r z19l z19e z19g => ?_)
  refine r_if_ne (pc' := 23) (tgt := 25) X dX2_cutDown_20 rfl rfl (by omega) (fun h20 => ?_) (fun h20 => ?_)
  · refine r_aload_n (pc' := 26) X 1 dX2_cutDown_25 rfl rfl rfl ?_
    refine gf_P_quantum (pc' := 29) X hop gw_64 dX2_cutDown_26 rfl ?_
    refine r_iload_n (pc' := 30) X 3 dX2_cutDown_29 rfl rfl rfl ?_
    refine r_iald (i := K) (pc' := 31) X (kP_12 hop) (by omega) (by omega) (by decide) dX2_cutDown_30 rfl ?_
    refine r_i2l (pc' := 32) X dX2_cutDown_31 (by omega) rfl ?_
    refine r_aload_n (pc' := 33) X 2 dX2_cutDown_32 rfl rfl rfl ?_
    refine gf_M_reading (pc' := 36) X hom gw_109 dX2_cutDown_33 rfl ?_
    refine r_iload_n (pc' := 37) X 3 dX2_cutDown_36 rfl rfl rfl ?_
    refine r_iald (i := K) (pc' := 38) X (kM_10 hom) (by omega) (by omega) (by decide) dX2_cutDown_37 rfl ?_
    refine r_i2l (pc' := 39) X dX2_cutDown_38 (by omega) rfl ?_
    refine r_lmul (pc' := 40) X dX2_cutDown_39 rfl ?_
    refine r_lstore (pc' := 42) (lc' := [(0, vR G (21, 0)), (1, vR G (op, 0)), (2, vR G (om, 0)), (3, vI (K : Int)), (4, vI (J : Int)), (5, vR G (op, (9 + K))), (6, vJ (M op (9 + K) J)), (8, vJ ((M op 12 K) * (M om 10 K)))]) X [1, 2, 3, 4, 5, 6, 7, 0] dX2_cutDown_40 (by decide) rfl rfl ?_
    refine r_lload (pc' := 44) X 7 dX2_cutDown_42 rfl rfl ?_
    refine r_aload_n (pc' := 45) X 1 dX2_cutDown_44 rfl rfl rfl ?_
    refine gf_P_quantum (pc' := 48) X hop gw_64 dX2_cutDown_45 rfl ?_
    refine r_iload_n (pc' := 49) X 3 dX2_cutDown_48 rfl rfl rfl ?_
    refine r_iald (i := K) (pc' := 50) X (kP_12 hop) (by omega) (by omega) (by decide) dX2_cutDown_49 rfl ?_
    refine r_i2l (pc' := 51) X dX2_cutDown_50 (by omega) rfl ?_
    refine r_ladd (pc' := 52) X dX2_cutDown_51 rfl ?_
    refine r_lconst (pc' := 53) (z := 1) X dX2_cutDown_52 rfl rfl ?_
    refine r_lsub (pc' := 54) X dX2_cutDown_53 rfl ?_
    refine r_lstore (pc' := 56) (lc' := [(0, vR G (21, 0)), (1, vR G (op, 0)), (2, vR G (om, 0)), (3, vI (K : Int)), (4, vI (J : Int)), (5, vR G (op, (9 + K))), (6, vJ (M op (9 + K) J)), (8, vJ ((M op 12 K) * (M om 10 K))), (10, vJ ((((M op 12 K) * (M om 10 K)) + (M op 12 K)) - 1))]) X [1, 2, 3, 4, 5, 6, 7, 8, 0] dX2_cutDown_54 (by decide) rfl rfl ?_
    refine r_lload (pc' := 58) X 7 dX2_cutDown_56 rfl rfl ?_
    refine r_aload_n (pc' := 59) X 1 dX2_cutDown_58 rfl rfl rfl ?_
    refine r_aload (pc' := 61) X 5 dX2_cutDown_59 rfl rfl ?_
    refine r_aload_n (pc' := 62) X 2 dX2_cutDown_61 rfl rfl rfl ?_
    refine r_iload (pc' := 64) X 4 dX2_cutDown_62 rfl rfl ?_
    refine r_iconst (pc' := 65) X dX2_cutDown_64 rfl ?_
    refine w_callj (pc' := 68) (st := [vJ ((M op 12 K) * (M om 10 K))]) (w_runV X (c_X3_extreme l G M op op (9 + K) om N (J : Int) 1 hop hom (kP_c hop (by omega)) (by first | assumption | omega) (by first | assumption | omega) (by first | assumption | omega) (by first | assumption | omega) (fun j hj => by have := hCf j hj; omega) (fun j hj => by have := hL j hj; omega) (fun j hj => by have := hU j hj; omega)) cf_X3_extreme (kP_0 hop) rfl gw_491 gw_492 rfl rfl ⟨Nat.le_of_ble_eq_true rfl, Nat.le_of_ble_eq_true rfl⟩ rfl rfl (Nat.le_of_ble_eq_true rfl) ⟨Nat.le_of_ble_eq_true rfl, Nat.le_of_ble_eq_true rfl⟩ gw_771 dX2_cutDown_65) rfl (fun z65 M1 h65 => ?_)
    obtain rfl := h65.1.symm
    obtain rfl := h65.2.symm
    refine r_lsub (pc' := 69) X dX2_cutDown_68 rfl ?_
    refine r_lstore (pc' := 71) (lc' := [(0, vR G (21, 0)), (1, vR G (op, 0)), (2, vR G (om, 0)), (3, vI (K : Int)), (4, vI (J : Int)), (5, vR G (op, (9 + K))), (6, vJ (M op (9 + K) J)), (8, vJ ((M op 12 K) * (M om 10 K))), (10, vJ ((((M op 12 K) * (M om 10 K)) + (M op 12 K)) - 1)), (12, vJ (((M op 12 K) * (M om 10 K)) - ((ext N (M op (9 + K)) (M om 2) (M om 3) (J : Int) 1))))]) X [1, 2, 3, 4, 5, 6, 7, 8, 9, 0] dX2_cutDown_69 (by decide) rfl rfl ?_
    refine r_lload (pc' := 73) X 8 dX2_cutDown_71 rfl rfl ?_
    refine r_aload_n (pc' := 74) X 1 dX2_cutDown_73 rfl rfl rfl ?_
    refine r_aload (pc' := 76) X 5 dX2_cutDown_74 rfl rfl ?_
    refine r_aload_n (pc' := 77) X 2 dX2_cutDown_76 rfl rfl rfl ?_
    refine r_iload (pc' := 79) X 4 dX2_cutDown_77 rfl rfl ?_
    refine r_iconst (pc' := 80) X dX2_cutDown_79 rfl ?_
    refine w_callj (pc' := 83) (st := [vJ ((((M op 12 K) * (M om 10 K)) + (M op 12 K)) - 1)]) (w_runV X (c_X3_extreme l G M op op (9 + K) om N (J : Int) 0 hop hom (kP_c hop (by omega)) (by first | assumption | omega) (by first | assumption | omega) (by first | assumption | omega) (by first | assumption | omega) (fun j hj => by have := hCf j hj; omega) (fun j hj => by have := hL j hj; omega) (fun j hj => by have := hU j hj; omega)) cf_X3_extreme (kP_0 hop) rfl gw_491 gw_492 rfl rfl ⟨Nat.le_of_ble_eq_true rfl, Nat.le_of_ble_eq_true rfl⟩ rfl rfl (Nat.le_of_ble_eq_true rfl) ⟨Nat.le_of_ble_eq_true rfl, Nat.le_of_ble_eq_true rfl⟩ gw_771 dX2_cutDown_80) rfl (fun z80 M2 h80 => ?_)
    obtain rfl := h80.1.symm
    obtain rfl := h80.2.symm
    refine r_lsub (pc' := 84) X dX2_cutDown_83 rfl ?_
    refine r_lstore (pc' := 86) (lc' := [(0, vR G (21, 0)), (1, vR G (op, 0)), (2, vR G (om, 0)), (3, vI (K : Int)), (4, vI (J : Int)), (5, vR G (op, (9 + K))), (6, vJ (M op (9 + K) J)), (8, vJ ((M op 12 K) * (M om 10 K))), (10, vJ ((((M op 12 K) * (M om 10 K)) + (M op 12 K)) - 1)), (12, vJ (((M op 12 K) * (M om 10 K)) - ((ext N (M op (9 + K)) (M om 2) (M om 3) (J : Int) 1)))), (14, vJ (((((M op 12 K) * (M om 10 K)) + (M op 12 K)) - 1) - ((ext N (M op (9 + K)) (M om 2) (M om 3) (J : Int) 0))))]) X [1, 2, 3, 4, 5, 6, 7, 8, 9, 10, 0] dX2_cutDown_84 (by decide) rfl rfl ?_
    refine r_lload (pc' := 88) X 6 dX2_cutDown_86 rfl rfl ?_
    refine r_lconst (pc' := 89) (z := 0) X dX2_cutDown_88 rfl rfl ?_
    refine r_lcmp (pc' := 90) X dX2_cutDown_89 (by omega) (by omega) rfl (fun z89 z89r z89l z89e z89g => ?_)
    refine r_if_le (pc' := 93) (tgt := 98) X dX2_cutDown_90 rfl rfl (by omega) (fun h90 => ?_) (fun h90 => ?_)
    · refine r_lload (pc' := 100) X 10 dX2_cutDown_98 rfl rfl ?_
      refine r_lneg (pc' := 101) X dX2_cutDown_100 rfl ?_
      refine r_lload (pc' := 103) X 6 dX2_cutDown_101 rfl rfl ?_
      have hfa := fdiv_bd (a := (-(((((M op 12 K) * (M om 10 K)) + (M op 12 K)) - 1) - ((ext N (M op (9 + K)) (M om 2) (M om 3) (J : Int) 0))))) (c := (M op (9 + K) J)) (B := 100000000000) (by omega) (by omega) (by decide)
      refine w_callj (pc' := 106) (st := []) (w_runS X (c_J9_floorDiv_f86c9 l G M (-(((((M op 12 K) * (M om 10 K)) + (M op 12 K)) - 1) - ((ext N (M op (9 + K)) (M om 2) (M om 3) (J : Int) 0)))) (M op (9 + K) J) (by first | assumption | omega) (by first | assumption | omega) (by first | assumption | omega)) cf_J9_floorDiv_f86c9 gw_502 rfl rfl ⟨Nat.le_of_ble_eq_true rfl, Nat.le_of_ble_eq_true rfl⟩ rfl rfl (Nat.le_of_ble_eq_true rfl) ⟨Nat.le_of_ble_eq_true rfl, Nat.le_of_ble_eq_true rfl⟩ gw_799 dX2_cutDown_103) rfl (fun z103 M3 h103 => ?_)
      obtain rfl := h103.1.symm
      obtain rfl := h103.2.symm
      refine r_lneg (pc' := 107) X dX2_cutDown_106 rfl ?_
      refine r_lstore (pc' := 109) (lc' := [(0, vR G (21, 0)), (1, vR G (op, 0)), (2, vR G (om, 0)), (3, vI (K : Int)), (4, vI (J : Int)), (5, vR G (op, (9 + K))), (6, vJ (M op (9 + K) J)), (8, vJ ((M op 12 K) * (M om 10 K))), (10, vJ ((((M op 12 K) * (M om 10 K)) + (M op 12 K)) - 1)), (12, vJ (((M op 12 K) * (M om 10 K)) - ((ext N (M op (9 + K)) (M om 2) (M om 3) (J : Int) 1)))), (14, vJ (((((M op 12 K) * (M om 10 K)) + (M op 12 K)) - 1) - ((ext N (M op (9 + K)) (M om 2) (M om 3) (J : Int) 0)))), (16, vJ (-(((-(((((M op 12 K) * (M om 10 K)) + (M op 12 K)) - 1) - ((ext N (M op (9 + K)) (M om 2) (M om 3) (J : Int) 0)))).fdiv (M op (9 + K) J)))))]) X [1, 2, 3, 4, 5, 6, 7, 8, 9, 10, 11, 0] dX2_cutDown_107 (by decide) rfl rfl ?_
      refine r_lload (pc' := 111) X 6 dX2_cutDown_109 rfl rfl ?_
      refine r_lconst (pc' := 112) (z := 0) X dX2_cutDown_111 rfl rfl ?_
      refine r_lcmp (pc' := 113) X dX2_cutDown_112 (by omega) (by omega) rfl (fun z112 z112r z112l z112e z112g => ?_)
      refine r_if_le (pc' := 116) (tgt := 121) X dX2_cutDown_113 rfl rfl (by omega) (fun h113 => ?_) (fun h113 => by exfalso; omega)
      refine r_lload (pc' := 123) X 9 dX2_cutDown_121 rfl rfl ?_
      refine r_lload (pc' := 125) X 6 dX2_cutDown_123 rfl rfl ?_
      have hfb := fdiv_bd (a := (((M op 12 K) * (M om 10 K)) - ((ext N (M op (9 + K)) (M om 2) (M om 3) (J : Int) 1)))) (c := (M op (9 + K) J)) (B := 100000000000) (by omega) (by omega) (by decide)
      refine w_callj (pc' := 128) (st := []) (w_runS X (c_J9_floorDiv_f86c9 l G M (((M op 12 K) * (M om 10 K)) - ((ext N (M op (9 + K)) (M om 2) (M om 3) (J : Int) 1))) (M op (9 + K) J) (by first | assumption | omega) (by first | assumption | omega) (by first | assumption | omega)) cf_J9_floorDiv_f86c9 gw_502 rfl rfl ⟨Nat.le_of_ble_eq_true rfl, Nat.le_of_ble_eq_true rfl⟩ rfl rfl (Nat.le_of_ble_eq_true rfl) ⟨Nat.le_of_ble_eq_true rfl, Nat.le_of_ble_eq_true rfl⟩ gw_799 dX2_cutDown_125) rfl (fun z125 M4 h125 => ?_)
      obtain rfl := h125.1.symm
      obtain rfl := h125.2.symm
      have hf1 : cutLo (M op (9 + K) J) ((((M op 12 K) * (M om 10 K)) - ((ext N (M op (9 + K)) (M om 2) (M om 3) (J : Int) 1)))) ((((((M op 12 K) * (M om 10 K)) + (M op 12 K)) - 1) - ((ext N (M op (9 + K)) (M om 2) (M om 3) (J : Int) 0)))) = (-(((-(((((M op 12 K) * (M om 10 K)) + (M op 12 K)) - 1) - ((ext N (M op (9 + K)) (M om 2) (M om 3) (J : Int) 0)))).fdiv (M op (9 + K) J)))) := by unfold cutLo; first | rw [if_pos (by omega)] | rw [if_neg (by omega)]
      have hf2 : cutHi (M op (9 + K) J) ((((M op 12 K) * (M om 10 K)) - ((ext N (M op (9 + K)) (M om 2) (M om 3) (J : Int) 1)))) ((((((M op 12 K) * (M om 10 K)) + (M op 12 K)) - 1) - ((ext N (M op (9 + K)) (M om 2) (M om 3) (J : Int) 0)))) = (((((M op 12 K) * (M om 10 K)) - ((ext N (M op (9 + K)) (M om 2) (M om 3) (J : Int) 1))).fdiv (M op (9 + K) J))) := by unfold cutHi; first | rw [if_pos (by omega)] | rw [if_neg (by omega)]
      have hbd := cutX_bd (c := M op (9 + K) J) (x := (((M op 12 K) * (M om 10 K)) - ((ext N (M op (9 + K)) (M om 2) (M om 3) (J : Int) 1)))) (y := (((((M op 12 K) * (M om 10 K)) + (M op 12 K)) - 1) - ((ext N (M op (9 + K)) (M om 2) (M om 3) (J : Int) 0)))) (B := 100000000000) (by omega) (by omega) (by omega) (by decide)
      rw [hf1, hf2] at hbd
      have hf3 : cutA N (M op (9 + K)) (M op 12 K) (M om 10 K) J (M om 2) (M om 3) = max ((-(((-(((((M op 12 K) * (M om 10 K)) + (M op 12 K)) - 1) - ((ext N (M op (9 + K)) (M om 2) (M om 3) (J : Int) 0)))).fdiv (M op (9 + K) J))))) (M om 2 J) := by unfold cutA; rw [hf1]
      have hf4 : cutB N (M op (9 + K)) (M op 12 K) (M om 10 K) J (M om 2) (M om 3) = min ((((((M op 12 K) * (M om 10 K)) - ((ext N (M op (9 + K)) (M om 2) (M om 3) (J : Int) 1))).fdiv (M op (9 + K) J)))) (M om 3 J) := by unfold cutB; rw [hf2]
      refine r_lstore (pc' := 130) (lc' := [(0, vR G (21, 0)), (1, vR G (op, 0)), (2, vR G (om, 0)), (3, vI (K : Int)), (4, vI (J : Int)), (5, vR G (op, (9 + K))), (6, vJ (M op (9 + K) J)), (8, vJ ((M op 12 K) * (M om 10 K))), (10, vJ ((((M op 12 K) * (M om 10 K)) + (M op 12 K)) - 1)), (12, vJ (((M op 12 K) * (M om 10 K)) - ((ext N (M op (9 + K)) (M om 2) (M om 3) (J : Int) 1)))), (14, vJ (((((M op 12 K) * (M om 10 K)) + (M op 12 K)) - 1) - ((ext N (M op (9 + K)) (M om 2) (M om 3) (J : Int) 0)))), (16, vJ (-(((-(((((M op 12 K) * (M om 10 K)) + (M op 12 K)) - 1) - ((ext N (M op (9 + K)) (M om 2) (M om 3) (J : Int) 0)))).fdiv (M op (9 + K) J))))), (18, vJ (((((M op 12 K) * (M om 10 K)) - ((ext N (M op (9 + K)) (M om 2) (M om 3) (J : Int) 1))).fdiv (M op (9 + K) J))))]) X [1, 2, 3, 4, 5, 6, 7, 8, 9, 10, 11, 12, 0] dX2_cutDown_128 (by decide) rfl rfl ?_
      refine r_lload (pc' := 132) X 11 dX2_cutDown_130 rfl rfl ?_
      refine r_aload_n (pc' := 133) X 2 dX2_cutDown_132 rfl rfl rfl ?_
      refine gf_M_lower (pc' := 136) X hom gw_95 dX2_cutDown_133 rfl ?_
      refine r_iload (pc' := 138) X 4 dX2_cutDown_136 rfl rfl ?_
      refine r_iald (i := J) (pc' := 139) X (kM_2 hom) (by omega) (by omega) (by decide) dX2_cutDown_138 rfl ?_
      refine r_i2l (pc' := 140) X dX2_cutDown_139 (by omega) rfl ?_
      refine w_callj (pc' := 143) (st := []) (w_runS X (c_J9_max_f86c9 l G M (-(((-(((((M op 12 K) * (M om 10 K)) + (M op 12 K)) - 1) - ((ext N (M op (9 + K)) (M om 2) (M om 3) (J : Int) 0)))).fdiv (M op (9 + K) J)))) (M om 2 J) (by first | assumption | omega) (by first | assumption | omega)) cf_J9_max_f86c9 gw_759 rfl rfl ⟨Nat.le_of_ble_eq_true rfl, Nat.le_of_ble_eq_true rfl⟩ rfl rfl (Nat.le_of_ble_eq_true rfl) ⟨Nat.le_of_ble_eq_true rfl, Nat.le_of_ble_eq_true rfl⟩ gw_800 dX2_cutDown_140) rfl (fun z140 M5 h140 => ?_)
      obtain rfl := h140.1.symm
      obtain rfl := h140.2.symm
      refine r_lstore (pc' := 145) (lc' := [(0, vR G (21, 0)), (1, vR G (op, 0)), (2, vR G (om, 0)), (3, vI (K : Int)), (4, vI (J : Int)), (5, vR G (op, (9 + K))), (6, vJ (M op (9 + K) J)), (8, vJ ((M op 12 K) * (M om 10 K))), (10, vJ ((((M op 12 K) * (M om 10 K)) + (M op 12 K)) - 1)), (12, vJ (((M op 12 K) * (M om 10 K)) - ((ext N (M op (9 + K)) (M om 2) (M om 3) (J : Int) 1)))), (14, vJ (((((M op 12 K) * (M om 10 K)) + (M op 12 K)) - 1) - ((ext N (M op (9 + K)) (M om 2) (M om 3) (J : Int) 0)))), (16, vJ ((max (-(((-(((((M op 12 K) * (M om 10 K)) + (M op 12 K)) - 1) - ((ext N (M op (9 + K)) (M om 2) (M om 3) (J : Int) 0)))).fdiv (M op (9 + K) J)))) (M om 2 J)))), (18, vJ (((((M op 12 K) * (M om 10 K)) - ((ext N (M op (9 + K)) (M om 2) (M om 3) (J : Int) 1))).fdiv (M op (9 + K) J))))]) X [1, 2, 3, 4, 5, 6, 7, 8, 9, 10, 11, 0, 12] dX2_cutDown_143 (by decide) rfl rfl ?_
      refine r_lload (pc' := 147) X 12 dX2_cutDown_145 rfl rfl ?_
      refine r_aload_n (pc' := 148) X 2 dX2_cutDown_147 rfl rfl rfl ?_
      refine gf_M_upper (pc' := 151) X hom gw_99 dX2_cutDown_148 rfl ?_
      refine r_iload (pc' := 153) X 4 dX2_cutDown_151 rfl rfl ?_
      refine r_iald (i := J) (pc' := 154) X (kM_3 hom) (by omega) (by omega) (by decide) dX2_cutDown_153 rfl ?_
      refine r_i2l (pc' := 155) X dX2_cutDown_154 (by omega) rfl ?_
      refine w_callj (pc' := 158) (st := []) (w_runS X (c_J9_min_f86c9 l G M (((((M op 12 K) * (M om 10 K)) - ((ext N (M op (9 + K)) (M om 2) (M om 3) (J : Int) 1))).fdiv (M op (9 + K) J))) (M om 3 J) (by first | assumption | omega) (by first | assumption | omega)) cf_J9_min_f86c9 gw_756 rfl rfl ⟨Nat.le_of_ble_eq_true rfl, Nat.le_of_ble_eq_true rfl⟩ rfl rfl (Nat.le_of_ble_eq_true rfl) ⟨Nat.le_of_ble_eq_true rfl, Nat.le_of_ble_eq_true rfl⟩ gw_801 dX2_cutDown_155) rfl (fun z155 M6 h155 => ?_)
      obtain rfl := h155.1.symm
      obtain rfl := h155.2.symm
      refine r_lstore (pc' := 160) (lc' := [(0, vR G (21, 0)), (1, vR G (op, 0)), (2, vR G (om, 0)), (3, vI (K : Int)), (4, vI (J : Int)), (5, vR G (op, (9 + K))), (6, vJ (M op (9 + K) J)), (8, vJ ((M op 12 K) * (M om 10 K))), (10, vJ ((((M op 12 K) * (M om 10 K)) + (M op 12 K)) - 1)), (12, vJ (((M op 12 K) * (M om 10 K)) - ((ext N (M op (9 + K)) (M om 2) (M om 3) (J : Int) 1)))), (14, vJ (((((M op 12 K) * (M om 10 K)) + (M op 12 K)) - 1) - ((ext N (M op (9 + K)) (M om 2) (M om 3) (J : Int) 0)))), (16, vJ ((max (-(((-(((((M op 12 K) * (M om 10 K)) + (M op 12 K)) - 1) - ((ext N (M op (9 + K)) (M om 2) (M om 3) (J : Int) 0)))).fdiv (M op (9 + K) J)))) (M om 2 J)))), (18, vJ ((min (((((M op 12 K) * (M om 10 K)) - ((ext N (M op (9 + K)) (M om 2) (M om 3) (J : Int) 1))).fdiv (M op (9 + K) J))) (M om 3 J))))]) X [1, 2, 3, 4, 5, 6, 7, 8, 9, 10, 11, 12, 0] dX2_cutDown_158 (by decide) rfl rfl ?_
      refine r_lload (pc' := 162) X 11 dX2_cutDown_160 rfl rfl ?_
      refine r_lload (pc' := 164) X 12 dX2_cutDown_162 rfl rfl ?_
      refine r_lcmp (pc' := 165) X dX2_cutDown_164 (by omega) (by omega) rfl (fun z164 z164r z164l z164e z164g => ?_)
      refine r_if_le (pc' := 168) (tgt := 170) X dX2_cutDown_165 rfl rfl (by omega) (fun h165 => ?_) (fun h165 => ?_)
      · refine r_lload (pc' := 172) X 11 dX2_cutDown_170 rfl rfl ?_
        refine r_aload_n (pc' := 173) X 2 dX2_cutDown_172 rfl rfl rfl ?_
        refine gf_M_lower (pc' := 176) X hom gw_95 dX2_cutDown_173 rfl ?_
        refine r_iload (pc' := 178) X 4 dX2_cutDown_176 rfl rfl ?_
        refine r_iald (i := J) (pc' := 179) X (kM_2 hom) (by omega) (by omega) (by decide) dX2_cutDown_178 rfl ?_
        refine r_i2l (pc' := 180) X dX2_cutDown_179 (by omega) rfl ?_
        refine r_lcmp (pc' := 181) X dX2_cutDown_180 (by omega) (by omega) rfl (fun z180 z180r z180l z180e z180g => ?_)
        refine r_if_ne (pc' := 184) (tgt := 200) X dX2_cutDown_181 rfl rfl (by omega) (fun h181 => ?_) (fun h181 => ?_)
        · refine r_aload_n (pc' := 201) X 2 dX2_cutDown_200 rfl rfl rfl ?_
          refine gf_M_lower (pc' := 204) X hom gw_95 dX2_cutDown_201 rfl ?_
          refine r_iload (pc' := 206) X 4 dX2_cutDown_204 rfl rfl ?_
          refine r_lload (pc' := 208) X 11 dX2_cutDown_206 rfl rfl ?_
          refine r_l2i (pc' := 209) X dX2_cutDown_208 rfl ?_
          refine r_iast (i := J) (pc' := 210) X (kM_2 hom) (by omega) (by omega) (by decide) dX2_cutDown_209 rfl (fun M7 hM7 => ?_)
          refine r_aload_n (pc' := 211) X 2 dX2_cutDown_210 rfl rfl rfl ?_
          refine gf_M_upper (pc' := 214) X hom gw_99 dX2_cutDown_211 rfl ?_
          refine r_iload (pc' := 216) X 4 dX2_cutDown_214 rfl rfl ?_
          refine r_lload (pc' := 218) X 12 dX2_cutDown_216 rfl rfl ?_
          refine r_l2i (pc' := 219) X dX2_cutDown_218 rfl ?_
          refine r_iast (i := J) (pc' := 220) X (kM_3 hom) (by omega) (by omega) (by decide) dX2_cutDown_219 rfl (fun M8 hM8 => ?_)
          refine r_iconst (pc' := 221) X dX2_cutDown_220 rfl ?_
          refine w_iret X hr dX2_cutDown_221 ?_
          try dsimp only
          rw [cut1_new (show M op (9 + K) J ≠ 0 by omega) (by rw [hf3, hf4]; omega) (by rw [hf3, hf4]; omega), hf3, hf4, hM8, hM7]
          exact ⟨rfl, setLH_up⟩
        · refine r_lload (pc' := 186) X 12 dX2_cutDown_184 rfl rfl ?_
          refine r_aload_n (pc' := 187) X 2 dX2_cutDown_186 rfl rfl rfl ?_
          refine gf_M_upper (pc' := 190) X hom gw_99 dX2_cutDown_187 rfl ?_
          refine r_iload (pc' := 192) X 4 dX2_cutDown_190 rfl rfl ?_
          refine r_iald (i := J) (pc' := 193) X (kM_3 hom) (by omega) (by omega) (by decide) dX2_cutDown_192 rfl ?_
          refine r_i2l (pc' := 194) X dX2_cutDown_193 (by omega) rfl ?_
          refine r_lcmp (pc' := 195) X dX2_cutDown_194 (by omega) (by omega) rfl (fun z194 z194r z194l z194e z194g => ?_)
          refine r_if_ne (pc' := 198) (tgt := 200) X dX2_cutDown_195 rfl rfl (by omega) (fun h195 => ?_) (fun h195 => ?_)
          · refine r_aload_n (pc' := 201) X 2 dX2_cutDown_200 rfl rfl rfl ?_
            refine gf_M_lower (pc' := 204) X hom gw_95 dX2_cutDown_201 rfl ?_
            refine r_iload (pc' := 206) X 4 dX2_cutDown_204 rfl rfl ?_
            refine r_lload (pc' := 208) X 11 dX2_cutDown_206 rfl rfl ?_
            refine r_l2i (pc' := 209) X dX2_cutDown_208 rfl ?_
            refine r_iast (i := J) (pc' := 210) X (kM_2 hom) (by omega) (by omega) (by decide) dX2_cutDown_209 rfl (fun M9 hM9 => ?_)
            refine r_aload_n (pc' := 211) X 2 dX2_cutDown_210 rfl rfl rfl ?_
            refine gf_M_upper (pc' := 214) X hom gw_99 dX2_cutDown_211 rfl ?_
            refine r_iload (pc' := 216) X 4 dX2_cutDown_214 rfl rfl ?_
            refine r_lload (pc' := 218) X 12 dX2_cutDown_216 rfl rfl ?_
            refine r_l2i (pc' := 219) X dX2_cutDown_218 rfl ?_
            refine r_iast (i := J) (pc' := 220) X (kM_3 hom) (by omega) (by omega) (by decide) dX2_cutDown_219 rfl (fun M10 hM10 => ?_)
            refine r_iconst (pc' := 221) X dX2_cutDown_220 rfl ?_
            refine w_iret X hr dX2_cutDown_221 ?_
            try dsimp only
            rw [cut1_new (show M op (9 + K) J ≠ 0 by omega) (by rw [hf3, hf4]; omega) (by rw [hf3, hf4]; omega), hf3, hf4, hM10, hM9]
            exact ⟨rfl, setLH_up⟩
          · refine r_iconst (pc' := 199) X dX2_cutDown_198 rfl ?_
            refine w_iret X hr dX2_cutDown_199 ?_
            try dsimp only
            rw [cut1_same (show M op (9 + K) J ≠ 0 by omega) (by rw [hf3, hf4]; omega) (by rw [hf3, hf4]; omega)]
            exact ⟨rfl, setLH_self.symm⟩
      · refine r_iconst (pc' := 169) X dX2_cutDown_168 rfl ?_
        refine w_iret X hr dX2_cutDown_169 ?_
        try dsimp only
        rw [cut1_empty (show M op (9 + K) J ≠ 0 by omega) (by rw [hf3, hf4]; omega)]
        exact ⟨rfl, setLH_self.symm⟩
    · refine r_lload (pc' := 95) X 9 dX2_cutDown_93 rfl rfl ?_
      refine r_goto (tgt := 100) X dX2_cutDown_95 rfl ?_
      refine r_lneg (pc' := 101) X dX2_cutDown_100 rfl ?_
      refine r_lload (pc' := 103) X 6 dX2_cutDown_101 rfl rfl ?_
      have hfa := fdiv_bd (a := (-(((M op 12 K) * (M om 10 K)) - ((ext N (M op (9 + K)) (M om 2) (M om 3) (J : Int) 1))))) (c := (M op (9 + K) J)) (B := 100000000000) (by omega) (by omega) (by decide)
      refine w_callj (pc' := 106) (st := []) (w_runS X (c_J9_floorDiv_f86c9 l G M (-(((M op 12 K) * (M om 10 K)) - ((ext N (M op (9 + K)) (M om 2) (M om 3) (J : Int) 1)))) (M op (9 + K) J) (by first | assumption | omega) (by first | assumption | omega) (by first | assumption | omega)) cf_J9_floorDiv_f86c9 gw_502 rfl rfl ⟨Nat.le_of_ble_eq_true rfl, Nat.le_of_ble_eq_true rfl⟩ rfl rfl (Nat.le_of_ble_eq_true rfl) ⟨Nat.le_of_ble_eq_true rfl, Nat.le_of_ble_eq_true rfl⟩ gw_799 dX2_cutDown_103) rfl (fun z103 M11 h103 => ?_)
      obtain rfl := h103.1.symm
      obtain rfl := h103.2.symm
      refine r_lneg (pc' := 107) X dX2_cutDown_106 rfl ?_
      refine r_lstore (pc' := 109) (lc' := [(0, vR G (21, 0)), (1, vR G (op, 0)), (2, vR G (om, 0)), (3, vI (K : Int)), (4, vI (J : Int)), (5, vR G (op, (9 + K))), (6, vJ (M op (9 + K) J)), (8, vJ ((M op 12 K) * (M om 10 K))), (10, vJ ((((M op 12 K) * (M om 10 K)) + (M op 12 K)) - 1)), (12, vJ (((M op 12 K) * (M om 10 K)) - ((ext N (M op (9 + K)) (M om 2) (M om 3) (J : Int) 1)))), (14, vJ (((((M op 12 K) * (M om 10 K)) + (M op 12 K)) - 1) - ((ext N (M op (9 + K)) (M om 2) (M om 3) (J : Int) 0)))), (16, vJ (-(((-(((M op 12 K) * (M om 10 K)) - ((ext N (M op (9 + K)) (M om 2) (M om 3) (J : Int) 1)))).fdiv (M op (9 + K) J)))))]) X [1, 2, 3, 4, 5, 6, 7, 8, 9, 10, 11, 0] dX2_cutDown_107 (by decide) rfl rfl ?_
      refine r_lload (pc' := 111) X 6 dX2_cutDown_109 rfl rfl ?_
      refine r_lconst (pc' := 112) (z := 0) X dX2_cutDown_111 rfl rfl ?_
      refine r_lcmp (pc' := 113) X dX2_cutDown_112 (by omega) (by omega) rfl (fun z112 z112r z112l z112e z112g => ?_)
      refine r_if_le (pc' := 116) (tgt := 121) X dX2_cutDown_113 rfl rfl (by omega) (fun h113 => by exfalso; omega) (fun h113 => ?_)
      refine r_lload (pc' := 118) X 10 dX2_cutDown_116 rfl rfl ?_
      refine r_goto (tgt := 123) X dX2_cutDown_118 rfl ?_
      refine r_lload (pc' := 125) X 6 dX2_cutDown_123 rfl rfl ?_
      have hfb := fdiv_bd (a := (((((M op 12 K) * (M om 10 K)) + (M op 12 K)) - 1) - ((ext N (M op (9 + K)) (M om 2) (M om 3) (J : Int) 0)))) (c := (M op (9 + K) J)) (B := 100000000000) (by omega) (by omega) (by decide)
      refine w_callj (pc' := 128) (st := []) (w_runS X (c_J9_floorDiv_f86c9 l G M (((((M op 12 K) * (M om 10 K)) + (M op 12 K)) - 1) - ((ext N (M op (9 + K)) (M om 2) (M om 3) (J : Int) 0))) (M op (9 + K) J) (by first | assumption | omega) (by first | assumption | omega) (by first | assumption | omega)) cf_J9_floorDiv_f86c9 gw_502 rfl rfl ⟨Nat.le_of_ble_eq_true rfl, Nat.le_of_ble_eq_true rfl⟩ rfl rfl (Nat.le_of_ble_eq_true rfl) ⟨Nat.le_of_ble_eq_true rfl, Nat.le_of_ble_eq_true rfl⟩ gw_799 dX2_cutDown_125) rfl (fun z125 M12 h125 => ?_)
      obtain rfl := h125.1.symm
      obtain rfl := h125.2.symm
      have hf1 : cutLo (M op (9 + K) J) ((((M op 12 K) * (M om 10 K)) - ((ext N (M op (9 + K)) (M om 2) (M om 3) (J : Int) 1)))) ((((((M op 12 K) * (M om 10 K)) + (M op 12 K)) - 1) - ((ext N (M op (9 + K)) (M om 2) (M om 3) (J : Int) 0)))) = (-(((-(((M op 12 K) * (M om 10 K)) - ((ext N (M op (9 + K)) (M om 2) (M om 3) (J : Int) 1)))).fdiv (M op (9 + K) J)))) := by unfold cutLo; first | rw [if_pos (by omega)] | rw [if_neg (by omega)]
      have hf2 : cutHi (M op (9 + K) J) ((((M op 12 K) * (M om 10 K)) - ((ext N (M op (9 + K)) (M om 2) (M om 3) (J : Int) 1)))) ((((((M op 12 K) * (M om 10 K)) + (M op 12 K)) - 1) - ((ext N (M op (9 + K)) (M om 2) (M om 3) (J : Int) 0)))) = (((((((M op 12 K) * (M om 10 K)) + (M op 12 K)) - 1) - ((ext N (M op (9 + K)) (M om 2) (M om 3) (J : Int) 0))).fdiv (M op (9 + K) J))) := by unfold cutHi; first | rw [if_pos (by omega)] | rw [if_neg (by omega)]
      have hbd := cutX_bd (c := M op (9 + K) J) (x := (((M op 12 K) * (M om 10 K)) - ((ext N (M op (9 + K)) (M om 2) (M om 3) (J : Int) 1)))) (y := (((((M op 12 K) * (M om 10 K)) + (M op 12 K)) - 1) - ((ext N (M op (9 + K)) (M om 2) (M om 3) (J : Int) 0)))) (B := 100000000000) (by omega) (by omega) (by omega) (by decide)
      rw [hf1, hf2] at hbd
      have hf3 : cutA N (M op (9 + K)) (M op 12 K) (M om 10 K) J (M om 2) (M om 3) = max ((-(((-(((M op 12 K) * (M om 10 K)) - ((ext N (M op (9 + K)) (M om 2) (M om 3) (J : Int) 1)))).fdiv (M op (9 + K) J))))) (M om 2 J) := by unfold cutA; rw [hf1]
      have hf4 : cutB N (M op (9 + K)) (M op 12 K) (M om 10 K) J (M om 2) (M om 3) = min ((((((((M op 12 K) * (M om 10 K)) + (M op 12 K)) - 1) - ((ext N (M op (9 + K)) (M om 2) (M om 3) (J : Int) 0))).fdiv (M op (9 + K) J)))) (M om 3 J) := by unfold cutB; rw [hf2]
      refine r_lstore (pc' := 130) (lc' := [(0, vR G (21, 0)), (1, vR G (op, 0)), (2, vR G (om, 0)), (3, vI (K : Int)), (4, vI (J : Int)), (5, vR G (op, (9 + K))), (6, vJ (M op (9 + K) J)), (8, vJ ((M op 12 K) * (M om 10 K))), (10, vJ ((((M op 12 K) * (M om 10 K)) + (M op 12 K)) - 1)), (12, vJ (((M op 12 K) * (M om 10 K)) - ((ext N (M op (9 + K)) (M om 2) (M om 3) (J : Int) 1)))), (14, vJ (((((M op 12 K) * (M om 10 K)) + (M op 12 K)) - 1) - ((ext N (M op (9 + K)) (M om 2) (M om 3) (J : Int) 0)))), (16, vJ (-(((-(((M op 12 K) * (M om 10 K)) - ((ext N (M op (9 + K)) (M om 2) (M om 3) (J : Int) 1)))).fdiv (M op (9 + K) J))))), (18, vJ (((((((M op 12 K) * (M om 10 K)) + (M op 12 K)) - 1) - ((ext N (M op (9 + K)) (M om 2) (M om 3) (J : Int) 0))).fdiv (M op (9 + K) J))))]) X [1, 2, 3, 4, 5, 6, 7, 8, 9, 10, 11, 12, 0] dX2_cutDown_128 (by decide) rfl rfl ?_
      refine r_lload (pc' := 132) X 11 dX2_cutDown_130 rfl rfl ?_
      refine r_aload_n (pc' := 133) X 2 dX2_cutDown_132 rfl rfl rfl ?_
      refine gf_M_lower (pc' := 136) X hom gw_95 dX2_cutDown_133 rfl ?_
      refine r_iload (pc' := 138) X 4 dX2_cutDown_136 rfl rfl ?_
      refine r_iald (i := J) (pc' := 139) X (kM_2 hom) (by omega) (by omega) (by decide) dX2_cutDown_138 rfl ?_
      refine r_i2l (pc' := 140) X dX2_cutDown_139 (by omega) rfl ?_
      refine w_callj (pc' := 143) (st := []) (w_runS X (c_J9_max_f86c9 l G M (-(((-(((M op 12 K) * (M om 10 K)) - ((ext N (M op (9 + K)) (M om 2) (M om 3) (J : Int) 1)))).fdiv (M op (9 + K) J)))) (M om 2 J) (by first | assumption | omega) (by first | assumption | omega)) cf_J9_max_f86c9 gw_759 rfl rfl ⟨Nat.le_of_ble_eq_true rfl, Nat.le_of_ble_eq_true rfl⟩ rfl rfl (Nat.le_of_ble_eq_true rfl) ⟨Nat.le_of_ble_eq_true rfl, Nat.le_of_ble_eq_true rfl⟩ gw_800 dX2_cutDown_140) rfl (fun z140 M13 h140 => ?_)
      obtain rfl := h140.1.symm
      obtain rfl := h140.2.symm
      refine r_lstore (pc' := 145) (lc' := [(0, vR G (21, 0)), (1, vR G (op, 0)), (2, vR G (om, 0)), (3, vI (K : Int)), (4, vI (J : Int)), (5, vR G (op, (9 + K))), (6, vJ (M op (9 + K) J)), (8, vJ ((M op 12 K) * (M om 10 K))), (10, vJ ((((M op 12 K) * (M om 10 K)) + (M op 12 K)) - 1)), (12, vJ (((M op 12 K) * (M om 10 K)) - ((ext N (M op (9 + K)) (M om 2) (M om 3) (J : Int) 1)))), (14, vJ (((((M op 12 K) * (M om 10 K)) + (M op 12 K)) - 1) - ((ext N (M op (9 + K)) (M om 2) (M om 3) (J : Int) 0)))), (16, vJ ((max (-(((-(((M op 12 K) * (M om 10 K)) - ((ext N (M op (9 + K)) (M om 2) (M om 3) (J : Int) 1)))).fdiv (M op (9 + K) J)))) (M om 2 J)))), (18, vJ (((((((M op 12 K) * (M om 10 K)) + (M op 12 K)) - 1) - ((ext N (M op (9 + K)) (M om 2) (M om 3) (J : Int) 0))).fdiv (M op (9 + K) J))))]) X [1, 2, 3, 4, 5, 6, 7, 8, 9, 10, 11, 0, 12] dX2_cutDown_143 (by decide) rfl rfl ?_
      refine r_lload (pc' := 147) X 12 dX2_cutDown_145 rfl rfl ?_
      refine r_aload_n (pc' := 148) X 2 dX2_cutDown_147 rfl rfl rfl ?_
      refine gf_M_upper (pc' := 151) X hom gw_99 dX2_cutDown_148 rfl ?_
      refine r_iload (pc' := 153) X 4 dX2_cutDown_151 rfl rfl ?_
      refine r_iald (i := J) (pc' := 154) X (kM_3 hom) (by omega) (by omega) (by decide) dX2_cutDown_153 rfl ?_
      refine r_i2l (pc' := 155) X dX2_cutDown_154 (by omega) rfl ?_
      refine w_callj (pc' := 158) (st := []) (w_runS X (c_J9_min_f86c9 l G M (((((((M op 12 K) * (M om 10 K)) + (M op 12 K)) - 1) - ((ext N (M op (9 + K)) (M om 2) (M om 3) (J : Int) 0))).fdiv (M op (9 + K) J))) (M om 3 J) (by first | assumption | omega) (by first | assumption | omega)) cf_J9_min_f86c9 gw_756 rfl rfl ⟨Nat.le_of_ble_eq_true rfl, Nat.le_of_ble_eq_true rfl⟩ rfl rfl (Nat.le_of_ble_eq_true rfl) ⟨Nat.le_of_ble_eq_true rfl, Nat.le_of_ble_eq_true rfl⟩ gw_801 dX2_cutDown_155) rfl (fun z155 M14 h155 => ?_)
      obtain rfl := h155.1.symm
      obtain rfl := h155.2.symm
      refine r_lstore (pc' := 160) (lc' := [(0, vR G (21, 0)), (1, vR G (op, 0)), (2, vR G (om, 0)), (3, vI (K : Int)), (4, vI (J : Int)), (5, vR G (op, (9 + K))), (6, vJ (M op (9 + K) J)), (8, vJ ((M op 12 K) * (M om 10 K))), (10, vJ ((((M op 12 K) * (M om 10 K)) + (M op 12 K)) - 1)), (12, vJ (((M op 12 K) * (M om 10 K)) - ((ext N (M op (9 + K)) (M om 2) (M om 3) (J : Int) 1)))), (14, vJ (((((M op 12 K) * (M om 10 K)) + (M op 12 K)) - 1) - ((ext N (M op (9 + K)) (M om 2) (M om 3) (J : Int) 0)))), (16, vJ ((max (-(((-(((M op 12 K) * (M om 10 K)) - ((ext N (M op (9 + K)) (M om 2) (M om 3) (J : Int) 1)))).fdiv (M op (9 + K) J)))) (M om 2 J)))), (18, vJ ((min (((((((M op 12 K) * (M om 10 K)) + (M op 12 K)) - 1) - ((ext N (M op (9 + K)) (M om 2) (M om 3) (J : Int) 0))).fdiv (M op (9 + K) J))) (M om 3 J))))]) X [1, 2, 3, 4, 5, 6, 7, 8, 9, 10, 11, 12, 0] dX2_cutDown_158 (by decide) rfl rfl ?_
      refine r_lload (pc' := 162) X 11 dX2_cutDown_160 rfl rfl ?_
      refine r_lload (pc' := 164) X 12 dX2_cutDown_162 rfl rfl ?_
      refine r_lcmp (pc' := 165) X dX2_cutDown_164 (by omega) (by omega) rfl (fun z164 z164r z164l z164e z164g => ?_)
      refine r_if_le (pc' := 168) (tgt := 170) X dX2_cutDown_165 rfl rfl (by omega) (fun h165 => ?_) (fun h165 => ?_)
      · refine r_lload (pc' := 172) X 11 dX2_cutDown_170 rfl rfl ?_
        refine r_aload_n (pc' := 173) X 2 dX2_cutDown_172 rfl rfl rfl ?_
        refine gf_M_lower (pc' := 176) X hom gw_95 dX2_cutDown_173 rfl ?_
        refine r_iload (pc' := 178) X 4 dX2_cutDown_176 rfl rfl ?_
        refine r_iald (i := J) (pc' := 179) X (kM_2 hom) (by omega) (by omega) (by decide) dX2_cutDown_178 rfl ?_
        refine r_i2l (pc' := 180) X dX2_cutDown_179 (by omega) rfl ?_
        refine r_lcmp (pc' := 181) X dX2_cutDown_180 (by omega) (by omega) rfl (fun z180 z180r z180l z180e z180g => ?_)
        refine r_if_ne (pc' := 184) (tgt := 200) X dX2_cutDown_181 rfl rfl (by omega) (fun h181 => ?_) (fun h181 => ?_)
        · refine r_aload_n (pc' := 201) X 2 dX2_cutDown_200 rfl rfl rfl ?_
          refine gf_M_lower (pc' := 204) X hom gw_95 dX2_cutDown_201 rfl ?_
          refine r_iload (pc' := 206) X 4 dX2_cutDown_204 rfl rfl ?_
          refine r_lload (pc' := 208) X 11 dX2_cutDown_206 rfl rfl ?_
          refine r_l2i (pc' := 209) X dX2_cutDown_208 rfl ?_
          refine r_iast (i := J) (pc' := 210) X (kM_2 hom) (by omega) (by omega) (by decide) dX2_cutDown_209 rfl (fun M15 hM15 => ?_)
          refine r_aload_n (pc' := 211) X 2 dX2_cutDown_210 rfl rfl rfl ?_
          refine gf_M_upper (pc' := 214) X hom gw_99 dX2_cutDown_211 rfl ?_
          refine r_iload (pc' := 216) X 4 dX2_cutDown_214 rfl rfl ?_
          refine r_lload (pc' := 218) X 12 dX2_cutDown_216 rfl rfl ?_
          refine r_l2i (pc' := 219) X dX2_cutDown_218 rfl ?_
          refine r_iast (i := J) (pc' := 220) X (kM_3 hom) (by omega) (by omega) (by decide) dX2_cutDown_219 rfl (fun M16 hM16 => ?_)
          refine r_iconst (pc' := 221) X dX2_cutDown_220 rfl ?_
          refine w_iret X hr dX2_cutDown_221 ?_
          try dsimp only
          rw [cut1_new (show M op (9 + K) J ≠ 0 by omega) (by rw [hf3, hf4]; omega) (by rw [hf3, hf4]; omega), hf3, hf4, hM16, hM15]
          exact ⟨rfl, setLH_up⟩
        · refine r_lload (pc' := 186) X 12 dX2_cutDown_184 rfl rfl ?_
          refine r_aload_n (pc' := 187) X 2 dX2_cutDown_186 rfl rfl rfl ?_
          refine gf_M_upper (pc' := 190) X hom gw_99 dX2_cutDown_187 rfl ?_
          refine r_iload (pc' := 192) X 4 dX2_cutDown_190 rfl rfl ?_
          refine r_iald (i := J) (pc' := 193) X (kM_3 hom) (by omega) (by omega) (by decide) dX2_cutDown_192 rfl ?_
          refine r_i2l (pc' := 194) X dX2_cutDown_193 (by omega) rfl ?_
          refine r_lcmp (pc' := 195) X dX2_cutDown_194 (by omega) (by omega) rfl (fun z194 z194r z194l z194e z194g => ?_)
          refine r_if_ne (pc' := 198) (tgt := 200) X dX2_cutDown_195 rfl rfl (by omega) (fun h195 => ?_) (fun h195 => ?_)
          · refine r_aload_n (pc' := 201) X 2 dX2_cutDown_200 rfl rfl rfl ?_
            refine gf_M_lower (pc' := 204) X hom gw_95 dX2_cutDown_201 rfl ?_
            refine r_iload (pc' := 206) X 4 dX2_cutDown_204 rfl rfl ?_
            refine r_lload (pc' := 208) X 11 dX2_cutDown_206 rfl rfl ?_
            refine r_l2i (pc' := 209) X dX2_cutDown_208 rfl ?_
            refine r_iast (i := J) (pc' := 210) X (kM_2 hom) (by omega) (by omega) (by decide) dX2_cutDown_209 rfl (fun M17 hM17 => ?_)
            refine r_aload_n (pc' := 211) X 2 dX2_cutDown_210 rfl rfl rfl ?_
            refine gf_M_upper (pc' := 214) X hom gw_99 dX2_cutDown_211 rfl ?_
            refine r_iload (pc' := 216) X 4 dX2_cutDown_214 rfl rfl ?_
            refine r_lload (pc' := 218) X 12 dX2_cutDown_216 rfl rfl ?_
            refine r_l2i (pc' := 219) X dX2_cutDown_218 rfl ?_
            refine r_iast (i := J) (pc' := 220) X (kM_3 hom) (by omega) (by omega) (by decide) dX2_cutDown_219 rfl (fun M18 hM18 => ?_)
            refine r_iconst (pc' := 221) X dX2_cutDown_220 rfl ?_
            refine w_iret X hr dX2_cutDown_221 ?_
            try dsimp only
            rw [cut1_new (show M op (9 + K) J ≠ 0 by omega) (by rw [hf3, hf4]; omega) (by rw [hf3, hf4]; omega), hf3, hf4, hM18, hM17]
            exact ⟨rfl, setLH_up⟩
          · refine r_iconst (pc' := 199) X dX2_cutDown_198 rfl ?_
            refine w_iret X hr dX2_cutDown_199 ?_
            try dsimp only
            rw [cut1_same (show M op (9 + K) J ≠ 0 by omega) (by rw [hf3, hf4]; omega) (by rw [hf3, hf4]; omega)]
            exact ⟨rfl, setLH_self.symm⟩
      · refine r_iconst (pc' := 169) X dX2_cutDown_168 rfl ?_
        refine w_iret X hr dX2_cutDown_169 ?_
        try dsimp only
        rw [cut1_empty (show M op (9 + K) J ≠ 0 by omega) (by rw [hf3, hf4]; omega)]
        exact ⟨rfl, setLH_self.symm⟩
  · refine r_iconst (pc' := 24) X dX2_cutDown_23 rfl ?_
    refine w_iret X hr dX2_cutDown_24 ?_
    try dsimp only
    rw [cut1_zero (show M op (9 + K) J = 0 by omega)]
    exact ⟨rfl, setLH_self.symm⟩
theorem cf_X2_makePass : wCal yX2_makePass cX2_makePass 6 (some .int) 2 := ⟨gw_794, gw_7, by decide, by decide, by rfl⟩
set_option maxRecDepth 100000 in
set_option maxHeartbeats 4000000 in
theorem c_X2_makePass (l : Launch) (G : wG) (M : wM) (op om N P : Nat) (T : Int) (hop : op = 19 ∨ op = 20) (hom : om < 19) (hp : PlOk (M op) N P) (hm : MoOk (M om) N P T) (hT6 : T ≤ 1000000) (hbx : BoxOk N (M om 2) (M om 3)) : Met l yX2_makePass (gws yX2_makePass cX2_makePass 6 (some .int)) (wrm 2 0 0) (wPc G M [vR G (21, 0), vR G (op, 0), vR G (om, 0)]) (wQi G (fun z M1 => z = (passK N (M op) (M om 10) (M om 11) P (0, M om 2, M om 3)).1 ∧ M1 = setLH M om (passK N (M op) (M om 10) (M om 11) P (0, M om 2, M om 3)).2.1 (passK N (M op) (M om 10) (M om 11) P (0, M om 2, M om 3)).2.2)) 0 0 (wA G) := by
  refine wMet (lc := [(0, vR G (21, 0)), (1, vR G (op, 0)), (2, vR G (om, 0))]) (by decide) (Nat.le_of_ble_eq_true rfl) rfl ?_
  intro p e s m args below meth c X hr
  have X : wX p s m args meth c G 6 "StateObserver$Motion" cX2_makePass := X
  obtain ⟨hN, hN1, hN4, hP, hP1, hP3, hA, hB, hE, hC, hQ⟩ := id hp
  obtain ⟨hT, hL, hU, hS, hG, hY, hAg, hHo, hBo, hTi, hLi, hLb, hLl, hLh⟩ := id hm
  have hN0 := hN
  refine r_iconst (pc' := 1) X dX2_makePass_0 rfl ?_
  refine r_istore_n (pc' := 2) (lc' := [(0, vR G (21, 0)), (1, vR G (op, 0)), (2, vR G (om, 0)), (3, vI 0)]) X [1, 2, 3, 0] dX2_makePass_1 rfl (by decide) rfl rfl ?_
  refine r_iconst (pc' := 3) X dX2_makePass_2 rfl ?_
  refine r_istore (pc' := 5) (lc' := [(0, vR G (21, 0)), (1, vR G (op, 0)), (2, vR G (om, 0)), (3, vI 0), (4, vI 0)]) X [1, 2, 3, 4, 0] dX2_makePass_3 (by decide) rfl rfl ?_
  have L5 : ∀ (fu : Nat) (k : Nat) (o : Int) (Ma : wM), P - k < fu → (k ≤ P) → (o = (passK N (M op) (M om 10) (M om 11) k (0, M om 2, M om 3)).1) → (Ma = setLH M om (passK N (M op) (M om 10) (M om 11) k (0, M om 2, M om 3)).2.1 (passK N (M op) (M om 10) (M om 11) k (0, M om 2, M om 3)).2.2) → (o = 0 ∨ o = 1) → wV p l e (wrm 2 0 0) s m args below meth c G 6 Ma 0 0 (MQ below (wQi G (fun z M1 => z = (passK N (M op) (M om 10) (M om 11) P (0, M om 2, M om 3)).1 ∧ M1 = setLH M om (passK N (M op) (M om 10) (M om 11) P (0, M om 2, M om 3)).2.1 (passK N (M op) (M om 10) (M om 11) P (0, M om 2, M om 3)).2.2)) args s 0 0 (wA G)) 5 [(0, vR G (21, 0)), (1, vR G (op, 0)), (2, vR G (om, 0)), (3, vI o), (4, vI (k : Int))] [] := by
    intro fu
    induction fu with
    | zero => intro k o Ma hfu; exact absurd hfu (Nat.not_lt_zero _)
    | succ fu ih5 =>
      intro k o Ma hfu5 hk ho hmX ho2
      have hs0 : stOk N (0, M om 2, M om 3) := ⟨Or.inl rfl, hbx⟩
      have e1 : Ma op = M op := by rw [hmX]; exact funext fun b => setLH_ne (by omega)
      have e10 : Ma om 10 = M om 10 := by rw [hmX]; exact setLH_ne (by omega)
      have e11 : Ma om 11 = M om 11 := by rw [hmX]; exact setLH_ne (by omega)
      have hNX : Ma op 0 0 = N := by rw [e1]; exact hN0
      have hPX : Ma op 0 1 = P := by rw [e1]; exact hP
      refine r_iload (pc' := 7) X 4 dX2_makePass_5 rfl rfl ?_
      refine r_aload_n (pc' := 8) X 1 dX2_makePass_7 rfl rfl rfl ?_
      refine gf_P_p (pc' := 11) X hop gw_41 dX2_makePass_8 rfl ?_
      refine r_icmp_ge (pc' := 14) (tgt := 70) X dX2_makePass_11 rfl rfl (by omega) (by omega) (fun h11 => ?_) (fun h11 => ?_)
      · obtain rfl : k = P := by omega
        refine r_iload_n (pc' := 71) X 3 dX2_makePass_70 rfl rfl rfl ?_
        refine w_iret X hr dX2_makePass_71 ?_
        try dsimp only
        exact ⟨ho, hmX⟩
      · refine r_iconst (pc' := 15) X dX2_makePass_14 rfl ?_
        refine r_istore (pc' := 17) (lc' := [(0, vR G (21, 0)), (1, vR G (op, 0)), (2, vR G (om, 0)), (3, vI o), (4, vI (k : Int)), (5, vI 0)]) X [1, 2, 3, 4, 5, 0] dX2_makePass_15 (by decide) rfl rfl ?_
        have L17 : ∀ (fu : Nat) (j : Nat) (o' : Int) (Mb : wM), N - j < fu → (j ≤ N) → (o' = (rowJ N (M op) (M om 10) (M om 11) k j (0, M om 2, M om 3)).1) → (Mb = setLH M om (rowJ N (M op) (M om 10) (M om 11) k j (0, M om 2, M om 3)).2.1 (rowJ N (M op) (M om 10) (M om 11) k j (0, M om 2, M om 3)).2.2) → (o' = 0 ∨ o' = 1) → wV p l e (wrm 2 0 0) s m args below meth c G 6 Mb 0 0 (MQ below (wQi G (fun z M1 => z = (passK N (M op) (M om 10) (M om 11) P (0, M om 2, M om 3)).1 ∧ M1 = setLH M om (passK N (M op) (M om 10) (M om 11) P (0, M om 2, M om 3)).2.1 (passK N (M op) (M om 10) (M om 11) P (0, M om 2, M om 3)).2.2)) args s 0 0 (wA G)) 17 [(0, vR G (21, 0)), (1, vR G (op, 0)), (2, vR G (om, 0)), (3, vI o'), (4, vI (k : Int)), (5, vI (j : Int))] [] := by
          intro fu
          induction fu with
          | zero => intro j o' Mb hfu; exact absurd hfu (Nat.not_lt_zero _)
          | succ fu ih17 =>
            intro j o' Mb hfu17 hj ho' hmX' ho2'
            have hs0 : stOk N (0, M om 2, M om 3) := ⟨Or.inl rfl, hbx⟩
            have e1 : Mb op = M op := by rw [hmX']; exact funext fun b => setLH_ne (by omega)
            have e10 : Mb om 10 = M om 10 := by rw [hmX']; exact setLH_ne (by omega)
            have e11 : Mb om 11 = M om 11 := by rw [hmX']; exact setLH_ne (by omega)
            have hNX : Mb op 0 0 = N := by rw [e1]; exact hN0
            have hPX : Mb op 0 1 = P := by rw [e1]; exact hP
            refine r_iload (pc' := 19) X 5 dX2_makePass_17 rfl rfl ?_
            refine r_aload_n (pc' := 20) X 1 dX2_makePass_19 rfl rfl rfl ?_
            refine gf_P_n (pc' := 23) X hop gw_36 dX2_makePass_20 rfl ?_
            refine r_icmp_ge (pc' := 26) (tgt := 64) X dX2_makePass_23 rfl rfl (by omega) (by omega) (fun h23 => ?_) (fun h23 => ?_)
            · have hend : (rowJ N (M op) (M om 10) (M om 11) k j (0, M om 2, M om 3)) = (passK N (M op) (M om 10) (M om 11) (k + 1) (0, M om 2, M om 3)) := by
                first | exact rowJ_no (by rw [← e11]; omega) | (rw [show j = N by omega]; exact rowJ_N)
              refine r_iinc (pc' := 67) (z' := ((k + 1 : Nat) : Int)) (lc' := [(0, vR G (21, 0)), (1, vR G (op, 0)), (2, vR G (om, 0)), (3, vI o'), (4, vI ((k + 1 : Nat) : Int)), (5, vI (j : Int))]) X 4 [1, 2, 3, 4, 0, 5] dX2_makePass_64 rfl (by omega) (by decide) rfl rfl ?_
              refine r_goto (tgt := 5) X dX2_makePass_67 rfl ?_
              refine w_sub (lc' := [(0, vR G (21, 0)), (1, vR G (op, 0)), (2, vR G (om, 0)), (3, vI o'), (4, vI ((k + 1 : Nat) : Int))]) [0, 1, 2, 3, 4] rfl ?_
              exact ih5 (k + 1) o' Mb (by omega) (by omega) (by rw [ho', hend]) (by rw [hmX', hend]) ho2'
            · refine r_aload_n (pc' := 27) X 2 dX2_makePass_26 rfl rfl rfl ?_
              have hagk := hAg k (by omega)
              rw [← e11] at hagk
              refine gf_M_age (pc' := 30) X hom gw_113 dX2_makePass_27 rfl ?_
              refine r_iload (pc' := 32) X 4 dX2_makePass_30 rfl rfl ?_
              refine r_iald (i := k) (pc' := 33) X (kM_11 hom) (by omega) (by omega) (by decide) dX2_makePass_32 rfl ?_
              refine r_if_ne (pc' := 36) (tgt := 64) X dX2_makePass_33 rfl rfl (by omega) (fun h33 => ?_) (fun h33 => ?_)
              · have hend : (rowJ N (M op) (M om 10) (M om 11) k j (0, M om 2, M om 3)) = (passK N (M op) (M om 10) (M om 11) (k + 1) (0, M om 2, M om 3)) := by
                  first | exact rowJ_no (by rw [← e11]; omega) | (rw [show j = N by omega]; exact rowJ_N)
                refine r_iinc (pc' := 67) (z' := ((k + 1 : Nat) : Int)) (lc' := [(0, vR G (21, 0)), (1, vR G (op, 0)), (2, vR G (om, 0)), (3, vI o'), (4, vI ((k + 1 : Nat) : Int)), (5, vI (j : Int))]) X 4 [1, 2, 3, 4, 0, 5] dX2_makePass_64 rfl (by omega) (by decide) rfl rfl ?_
                refine r_goto (tgt := 5) X dX2_makePass_67 rfl ?_
                refine w_sub (lc' := [(0, vR G (21, 0)), (1, vR G (op, 0)), (2, vR G (om, 0)), (3, vI o'), (4, vI ((k + 1 : Nat) : Int))]) [0, 1, 2, 3, 4] rfl ?_
                exact ih5 (k + 1) o' Mb (by omega) (by omega) (by rw [ho', hend]) (by rw [hmX', hend]) ho2'
              · have hrk := rowJ_ok (N := N) (pv := M op) (y := M om 10) (age := M om 11) (k := k) (j := j) hs0
                have hpb : PlOk (Mb op) N P := by rw [e1]; exact hp
                have hmb : MoOk (Mb om) N P T := by rw [hmX']; exact MoOk_box hm hrk.2
                have hbb : BoxOk N (Mb om 2) (Mb om 3) := by rw [hmX', setLH_2, setLH_3]; exact hrk.2
                refine r_iload_n (pc' := 37) X 3 dX2_makePass_36 rfl rfl rfl ?_
                refine r_aload_n (pc' := 38) X 0 dX2_makePass_37 rfl rfl rfl ?_
                refine r_aload_n (pc' := 39) X 1 dX2_makePass_38 rfl rfl rfl ?_
                refine r_aload_n (pc' := 40) X 2 dX2_makePass_39 rfl rfl rfl ?_
                refine r_iload (pc' := 42) X 4 dX2_makePass_40 rfl rfl ?_
                refine r_iload (pc' := 44) X 5 dX2_makePass_42 rfl rfl ?_
                refine w_calli (pc' := 47) (st := [vI o']) (w_runV X (c_X2_cutDown l G Mb op om k j N P T hop hom (by first | assumption | omega) (by first | assumption | omega) hpb hmb (by first | assumption | omega) hbb) cf_X2_cutDown k21_0 rfl gw_797 gp_19 rfl rfl ⟨Nat.le_of_ble_eq_true rfl, Nat.le_of_ble_eq_true rfl⟩ rfl rfl (Nat.le_of_ble_eq_true rfl) ⟨Nat.le_of_ble_eq_true rfl, Nat.le_of_ble_eq_true rfl⟩ gw_795 dX2_makePass_44) rfl (fun z44 M1 h44 => ?_)
                have hag0 : M om 11 k = 0 := by rw [← e11]; omega
                have hst : (0, Mb om 2, Mb om 3) = ((0, (rowJ N (M op) (M om 10) (M om 11) k j (0, M om 2, M om 3)).2) : tS) := by rw [hmX', setLH_2, setLH_3]
                have hcut : cut1 N (Mb op (9 + k)) (Mb op 12 k) (Mb om 10 k) j (0, Mb om 2, Mb om 3) = cut1 N (M op (9 + k)) (M op 12 k) (M om 10 k) j (0, (rowJ N (M op) (M om 10) (M om 11) k j (0, M om 2, M om 3)).2) := by rw [hst, e1, e10]
                have hnew : (rowJ N (M op) (M om 10) (M om 11) k (j + 1) (0, M om 2, M om 3)) = (max (rowJ N (M op) (M om 10) (M om 11) k j (0, M om 2, M om 3)).1 (cut1 N (M op (9 + k)) (M op 12 k) (M om 10 k) j (0, (rowJ N (M op) (M om 10) (M om 11) k j (0, M om 2, M om 3)).2)).1, (cut1 N (M op (9 + k)) (M op 12 k) (M om 10 k) j (0, (rowJ N (M op) (M om 10) (M om 11) k j (0, M om 2, M om 3)).2)).2) := by rw [rowJ_s hag0]; exact cut1_max (by rw [← ho']; exact ho2')
                have hc9 : stOk N (cut1 N (M op (9 + k)) (M op 12 k) (M om 10 k) j (0, (rowJ N (M op) (M om 10) (M om 11) k j (0, M om 2, M om 3)).2)) := cut1_ok ⟨Or.inl rfl, hrk.2⟩
                have hz44 : z44 = (cut1 N (M op (9 + k)) (M op 12 k) (M om 10 k) j (0, (rowJ N (M op) (M om 10) (M om 11) k j (0, M om 2, M om 3)).2)).1 := by rw [h44.1, hcut]
                have hmx : max o' z44 = max (rowJ N (M op) (M om 10) (M om 11) k j (0, M om 2, M om 3)).1 (cut1 N (M op (9 + k)) (M op 12 k) (M om 10 k) j (0, (rowJ N (M op) (M om 10) (M om 11) k j (0, M om 2, M om 3)).2)).1 := by rw [hz44, ← ho']
                have hc10 : z44 = 0 ∨ z44 = 1 ∨ z44 = 2 := by rw [hz44]; exact hc9.1
                refine w_calli (pc' := 50) (st := []) (w_runS X (c_J9_max_7cf53 l G M1 o' z44 (by first | assumption | omega) (by first | assumption | omega)) cf_J9_max_7cf53 gw_697 rfl rfl ⟨Nat.le_of_ble_eq_true rfl, Nat.le_of_ble_eq_true rfl⟩ rfl rfl (Nat.le_of_ble_eq_true rfl) ⟨Nat.le_of_ble_eq_true rfl, Nat.le_of_ble_eq_true rfl⟩ gw_802 dX2_makePass_47) rfl (fun z47 M2 h47 => ?_)
                obtain rfl := h47.1.symm
                obtain rfl := h47.2.symm
                refine r_istore_n (pc' := 51) (lc' := [(0, vR G (21, 0)), (1, vR G (op, 0)), (2, vR G (om, 0)), (3, vI ((max o' z44))), (4, vI (k : Int)), (5, vI (j : Int))]) X [1, 2, 3, 0, 4, 5] dX2_makePass_50 rfl (by decide) rfl rfl ?_
                refine r_iload_n (pc' := 52) X 3 dX2_makePass_51 rfl rfl rfl ?_
                refine r_iconst (pc' := 53) X dX2_makePass_52 rfl ?_
                refine r_icmp_ne (pc' := 56) (tgt := 58) X dX2_makePass_53 rfl rfl (by omega) (by omega) (fun h53 => ?_) (fun h53 => ?_)
                · refine r_iinc (pc' := 61) (z' := ((j + 1 : Nat) : Int)) (lc' := [(0, vR G (21, 0)), (1, vR G (op, 0)), (2, vR G (om, 0)), (3, vI ((max o' z44))), (4, vI (k : Int)), (5, vI ((j + 1 : Nat) : Int))]) X 5 [1, 2, 3, 4, 5, 0] dX2_makePass_58 rfl (by omega) (by decide) rfl rfl ?_
                  refine r_goto (tgt := 17) X dX2_makePass_61 rfl ?_
                  exact ih17 (j + 1) ((max o' z44)) M1 (by omega) (by omega) (by rw [hnew]; exact hmx) (by rw [hnew, h44.2, hmX', setLH_setLH, ← hmX', hcut]) (by omega)
                · refine r_iconst (pc' := 57) X dX2_makePass_56 rfl ?_
                  refine w_iret X hr dX2_makePass_57 ?_
                  try dsimp only
                  have h2 : (rowJ N (M op) (M om 10) (M om 11) k (j + 1) (0, M om 2, M om 3)).1 = 2 := by rw [hnew]; show max _ _ = 2; rw [← hmx]; omega
                  rw [rowJ_2 (k := k) (j := j + 1) (by omega) (by omega) h2]
                  refine ⟨h2.symm, ?_⟩
                  rw [hnew, h44.2, hmX', setLH_setLH, ← hmX', hcut]
        exact L17 ((N - 0) + 1) 0 o Ma (Nat.lt_succ_self _) (by omega) (by rw [rowJ_0]; exact ho) (by rw [rowJ_0]; exact hmX) ho2
  exact L5 ((P - 0) + 1) 0 0 M (Nat.lt_succ_self _) (by omega) rfl setLH_self.symm (Or.inl rfl)
theorem cf_X2_tighten : wCal yX2_tighten cX2_tighten 5 (some .boolean) 2 := ⟨gw_790, gw_7, by decide, by decide, by rfl⟩
set_option maxRecDepth 100000 in
set_option maxHeartbeats 4000000 in
theorem c_X2_tighten (l : Launch) (G : wG) (M : wM) (op om N P : Nat) (T : Int) (hop : op = 19 ∨ op = 20) (hom : om < 19) (hp : PlOk (M op) N P) (hm : MoOk (M om) N P T) (hT6 : T ≤ 1000000) (hbx : BoxOk N (M om 2) (M om 3)) : Met l yX2_tighten (gws yX2_tighten cX2_tighten 5 (some .boolean)) (wrm 3 0 0) (wPc G M [vR G (21, 0), vR G (op, 0), vR G (om, 0)]) (wQi G (fun z M1 => z = (if (tight N P (M op) (M om 10) (M om 11) 100 (M om 2) (M om 3)).1 = 2 then 0 else 1) ∧ M1 = setLH M om (tight N P (M op) (M om 10) (M om 11) 100 (M om 2) (M om 3)).2.1 (tight N P (M op) (M om 10) (M om 11) 100 (M om 2) (M om 3)).2.2)) 0 0 (wA G) := by
  refine wMet (lc := [(0, vR G (21, 0)), (1, vR G (op, 0)), (2, vR G (om, 0))]) (by decide) (Nat.le_of_ble_eq_true rfl) rfl ?_
  intro p e s m args below meth c X hr
  have X : wX p s m args meth c G 5 "StateObserver$Motion" cX2_tighten := X
  obtain ⟨hN, hN1, hN4, hP, hP1, hP3, hA, hB, hE, hC, hQ⟩ := id hp
  obtain ⟨hT, hL, hU, hS, hG, hY, hAg, hHo, hBo, hTi, hLi, hLb, hLl, hLh⟩ := id hm
  have hN0 := hN
  refine r_iconst (pc' := 1) X dX2_tighten_0 rfl ?_
  refine r_istore_n (pc' := 2) (lc' := [(0, vR G (21, 0)), (1, vR G (op, 0)), (2, vR G (om, 0)), (3, vI 0)]) X [1, 2, 3, 0] dX2_tighten_1 rfl (by decide) rfl rfl ?_
  have L2 : ∀ (fu : Nat) (i : Nat) (lo : Nat → Int) (hi : Nat → Int) (Ma : wM), 100 - i < fu → (i ≤ 100) → ((tight N P (M op) (M om 10) (M om 11) 100 (M om 2) (M om 3)) = (tight N P (M op) (M om 10) (M om 11) (100 - i) lo hi)) → (Ma = setLH M om lo hi) → (BoxOk N lo hi) → wV p l e (wrm 3 0 0) s m args below meth c G 5 Ma 0 0 (MQ below (wQi G (fun z M1 => z = (if (tight N P (M op) (M om 10) (M om 11) 100 (M om 2) (M om 3)).1 = 2 then 0 else 1) ∧ M1 = setLH M om (tight N P (M op) (M om 10) (M om 11) 100 (M om 2) (M om 3)).2.1 (tight N P (M op) (M om 10) (M om 11) 100 (M om 2) (M om 3)).2.2)) args s 0 0 (wA G)) 2 [(0, vR G (21, 0)), (1, vR G (op, 0)), (2, vR G (om, 0)), (3, vI (i : Int))] [] := by
    intro fu
    induction fu with
    | zero => intro i lo hi Ma hfu; exact absurd hfu (Nat.not_lt_zero _)
    | succ fu ih2 =>
      intro i lo hi Ma hfu2 hi1 ht hmX hb2
      refine r_iload_n (pc' := 3) X 3 dX2_tighten_2 rfl rfl rfl ?_
      refine r_bipush (pc' := 5) X dX2_tighten_3 rfl rfl ?_
      refine r_icmp_ge (pc' := 8) (tgt := 39) X dX2_tighten_5 rfl rfl (by omega) (by omega) (fun h5 => ?_) (fun h5 => ?_)
      · refine r_iconst (pc' := 40) X dX2_tighten_39 rfl ?_
        refine w_zret X hr (by decide) dX2_tighten_40 ?_
        try dsimp only
        rw [ht, show 100 - i = 0 by omega]
        exact ⟨by show _ = if (1 : Int) = 2 then 0 else 1; rw [if_neg (by decide)], hmX⟩
      · have e1 : Ma op = M op := by rw [hmX]; exact funext fun b => setLH_ne (by omega)
        have e10 : Ma om 10 = M om 10 := by rw [hmX]; exact setLH_ne (by omega)
        have e11 : Ma om 11 = M om 11 := by rw [hmX]; exact setLH_ne (by omega)
        have hpb : PlOk (Ma op) N P := by rw [e1]; exact hp
        have hmb : MoOk (Ma om) N P T := by rw [hmX]; exact MoOk_box hm hb2
        have hbb : BoxOk N (Ma om 2) (Ma om 3) := by rw [hmX, setLH_2, setLH_3]; exact hb2
        refine r_aload_n (pc' := 9) X 0 dX2_tighten_8 rfl rfl rfl ?_
        refine r_aload_n (pc' := 10) X 1 dX2_tighten_9 rfl rfl rfl ?_
        refine r_aload_n (pc' := 11) X 2 dX2_tighten_10 rfl rfl rfl ?_
        refine w_calli (pc' := 14) (st := []) (w_runV X (c_X2_makePass l G Ma op om N P T hop hom hpb hmb (by first | assumption | omega) hbb) cf_X2_makePass k21_0 rfl gw_793 gp_18 rfl rfl ⟨Nat.le_of_ble_eq_true rfl, Nat.le_of_ble_eq_true rfl⟩ rfl rfl (Nat.le_of_ble_eq_true rfl) ⟨Nat.le_of_ble_eq_true rfl, Nat.le_of_ble_eq_true rfl⟩ gw_791 dX2_tighten_11) rfl (fun z11 M1 h11 => ?_)
        obtain ⟨pk, hpk⟩ : ∃ q, q = passK N (M op) (M om 10) (M om 11) P (0, lo, hi) := ⟨_, rfl⟩
        have hpe : passK N (Ma op) (Ma om 10) (Ma om 11) P (0, Ma om 2, Ma om 3) = pk := by rw [hpk, e1, e10, e11, hmX, setLH_2, setLH_3]
        have hok : stOk N pk := by rw [hpk]; exact passK_ok ⟨Or.inl rfl, hb2⟩
        have hz11 : z11 = pk.1 := by rw [h11.1, hpe]
        have hun : (tight N P (M op) (M om 10) (M om 11) (100 - i) lo hi) = if pk.1 = 1 then (tight N P (M op) (M om 10) (M om 11) (100 - (i + 1)) pk.2.1 pk.2.2) else pk := by rw [show 100 - i = (100 - (i + 1)) + 1 by omega, hpk]; rfl
        have hzz : z11 = 0 ∨ z11 = 1 ∨ z11 = 2 := by rw [hz11]; exact hok.1
        refine r_istore (pc' := 16) (lc' := [(0, vR G (21, 0)), (1, vR G (op, 0)), (2, vR G (om, 0)), (3, vI (i : Int)), (4, vI z11)]) X [1, 2, 3, 4, 0] dX2_tighten_14 (by decide) rfl rfl ?_
        refine r_iload (pc' := 18) X 4 dX2_tighten_16 rfl rfl ?_
        refine r_iconst (pc' := 19) X dX2_tighten_18 rfl ?_
        refine r_icmp_eq (pc' := 22) (tgt := 33) X dX2_tighten_19 rfl rfl (by omega) (by omega) (fun h19 => ?_) (fun h19 => ?_)
        · have h1 : pk.1 = 1 := by rw [← hz11]; omega
          refine r_iinc (pc' := 36) (z' := ((i + 1 : Nat) : Int)) (lc' := [(0, vR G (21, 0)), (1, vR G (op, 0)), (2, vR G (om, 0)), (3, vI ((i + 1 : Nat) : Int)), (4, vI z11)]) X 3 [1, 2, 3, 0, 4] dX2_tighten_33 rfl (by omega) (by decide) rfl rfl ?_
          refine r_goto (tgt := 2) X dX2_tighten_36 rfl ?_
          refine w_sub (lc' := [(0, vR G (21, 0)), (1, vR G (op, 0)), (2, vR G (om, 0)), (3, vI ((i + 1 : Nat) : Int))]) [0, 1, 2, 3] rfl ?_
          exact ih2 (i + 1) pk.2.1 pk.2.2 M1 (by omega) (by omega) (by rw [ht, hun, if_pos h1]) (by rw [h11.2, hpe, hmX, setLH_setLH]) hok.2
        · refine r_iload (pc' := 24) X 4 dX2_tighten_22 rfl rfl ?_
          refine r_if_ne (pc' := 27) (tgt := 31) X dX2_tighten_24 rfl rfl (by omega) (fun h24 => ?_) (fun h24 => ?_)
          · refine r_iconst (pc' := 32) X dX2_tighten_31 rfl ?_
            refine w_zret X hr (by decide) dX2_tighten_32 ?_
            try dsimp only
            have hne : ¬ pk.1 = 1 := by rw [← hz11]; omega
            rw [ht, hun, if_neg hne]
            refine ⟨?_, by rw [h11.2, hpe, hmX, setLH_setLH]⟩
            rw [← hz11]
            first | rw [if_pos (by omega)] | rw [if_neg (by omega)]
          · refine r_iconst (pc' := 28) X dX2_tighten_27 rfl ?_
            refine r_goto (tgt := 32) X dX2_tighten_28 rfl ?_
            refine w_zret X hr (by decide) dX2_tighten_32 ?_
            try dsimp only
            have hne : ¬ pk.1 = 1 := by rw [← hz11]; omega
            rw [ht, hun, if_neg hne]
            refine ⟨?_, by rw [h11.2, hpe, hmX, setLH_setLH]⟩
            rw [← hz11]
            first | rw [if_pos (by omega)] | rw [if_neg (by omega)]
  exact L2 ((100 - 0) + 1) 0 (M om 2) (M om 3) M (Nat.lt_succ_self _) (by omega) rfl setLH_self.symm hbx
theorem cf_X2_observe : wCal yX2_observe cX2_observe 4 none 3 := ⟨gw_785, gw_7, by decide, by decide, by rfl⟩
set_option maxRecDepth 100000 in
set_option maxHeartbeats 4000000 in
theorem c_X2_observe (l : Launch) (G : wG) (M : wM) (op om K N P : Nat) (T : Int) (hop : op = 19 ∨ op = 20) (hom : om < 19) (hK : K < P) (hp : PlOk (M op) N P) (hm : MoOk (M om) N P T) (hT6 : T ≤ 1000000) (hbx : BoxOk N (M om 2) (M om 3)) (hT0 : 0 ≤ T) : Met l yX2_observe (gws yX2_observe cX2_observe 4 none) (wrm 4 0 0) (wPc G M [vR G (21, 0), vR G (op, 0), vR G (om, 0), vI (K : Int)]) (wQv G (fun M1 => M1 = setLH (wr (wr M om 10 (up1 (M om 10) K ((dot N (M op (9 + K)) (M om 1)).fdiv (M op 12 K)))) om 11 (up1 (M om 11) K 0)) om (tight N P (M op) (up1 (M om 10) K ((dot N (M op (9 + K)) (M om 1)).fdiv (M op 12 K))) (up1 (M om 11) K 0) 100 (M om 2) (M om 3)).2.1 (tight N P (M op) (up1 (M om 10) K ((dot N (M op (9 + K)) (M om 1)).fdiv (M op 12 K))) (up1 (M om 11) K 0) 100 (M om 2) (M om 3)).2.2)) 0 0 (wA G) := by
  refine wMet (lc := [(0, vR G (21, 0)), (1, vR G (op, 0)), (2, vR G (om, 0)), (3, vI (K : Int))]) (by decide) (Nat.le_of_ble_eq_true rfl) rfl ?_
  intro p e s m args below meth c X hr
  have X : wX p s m args meth c G 4 "StateObserver$Motion" cX2_observe := X
  obtain ⟨hN, hN1, hN4, hP, hP1, hP3, hA, hB, hE, hC, hQ⟩ := id hp
  obtain ⟨hT, hL, hU, hS, hG, hY, hAg, hHo, hBo, hTi, hLi, hLb, hLl, hLh⟩ := id hm
  have hN0 := hN
  have hCf : ∀ j, j < N → -99 ≤ M op (9 + K) j ∧ M op (9 + K) j ≤ 99 := fun j hj => hC K j hK hj
  have hq := hQ K hK
  have hdb := dot_bd (A := 99) (B := 1000000) (by decide) (by decide) (n := N) (f := M op (9 + K)) (g := M om 1) hCf hT
  have hfd := fdiv_small (a := dot N (M op (9 + K)) (M om 1)) (b := M op 12 K) (B := 400000000) (by omega) (by omega) (by decide)
  refine r_aload_n (pc' := 1) X 2 dX2_observe_0 rfl rfl rfl ?_
  refine gf_M_reading (pc' := 4) X hom gw_109 dX2_observe_1 rfl ?_
  refine r_iload_n (pc' := 5) X 3 dX2_observe_4 rfl rfl rfl ?_
  refine r_aload_n (pc' := 6) X 1 dX2_observe_5 rfl rfl rfl ?_
  refine r_iload_n (pc' := 7) X 3 dX2_observe_6 rfl rfl rfl ?_
  refine r_aload_n (pc' := 8) X 1 dX2_observe_7 rfl rfl rfl ?_
  refine r_aload_n (pc' := 9) X 1 dX2_observe_8 rfl rfl rfl ?_
  refine gf_P_c (pc' := 12) X hop gw_61 dX2_observe_9 rfl ?_
  refine r_iload_n (pc' := 13) X 3 dX2_observe_12 rfl rfl rfl ?_
  refine r_aald (i := K) (x := (op, (9 + K))) (pc' := 14) X (kP_8 hop) (by decide) (by omega) (by omega) (by decide) rfl dX2_observe_13 rfl ?_
  refine r_aload_n (pc' := 15) X 2 dX2_observe_14 rfl rfl rfl ?_
  refine gf_M_truth (pc' := 18) X hom gw_91 dX2_observe_15 rfl ?_
  refine w_callj (pc' := 21) (st := [vI (K : Int), vR G (op, 0), vI (K : Int), vR G (om, 10)]) (w_runV X (c_X3_sum l G M op op (9 + K) om 1 N hop (kP_c hop (by omega)) (kM_1 hom) (by first | assumption | omega) (by first | assumption | omega) (fun j hj => by have := hCf j hj; omega) (fun j hj => by have := hT j hj; omega)) cf_X3_sum (kP_0 hop) rfl gw_715 gw_716 rfl rfl ⟨Nat.le_of_ble_eq_true rfl, Nat.le_of_ble_eq_true rfl⟩ rfl rfl (Nat.le_of_ble_eq_true rfl) ⟨Nat.le_of_ble_eq_true rfl, Nat.le_of_ble_eq_true rfl⟩ gw_749 dX2_observe_18) rfl (fun z18 M1 h18 => ?_)
  obtain rfl := h18.1.symm
  obtain rfl := h18.2.symm
  refine w_calli (pc' := 24) (st := [vI (K : Int), vR G (om, 10)]) (w_runV X (c_X3_quantized l G M op K ((dot N (M op (9 + K)) (M om 1))) hop (by first | assumption | omega) (by first | assumption | omega) (by first | assumption | omega)) cf_X3_quantized (kP_0 hop) rfl gw_495 gw_496 rfl rfl ⟨Nat.le_of_ble_eq_true rfl, Nat.le_of_ble_eq_true rfl⟩ rfl rfl (Nat.le_of_ble_eq_true rfl) ⟨Nat.le_of_ble_eq_true rfl, Nat.le_of_ble_eq_true rfl⟩ gw_786 dX2_observe_21) rfl (fun z21 M2 h21 => ?_)
  obtain rfl := h21.1.symm
  obtain rfl := h21.2.symm
  refine r_iast (i := K) (pc' := 25) X (kM_10 hom) (by omega) (by omega) (by decide) dX2_observe_24 rfl (fun M3 hM3 => ?_)
  refine r_aload_n (pc' := 26) X 2 dX2_observe_25 rfl rfl rfl ?_
  refine gf_M_age (pc' := 29) X hom gw_113 dX2_observe_26 rfl ?_
  refine r_iload_n (pc' := 30) X 3 dX2_observe_29 rfl rfl rfl ?_
  refine r_iconst (pc' := 31) X dX2_observe_30 rfl ?_
  refine r_iast (i := K) (pc' := 32) X (kM_11 hom) (by omega) (by omega) (by decide) dX2_observe_31 rfl (fun M4 hM4 => ?_)
  have m1 : M4 = wr (wr M om 10 (up1 (M om 10) K ((dot N (M op (9 + K)) (M om 1)).fdiv (M op 12 K)))) om 11 (up1 (M om 11) K 0) := by rw [hM4, hM3, wu_wr, wu_wr, wr_ne (by omega)]
  have m2 : M4 op = M op := by rw [m1]; exact funext fun b => by rw [wr_ne (by omega), wr_ne (by omega)]
  have m3 : ∀ b, b ≠ 10 → b ≠ 11 → M4 om b = M om b := fun b h1 h2 => by rw [m1, wr_ne (by omega), wr_ne (by omega)]
  have m4 : M4 om 10 = (up1 (M om 10) K ((dot N (M op (9 + K)) (M om 1)).fdiv (M op 12 K))) := by rw [m1, wr_ne (by omega), wr_eq]
  have m5 : M4 om 11 = (up1 (M om 11) K 0) := by rw [m1, wr_eq]
  have hpb : PlOk (M4 op) N P := by rw [m2]; exact hp
  have hbb : BoxOk N (M4 om 2) (M4 om 3) := by rw [m3 2 (by omega) (by omega), m3 3 (by omega) (by omega)]; exact hbx
  have hmb : MoOk (M4 om) N P T := ⟨by rw [m3 1 (by omega) (by omega)]; exact hT, by rw [m3 2 (by omega) (by omega)]; exact hL, by rw [m3 3 (by omega) (by omega)]; exact hU, by rw [m3 4 (by omega) (by omega)]; exact hS, fun i k hi hk => by rw [m3 (6 + i) (by omega) (by omega)]; exact hG i k hi hk, fun k hk => by rw [m4]; unfold up1; split; exact hfd; exact hY k hk, fun k hk => by rw [m5]; unfold up1; split; omega; exact hAg k hk, by rw [m3 0 (by omega) (by omega)]; exact hHo, by rw [m3 0 (by omega) (by omega)]; exact hBo, by rw [m3 0 (by omega) (by omega)]; exact hTi, by rw [m3 0 (by omega) (by omega)]; exact hLi, by rw [m3 0 (by omega) (by omega)]; exact hLb, by rw [m3 12 (by omega) (by omega)]; exact hLl, by rw [m3 13 (by omega) (by omega)]; exact hLh⟩
  refine r_aload_n (pc' := 33) X 0 dX2_observe_32 rfl rfl rfl ?_
  refine r_aload_n (pc' := 34) X 1 dX2_observe_33 rfl rfl rfl ?_
  refine r_aload_n (pc' := 35) X 2 dX2_observe_34 rfl rfl rfl ?_
  refine w_calli (pc' := 38) (st := []) (w_runV X (c_X2_tighten l G M4 op om N P T hop hom hpb hmb (by first | assumption | omega) hbb) cf_X2_tighten k21_0 rfl gw_788 gw_789 rfl rfl ⟨Nat.le_of_ble_eq_true rfl, Nat.le_of_ble_eq_true rfl⟩ rfl rfl (Nat.le_of_ble_eq_true rfl) ⟨Nat.le_of_ble_eq_true rfl, Nat.le_of_ble_eq_true rfl⟩ gw_787 dX2_observe_35) rfl (fun z35 M5 h35 => ?_)
  refine r_pop (pc' := 39) X dX2_observe_38 rfl rfl ?_
  refine w_vret X hr dX2_observe_39 ?_
  try dsimp only
  rw [h35.2, m2, m4, m5, m3 2 (by omega) (by omega), m3 3 (by omega) (by omega), m1]
