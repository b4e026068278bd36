theorem cf_X9_cut : wCal yX9_cut cX9_cut 16 (some .int) 3 := ⟨gw_1245, gw_10, by decide, by decide, by rfl⟩
set_option maxRecDepth 100000 in
set_option maxHeartbeats 4000000 in
theorem c_X9_cut (l : Launch) (G : wG) (M : wM) (N P : Nat) (pv : Nat → Nat → Int) (hp : PlOk pv N P) (hq : PEq N P pv (M 29)) (jr K J : Nat) (hrw : wkd 29 jr = some (.inr (0, 48, wNr))) (hj : jr = 13 ∨ jr = 14 ∨ jr = 15) (hK : K < P) (hJ : J < N) (lo hi : Nat → Int) (hlo : ∀ i, i < N → M 29 jr (4 + i) = lo i) (hhi : ∀ i, i < N → M 29 jr (8 + i) = hi i) (hLr : ∀ i, i < N → -1000000 ≤ lo i ∧ lo i ≤ 1000000) (hUr : ∀ i, i < N → -1000000 ≤ hi i ∧ hi i ≤ 1000000) (hbx : BoxOk N lo hi) (y : Nat → Int) (hy : ∀ k, k < P → M 29 jr (31 + k) = y k) (hyr : ∀ k, k < P → -400000000 ≤ y k ∧ y k ≤ 400000000) (hc0 : pv (9 + K) J ≠ 0) : Met l yX9_cut (gws yX9_cut cX9_cut 16 (some .int)) (wrm 2 0 0) (wPc G M [vR G (29, 0), vR G (29, jr), vI (K : Int), vI (J : Int)]) (wQi G (fun z M1 => z = (cut1 N (pv (9 + K)) (pv 12 K) (y K) J (0, lo, hi)).1 ∧ (∀ i, i < N → M1 29 jr (4 + i) = (cut1 N (pv (9 + K)) (pv 12 K) (y K) J (0, lo, hi)).2.1 i ∧ M1 29 jr (8 + i) = (cut1 N (pv (9 + K)) (pv 12 K) (y K) J (0, lo, hi)).2.2 i) ∧ ∀ a b x, ¬ (a = 29 ∧ b = jr ∧ 4 ≤ x ∧ x < 12) → M1 a b x = M a b x)) 0 0 (wA G) := by
  refine wMet (lc := [(0, vR G (29, 0)), (1, vR G (29, jr)), (2, vI (K : Int)), (3, vI (J : Int))]) (by decide) (Nat.le_of_ble_eq_true rfl) rfl ?_
  intro p e s m args below meth c X hr
  have X : wX p s m args meth c G 16 "StateObserverModel" cX9_cut := X
  obtain ⟨hN, hN1, hN4, hP, hP1, hP3, hA, hB, hE, hC, hQ⟩ := id hp
  obtain ⟨qN, qP, qA, qB, qE, qC, qQ⟩ := id hq
  have qc : M 29 5 (4 * K + J) = pv (9 + K) J := qC K J hK hJ
  have qq : M 29 6 K = pv 12 K := qQ K hK
  have qy : M 29 jr (31 + K) = y K := hy K hK
  have hlj := hlo J hJ
  have huj := hhi J hJ
  have rc := hC K J hK hJ
  have rq := hQ K hK
  have ry := hyr K hK
  have rl := hLr J hJ
  have ru := hUr J hJ
  have rb := hbx J hJ
  have hm1 := mul_bd (A := 99) (B := 400000000) (a := pv 12 K) (b := y K) (by decide) (by omega) ry
  have hx0 := ext_bd (n := N) (f := pv (9 + K)) (lo := lo) (hi := hi) (but := (J : Int)) (gr := 0) (A := 99) (B := 1000000) (by decide) (by decide) (fun x hx => hC K x hK hx) hLr hUr
  have hx1 := ext_bd (n := N) (f := pv (9 + K)) (lo := lo) (hi := hi) (but := (J : Int)) (gr := 1) (A := 99) (B := 1000000) (by decide) (by decide) (fun x hx => hC K x hK hx) hLr hUr
  rw [← qq, ← qy] at hm1
  refine r_aload_n (pc' := 1) X 0 dX9_cut_0 rfl rfl rfl ?_
  refine gf_29_view (pc' := 4) X gw_977 dX9_cut_1 rfl ?_
  refine r_iconst (pc' := 5) X dX9_cut_4 rfl ?_
  refine r_iload_n (pc' := 6) X 2 dX9_cut_5 rfl rfl rfl ?_
  refine r_imul (pc' := 7) X dX9_cut_6 rfl ?_
  refine r_iload_n (pc' := 8) X 3 dX9_cut_7 rfl rfl rfl ?_
  refine r_iadd (pc' := 9) X dX9_cut_8 rfl ?_
  refine r_iald (i := (4 * K + J)) (pc' := 10) X k29_5 (by omega) (by omega) (by decide) dX9_cut_9 rfl ?_
  refine r_i2l (pc' := 11) X dX9_cut_10 (by omega) rfl ?_
  refine r_lstore (pc' := 13) (lc' := [(0, vR G (29, 0)), (1, vR G (29, jr)), (2, vI (K : Int)), (3, vI (J : Int)), (4, vJ (M 29 5 (4 * K + J)))]) X [1, 2, 3, 4, 0] dX9_cut_11 (by decide) rfl rfl ?_
  refine r_aload_n (pc' := 14) X 0 dX9_cut_13 rfl rfl rfl ?_
  refine gf_29_quantum (pc' := 17) X gw_978 dX9_cut_14 rfl ?_
  refine r_iload_n (pc' := 18) X 2 dX9_cut_17 rfl rfl rfl ?_
  refine r_iald (i := K) (pc' := 19) X k29_6 (by omega) (by omega) (by decide) dX9_cut_18 rfl ?_
  refine r_i2l (pc' := 20) X dX9_cut_19 (by omega) rfl ?_
  refine r_aload_n (pc' := 21) X 1 dX9_cut_20 rfl rfl rfl ?_
  refine r_bipush (pc' := 23) X dX9_cut_21 rfl rfl ?_
  refine r_iload_n (pc' := 24) X 2 dX9_cut_23 rfl rfl rfl ?_
  refine r_iadd (pc' := 25) X dX9_cut_24 rfl ?_
  refine r_iald (i := (31 + K)) (pc' := 26) X hrw (by omega) (by omega) (by decide) dX9_cut_25 rfl ?_
  refine r_i2l (pc' := 27) X dX9_cut_26 (by omega) rfl ?_
  refine r_lmul (pc' := 28) X dX9_cut_27 rfl ?_
  refine r_aload_n (pc' := 29) X 0 dX9_cut_28 rfl rfl rfl ?_
  refine r_aload_n (pc' := 30) X 1 dX9_cut_29 rfl rfl rfl ?_
  refine r_aload_n (pc' := 31) X 0 dX9_cut_30 rfl rfl rfl ?_
  refine gf_29_view (pc' := 34) X gw_977 dX9_cut_31 rfl ?_
  refine r_iconst (pc' := 35) X dX9_cut_34 rfl ?_
  refine r_iload_n (pc' := 36) X 2 dX9_cut_35 rfl rfl rfl ?_
  refine r_imul (pc' := 37) X dX9_cut_36 rfl ?_
  refine r_iload_n (pc' := 38) X 3 dX9_cut_37 rfl rfl rfl ?_
  refine r_iconst (pc' := 39) X dX9_cut_38 rfl ?_
  refine w_callj (pc' := 42) (st := [vJ ((M 29 6 K) * (M 29 jr (31 + K)))]) (w_runV X (c_X9_end l G M N P pv (by first | assumption | omega) (by first | assumption | omega) jr 5 (4 * K) 12 (J : Int) 1 (pv (9 + K)) hrw k29_5 (by first | assumption | omega) (by first | assumption | omega) (by first | assumption | omega) (by first | assumption | omega) (fun x hx => qC K x hK hx) (fun x hx => hC K x hK hx) lo hi hlo hhi (by first | assumption | omega) (by first | assumption | omega)) cf_X9_end k29_0 rfl gw_1169 gp_37 rfl rfl ⟨Nat.le_of_ble_eq_true rfl, Nat.le_of_ble_eq_true rfl⟩ rfl rfl (Nat.le_of_ble_eq_true rfl) ⟨Nat.le_of_ble_eq_true rfl, Nat.le_of_ble_eq_true rfl⟩ gw_1167 dX9_cut_39) rfl (fun z39 M1 h39 => ?_)
  obtain rfl := h39.1.symm
  obtain rfl := h39.2.symm
  refine r_lsub (pc' := 43) X dX9_cut_42 rfl ?_
  refine r_lstore (pc' := 45) (lc' := [(0, vR G (29, 0)), (1, vR G (29, jr)), (2, vI (K : Int)), (3, vI (J : Int)), (4, vJ (M 29 5 (4 * K + J))), (6, vJ (((M 29 6 K) * (M 29 jr (31 + K))) - ((ext N (pv (9 + K)) lo hi (J : Int) 1))))]) X [1, 2, 3, 4, 5, 0] dX9_cut_43 (by decide) rfl rfl ?_
  refine r_aload_n (pc' := 46) X 0 dX9_cut_45 rfl rfl rfl ?_
  refine gf_29_quantum (pc' := 49) X gw_978 dX9_cut_46 rfl ?_
  refine r_iload_n (pc' := 50) X 2 dX9_cut_49 rfl rfl rfl ?_
  refine r_iald (i := K) (pc' := 51) X k29_6 (by omega) (by omega) (by decide) dX9_cut_50 rfl ?_
  refine r_i2l (pc' := 52) X dX9_cut_51 (by omega) rfl ?_
  refine r_aload_n (pc' := 53) X 1 dX9_cut_52 rfl rfl rfl ?_
  refine r_bipush (pc' := 55) X dX9_cut_53 rfl rfl ?_
  refine r_iload_n (pc' := 56) X 2 dX9_cut_55 rfl rfl rfl ?_
  refine r_iadd (pc' := 57) X dX9_cut_56 rfl ?_
  refine r_iald (i := (31 + K)) (pc' := 58) X hrw (by omega) (by omega) (by decide) dX9_cut_57 rfl ?_
  refine r_i2l (pc' := 59) X dX9_cut_58 (by omega) rfl ?_
  refine r_lmul (pc' := 60) X dX9_cut_59 rfl ?_
  refine r_aload_n (pc' := 61) X 0 dX9_cut_60 rfl rfl rfl ?_
  refine gf_29_quantum (pc' := 64) X gw_978 dX9_cut_61 rfl ?_
  refine r_iload_n (pc' := 65) X 2 dX9_cut_64 rfl rfl rfl ?_
  refine r_iald (i := K) (pc' := 66) X k29_6 (by omega) (by omega) (by decide) dX9_cut_65 rfl ?_
  refine r_i2l (pc' := 67) X dX9_cut_66 (by omega) rfl ?_
  refine r_ladd (pc' := 68) X dX9_cut_67 rfl ?_
  refine r_lconst (pc' := 69) (z := 1) X dX9_cut_68 rfl rfl ?_
  refine r_lsub (pc' := 70) X dX9_cut_69 rfl ?_
  refine r_aload_n (pc' := 71) X 0 dX9_cut_70 rfl rfl rfl ?_
  refine r_aload_n (pc' := 72) X 1 dX9_cut_71 rfl rfl rfl ?_
  refine r_aload_n (pc' := 73) X 0 dX9_cut_72 rfl rfl rfl ?_
  refine gf_29_view (pc' := 76) X gw_977 dX9_cut_73 rfl ?_
  refine r_iconst (pc' := 77) X dX9_cut_76 rfl ?_
  refine r_iload_n (pc' := 78) X 2 dX9_cut_77 rfl rfl rfl ?_
  refine r_imul (pc' := 79) X dX9_cut_78 rfl ?_
  refine r_iload_n (pc' := 80) X 3 dX9_cut_79 rfl rfl rfl ?_
  refine r_iconst (pc' := 81) X dX9_cut_80 rfl ?_
  refine w_callj (pc' := 84) (st := [vJ ((((M 29 6 K) * (M 29 jr (31 + K))) + (M 29 6 K)) - 1)]) (w_runV X (c_X9_end l G M N P pv (by first | assumption | omega) (by first | assumption | omega) jr 5 (4 * K) 12 (J : Int) 0 (pv (9 + K)) hrw k29_5 (by first | assumption | omega) (by first | assumption | omega) (by first | assumption | omega) (by first | assumption | omega) (fun x hx => qC K x hK hx) (fun x hx => hC K x hK hx) lo hi hlo hhi (by first | assumption | omega) (by first | assumption | omega)) cf_X9_end k29_0 rfl gw_1169 gp_37 rfl rfl ⟨Nat.le_of_ble_eq_true rfl, Nat.le_of_ble_eq_true rfl⟩ rfl rfl (Nat.le_of_ble_eq_true rfl) ⟨Nat.le_of_ble_eq_true rfl, Nat.le_of_ble_eq_true rfl⟩ gw_1167 dX9_cut_81) rfl (fun z81 M2 h81 => ?_)
  obtain rfl := h81.1.symm
  obtain rfl := h81.2.symm
  refine r_lsub (pc' := 85) X dX9_cut_84 rfl ?_
  refine r_lstore (pc' := 87) (lc' := [(0, vR G (29, 0)), (1, vR G (29, jr)), (2, vI (K : Int)), (3, vI (J : Int)), (4, vJ (M 29 5 (4 * K + J))), (6, vJ (((M 29 6 K) * (M 29 jr (31 + K))) - ((ext N (pv (9 + K)) lo hi (J : Int) 1)))), (8, vJ (((((M 29 6 K) * (M 29 jr (31 + K))) + (M 29 6 K)) - 1) - ((ext N (pv (9 + K)) lo hi (J : Int) 0))))]) X [1, 2, 3, 4, 5, 6, 0] dX9_cut_85 (by decide) rfl rfl ?_
  refine r_lload (pc' := 89) X 4 dX9_cut_87 rfl rfl ?_
  refine r_lconst (pc' := 90) (z := 0) X dX9_cut_89 rfl rfl ?_
  refine r_lcmp (pc' := 91) X dX9_cut_90 (by omega) (by omega) rfl (fun z90 z90r z90l z90e z90g => ?_)
  refine r_if_le (pc' := 94) (tgt := 104) X dX9_cut_91 rfl rfl (by omega) (fun h91 => ?_) (fun h91 => ?_)
  · refine r_lload (pc' := 106) X 6 dX9_cut_104 rfl rfl ?_
    refine r_lneg (pc' := 107) X dX9_cut_106 rfl ?_
    refine r_lload (pc' := 109) X 4 dX9_cut_107 rfl rfl ?_
    refine r_lneg (pc' := 110) X dX9_cut_109 rfl ?_
    refine w_callj (pc' := 113) (st := []) (w_runS X (c_X9_up l G M (-(((((M 29 6 K) * (M 29 jr (31 + K))) + (M 29 6 K)) - 1) - ((ext N (pv (9 + K)) lo hi (J : Int) 0)))) (-(M 29 5 (4 * K + J))) (by first | assumption | omega) (by first | assumption | omega)) cf_X9_up gw_1247 rfl rfl ⟨Nat.le_of_ble_eq_true rfl, Nat.le_of_ble_eq_true rfl⟩ rfl rfl (Nat.le_of_ble_eq_true rfl) ⟨Nat.le_of_ble_eq_true rfl, Nat.le_of_ble_eq_true rfl⟩ gw_1246 dX9_cut_110) rfl (fun z110 M3 h110 => ?_)
    obtain rfl := h110.1.symm
    obtain rfl := h110.2.symm
    refine r_lstore (pc' := 115) (lc' := [(0, vR G (29, 0)), (1, vR G (29, jr)), (2, vI (K : Int)), (3, vI (J : Int)), (4, vJ (M 29 5 (4 * K + J))), (6, vJ (((M 29 6 K) * (M 29 jr (31 + K))) - ((ext N (pv (9 + K)) lo hi (J : Int) 1)))), (8, vJ (((((M 29 6 K) * (M 29 jr (31 + K))) + (M 29 6 K)) - 1) - ((ext N (pv (9 + K)) lo hi (J : Int) 0)))), (10, vJ ((-((-(-(((((M 29 6 K) * (M 29 jr (31 + K))) + (M 29 6 K)) - 1) - ((ext N (pv (9 + K)) lo hi (J : Int) 0))))).fdiv (-(M 29 5 (4 * K + J)))))))]) X [1, 2, 3, 4, 5, 6, 7, 0] dX9_cut_113 (by decide) rfl rfl ?_
    refine r_lload (pc' := 117) X 4 dX9_cut_115 rfl rfl ?_
    refine r_lconst (pc' := 118) (z := 0) X dX9_cut_117 rfl rfl ?_
    refine r_lcmp (pc' := 119) X dX9_cut_118 (by omega) (by omega) rfl (fun z118 z118r z118l z118e z118g => ?_)
    refine r_if_le (pc' := 122) (tgt := 132) X dX9_cut_119 rfl rfl (by omega) (fun h119 => ?_) (fun h119 => by exfalso; omega)
    refine r_lload (pc' := 134) X 5 dX9_cut_132 rfl rfl ?_
    refine r_lneg (pc' := 135) X dX9_cut_134 rfl ?_
    refine r_lload (pc' := 137) X 4 dX9_cut_135 rfl rfl ?_
    refine r_lneg (pc' := 138) X dX9_cut_137 rfl ?_
    refine w_callj (pc' := 141) (st := []) (w_runS X (c_X9_down l G M (-(((M 29 6 K) * (M 29 jr (31 + K))) - ((ext N (pv (9 + K)) lo hi (J : Int) 1)))) (-(M 29 5 (4 * K + J))) (by first | assumption | omega) (by first | assumption | omega)) cf_X9_down gw_1172 rfl rfl ⟨Nat.le_of_ble_eq_true rfl, Nat.le_of_ble_eq_true rfl⟩ rfl rfl (Nat.le_of_ble_eq_true rfl) ⟨Nat.le_of_ble_eq_true rfl, Nat.le_of_ble_eq_true rfl⟩ gw_1171 dX9_cut_138) rfl (fun z138 M4 h138 => ?_)
    obtain rfl := h138.1.symm
    obtain rfl := h138.2.symm
    refine r_lstore (pc' := 143) (lc' := [(0, vR G (29, 0)), (1, vR G (29, jr)), (2, vI (K : Int)), (3, vI (J : Int)), (4, vJ (M 29 5 (4 * K + J))), (6, vJ (((M 29 6 K) * (M 29 jr (31 + K))) - ((ext N (pv (9 + K)) lo hi (J : Int) 1)))), (8, vJ (((((M 29 6 K) * (M 29 jr (31 + K))) + (M 29 6 K)) - 1) - ((ext N (pv (9 + K)) lo hi (J : Int) 0)))), (10, vJ ((-((-(-(((((M 29 6 K) * (M 29 jr (31 + K))) + (M 29 6 K)) - 1) - ((ext N (pv (9 + K)) lo hi (J : Int) 0))))).fdiv (-(M 29 5 (4 * K + J))))))), (12, vJ (((-(((M 29 6 K) * (M 29 jr (31 + K))) - ((ext N (pv (9 + K)) lo hi (J : Int) 1)))).fdiv (-(M 29 5 (4 * K + J))))))]) X [1, 2, 3, 4, 5, 6, 7, 8, 0] dX9_cut_141 (by decide) rfl rfl ?_
    have qf1 : pv 12 K * y K - ext N (pv (9 + K)) lo hi J 1 = (((M 29 6 K) * (M 29 jr (31 + K))) - ((ext N (pv (9 + K)) lo hi (J : Int) 1))) := by rw [← qq, ← qy]
    have qf2 : pv 12 K * y K + pv 12 K - 1 - ext N (pv (9 + K)) lo hi J 0 = (((((M 29 6 K) * (M 29 jr (31 + K))) + (M 29 6 K)) - 1) - ((ext N (pv (9 + K)) lo hi (J : Int) 0))) := by rw [← qq, ← qy]
    have hf1 : cutLo (M 29 5 (4 * K + J)) ((((M 29 6 K) * (M 29 jr (31 + K))) - ((ext N (pv (9 + K)) lo hi (J : Int) 1)))) ((((((M 29 6 K) * (M 29 jr (31 + K))) + (M 29 6 K)) - 1) - ((ext N (pv (9 + K)) lo hi (J : Int) 0)))) = ((-((-(-(((((M 29 6 K) * (M 29 jr (31 + K))) + (M 29 6 K)) - 1) - ((ext N (pv (9 + K)) lo hi (J : Int) 0))))).fdiv (-(M 29 5 (4 * K + J)))))) := by unfold cutLo; first | rw [if_pos (by omega)] | rw [if_neg (by omega), Int.neg_fdiv_neg]
    have hf2 : cutHi (M 29 5 (4 * K + J)) ((((M 29 6 K) * (M 29 jr (31 + K))) - ((ext N (pv (9 + K)) lo hi (J : Int) 1)))) ((((((M 29 6 K) * (M 29 jr (31 + K))) + (M 29 6 K)) - 1) - ((ext N (pv (9 + K)) lo hi (J : Int) 0)))) = (((-(((M 29 6 K) * (M 29 jr (31 + K))) - ((ext N (pv (9 + K)) lo hi (J : Int) 1)))).fdiv (-(M 29 5 (4 * K + J))))) := by unfold cutHi; first | rw [if_pos (by omega)] | rw [if_neg (by omega), Int.neg_fdiv_neg]
    have hbd := cutX_bd (c := (M 29 5 (4 * K + J))) (x := (((M 29 6 K) * (M 29 jr (31 + K))) - ((ext N (pv (9 + K)) lo hi (J : Int) 1)))) (y := (((((M 29 6 K) * (M 29 jr (31 + K))) + (M 29 6 K)) - 1) - ((ext N (pv (9 + K)) lo hi (J : Int) 0)))) (B := 100000000000) (by omega) (by omega) (by omega) (by decide)
    rw [hf1, hf2] at hbd
    have hf3 : cutA N (pv (9 + K)) (pv 12 K) (y K) J lo hi = max (((-((-(-(((((M 29 6 K) * (M 29 jr (31 + K))) + (M 29 6 K)) - 1) - ((ext N (pv (9 + K)) lo hi (J : Int) 0))))).fdiv (-(M 29 5 (4 * K + J))))))) (lo J) := by unfold cutA; rw [qf1, qf2, ← qc, hf1]
    have hf4 : cutB N (pv (9 + K)) (pv 12 K) (y K) J lo hi = min ((((-(((M 29 6 K) * (M 29 jr (31 + K))) - ((ext N (pv (9 + K)) lo hi (J : Int) 1)))).fdiv (-(M 29 5 (4 * K + J)))))) (hi J) := by unfold cutB; rw [qf1, qf2, ← qc, hf2]
    refine r_lload (pc' := 145) X 7 dX9_cut_143 rfl rfl ?_
    refine r_aload_n (pc' := 146) X 1 dX9_cut_145 rfl rfl rfl ?_
    refine r_iconst (pc' := 147) X dX9_cut_146 rfl ?_
    refine r_iload_n (pc' := 148) X 3 dX9_cut_147 rfl rfl rfl ?_
    refine r_iadd (pc' := 149) X dX9_cut_148 rfl ?_
    refine r_iald (i := (4 + J)) (pc' := 150) X hrw (by omega) (by omega) (by decide) dX9_cut_149 rfl ?_
    refine r_i2l (pc' := 151) X dX9_cut_150 (by omega) rfl ?_
    refine r_lcmp (pc' := 152) X dX9_cut_151 (by omega) (by omega) rfl (fun z151 z151r z151l z151e z151g => ?_)
    refine r_if_le (pc' := 155) (tgt := 159) X dX9_cut_152 rfl rfl (by omega) (fun h152 => ?_) (fun h152 => ?_)
    · refine r_iconst (pc' := 160) X dX9_cut_159 rfl ?_
      refine r_istore (pc' := 162) (lc' := [(0, vR G (29, 0)), (1, vR G (29, jr)), (2, vI (K : Int)), (3, vI (J : Int)), (4, vJ (M 29 5 (4 * K + J))), (6, vJ (((M 29 6 K) * (M 29 jr (31 + K))) - ((ext N (pv (9 + K)) lo hi (J : Int) 1)))), (8, vJ (((((M 29 6 K) * (M 29 jr (31 + K))) + (M 29 6 K)) - 1) - ((ext N (pv (9 + K)) lo hi (J : Int) 0)))), (10, vJ ((-((-(-(((((M 29 6 K) * (M 29 jr (31 + K))) + (M 29 6 K)) - 1) - ((ext N (pv (9 + K)) lo hi (J : Int) 0))))).fdiv (-(M 29 5 (4 * K + J))))))), (12, vJ (((-(((M 29 6 K) * (M 29 jr (31 + K))) - ((ext N (pv (9 + K)) lo hi (J : Int) 1)))).fdiv (-(M 29 5 (4 * K + J)))))), (14, vI 0)]) X [1, 2, 3, 4, 5, 6, 7, 8, 9, 0] dX9_cut_160 (by decide) rfl rfl ?_
      refine r_lload (pc' := 164) X 8 dX9_cut_162 rfl rfl ?_
      refine r_aload_n (pc' := 165) X 1 dX9_cut_164 rfl rfl rfl ?_
      refine r_bipush (pc' := 167) X dX9_cut_165 rfl rfl ?_
      refine r_iload_n (pc' := 168) X 3 dX9_cut_167 rfl rfl rfl ?_
      refine r_iadd (pc' := 169) X dX9_cut_168 rfl ?_
      refine r_iald (i := (8 + J)) (pc' := 170) X hrw (by omega) (by omega) (by decide) dX9_cut_169 rfl ?_
      refine r_i2l (pc' := 171) X dX9_cut_170 (by omega) rfl ?_
      refine r_lcmp (pc' := 172) X dX9_cut_171 (by omega) (by omega) rfl (fun z171 z171r z171l z171e z171g => ?_)
      refine r_if_ge (pc' := 175) (tgt := 179) X dX9_cut_172 rfl rfl (by omega) (fun h172 => ?_) (fun h172 => ?_)
      · refine r_iconst (pc' := 180) X dX9_cut_179 rfl ?_
        refine r_istore (pc' := 182) (lc' := [(0, vR G (29, 0)), (1, vR G (29, jr)), (2, vI (K : Int)), (3, vI (J : Int)), (4, vJ (M 29 5 (4 * K + J))), (6, vJ (((M 29 6 K) * (M 29 jr (31 + K))) - ((ext N (pv (9 + K)) lo hi (J : Int) 1)))), (8, vJ (((((M 29 6 K) * (M 29 jr (31 + K))) + (M 29 6 K)) - 1) - ((ext N (pv (9 + K)) lo hi (J : Int) 0)))), (10, vJ ((-((-(-(((((M 29 6 K) * (M 29 jr (31 + K))) + (M 29 6 K)) - 1) - ((ext N (pv (9 + K)) lo hi (J : Int) 0))))).fdiv (-(M 29 5 (4 * K + J))))))), (12, vJ (((-(((M 29 6 K) * (M 29 jr (31 + K))) - ((ext N (pv (9 + K)) lo hi (J : Int) 1)))).fdiv (-(M 29 5 (4 * K + J)))))), (14, vI 0), (15, vI 0)]) X [1, 2, 3, 4, 5, 6, 7, 8, 9, 10, 0] dX9_cut_180 (by decide) rfl rfl ?_
        refine r_iload (pc' := 184) X 9 dX9_cut_182 rfl rfl ?_
        refine r_if_eq (pc' := 187) (tgt := 200) X dX9_cut_184 rfl rfl (by omega) (fun h184 => ?_) (fun h184 => absurd h184 (by decide))
        refine r_iload (pc' := 202) X 10 dX9_cut_200 rfl rfl ?_
        refine r_if_eq (pc' := 205) (tgt := 217) X dX9_cut_202 rfl rfl (by omega) (fun h202 => ?_) (fun h202 => absurd h202 (by decide))
        refine r_lload (pc' := 219) X 7 dX9_cut_217 rfl rfl ?_
        refine r_lload (pc' := 221) X 8 dX9_cut_219 rfl rfl ?_
        refine r_lcmp (pc' := 222) X dX9_cut_221 (by omega) (by omega) rfl (fun z221 z221r z221l z221e z221g => ?_)
        refine r_if_le (pc' := 225) (tgt := 227) X dX9_cut_222 rfl rfl (by omega) (fun h222 => ?_) (fun h222 => ?_)
        · refine r_aload_n (pc' := 228) X 1 dX9_cut_227 rfl rfl rfl ?_
          refine r_iconst (pc' := 229) X dX9_cut_228 rfl ?_
          refine r_iload_n (pc' := 230) X 3 dX9_cut_229 rfl rfl rfl ?_
          refine r_iadd (pc' := 231) X dX9_cut_230 rfl ?_
          refine r_iload (pc' := 233) X 9 dX9_cut_231 rfl rfl ?_
          refine r_if_eq (pc' := 236) (tgt := 242) X dX9_cut_233 rfl rfl (by omega) (fun h233 => ?_) (fun h233 => absurd h233 (by decide))
          refine r_aload_n (pc' := 243) X 1 dX9_cut_242 rfl rfl rfl ?_
          refine r_iconst (pc' := 244) X dX9_cut_243 rfl ?_
          refine r_iload_n (pc' := 245) X 3 dX9_cut_244 rfl rfl rfl ?_
          refine r_iadd (pc' := 246) X dX9_cut_245 rfl ?_
          refine r_iald (i := (4 + J)) (pc' := 247) X hrw (by omega) (by omega) (by decide) dX9_cut_246 rfl ?_
          refine r_iast (i := (4 + J)) (pc' := 248) X hrw (by omega) (by omega) (by decide) dX9_cut_247 rfl (fun M5 hM5 => ?_)
          have e8 : M5 29 jr (8 + J) = hi J := by rw [hM5]; unfold wu; rw [if_neg (by omega)]; exact huj
          refine r_aload_n (pc' := 249) X 1 dX9_cut_248 rfl rfl rfl ?_
          refine r_bipush (pc' := 251) X dX9_cut_249 rfl rfl ?_
          refine r_iload_n (pc' := 252) X 3 dX9_cut_251 rfl rfl rfl ?_
          refine r_iadd (pc' := 253) X dX9_cut_252 rfl ?_
          refine r_iload (pc' := 255) X 10 dX9_cut_253 rfl rfl ?_
          refine r_if_eq (pc' := 258) (tgt := 264) X dX9_cut_255 rfl rfl (by omega) (fun h255 => ?_) (fun h255 => absurd h255 (by decide))
          refine r_aload_n (pc' := 265) X 1 dX9_cut_264 rfl rfl rfl ?_
          refine r_bipush (pc' := 267) X dX9_cut_265 rfl rfl ?_
          refine r_iload_n (pc' := 268) X 3 dX9_cut_267 rfl rfl rfl ?_
          refine r_iadd (pc' := 269) X dX9_cut_268 rfl ?_
          refine r_iald (i := (8 + J)) (pc' := 270) X hrw (by omega) (by omega) (by decide) dX9_cut_269 rfl ?_
          refine r_iast (i := (8 + J)) (pc' := 271) X hrw (by omega) (by omega) (by decide) dX9_cut_270 rfl (fun M6 hM6 => ?_)
          refine r_iload (pc' := 273) X 9 dX9_cut_271 rfl rfl ?_
          refine r_if_ne (pc' := 276) (tgt := 281) X dX9_cut_273 rfl rfl (by omega) (fun h273 => absurd h273 (by decide)) (fun h273 => ?_)
          refine r_iload (pc' := 278) X 10 dX9_cut_276 rfl rfl ?_
          refine r_if_eq (pc' := 281) (tgt := 285) X dX9_cut_278 rfl rfl (by omega) (fun h278 => ?_) (fun h278 => absurd h278 (by decide))
          refine r_iconst (pc' := 286) X dX9_cut_285 rfl ?_
          refine w_iret X hr dX9_cut_286 ?_
          try dsimp only
          first
            | (rw [cut1_same (show pv (9 + K) J ≠ 0 by omega) (by rw [hf3, hf4]; omega) (by rw [hf3, hf4]; omega)]
               refine ⟨rfl, fun i hi0 => ⟨?_, ?_⟩, fun a b x q => ?_⟩
               · rw [hM6]; unfold wu; rw [if_neg (by omega), hM5]; unfold wu
                 by_cases q : i = J
                 · rw [if_pos ⟨rfl, rfl, by omega⟩, q]; exact hlj
                 · rw [if_neg (by omega)]; exact hlo i hi0
               · rw [hM6]; unfold wu
                 by_cases q : i = J
                 · rw [if_pos ⟨rfl, rfl, by omega⟩, q]; exact e8
                 · rw [if_neg (by omega), hM5]; unfold wu; rw [if_neg (by omega)]; exact hhi i hi0
               · rw [hM6]; unfold wu; rw [if_neg (by omega), hM5]; unfold wu; rw [if_neg (by omega)])
            | (rw [cut1_new (show pv (9 + K) J ≠ 0 by omega) (by rw [hf3, hf4]; omega) (by rw [hf3, hf4]; omega), hf3, hf4]
               refine ⟨rfl, fun i hi0 => ⟨?_, ?_⟩, fun a b x q => ?_⟩
               · rw [hM6]; unfold wu; rw [if_neg (by omega), hM5]; unfold wu
                 show _ = (if i = J then _ else lo i)
                 by_cases q : i = J
                 · rw [if_pos ⟨rfl, rfl, by omega⟩, if_pos q]; omega
                 · rw [if_neg (by omega), if_neg q]; exact hlo i hi0
               · rw [hM6]; unfold wu
                 show _ = (if i = J then _ else hi i)
                 by_cases q : i = J
                 · rw [if_pos ⟨rfl, rfl, by omega⟩, if_pos q]; omega
                 · rw [if_neg (by omega), if_neg q, hM5]; unfold wu; rw [if_neg (by omega)]; exact hhi i hi0
               · rw [hM6]; unfold wu; rw [if_neg (by omega), hM5]; unfold wu; rw [if_neg (by omega)])
        · refine r_iconst (pc' := 226) X dX9_cut_225 rfl ?_
          refine w_iret X hr dX9_cut_226 ?_
          try dsimp only
          rw [cut1_empty (show pv (9 + K) J ≠ 0 by omega) (by rw [hf3, hf4]; omega)]
          exact ⟨rfl, fun i hi0 => ⟨hlo i hi0, hhi i hi0⟩, fun _ _ _ _ => rfl⟩
      · refine r_iconst (pc' := 176) X dX9_cut_175 rfl ?_
        refine r_goto (tgt := 180) X dX9_cut_176 rfl ?_
        refine r_istore (pc' := 182) (lc' := [(0, vR G (29, 0)), (1, vR G (29, jr)), (2, vI (K : Int)), (3, vI (J : Int)), (4, vJ (M 29 5 (4 * K + J))), (6, vJ (((M 29 6 K) * (M 29 jr (31 + K))) - ((ext N (pv (9 + K)) lo hi (J : Int) 1)))), (8, vJ (((((M 29 6 K) * (M 29 jr (31 + K))) + (M 29 6 K)) - 1) - ((ext N (pv (9 + K)) lo hi (J : Int) 0)))), (10, vJ ((-((-(-(((((M 29 6 K) * (M 29 jr (31 + K))) + (M 29 6 K)) - 1) - ((ext N (pv (9 + K)) lo hi (J : Int) 0))))).fdiv (-(M 29 5 (4 * K + J))))))), (12, vJ (((-(((M 29 6 K) * (M 29 jr (31 + K))) - ((ext N (pv (9 + K)) lo hi (J : Int) 1)))).fdiv (-(M 29 5 (4 * K + J)))))), (14, vI 0), (15, vI 1)]) X [1, 2, 3, 4, 5, 6, 7, 8, 9, 10, 0] dX9_cut_180 (by decide) rfl rfl ?_
        refine r_iload (pc' := 184) X 9 dX9_cut_182 rfl rfl ?_
        refine r_if_eq (pc' := 187) (tgt := 200) X dX9_cut_184 rfl rfl (by omega) (fun h184 => ?_) (fun h184 => absurd h184 (by decide))
        refine r_iload (pc' := 202) X 10 dX9_cut_200 rfl rfl ?_
        refine r_if_eq (pc' := 205) (tgt := 217) X dX9_cut_202 rfl rfl (by omega) (fun h202 => absurd h202 (by decide)) (fun h202 => ?_)
        refine r_lload (pc' := 207) X 8 dX9_cut_205 rfl rfl ?_
        refine r_aload_n (pc' := 208) X 1 dX9_cut_207 rfl rfl rfl ?_
        refine r_iconst (pc' := 209) X dX9_cut_208 rfl ?_
        refine r_iload_n (pc' := 210) X 3 dX9_cut_209 rfl rfl rfl ?_
        refine r_iadd (pc' := 211) X dX9_cut_210 rfl ?_
        refine r_iald (i := (4 + J)) (pc' := 212) X hrw (by omega) (by omega) (by decide) dX9_cut_211 rfl ?_
        refine r_i2l (pc' := 213) X dX9_cut_212 (by omega) rfl ?_
        refine r_lcmp (pc' := 214) X dX9_cut_213 (by omega) (by omega) rfl (fun z213 z213r z213l z213e z213g => ?_)
        refine r_if_lt (pc' := 217) (tgt := 225) X dX9_cut_214 rfl rfl (by omega) (fun h214 => ?_) (fun h214 => ?_)
        · refine r_iconst (pc' := 226) X dX9_cut_225 rfl ?_
          refine w_iret X hr dX9_cut_226 ?_
          try dsimp only
          rw [cut1_empty (show pv (9 + K) J ≠ 0 by omega) (by rw [hf3, hf4]; omega)]
          exact ⟨rfl, fun i hi0 => ⟨hlo i hi0, hhi i hi0⟩, fun _ _ _ _ => rfl⟩
        · refine r_lload (pc' := 219) X 7 dX9_cut_217 rfl rfl ?_
          refine r_lload (pc' := 221) X 8 dX9_cut_219 rfl rfl ?_
          refine r_lcmp (pc' := 222) X dX9_cut_221 (by omega) (by omega) rfl (fun z221 z221r z221l z221e z221g => ?_)
          refine r_if_le (pc' := 225) (tgt := 227) X dX9_cut_222 rfl rfl (by omega) (fun h222 => ?_) (fun h222 => ?_)
          · refine r_aload_n (pc' := 228) X 1 dX9_cut_227 rfl rfl rfl ?_
            refine r_iconst (pc' := 229) X dX9_cut_228 rfl ?_
            refine r_iload_n (pc' := 230) X 3 dX9_cut_229 rfl rfl rfl ?_
            refine r_iadd (pc' := 231) X dX9_cut_230 rfl ?_
            refine r_iload (pc' := 233) X 9 dX9_cut_231 rfl rfl ?_
            refine r_if_eq (pc' := 236) (tgt := 242) X dX9_cut_233 rfl rfl (by omega) (fun h233 => ?_) (fun h233 => absurd h233 (by decide))
            refine r_aload_n (pc' := 243) X 1 dX9_cut_242 rfl rfl rfl ?_
            refine r_iconst (pc' := 244) X dX9_cut_243 rfl ?_
            refine r_iload_n (pc' := 245) X 3 dX9_cut_244 rfl rfl rfl ?_
            refine r_iadd (pc' := 246) X dX9_cut_245 rfl ?_
            refine r_iald (i := (4 + J)) (pc' := 247) X hrw (by omega) (by omega) (by decide) dX9_cut_246 rfl ?_
            refine r_iast (i := (4 + J)) (pc' := 248) X hrw (by omega) (by omega) (by decide) dX9_cut_247 rfl (fun M7 hM7 => ?_)
            have e8 : M7 29 jr (8 + J) = hi J := by rw [hM7]; unfold wu; rw [if_neg (by omega)]; exact huj
            refine r_aload_n (pc' := 249) X 1 dX9_cut_248 rfl rfl rfl ?_
            refine r_bipush (pc' := 251) X dX9_cut_249 rfl rfl ?_
            refine r_iload_n (pc' := 252) X 3 dX9_cut_251 rfl rfl rfl ?_
            refine r_iadd (pc' := 253) X dX9_cut_252 rfl ?_
            refine r_iload (pc' := 255) X 10 dX9_cut_253 rfl rfl ?_
            refine r_if_eq (pc' := 258) (tgt := 264) X dX9_cut_255 rfl rfl (by omega) (fun h255 => absurd h255 (by decide)) (fun h255 => ?_)
            refine r_lload (pc' := 260) X 8 dX9_cut_258 rfl rfl ?_
            refine r_l2i (pc' := 261) X dX9_cut_260 rfl ?_
            refine r_goto (tgt := 270) X dX9_cut_261 rfl ?_
            refine r_iast (i := (8 + J)) (pc' := 271) X hrw (by omega) (by omega) (by decide) dX9_cut_270 rfl (fun M8 hM8 => ?_)
            refine r_iload (pc' := 273) X 9 dX9_cut_271 rfl rfl ?_
            refine r_if_ne (pc' := 276) (tgt := 281) X dX9_cut_273 rfl rfl (by omega) (fun h273 => absurd h273 (by decide)) (fun h273 => ?_)
            refine r_iload (pc' := 278) X 10 dX9_cut_276 rfl rfl ?_
            refine r_if_eq (pc' := 281) (tgt := 285) X dX9_cut_278 rfl rfl (by omega) (fun h278 => absurd h278 (by decide)) (fun h278 => ?_)
            refine r_iconst (pc' := 282) X dX9_cut_281 rfl ?_
            refine r_goto (tgt := 286) X dX9_cut_282 rfl ?_
            refine w_iret X hr dX9_cut_286 ?_
            try dsimp only
            first
              | (rw [cut1_same (show pv (9 + K) J ≠ 0 by omega) (by rw [hf3, hf4]; omega) (by rw [hf3, hf4]; omega)]
                 refine ⟨rfl, fun i hi0 => ⟨?_, ?_⟩, fun a b x q => ?_⟩
                 · rw [hM8]; unfold wu; rw [if_neg (by omega), hM7]; unfold wu
                   by_cases q : i = J
                   · rw [if_pos ⟨rfl, rfl, by omega⟩, q]; exact hlj
                   · rw [if_neg (by omega)]; exact hlo i hi0
                 · rw [hM8]; unfold wu
                   by_cases q : i = J
                   · rw [if_pos ⟨rfl, rfl, by omega⟩, q]; exact e8
                   · rw [if_neg (by omega), hM7]; unfold wu; rw [if_neg (by omega)]; exact hhi i hi0
                 · rw [hM8]; unfold wu; rw [if_neg (by omega), hM7]; unfold wu; rw [if_neg (by omega)])
              | (rw [cut1_new (show pv (9 + K) J ≠ 0 by omega) (by rw [hf3, hf4]; omega) (by rw [hf3, hf4]; omega), hf3, hf4]
                 refine ⟨rfl, fun i hi0 => ⟨?_, ?_⟩, fun a b x q => ?_⟩
                 · rw [hM8]; unfold wu; rw [if_neg (by omega), hM7]; unfold wu
                   show _ = (if i = J then _ else lo i)
                   by_cases q : i = J
                   · rw [if_pos ⟨rfl, rfl, by omega⟩, if_pos q]; omega
                   · rw [if_neg (by omega), if_neg q]; exact hlo i hi0
                 · rw [hM8]; unfold wu
                   show _ = (if i = J then _ else hi i)
                   by_cases q : i = J
                   · rw [if_pos ⟨rfl, rfl, by omega⟩, if_pos q]; omega
                   · rw [if_neg (by omega), if_neg q, hM7]; unfold wu; rw [if_neg (by omega)]; exact hhi i hi0
                 · rw [hM8]; unfold wu; rw [if_neg (by omega), hM7]; unfold wu; rw [if_neg (by omega)])
          · refine r_iconst (pc' := 226) X dX9_cut_225 rfl ?_
            refine w_iret X hr dX9_cut_226 ?_
            try dsimp only
            rw [cut1_empty (show pv (9 + K) J ≠ 0 by omega) (by rw [hf3, hf4]; omega)]
            exact ⟨rfl, fun i hi0 => ⟨hlo i hi0, hhi i hi0⟩, fun _ _ _ _ => rfl⟩
    · refine r_iconst (pc' := 156) X dX9_cut_155 rfl ?_
      refine r_goto (tgt := 160) X dX9_cut_156 rfl ?_
      refine r_istore (pc' := 162) (lc' := [(0, vR G (29, 0)), (1, vR G (29, jr)), (2, vI (K : Int)), (3, vI (J : Int)), (4, vJ (M 29 5 (4 * K + J))), (6, vJ (((M 29 6 K) * (M 29 jr (31 + K))) - ((ext N (pv (9 + K)) lo hi (J : Int) 1)))), (8, vJ (((((M 29 6 K) * (M 29 jr (31 + K))) + (M 29 6 K)) - 1) - ((ext N (pv (9 + K)) lo hi (J : Int) 0)))), (10, vJ ((-((-(-(((((M 29 6 K) * (M 29 jr (31 + K))) + (M 29 6 K)) - 1) - ((ext N (pv (9 + K)) lo hi (J : Int) 0))))).fdiv (-(M 29 5 (4 * K + J))))))), (12, vJ (((-(((M 29 6 K) * (M 29 jr (31 + K))) - ((ext N (pv (9 + K)) lo hi (J : Int) 1)))).fdiv (-(M 29 5 (4 * K + J)))))), (14, vI 1)]) X [1, 2, 3, 4, 5, 6, 7, 8, 9, 0] dX9_cut_160 (by decide) rfl rfl ?_
      refine r_lload (pc' := 164) X 8 dX9_cut_162 rfl rfl ?_
      refine r_aload_n (pc' := 165) X 1 dX9_cut_164 rfl rfl rfl ?_
      refine r_bipush (pc' := 167) X dX9_cut_165 rfl rfl ?_
      refine r_iload_n (pc' := 168) X 3 dX9_cut_167 rfl rfl rfl ?_
      refine r_iadd (pc' := 169) X dX9_cut_168 rfl ?_
      refine r_iald (i := (8 + J)) (pc' := 170) X hrw (by omega) (by omega) (by decide) dX9_cut_169 rfl ?_
      refine r_i2l (pc' := 171) X dX9_cut_170 (by omega) rfl ?_
      refine r_lcmp (pc' := 172) X dX9_cut_171 (by omega) (by omega) rfl (fun z171 z171r z171l z171e z171g => ?_)
      refine r_if_ge (pc' := 175) (tgt := 179) X dX9_cut_172 rfl rfl (by omega) (fun h172 => ?_) (fun h172 => ?_)
      · refine r_iconst (pc' := 180) X dX9_cut_179 rfl ?_
        refine r_istore (pc' := 182) (lc' := [(0, vR G (29, 0)), (1, vR G (29, jr)), (2, vI (K : Int)), (3, vI (J : Int)), (4, vJ (M 29 5 (4 * K + J))), (6, vJ (((M 29 6 K) * (M 29 jr (31 + K))) - ((ext N (pv (9 + K)) lo hi (J : Int) 1)))), (8, vJ (((((M 29 6 K) * (M 29 jr (31 + K))) + (M 29 6 K)) - 1) - ((ext N (pv (9 + K)) lo hi (J : Int) 0)))), (10, vJ ((-((-(-(((((M 29 6 K) * (M 29 jr (31 + K))) + (M 29 6 K)) - 1) - ((ext N (pv (9 + K)) lo hi (J : Int) 0))))).fdiv (-(M 29 5 (4 * K + J))))))), (12, vJ (((-(((M 29 6 K) * (M 29 jr (31 + K))) - ((ext N (pv (9 + K)) lo hi (J : Int) 1)))).fdiv (-(M 29 5 (4 * K + J)))))), (14, vI 1), (15, vI 0)]) X [1, 2, 3, 4, 5, 6, 7, 8, 9, 10, 0] dX9_cut_180 (by decide) rfl rfl ?_
        refine r_iload (pc' := 184) X 9 dX9_cut_182 rfl rfl ?_
        refine r_if_eq (pc' := 187) (tgt := 200) X dX9_cut_184 rfl rfl (by omega) (fun h184 => absurd h184 (by decide)) (fun h184 => ?_)
        refine r_lload (pc' := 189) X 7 dX9_cut_187 rfl rfl ?_
        refine r_aload_n (pc' := 190) X 1 dX9_cut_189 rfl rfl rfl ?_
        refine r_bipush (pc' := 192) X dX9_cut_190 rfl rfl ?_
        refine r_iload_n (pc' := 193) X 3 dX9_cut_192 rfl rfl rfl ?_
        refine r_iadd (pc' := 194) X dX9_cut_193 rfl ?_
        refine r_iald (i := (8 + J)) (pc' := 195) X hrw (by omega) (by omega) (by decide) dX9_cut_194 rfl ?_
        refine r_i2l (pc' := 196) X dX9_cut_195 (by omega) rfl ?_
        refine r_lcmp (pc' := 197) X dX9_cut_196 (by omega) (by omega) rfl (fun z196 z196r z196l z196e z196g => ?_)
        refine r_if_gt (pc' := 200) (tgt := 225) X dX9_cut_197 rfl rfl (by omega) (fun h197 => ?_) (fun h197 => ?_)
        · refine r_iconst (pc' := 226) X dX9_cut_225 rfl ?_
          refine w_iret X hr dX9_cut_226 ?_
          try dsimp only
          rw [cut1_empty (show pv (9 + K) J ≠ 0 by omega) (by rw [hf3, hf4]; omega)]
          exact ⟨rfl, fun i hi0 => ⟨hlo i hi0, hhi i hi0⟩, fun _ _ _ _ => rfl⟩
        · refine r_iload (pc' := 202) X 10 dX9_cut_200 rfl rfl ?_
          refine r_if_eq (pc' := 205) (tgt := 217) X dX9_cut_202 rfl rfl (by omega) (fun h202 => ?_) (fun h202 => absurd h202 (by decide))
          refine r_lload (pc' := 219) X 7 dX9_cut_217 rfl rfl ?_
          refine r_lload (pc' := 221) X 8 dX9_cut_219 rfl rfl ?_
          refine r_lcmp (pc' := 222) X dX9_cut_221 (by omega) (by omega) rfl (fun z221 z221r z221l z221e z221g => ?_)
          refine r_if_le (pc' := 225) (tgt := 227) X dX9_cut_222 rfl rfl (by omega) (fun h222 => ?_) (fun h222 => ?_)
          · refine r_aload_n (pc' := 228) X 1 dX9_cut_227 rfl rfl rfl ?_
            refine r_iconst (pc' := 229) X dX9_cut_228 rfl ?_
            refine r_iload_n (pc' := 230) X 3 dX9_cut_229 rfl rfl rfl ?_
            refine r_iadd (pc' := 231) X dX9_cut_230 rfl ?_
            refine r_iload (pc' := 233) X 9 dX9_cut_231 rfl rfl ?_
            refine r_if_eq (pc' := 236) (tgt := 242) X dX9_cut_233 rfl rfl (by omega) (fun h233 => absurd h233 (by decide)) (fun h233 => ?_)
            refine r_lload (pc' := 238) X 7 dX9_cut_236 rfl rfl ?_
            refine r_l2i (pc' := 239) X dX9_cut_238 rfl ?_
            refine r_goto (tgt := 247) X dX9_cut_239 rfl ?_
            refine r_iast (i := (4 + J)) (pc' := 248) X hrw (by omega) (by omega) (by decide) dX9_cut_247 rfl (fun M9 hM9 => ?_)
            have e8 : M9 29 jr (8 + J) = hi J := by rw [hM9]; unfold wu; rw [if_neg (by omega)]; exact huj
            refine r_aload_n (pc' := 249) X 1 dX9_cut_248 rfl rfl rfl ?_
            refine r_bipush (pc' := 251) X dX9_cut_249 rfl rfl ?_
            refine r_iload_n (pc' := 252) X 3 dX9_cut_251 rfl rfl rfl ?_
            refine r_iadd (pc' := 253) X dX9_cut_252 rfl ?_
            refine r_iload (pc' := 255) X 10 dX9_cut_253 rfl rfl ?_
            refine r_if_eq (pc' := 258) (tgt := 264) X dX9_cut_255 rfl rfl (by omega) (fun h255 => ?_) (fun h255 => absurd h255 (by decide))
            refine r_aload_n (pc' := 265) X 1 dX9_cut_264 rfl rfl rfl ?_
            refine r_bipush (pc' := 267) X dX9_cut_265 rfl rfl ?_
            refine r_iload_n (pc' := 268) X 3 dX9_cut_267 rfl rfl rfl ?_
            refine r_iadd (pc' := 269) X dX9_cut_268 rfl ?_
            refine r_iald (i := (8 + J)) (pc' := 270) X hrw (by omega) (by omega) (by decide) dX9_cut_269 rfl ?_
            refine r_iast (i := (8 + J)) (pc' := 271) X hrw (by omega) (by omega) (by decide) dX9_cut_270 rfl (fun M10 hM10 => ?_)
            refine r_iload (pc' := 273) X 9 dX9_cut_271 rfl rfl ?_
            refine r_if_ne (pc' := 276) (tgt := 281) X dX9_cut_273 rfl rfl (by omega) (fun h273 => ?_) (fun h273 => absurd h273 (by decide))
            refine r_iconst (pc' := 282) X dX9_cut_281 rfl ?_
            refine r_goto (tgt := 286) X dX9_cut_282 rfl ?_
            refine w_iret X hr dX9_cut_286 ?_
            try dsimp only
            first
              | (rw [cut1_same (show pv (9 + K) J ≠ 0 by omega) (by rw [hf3, hf4]; omega) (by rw [hf3, hf4]; omega)]
                 refine ⟨rfl, fun i hi0 => ⟨?_, ?_⟩, fun a b x q => ?_⟩
                 · rw [hM10]; unfold wu; rw [if_neg (by omega), hM9]; unfold wu
                   by_cases q : i = J
                   · rw [if_pos ⟨rfl, rfl, by omega⟩, q]; exact hlj
                   · rw [if_neg (by omega)]; exact hlo i hi0
                 · rw [hM10]; unfold wu
                   by_cases q : i = J
                   · rw [if_pos ⟨rfl, rfl, by omega⟩, q]; exact e8
                   · rw [if_neg (by omega), hM9]; unfold wu; rw [if_neg (by omega)]; exact hhi i hi0
                 · rw [hM10]; unfold wu; rw [if_neg (by omega), hM9]; unfold wu; rw [if_neg (by omega)])
              | (rw [cut1_new (show pv (9 + K) J ≠ 0 by omega) (by rw [hf3, hf4]; omega) (by rw [hf3, hf4]; omega), hf3, hf4]
                 refine ⟨rfl, fun i hi0 => ⟨?_, ?_⟩, fun a b x q => ?_⟩
                 · rw [hM10]; unfold wu; rw [if_neg (by omega), hM9]; unfold wu
                   show _ = (if i = J then _ else lo i)
                   by_cases q : i = J
                   · rw [if_pos ⟨rfl, rfl, by omega⟩, if_pos q]; omega
                   · rw [if_neg (by omega), if_neg q]; exact hlo i hi0
                 · rw [hM10]; unfold wu
                   show _ = (if i = J then _ else hi i)
                   by_cases q : i = J
                   · rw [if_pos ⟨rfl, rfl, by omega⟩, if_pos q]; omega
                   · rw [if_neg (by omega), if_neg q, hM9]; unfold wu; rw [if_neg (by omega)]; exact hhi i hi0
                 · rw [hM10]; unfold wu; rw [if_neg (by omega), hM9]; unfold wu; rw [if_neg (by omega)])
          · refine r_iconst (pc' := 226) X dX9_cut_225 rfl ?_
            refine w_iret X hr dX9_cut_226 ?_
            try dsimp only
            rw [cut1_empty (show pv (9 + K) J ≠ 0 by omega) (by rw [hf3, hf4]; omega)]
            exact ⟨rfl, fun i hi0 => ⟨hlo i hi0, hhi i hi0⟩, fun _ _ _ _ => rfl⟩
      · refine r_iconst (pc' := 176) X dX9_cut_175 rfl ?_
        refine r_goto (tgt := 180) X dX9_cut_176 rfl ?_
        refine r_istore (pc' := 182) (lc' := [(0, vR G (29, 0)), (1, vR G (29, jr)), (2, vI (K : Int)), (3, vI (J : Int)), (4, vJ (M 29 5 (4 * K + J))), (6, vJ (((M 29 6 K) * (M 29 jr (31 + K))) - ((ext N (pv (9 + K)) lo hi (J : Int) 1)))), (8, vJ (((((M 29 6 K) * (M 29 jr (31 + K))) + (M 29 6 K)) - 1) - ((ext N (pv (9 + K)) lo hi (J : Int) 0)))), (10, vJ ((-((-(-(((((M 29 6 K) * (M 29 jr (31 + K))) + (M 29 6 K)) - 1) - ((ext N (pv (9 + K)) lo hi (J : Int) 0))))).fdiv (-(M 29 5 (4 * K + J))))))), (12, vJ (((-(((M 29 6 K) * (M 29 jr (31 + K))) - ((ext N (pv (9 + K)) lo hi (J : Int) 1)))).fdiv (-(M 29 5 (4 * K + J)))))), (14, vI 1), (15, vI 1)]) X [1, 2, 3, 4, 5, 6, 7, 8, 9, 10, 0] dX9_cut_180 (by decide) rfl rfl ?_
        refine r_iload (pc' := 184) X 9 dX9_cut_182 rfl rfl ?_
        refine r_if_eq (pc' := 187) (tgt := 200) X dX9_cut_184 rfl rfl (by omega) (fun h184 => absurd h184 (by decide)) (fun h184 => ?_)
        refine r_lload (pc' := 189) X 7 dX9_cut_187 rfl rfl ?_
        refine r_aload_n (pc' := 190) X 1 dX9_cut_189 rfl rfl rfl ?_
        refine r_bipush (pc' := 192) X dX9_cut_190 rfl rfl ?_
        refine r_iload_n (pc' := 193) X 3 dX9_cut_192 rfl rfl rfl ?_
        refine r_iadd (pc' := 194) X dX9_cut_193 rfl ?_
        refine r_iald (i := (8 + J)) (pc' := 195) X hrw (by omega) (by omega) (by decide) dX9_cut_194 rfl ?_
        refine r_i2l (pc' := 196) X dX9_cut_195 (by omega) rfl ?_
        refine r_lcmp (pc' := 197) X dX9_cut_196 (by omega) (by omega) rfl (fun z196 z196r z196l z196e z196g => ?_)
        refine r_if_gt (pc' := 200) (tgt := 225) X dX9_cut_197 rfl rfl (by omega) (fun h197 => ?_) (fun h197 => ?_)
        · refine r_iconst (pc' := 226) X dX9_cut_225 rfl ?_
          refine w_iret X hr dX9_cut_226 ?_
          try dsimp only
          rw [cut1_empty (show pv (9 + K) J ≠ 0 by omega) (by rw [hf3, hf4]; omega)]
          exact ⟨rfl, fun i hi0 => ⟨hlo i hi0, hhi i hi0⟩, fun _ _ _ _ => rfl⟩
        · refine r_iload (pc' := 202) X 10 dX9_cut_200 rfl rfl ?_
          refine r_if_eq (pc' := 205) (tgt := 217) X dX9_cut_202 rfl rfl (by omega) (fun h202 => absurd h202 (by decide)) (fun h202 => ?_)
          refine r_lload (pc' := 207) X 8 dX9_cut_205 rfl rfl ?_
          refine r_aload_n (pc' := 208) X 1 dX9_cut_207 rfl rfl rfl ?_
          refine r_iconst (pc' := 209) X dX9_cut_208 rfl ?_
          refine r_iload_n (pc' := 210) X 3 dX9_cut_209 rfl rfl rfl ?_
          refine r_iadd (pc' := 211) X dX9_cut_210 rfl ?_
          refine r_iald (i := (4 + J)) (pc' := 212) X hrw (by omega) (by omega) (by decide) dX9_cut_211 rfl ?_
          refine r_i2l (pc' := 213) X dX9_cut_212 (by omega) rfl ?_
          refine r_lcmp (pc' := 214) X dX9_cut_213 (by omega) (by omega) rfl (fun z213 z213r z213l z213e z213g => ?_)
          refine r_if_lt (pc' := 217) (tgt := 225) X dX9_cut_214 rfl rfl (by omega) (fun h214 => ?_) (fun h214 => ?_)
          · refine r_iconst (pc' := 226) X dX9_cut_225 rfl ?_
            refine w_iret X hr dX9_cut_226 ?_
            try dsimp only
            rw [cut1_empty (show pv (9 + K) J ≠ 0 by omega) (by rw [hf3, hf4]; omega)]
            exact ⟨rfl, fun i hi0 => ⟨hlo i hi0, hhi i hi0⟩, fun _ _ _ _ => rfl⟩
          · refine r_lload (pc' := 219) X 7 dX9_cut_217 rfl rfl ?_
            refine r_lload (pc' := 221) X 8 dX9_cut_219 rfl rfl ?_
            refine r_lcmp (pc' := 222) X dX9_cut_221 (by omega) (by omega) rfl (fun z221 z221r z221l z221e z221g => ?_)
            refine r_if_le (pc' := 225) (tgt := 227) X dX9_cut_222 rfl rfl (by omega) (fun h222 => ?_) (fun h222 => ?_)
            · refine r_aload_n (pc' := 228) X 1 dX9_cut_227 rfl rfl rfl ?_
              refine r_iconst (pc' := 229) X dX9_cut_228 rfl ?_
              refine r_iload_n (pc' := 230) X 3 dX9_cut_229 rfl rfl rfl ?_
              refine r_iadd (pc' := 231) X dX9_cut_230 rfl ?_
              refine r_iload (pc' := 233) X 9 dX9_cut_231 rfl rfl ?_
              refine r_if_eq (pc' := 236) (tgt := 242) X dX9_cut_233 rfl rfl (by omega) (fun h233 => absurd h233 (by decide)) (fun h233 => ?_)
              refine r_lload (pc' := 238) X 7 dX9_cut_236 rfl rfl ?_
              refine r_l2i (pc' := 239) X dX9_cut_238 rfl ?_
              refine r_goto (tgt := 247) X dX9_cut_239 rfl ?_
              refine r_iast (i := (4 + J)) (pc' := 248) X hrw (by omega) (by omega) (by decide) dX9_cut_247 rfl (fun M11 hM11 => ?_)
              have e8 : M11 29 jr (8 + J) = hi J := by rw [hM11]; unfold wu; rw [if_neg (by omega)]; exact huj
              refine r_aload_n (pc' := 249) X 1 dX9_cut_248 rfl rfl rfl ?_
              refine r_bipush (pc' := 251) X dX9_cut_249 rfl rfl ?_
              refine r_iload_n (pc' := 252) X 3 dX9_cut_251 rfl rfl rfl ?_
              refine r_iadd (pc' := 253) X dX9_cut_252 rfl ?_
              refine r_iload (pc' := 255) X 10 dX9_cut_253 rfl rfl ?_
              refine r_if_eq (pc' := 258) (tgt := 264) X dX9_cut_255 rfl rfl (by omega) (fun h255 => absurd h255 (by decide)) (fun h255 => ?_)
              refine r_lload (pc' := 260) X 8 dX9_cut_258 rfl rfl ?_
              refine r_l2i (pc' := 261) X dX9_cut_260 rfl ?_
              refine r_goto (tgt := 270) X dX9_cut_261 rfl ?_
              refine r_iast (i := (8 + J)) (pc' := 271) X hrw (by omega) (by omega) (by decide) dX9_cut_270 rfl (fun M12 hM12 => ?_)
              refine r_iload (pc' := 273) X 9 dX9_cut_271 rfl rfl ?_
              refine r_if_ne (pc' := 276) (tgt := 281) X dX9_cut_273 rfl rfl (by omega) (fun h273 => ?_) (fun h273 => absurd h273 (by decide))
              refine r_iconst (pc' := 282) X dX9_cut_281 rfl ?_
              refine r_goto (tgt := 286) X dX9_cut_282 rfl ?_
              refine w_iret X hr dX9_cut_286 ?_
              try dsimp only
              first
                | (rw [cut1_same (show pv (9 + K) J ≠ 0 by omega) (by rw [hf3, hf4]; omega) (by rw [hf3, hf4]; omega)]
                   refine ⟨rfl, fun i hi0 => ⟨?_, ?_⟩, fun a b x q => ?_⟩
                   · rw [hM12]; unfold wu; rw [if_neg (by omega), hM11]; unfold wu
                     by_cases q : i = J
                     · rw [if_pos ⟨rfl, rfl, by omega⟩, q]; exact hlj
                     · rw [if_neg (by omega)]; exact hlo i hi0
                   · rw [hM12]; unfold wu
                     by_cases q : i = J
                     · rw [if_pos ⟨rfl, rfl, by omega⟩, q]; exact e8
                     · rw [if_neg (by omega), hM11]; unfold wu; rw [if_neg (by omega)]; exact hhi i hi0
                   · rw [hM12]; unfold wu; rw [if_neg (by omega), hM11]; unfold wu; rw [if_neg (by omega)])
                | (rw [cut1_new (show pv (9 + K) J ≠ 0 by omega) (by rw [hf3, hf4]; omega) (by rw [hf3, hf4]; omega), hf3, hf4]
                   refine ⟨rfl, fun i hi0 => ⟨?_, ?_⟩, fun a b x q => ?_⟩
                   · rw [hM12]; unfold wu; rw [if_neg (by omega), hM11]; unfold wu
                     show _ = (if i = J then _ else lo i)
                     by_cases q : i = J
                     · rw [if_pos ⟨rfl, rfl, by omega⟩, if_pos q]; omega
                     · rw [if_neg (by omega), if_neg q]; exact hlo i hi0
                   · rw [hM12]; unfold wu
                     show _ = (if i = J then _ else hi i)
                     by_cases q : i = J
                     · rw [if_pos ⟨rfl, rfl, by omega⟩, if_pos q]; omega
                     · rw [if_neg (by omega), if_neg q, hM11]; unfold wu; rw [if_neg (by omega)]; exact hhi i hi0
                   · rw [hM12]; unfold wu; rw [if_neg (by omega), hM11]; unfold wu; rw [if_neg (by omega)])
            · refine r_iconst (pc' := 226) X dX9_cut_225 rfl ?_
              refine w_iret X hr dX9_cut_226 ?_
              try dsimp only
              rw [cut1_empty (show pv (9 + K) J ≠ 0 by omega) (by rw [hf3, hf4]; omega)]
              exact ⟨rfl, fun i hi0 => ⟨hlo i hi0, hhi i hi0⟩, fun _ _ _ _ => rfl⟩
  · refine r_lload (pc' := 96) X 5 dX9_cut_94 rfl rfl ?_
    refine r_lload (pc' := 98) X 4 dX9_cut_96 rfl rfl ?_
    refine w_callj (pc' := 101) (st := []) (w_runS X (c_X9_up l G M (((M 29 6 K) * (M 29 jr (31 + K))) - ((ext N (pv (9 + K)) lo hi (J : Int) 1))) (M 29 5 (4 * K + J)) (by first | assumption | omega) (by first | assumption | omega)) cf_X9_up gw_1247 rfl rfl ⟨Nat.le_of_ble_eq_true rfl, Nat.le_of_ble_eq_true rfl⟩ rfl rfl (Nat.le_of_ble_eq_true rfl) ⟨Nat.le_of_ble_eq_true rfl, Nat.le_of_ble_eq_true rfl⟩ gw_1246 dX9_cut_98) rfl (fun z98 M13 h98 => ?_)
    obtain rfl := h98.1.symm
    obtain rfl := h98.2.symm
    refine r_goto (tgt := 113) X dX9_cut_101 rfl ?_
    refine r_lstore (pc' := 115) (lc' := [(0, vR G (29, 0)), (1, vR G (29, jr)), (2, vI (K : Int)), (3, vI (J : Int)), (4, vJ (M 29 5 (4 * K + J))), (6, vJ (((M 29 6 K) * (M 29 jr (31 + K))) - ((ext N (pv (9 + K)) lo hi (J : Int) 1)))), (8, vJ (((((M 29 6 K) * (M 29 jr (31 + K))) + (M 29 6 K)) - 1) - ((ext N (pv (9 + K)) lo hi (J : Int) 0)))), (10, vJ ((-((-(((M 29 6 K) * (M 29 jr (31 + K))) - ((ext N (pv (9 + K)) lo hi (J : Int) 1)))).fdiv (M 29 5 (4 * K + J))))))]) X [1, 2, 3, 4, 5, 6, 7, 0] dX9_cut_113 (by decide) rfl rfl ?_
    refine r_lload (pc' := 117) X 4 dX9_cut_115 rfl rfl ?_
    refine r_lconst (pc' := 118) (z := 0) X dX9_cut_117 rfl rfl ?_
    refine r_lcmp (pc' := 119) X dX9_cut_118 (by omega) (by omega) rfl (fun z118 z118r z118l z118e z118g => ?_)
    refine r_if_le (pc' := 122) (tgt := 132) X dX9_cut_119 rfl rfl (by omega) (fun h119 => by exfalso; omega) (fun h119 => ?_)
    refine r_lload (pc' := 124) X 6 dX9_cut_122 rfl rfl ?_
    refine r_lload (pc' := 126) X 4 dX9_cut_124 rfl rfl ?_
    refine w_callj (pc' := 129) (st := []) (w_runS X (c_X9_down l G M (((((M 29 6 K) * (M 29 jr (31 + K))) + (M 29 6 K)) - 1) - ((ext N (pv (9 + K)) lo hi (J : Int) 0))) (M 29 5 (4 * K + J)) (by first | assumption | omega) (by first | assumption | omega)) cf_X9_down gw_1172 rfl rfl ⟨Nat.le_of_ble_eq_true rfl, Nat.le_of_ble_eq_true rfl⟩ rfl rfl (Nat.le_of_ble_eq_true rfl) ⟨Nat.le_of_ble_eq_true rfl, Nat.le_of_ble_eq_true rfl⟩ gw_1171 dX9_cut_126) rfl (fun z126 M14 h126 => ?_)
    obtain rfl := h126.1.symm
    obtain rfl := h126.2.symm
    refine r_goto (tgt := 141) X dX9_cut_129 rfl ?_
    refine r_lstore (pc' := 143) (lc' := [(0, vR G (29, 0)), (1, vR G (29, jr)), (2, vI (K : Int)), (3, vI (J : Int)), (4, vJ (M 29 5 (4 * K + J))), (6, vJ (((M 29 6 K) * (M 29 jr (31 + K))) - ((ext N (pv (9 + K)) lo hi (J : Int) 1)))), (8, vJ (((((M 29 6 K) * (M 29 jr (31 + K))) + (M 29 6 K)) - 1) - ((ext N (pv (9 + K)) lo hi (J : Int) 0)))), (10, vJ ((-((-(((M 29 6 K) * (M 29 jr (31 + K))) - ((ext N (pv (9 + K)) lo hi (J : Int) 1)))).fdiv (M 29 5 (4 * K + J)))))), (12, vJ (((((((M 29 6 K) * (M 29 jr (31 + K))) + (M 29 6 K)) - 1) - ((ext N (pv (9 + K)) lo hi (J : Int) 0))).fdiv (M 29 5 (4 * K + J)))))]) X [1, 2, 3, 4, 5, 6, 7, 8, 0] dX9_cut_141 (by decide) rfl rfl ?_
    have qf1 : pv 12 K * y K - ext N (pv (9 + K)) lo hi J 1 = (((M 29 6 K) * (M 29 jr (31 + K))) - ((ext N (pv (9 + K)) lo hi (J : Int) 1))) := by rw [← qq, ← qy]
    have qf2 : pv 12 K * y K + pv 12 K - 1 - ext N (pv (9 + K)) lo hi J 0 = (((((M 29 6 K) * (M 29 jr (31 + K))) + (M 29 6 K)) - 1) - ((ext N (pv (9 + K)) lo hi (J : Int) 0))) := by rw [← qq, ← qy]
    have hf1 : cutLo (M 29 5 (4 * K + J)) ((((M 29 6 K) * (M 29 jr (31 + K))) - ((ext N (pv (9 + K)) lo hi (J : Int) 1)))) ((((((M 29 6 K) * (M 29 jr (31 + K))) + (M 29 6 K)) - 1) - ((ext N (pv (9 + K)) lo hi (J : Int) 0)))) = ((-((-(((M 29 6 K) * (M 29 jr (31 + K))) - ((ext N (pv (9 + K)) lo hi (J : Int) 1)))).fdiv (M 29 5 (4 * K + J))))) := by unfold cutLo; first | rw [if_pos (by omega)] | rw [if_neg (by omega), Int.neg_fdiv_neg]
    have hf2 : cutHi (M 29 5 (4 * K + J)) ((((M 29 6 K) * (M 29 jr (31 + K))) - ((ext N (pv (9 + K)) lo hi (J : Int) 1)))) ((((((M 29 6 K) * (M 29 jr (31 + K))) + (M 29 6 K)) - 1) - ((ext N (pv (9 + K)) lo hi (J : Int) 0)))) = (((((((M 29 6 K) * (M 29 jr (31 + K))) + (M 29 6 K)) - 1) - ((ext N (pv (9 + K)) lo hi (J : Int) 0))).fdiv (M 29 5 (4 * K + J)))) := by unfold cutHi; first | rw [if_pos (by omega)] | rw [if_neg (by omega), Int.neg_fdiv_neg]
    have hbd := cutX_bd (c := (M 29 5 (4 * K + J))) (x := (((M 29 6 K) * (M 29 jr (31 + K))) - ((ext N (pv (9 + K)) lo hi (J : Int) 1)))) (y := (((((M 29 6 K) * (M 29 jr (31 + K))) + (M 29 6 K)) - 1) - ((ext N (pv (9 + K)) lo hi (J : Int) 0)))) (B := 100000000000) (by omega) (by omega) (by omega) (by decide)
    rw [hf1, hf2] at hbd
    have hf3 : cutA N (pv (9 + K)) (pv 12 K) (y K) J lo hi = max (((-((-(((M 29 6 K) * (M 29 jr (31 + K))) - ((ext N (pv (9 + K)) lo hi (J : Int) 1)))).fdiv (M 29 5 (4 * K + J)))))) (lo J) := by unfold cutA; rw [qf1, qf2, ← qc, hf1]
    have hf4 : cutB N (pv (9 + K)) (pv 12 K) (y K) J lo hi = min ((((((((M 29 6 K) * (M 29 jr (31 + K))) + (M 29 6 K)) - 1) - ((ext N (pv (9 + K)) lo hi (J : Int) 0))).fdiv (M 29 5 (4 * K + J))))) (hi J) := by unfold cutB; rw [qf1, qf2, ← qc, hf2]
    refine r_lload (pc' := 145) X 7 dX9_cut_143 rfl rfl ?_
    refine r_aload_n (pc' := 146) X 1 dX9_cut_145 rfl rfl rfl ?_
    refine r_iconst (pc' := 147) X dX9_cut_146 rfl ?_
    refine r_iload_n (pc' := 148) X 3 dX9_cut_147 rfl rfl rfl ?_
    refine r_iadd (pc' := 149) X dX9_cut_148 rfl ?_
    refine r_iald (i := (4 + J)) (pc' := 150) X hrw (by omega) (by omega) (by decide) dX9_cut_149 rfl ?_
    refine r_i2l (pc' := 151) X dX9_cut_150 (by omega) rfl ?_
    refine r_lcmp (pc' := 152) X dX9_cut_151 (by omega) (by omega) rfl (fun z151 z151r z151l z151e z151g => ?_)
    refine r_if_le (pc' := 155) (tgt := 159) X dX9_cut_152 rfl rfl (by omega) (fun h152 => ?_) (fun h152 => ?_)
    · refine r_iconst (pc' := 160) X dX9_cut_159 rfl ?_
      refine r_istore (pc' := 162) (lc' := [(0, vR G (29, 0)), (1, vR G (29, jr)), (2, vI (K : Int)), (3, vI (J : Int)), (4, vJ (M 29 5 (4 * K + J))), (6, vJ (((M 29 6 K) * (M 29 jr (31 + K))) - ((ext N (pv (9 + K)) lo hi (J : Int) 1)))), (8, vJ (((((M 29 6 K) * (M 29 jr (31 + K))) + (M 29 6 K)) - 1) - ((ext N (pv (9 + K)) lo hi (J : Int) 0)))), (10, vJ ((-((-(((M 29 6 K) * (M 29 jr (31 + K))) - ((ext N (pv (9 + K)) lo hi (J : Int) 1)))).fdiv (M 29 5 (4 * K + J)))))), (12, vJ (((((((M 29 6 K) * (M 29 jr (31 + K))) + (M 29 6 K)) - 1) - ((ext N (pv (9 + K)) lo hi (J : Int) 0))).fdiv (M 29 5 (4 * K + J))))), (14, vI 0)]) X [1, 2, 3, 4, 5, 6, 7, 8, 9, 0] dX9_cut_160 (by decide) rfl rfl ?_
      refine r_lload (pc' := 164) X 8 dX9_cut_162 rfl rfl ?_
      refine r_aload_n (pc' := 165) X 1 dX9_cut_164 rfl rfl rfl ?_
      refine r_bipush (pc' := 167) X dX9_cut_165 rfl rfl ?_
      refine r_iload_n (pc' := 168) X 3 dX9_cut_167 rfl rfl rfl ?_
      refine r_iadd (pc' := 169) X dX9_cut_168 rfl ?_
      refine r_iald (i := (8 + J)) (pc' := 170) X hrw (by omega) (by omega) (by decide) dX9_cut_169 rfl ?_
      refine r_i2l (pc' := 171) X dX9_cut_170 (by omega) rfl ?_
      refine r_lcmp (pc' := 172) X dX9_cut_171 (by omega) (by omega) rfl (fun z171 z171r z171l z171e z171g => ?_)
      refine r_if_ge (pc' := 175) (tgt := 179) X dX9_cut_172 rfl rfl (by omega) (fun h172 => ?_) (fun h172 => ?_)
      · refine r_iconst (pc' := 180) X dX9_cut_179 rfl ?_
        refine r_istore (pc' := 182) (lc' := [(0, vR G (29, 0)), (1, vR G (29, jr)), (2, vI (K : Int)), (3, vI (J : Int)), (4, vJ (M 29 5 (4 * K + J))), (6, vJ (((M 29 6 K) * (M 29 jr (31 + K))) - ((ext N (pv (9 + K)) lo hi (J : Int) 1)))), (8, vJ (((((M 29 6 K) * (M 29 jr (31 + K))) + (M 29 6 K)) - 1) - ((ext N (pv (9 + K)) lo hi (J : Int) 0)))), (10, vJ ((-((-(((M 29 6 K) * (M 29 jr (31 + K))) - ((ext N (pv (9 + K)) lo hi (J : Int) 1)))).fdiv (M 29 5 (4 * K + J)))))), (12, vJ (((((((M 29 6 K) * (M 29 jr (31 + K))) + (M 29 6 K)) - 1) - ((ext N (pv (9 + K)) lo hi (J : Int) 0))).fdiv (M 29 5 (4 * K + J))))), (14, vI 0), (15, vI 0)]) X [1, 2, 3, 4, 5, 6, 7, 8, 9, 10, 0] dX9_cut_180 (by decide) rfl rfl ?_
        refine r_iload (pc' := 184) X 9 dX9_cut_182 rfl rfl ?_
        refine r_if_eq (pc' := 187) (tgt := 200) X dX9_cut_184 rfl rfl (by omega) (fun h184 => ?_) (fun h184 => absurd h184 (by decide))
        refine r_iload (pc' := 202) X 10 dX9_cut_200 rfl rfl ?_
        refine r_if_eq (pc' := 205) (tgt := 217) X dX9_cut_202 rfl rfl (by omega) (fun h202 => ?_) (fun h202 => absurd h202 (by decide))
        refine r_lload (pc' := 219) X 7 dX9_cut_217 rfl rfl ?_
        refine r_lload (pc' := 221) X 8 dX9_cut_219 rfl rfl ?_
        refine r_lcmp (pc' := 222) X dX9_cut_221 (by omega) (by omega) rfl (fun z221 z221r z221l z221e z221g => ?_)
        refine r_if_le (pc' := 225) (tgt := 227) X dX9_cut_222 rfl rfl (by omega) (fun h222 => ?_) (fun h222 => ?_)
        · refine r_aload_n (pc' := 228) X 1 dX9_cut_227 rfl rfl rfl ?_
          refine r_iconst (pc' := 229) X dX9_cut_228 rfl ?_
          refine r_iload_n (pc' := 230) X 3 dX9_cut_229 rfl rfl rfl ?_
          refine r_iadd (pc' := 231) X dX9_cut_230 rfl ?_
          refine r_iload (pc' := 233) X 9 dX9_cut_231 rfl rfl ?_
          refine r_if_eq (pc' := 236) (tgt := 242) X dX9_cut_233 rfl rfl (by omega) (fun h233 => ?_) (fun h233 => absurd h233 (by decide))
          refine r_aload_n (pc' := 243) X 1 dX9_cut_242 rfl rfl rfl ?_
          refine r_iconst (pc' := 244) X dX9_cut_243 rfl ?_
          refine r_iload_n (pc' := 245) X 3 dX9_cut_244 rfl rfl rfl ?_
          refine r_iadd (pc' := 246) X dX9_cut_245 rfl ?_
          refine r_iald (i := (4 + J)) (pc' := 247) X hrw (by omega) (by omega) (by decide) dX9_cut_246 rfl ?_
          refine r_iast (i := (4 + J)) (pc' := 248) X hrw (by omega) (by omega) (by decide) dX9_cut_247 rfl (fun M15 hM15 => ?_)
          have e8 : M15 29 jr (8 + J) = hi J := by rw [hM15]; unfold wu; rw [if_neg (by omega)]; exact huj
          refine r_aload_n (pc' := 249) X 1 dX9_cut_248 rfl rfl rfl ?_
          refine r_bipush (pc' := 251) X dX9_cut_249 rfl rfl ?_
          refine r_iload_n (pc' := 252) X 3 dX9_cut_251 rfl rfl rfl ?_
          refine r_iadd (pc' := 253) X dX9_cut_252 rfl ?_
          refine r_iload (pc' := 255) X 10 dX9_cut_253 rfl rfl ?_
          refine r_if_eq (pc' := 258) (tgt := 264) X dX9_cut_255 rfl rfl (by omega) (fun h255 => ?_) (fun h255 => absurd h255 (by decide))
          refine r_aload_n (pc' := 265) X 1 dX9_cut_264 rfl rfl rfl ?_
          refine r_bipush (pc' := 267) X dX9_cut_265 rfl rfl ?_
          refine r_iload_n (pc' := 268) X 3 dX9_cut_267 rfl rfl rfl ?_
          refine r_iadd (pc' := 269) X dX9_cut_268 rfl ?_
          refine r_iald (i := (8 + J)) (pc' := 270) X hrw (by omega) (by omega) (by decide) dX9_cut_269 rfl ?_
          refine r_iast (i := (8 + J)) (pc' := 271) X hrw (by omega) (by omega) (by decide) dX9_cut_270 rfl (fun M16 hM16 => ?_)
          refine r_iload (pc' := 273) X 9 dX9_cut_271 rfl rfl ?_
          refine r_if_ne (pc' := 276) (tgt := 281) X dX9_cut_273 rfl rfl (by omega) (fun h273 => absurd h273 (by decide)) (fun h273 => ?_)
          refine r_iload (pc' := 278) X 10 dX9_cut_276 rfl rfl ?_
          refine r_if_eq (pc' := 281) (tgt := 285) X dX9_cut_278 rfl rfl (by omega) (fun h278 => ?_) (fun h278 => absurd h278 (by decide))
          refine r_iconst (pc' := 286) X dX9_cut_285 rfl ?_
          refine w_iret X hr dX9_cut_286 ?_
          try dsimp only
          first
            | (rw [cut1_same (show pv (9 + K) J ≠ 0 by omega) (by rw [hf3, hf4]; omega) (by rw [hf3, hf4]; omega)]
               refine ⟨rfl, fun i hi0 => ⟨?_, ?_⟩, fun a b x q => ?_⟩
               · rw [hM16]; unfold wu; rw [if_neg (by omega), hM15]; unfold wu
                 by_cases q : i = J
                 · rw [if_pos ⟨rfl, rfl, by omega⟩, q]; exact hlj
                 · rw [if_neg (by omega)]; exact hlo i hi0
               · rw [hM16]; unfold wu
                 by_cases q : i = J
                 · rw [if_pos ⟨rfl, rfl, by omega⟩, q]; exact e8
                 · rw [if_neg (by omega), hM15]; unfold wu; rw [if_neg (by omega)]; exact hhi i hi0
               · rw [hM16]; unfold wu; rw [if_neg (by omega), hM15]; unfold wu; rw [if_neg (by omega)])
            | (rw [cut1_new (show pv (9 + K) J ≠ 0 by omega) (by rw [hf3, hf4]; omega) (by rw [hf3, hf4]; omega), hf3, hf4]
               refine ⟨rfl, fun i hi0 => ⟨?_, ?_⟩, fun a b x q => ?_⟩
               · rw [hM16]; unfold wu; rw [if_neg (by omega), hM15]; unfold wu
                 show _ = (if i = J then _ else lo i)
                 by_cases q : i = J
                 · rw [if_pos ⟨rfl, rfl, by omega⟩, if_pos q]; omega
                 · rw [if_neg (by omega), if_neg q]; exact hlo i hi0
               · rw [hM16]; unfold wu
                 show _ = (if i = J then _ else hi i)
                 by_cases q : i = J
                 · rw [if_pos ⟨rfl, rfl, by omega⟩, if_pos q]; omega
                 · rw [if_neg (by omega), if_neg q, hM15]; unfold wu; rw [if_neg (by omega)]; exact hhi i hi0
               · rw [hM16]; unfold wu; rw [if_neg (by omega), hM15]; unfold wu; rw [if_neg (by omega)])
        · refine r_iconst (pc' := 226) X dX9_cut_225 rfl ?_
          refine w_iret X hr dX9_cut_226 ?_
          try dsimp only
          rw [cut1_empty (show pv (9 + K) J ≠ 0 by omega) (by rw [hf3, hf4]; omega)]
          exact ⟨rfl, fun i hi0 => ⟨hlo i hi0, hhi i hi0⟩, fun _ _ _ _ => rfl⟩
      · refine r_iconst (pc' := 176) X dX9_cut_175 rfl ?_
        refine r_goto (tgt := 180) X dX9_cut_176 rfl ?_
        refine r_istore (pc' := 182) (lc' := [(0, vR G (29, 0)), (1, vR G (29, jr)), (2, vI (K : Int)), (3, vI (J : Int)), (4, vJ (M 29 5 (4 * K + J))), (6, vJ (((M 29 6 K) * (M 29 jr (31 + K))) - ((ext N (pv (9 + K)) lo hi (J : Int) 1)))), (8, vJ (((((M 29 6 K) * (M 29 jr (31 + K))) + (M 29 6 K)) - 1) - ((ext N (pv (9 + K)) lo hi (J : Int) 0)))), (10, vJ ((-((-(((M 29 6 K) * (M 29 jr (31 + K))) - ((ext N (pv (9 + K)) lo hi (J : Int) 1)))).fdiv (M 29 5 (4 * K + J)))))), (12, vJ (((((((M 29 6 K) * (M 29 jr (31 + K))) + (M 29 6 K)) - 1) - ((ext N (pv (9 + K)) lo hi (J : Int) 0))).fdiv (M 29 5 (4 * K + J))))), (14, vI 0), (15, vI 1)]) X [1, 2, 3, 4, 5, 6, 7, 8, 9, 10, 0] dX9_cut_180 (by decide) rfl rfl ?_
        refine r_iload (pc' := 184) X 9 dX9_cut_182 rfl rfl ?_
        refine r_if_eq (pc' := 187) (tgt := 200) X dX9_cut_184 rfl rfl (by omega) (fun h184 => ?_) (fun h184 => absurd h184 (by decide))
        refine r_iload (pc' := 202) X 10 dX9_cut_200 rfl rfl ?_
        refine r_if_eq (pc' := 205) (tgt := 217) X dX9_cut_202 rfl rfl (by omega) (fun h202 => absurd h202 (by decide)) (fun h202 => ?_)
        refine r_lload (pc' := 207) X 8 dX9_cut_205 rfl rfl ?_
        refine r_aload_n (pc' := 208) X 1 dX9_cut_207 rfl rfl rfl ?_
        refine r_iconst (pc' := 209) X dX9_cut_208 rfl ?_
        refine r_iload_n (pc' := 210) X 3 dX9_cut_209 rfl rfl rfl ?_
        refine r_iadd (pc' := 211) X dX9_cut_210 rfl ?_
        refine r_iald (i := (4 + J)) (pc' := 212) X hrw (by omega) (by omega) (by decide) dX9_cut_211 rfl ?_
        refine r_i2l (pc' := 213) X dX9_cut_212 (by omega) rfl ?_
        refine r_lcmp (pc' := 214) X dX9_cut_213 (by omega) (by omega) rfl (fun z213 z213r z213l z213e z213g => ?_)
        refine r_if_lt (pc' := 217) (tgt := 225) X dX9_cut_214 rfl rfl (by omega) (fun h214 => ?_) (fun h214 => ?_)
        · refine r_iconst (pc' := 226) X dX9_cut_225 rfl ?_
          refine w_iret X hr dX9_cut_226 ?_
          try dsimp only
          rw [cut1_empty (show pv (9 + K) J ≠ 0 by omega) (by rw [hf3, hf4]; omega)]
          exact ⟨rfl, fun i hi0 => ⟨hlo i hi0, hhi i hi0⟩, fun _ _ _ _ => rfl⟩
        · refine r_lload (pc' := 219) X 7 dX9_cut_217 rfl rfl ?_
          refine r_lload (pc' := 221) X 8 dX9_cut_219 rfl rfl ?_
          refine r_lcmp (pc' := 222) X dX9_cut_221 (by omega) (by omega) rfl (fun z221 z221r z221l z221e z221g => ?_)
          refine r_if_le (pc' := 225) (tgt := 227) X dX9_cut_222 rfl rfl (by omega) (fun h222 => ?_) (fun h222 => ?_)
          · refine r_aload_n (pc' := 228) X 1 dX9_cut_227 rfl rfl rfl ?_
            refine r_iconst (pc' := 229) X dX9_cut_228 rfl ?_
            refine r_iload_n (pc' := 230) X 3 dX9_cut_229 rfl rfl rfl ?_
            refine r_iadd (pc' := 231) X dX9_cut_230 rfl ?_
            refine r_iload (pc' := 233) X 9 dX9_cut_231 rfl rfl ?_
            refine r_if_eq (pc' := 236) (tgt := 242) X dX9_cut_233 rfl rfl (by omega) (fun h233 => ?_) (fun h233 => absurd h233 (by decide))
            refine r_aload_n (pc' := 243) X 1 dX9_cut_242 rfl rfl rfl ?_
            refine r_iconst (pc' := 244) X dX9_cut_243 rfl ?_
            refine r_iload_n (pc' := 245) X 3 dX9_cut_244 rfl rfl rfl ?_
            refine r_iadd (pc' := 246) X dX9_cut_245 rfl ?_
            refine r_iald (i := (4 + J)) (pc' := 247) X hrw (by omega) (by omega) (by decide) dX9_cut_246 rfl ?_
            refine r_iast (i := (4 + J)) (pc' := 248) X hrw (by omega) (by omega) (by decide) dX9_cut_247 rfl (fun M17 hM17 => ?_)
            have e8 : M17 29 jr (8 + J) = hi J := by rw [hM17]; unfold wu; rw [if_neg (by omega)]; exact huj
            refine r_aload_n (pc' := 249) X 1 dX9_cut_248 rfl rfl rfl ?_
            refine r_bipush (pc' := 251) X dX9_cut_249 rfl rfl ?_
            refine r_iload_n (pc' := 252) X 3 dX9_cut_251 rfl rfl rfl ?_
            refine r_iadd (pc' := 253) X dX9_cut_252 rfl ?_
            refine r_iload (pc' := 255) X 10 dX9_cut_253 rfl rfl ?_
            refine r_if_eq (pc' := 258) (tgt := 264) X dX9_cut_255 rfl rfl (by omega) (fun h255 => absurd h255 (by decide)) (fun h255 => ?_)
            refine r_lload (pc' := 260) X 8 dX9_cut_258 rfl rfl ?_
            refine r_l2i (pc' := 261) X dX9_cut_260 rfl ?_
            refine r_goto (tgt := 270) X dX9_cut_261 rfl ?_
            refine r_iast (i := (8 + J)) (pc' := 271) X hrw (by omega) (by omega) (by decide) dX9_cut_270 rfl (fun M18 hM18 => ?_)
            refine r_iload (pc' := 273) X 9 dX9_cut_271 rfl rfl ?_
            refine r_if_ne (pc' := 276) (tgt := 281) X dX9_cut_273 rfl rfl (by omega) (fun h273 => absurd h273 (by decide)) (fun h273 => ?_)
            refine r_iload (pc' := 278) X 10 dX9_cut_276 rfl rfl ?_
            refine r_if_eq (pc' := 281) (tgt := 285) X dX9_cut_278 rfl rfl (by omega) (fun h278 => absurd h278 (by decide)) (fun h278 => ?_)
            refine r_iconst (pc' := 282) X dX9_cut_281 rfl ?_
            refine r_goto (tgt := 286) X dX9_cut_282 rfl ?_
            refine w_iret X hr dX9_cut_286 ?_
            try dsimp only
            first
              | (rw [cut1_same (show pv (9 + K) J ≠ 0 by omega) (by rw [hf3, hf4]; omega) (by rw [hf3, hf4]; omega)]
                 refine ⟨rfl, fun i hi0 => ⟨?_, ?_⟩, fun a b x q => ?_⟩
                 · rw [hM18]; unfold wu; rw [if_neg (by omega), hM17]; unfold wu
                   by_cases q : i = J
                   · rw [if_pos ⟨rfl, rfl, by omega⟩, q]; exact hlj
                   · rw [if_neg (by omega)]; exact hlo i hi0
                 · rw [hM18]; unfold wu
                   by_cases q : i = J
                   · rw [if_pos ⟨rfl, rfl, by omega⟩, q]; exact e8
                   · rw [if_neg (by omega), hM17]; unfold wu; rw [if_neg (by omega)]; exact hhi i hi0
                 · rw [hM18]; unfold wu; rw [if_neg (by omega), hM17]; unfold wu; rw [if_neg (by omega)])
              | (rw [cut1_new (show pv (9 + K) J ≠ 0 by omega) (by rw [hf3, hf4]; omega) (by rw [hf3, hf4]; omega), hf3, hf4]
                 refine ⟨rfl, fun i hi0 => ⟨?_, ?_⟩, fun a b x q => ?_⟩
                 · rw [hM18]; unfold wu; rw [if_neg (by omega), hM17]; unfold wu
                   show _ = (if i = J then _ else lo i)
                   by_cases q : i = J
                   · rw [if_pos ⟨rfl, rfl, by omega⟩, if_pos q]; omega
                   · rw [if_neg (by omega), if_neg q]; exact hlo i hi0
                 · rw [hM18]; unfold wu
                   show _ = (if i = J then _ else hi i)
                   by_cases q : i = J
                   · rw [if_pos ⟨rfl, rfl, by omega⟩, if_pos q]; omega
                   · rw [if_neg (by omega), if_neg q, hM17]; unfold wu; rw [if_neg (by omega)]; exact hhi i hi0
                 · rw [hM18]; unfold wu; rw [if_neg (by omega), hM17]; unfold wu; rw [if_neg (by omega)])
          · refine r_iconst (pc' := 226) X dX9_cut_225 rfl ?_
            refine w_iret X hr dX9_cut_226 ?_
            try dsimp only
            rw [cut1_empty (show pv (9 + K) J ≠ 0 by omega) (by rw [hf3, hf4]; omega)]
            exact ⟨rfl, fun i hi0 => ⟨hlo i hi0, hhi i hi0⟩, fun _ _ _ _ => rfl⟩
    · refine r_iconst (pc' := 156) X dX9_cut_155 rfl ?_
      refine r_goto (tgt := 160) X dX9_cut_156 rfl ?_
      refine r_istore (pc' := 162) (lc' := [(0, vR G (29, 0)), (1, vR G (29, jr)), (2, vI (K : Int)), (3, vI (J : Int)), (4, vJ (M 29 5 (4 * K + J))), (6, vJ (((M 29 6 K) * (M 29 jr (31 + K))) - ((ext N (pv (9 + K)) lo hi (J : Int) 1)))), (8, vJ (((((M 29 6 K) * (M 29 jr (31 + K))) + (M 29 6 K)) - 1) - ((ext N (pv (9 + K)) lo hi (J : Int) 0)))), (10, vJ ((-((-(((M 29 6 K) * (M 29 jr (31 + K))) - ((ext N (pv (9 + K)) lo hi (J : Int) 1)))).fdiv (M 29 5 (4 * K + J)))))), (12, vJ (((((((M 29 6 K) * (M 29 jr (31 + K))) + (M 29 6 K)) - 1) - ((ext N (pv (9 + K)) lo hi (J : Int) 0))).fdiv (M 29 5 (4 * K + J))))), (14, vI 1)]) X [1, 2, 3, 4, 5, 6, 7, 8, 9, 0] dX9_cut_160 (by decide) rfl rfl ?_
      refine r_lload (pc' := 164) X 8 dX9_cut_162 rfl rfl ?_
      refine r_aload_n (pc' := 165) X 1 dX9_cut_164 rfl rfl rfl ?_
      refine r_bipush (pc' := 167) X dX9_cut_165 rfl rfl ?_
      refine r_iload_n (pc' := 168) X 3 dX9_cut_167 rfl rfl rfl ?_
      refine r_iadd (pc' := 169) X dX9_cut_168 rfl ?_
      refine r_iald (i := (8 + J)) (pc' := 170) X hrw (by omega) (by omega) (by decide) dX9_cut_169 rfl ?_
      refine r_i2l (pc' := 171) X dX9_cut_170 (by omega) rfl ?_
      refine r_lcmp (pc' := 172) X dX9_cut_171 (by omega) (by omega) rfl (fun z171 z171r z171l z171e z171g => ?_)
      refine r_if_ge (pc' := 175) (tgt := 179) X dX9_cut_172 rfl rfl (by omega) (fun h172 => ?_) (fun h172 => ?_)
      · refine r_iconst (pc' := 180) X dX9_cut_179 rfl ?_
        refine r_istore (pc' := 182) (lc' := [(0, vR G (29, 0)), (1, vR G (29, jr)), (2, vI (K : Int)), (3, vI (J : Int)), (4, vJ (M 29 5 (4 * K + J))), (6, vJ (((M 29 6 K) * (M 29 jr (31 + K))) - ((ext N (pv (9 + K)) lo hi (J : Int) 1)))), (8, vJ (((((M 29 6 K) * (M 29 jr (31 + K))) + (M 29 6 K)) - 1) - ((ext N (pv (9 + K)) lo hi (J : Int) 0)))), (10, vJ ((-((-(((M 29 6 K) * (M 29 jr (31 + K))) - ((ext N (pv (9 + K)) lo hi (J : Int) 1)))).fdiv (M 29 5 (4 * K + J)))))), (12, vJ (((((((M 29 6 K) * (M 29 jr (31 + K))) + (M 29 6 K)) - 1) - ((ext N (pv (9 + K)) lo hi (J : Int) 0))).fdiv (M 29 5 (4 * K + J))))), (14, vI 1), (15, vI 0)]) X [1, 2, 3, 4, 5, 6, 7, 8, 9, 10, 0] dX9_cut_180 (by decide) rfl rfl ?_
        refine r_iload (pc' := 184) X 9 dX9_cut_182 rfl rfl ?_
        refine r_if_eq (pc' := 187) (tgt := 200) X dX9_cut_184 rfl rfl (by omega) (fun h184 => absurd h184 (by decide)) (fun h184 => ?_)
        refine r_lload (pc' := 189) X 7 dX9_cut_187 rfl rfl ?_
        refine r_aload_n (pc' := 190) X 1 dX9_cut_189 rfl rfl rfl ?_
        refine r_bipush (pc' := 192) X dX9_cut_190 rfl rfl ?_
        refine r_iload_n (pc' := 193) X 3 dX9_cut_192 rfl rfl rfl ?_
        refine r_iadd (pc' := 194) X dX9_cut_193 rfl ?_
        refine r_iald (i := (8 + J)) (pc' := 195) X hrw (by omega) (by omega) (by decide) dX9_cut_194 rfl ?_
        refine r_i2l (pc' := 196) X dX9_cut_195 (by omega) rfl ?_
        refine r_lcmp (pc' := 197) X dX9_cut_196 (by omega) (by omega) rfl (fun z196 z196r z196l z196e z196g => ?_)
        refine r_if_gt (pc' := 200) (tgt := 225) X dX9_cut_197 rfl rfl (by omega) (fun h197 => ?_) (fun h197 => ?_)
        · refine r_iconst (pc' := 226) X dX9_cut_225 rfl ?_
          refine w_iret X hr dX9_cut_226 ?_
          try dsimp only
          rw [cut1_empty (show pv (9 + K) J ≠ 0 by omega) (by rw [hf3, hf4]; omega)]
          exact ⟨rfl, fun i hi0 => ⟨hlo i hi0, hhi i hi0⟩, fun _ _ _ _ => rfl⟩
        · refine r_iload (pc' := 202) X 10 dX9_cut_200 rfl rfl ?_
          refine r_if_eq (pc' := 205) (tgt := 217) X dX9_cut_202 rfl rfl (by omega) (fun h202 => ?_) (fun h202 => absurd h202 (by decide))
          refine r_lload (pc' := 219) X 7 dX9_cut_217 rfl rfl ?_
          refine r_lload (pc' := 221) X 8 dX9_cut_219 rfl rfl ?_
          refine r_lcmp (pc' := 222) X dX9_cut_221 (by omega) (by omega) rfl (fun z221 z221r z221l z221e z221g => ?_)
          refine r_if_le (pc' := 225) (tgt := 227) X dX9_cut_222 rfl rfl (by omega) (fun h222 => ?_) (fun h222 => ?_)
          · refine r_aload_n (pc' := 228) X 1 dX9_cut_227 rfl rfl rfl ?_
            refine r_iconst (pc' := 229) X dX9_cut_228 rfl ?_
            refine r_iload_n (pc' := 230) X 3 dX9_cut_229 rfl rfl rfl ?_
            refine r_iadd (pc' := 231) X dX9_cut_230 rfl ?_
            refine r_iload (pc' := 233) X 9 dX9_cut_231 rfl rfl ?_
            refine r_if_eq (pc' := 236) (tgt := 242) X dX9_cut_233 rfl rfl (by omega) (fun h233 => absurd h233 (by decide)) (fun h233 => ?_)
            refine r_lload (pc' := 238) X 7 dX9_cut_236 rfl rfl ?_
            refine r_l2i (pc' := 239) X dX9_cut_238 rfl ?_
            refine r_goto (tgt := 247) X dX9_cut_239 rfl ?_
            refine r_iast (i := (4 + J)) (pc' := 248) X hrw (by omega) (by omega) (by decide) dX9_cut_247 rfl (fun M19 hM19 => ?_)
            have e8 : M19 29 jr (8 + J) = hi J := by rw [hM19]; unfold wu; rw [if_neg (by omega)]; exact huj
            refine r_aload_n (pc' := 249) X 1 dX9_cut_248 rfl rfl rfl ?_
            refine r_bipush (pc' := 251) X dX9_cut_249 rfl rfl ?_
            refine r_iload_n (pc' := 252) X 3 dX9_cut_251 rfl rfl rfl ?_
            refine r_iadd (pc' := 253) X dX9_cut_252 rfl ?_
            refine r_iload (pc' := 255) X 10 dX9_cut_253 rfl rfl ?_
            refine r_if_eq (pc' := 258) (tgt := 264) X dX9_cut_255 rfl rfl (by omega) (fun h255 => ?_) (fun h255 => absurd h255 (by decide))
            refine r_aload_n (pc' := 265) X 1 dX9_cut_264 rfl rfl rfl ?_
            refine r_bipush (pc' := 267) X dX9_cut_265 rfl rfl ?_
            refine r_iload_n (pc' := 268) X 3 dX9_cut_267 rfl rfl rfl ?_
            refine r_iadd (pc' := 269) X dX9_cut_268 rfl ?_
            refine r_iald (i := (8 + J)) (pc' := 270) X hrw (by omega) (by omega) (by decide) dX9_cut_269 rfl ?_
            refine r_iast (i := (8 + J)) (pc' := 271) X hrw (by omega) (by omega) (by decide) dX9_cut_270 rfl (fun M20 hM20 => ?_)
            refine r_iload (pc' := 273) X 9 dX9_cut_271 rfl rfl ?_
            refine r_if_ne (pc' := 276) (tgt := 281) X dX9_cut_273 rfl rfl (by omega) (fun h273 => ?_) (fun h273 => absurd h273 (by decide))
            refine r_iconst (pc' := 282) X dX9_cut_281 rfl ?_
            refine r_goto (tgt := 286) X dX9_cut_282 rfl ?_
            refine w_iret X hr dX9_cut_286 ?_
            try dsimp only
            first
              | (rw [cut1_same (show pv (9 + K) J ≠ 0 by omega) (by rw [hf3, hf4]; omega) (by rw [hf3, hf4]; omega)]
                 refine ⟨rfl, fun i hi0 => ⟨?_, ?_⟩, fun a b x q => ?_⟩
                 · rw [hM20]; unfold wu; rw [if_neg (by omega), hM19]; unfold wu
                   by_cases q : i = J
                   · rw [if_pos ⟨rfl, rfl, by omega⟩, q]; exact hlj
                   · rw [if_neg (by omega)]; exact hlo i hi0
                 · rw [hM20]; unfold wu
                   by_cases q : i = J
                   · rw [if_pos ⟨rfl, rfl, by omega⟩, q]; exact e8
                   · rw [if_neg (by omega), hM19]; unfold wu; rw [if_neg (by omega)]; exact hhi i hi0
                 · rw [hM20]; unfold wu; rw [if_neg (by omega), hM19]; unfold wu; rw [if_neg (by omega)])
              | (rw [cut1_new (show pv (9 + K) J ≠ 0 by omega) (by rw [hf3, hf4]; omega) (by rw [hf3, hf4]; omega), hf3, hf4]
                 refine ⟨rfl, fun i hi0 => ⟨?_, ?_⟩, fun a b x q => ?_⟩
                 · rw [hM20]; unfold wu; rw [if_neg (by omega), hM19]; unfold wu
                   show _ = (if i = J then _ else lo i)
                   by_cases q : i = J
                   · rw [if_pos ⟨rfl, rfl, by omega⟩, if_pos q]; omega
                   · rw [if_neg (by omega), if_neg q]; exact hlo i hi0
                 · rw [hM20]; unfold wu
                   show _ = (if i = J then _ else hi i)
                   by_cases q : i = J
                   · rw [if_pos ⟨rfl, rfl, by omega⟩, if_pos q]; omega
                   · rw [if_neg (by omega), if_neg q, hM19]; unfold wu; rw [if_neg (by omega)]; exact hhi i hi0
                 · rw [hM20]; unfold wu; rw [if_neg (by omega), hM19]; unfold wu; rw [if_neg (by omega)])
          · refine r_iconst (pc' := 226) X dX9_cut_225 rfl ?_
            refine w_iret X hr dX9_cut_226 ?_
            try dsimp only
            rw [cut1_empty (show pv (9 + K) J ≠ 0 by omega) (by rw [hf3, hf4]; omega)]
            exact ⟨rfl, fun i hi0 => ⟨hlo i hi0, hhi i hi0⟩, fun _ _ _ _ => rfl⟩
      · refine r_iconst (pc' := 176) X dX9_cut_175 rfl ?_
        refine r_goto (tgt := 180) X dX9_cut_176 rfl ?_
        refine r_istore (pc' := 182) (lc' := [(0, vR G (29, 0)), (1, vR G (29, jr)), (2, vI (K : Int)), (3, vI (J : Int)), (4, vJ (M 29 5 (4 * K + J))), (6, vJ (((M 29 6 K) * (M 29 jr (31 + K))) - ((ext N (pv (9 + K)) lo hi (J : Int) 1)))), (8, vJ (((((M 29 6 K) * (M 29 jr (31 + K))) + (M 29 6 K)) - 1) - ((ext N (pv (9 + K)) lo hi (J : Int) 0)))), (10, vJ ((-((-(((M 29 6 K) * (M 29 jr (31 + K))) - ((ext N (pv (9 + K)) lo hi (J : Int) 1)))).fdiv (M 29 5 (4 * K + J)))))), (12, vJ (((((((M 29 6 K) * (M 29 jr (31 + K))) + (M 29 6 K)) - 1) - ((ext N (pv (9 + K)) lo hi (J : Int) 0))).fdiv (M 29 5 (4 * K + J))))), (14, vI 1), (15, vI 1)]) X [1, 2, 3, 4, 5, 6, 7, 8, 9, 10, 0] dX9_cut_180 (by decide) rfl rfl ?_
        refine r_iload (pc' := 184) X 9 dX9_cut_182 rfl rfl ?_
        refine r_if_eq (pc' := 187) (tgt := 200) X dX9_cut_184 rfl rfl (by omega) (fun h184 => absurd h184 (by decide)) (fun h184 => ?_)
        refine r_lload (pc' := 189) X 7 dX9_cut_187 rfl rfl ?_
        refine r_aload_n (pc' := 190) X 1 dX9_cut_189 rfl rfl rfl ?_
        refine r_bipush (pc' := 192) X dX9_cut_190 rfl rfl ?_
        refine r_iload_n (pc' := 193) X 3 dX9_cut_192 rfl rfl rfl ?_
        refine r_iadd (pc' := 194) X dX9_cut_193 rfl ?_
        refine r_iald (i := (8 + J)) (pc' := 195) X hrw (by omega) (by omega) (by decide) dX9_cut_194 rfl ?_
        refine r_i2l (pc' := 196) X dX9_cut_195 (by omega) rfl ?_
        refine r_lcmp (pc' := 197) X dX9_cut_196 (by omega) (by omega) rfl (fun z196 z196r z196l z196e z196g => ?_)
        refine r_if_gt (pc' := 200) (tgt := 225) X dX9_cut_197 rfl rfl (by omega) (fun h197 => ?_) (fun h197 => ?_)
        · refine r_iconst (pc' := 226) X dX9_cut_225 rfl ?_
          refine w_iret X hr dX9_cut_226 ?_
          try dsimp only
          rw [cut1_empty (show pv (9 + K) J ≠ 0 by omega) (by rw [hf3, hf4]; omega)]
          exact ⟨rfl, fun i hi0 => ⟨hlo i hi0, hhi i hi0⟩, fun _ _ _ _ => rfl⟩
        · refine r_iload (pc' := 202) X 10 dX9_cut_200 rfl rfl ?_
          refine r_if_eq (pc' := 205) (tgt := 217) X dX9_cut_202 rfl rfl (by omega) (fun h202 => absurd h202 (by decide)) (fun h202 => ?_)
          refine r_lload (pc' := 207) X 8 dX9_cut_205 rfl rfl ?_
          refine r_aload_n (pc' := 208) X 1 dX9_cut_207 rfl rfl rfl ?_
          refine r_iconst (pc' := 209) X dX9_cut_208 rfl ?_
          refine r_iload_n (pc' := 210) X 3 dX9_cut_209 rfl rfl rfl ?_
          refine r_iadd (pc' := 211) X dX9_cut_210 rfl ?_
          refine r_iald (i := (4 + J)) (pc' := 212) X hrw (by omega) (by omega) (by decide) dX9_cut_211 rfl ?_
          refine r_i2l (pc' := 213) X dX9_cut_212 (by omega) rfl ?_
          refine r_lcmp (pc' := 214) X dX9_cut_213 (by omega) (by omega) rfl (fun z213 z213r z213l z213e z213g => ?_)
          refine r_if_lt (pc' := 217) (tgt := 225) X dX9_cut_214 rfl rfl (by omega) (fun h214 => ?_) (fun h214 => ?_)
          · refine r_iconst (pc' := 226) X dX9_cut_225 rfl ?_
            refine w_iret X hr dX9_cut_226 ?_
            try dsimp only
            rw [cut1_empty (show pv (9 + K) J ≠ 0 by omega) (by rw [hf3, hf4]; omega)]
            exact ⟨rfl, fun i hi0 => ⟨hlo i hi0, hhi i hi0⟩, fun _ _ _ _ => rfl⟩
          · refine r_lload (pc' := 219) X 7 dX9_cut_217 rfl rfl ?_
            refine r_lload (pc' := 221) X 8 dX9_cut_219 rfl rfl ?_
            refine r_lcmp (pc' := 222) X dX9_cut_221 (by omega) (by omega) rfl (fun z221 z221r z221l z221e z221g => ?_)
            refine r_if_le (pc' := 225) (tgt := 227) X dX9_cut_222 rfl rfl (by omega) (fun h222 => ?_) (fun h222 => ?_)
            · refine r_aload_n (pc' := 228) X 1 dX9_cut_227 rfl rfl rfl ?_
              refine r_iconst (pc' := 229) X dX9_cut_228 rfl ?_
              refine r_iload_n (pc' := 230) X 3 dX9_cut_229 rfl rfl rfl ?_
              refine r_iadd (pc' := 231) X dX9_cut_230 rfl ?_
              refine r_iload (pc' := 233) X 9 dX9_cut_231 rfl rfl ?_
              refine r_if_eq (pc' := 236) (tgt := 242) X dX9_cut_233 rfl rfl (by omega) (fun h233 => absurd h233 (by decide)) (fun h233 => ?_)
              refine r_lload (pc' := 238) X 7 dX9_cut_236 rfl rfl ?_
              refine r_l2i (pc' := 239) X dX9_cut_238 rfl ?_
              refine r_goto (tgt := 247) X dX9_cut_239 rfl ?_
              refine r_iast (i := (4 + J)) (pc' := 248) X hrw (by omega) (by omega) (by decide) dX9_cut_247 rfl (fun M21 hM21 => ?_)
              have e8 : M21 29 jr (8 + J) = hi J := by rw [hM21]; unfold wu; rw [if_neg (by omega)]; exact huj
              refine r_aload_n (pc' := 249) X 1 dX9_cut_248 rfl rfl rfl ?_
              refine r_bipush (pc' := 251) X dX9_cut_249 rfl rfl ?_
              refine r_iload_n (pc' := 252) X 3 dX9_cut_251 rfl rfl rfl ?_
              refine r_iadd (pc' := 253) X dX9_cut_252 rfl ?_
              refine r_iload (pc' := 255) X 10 dX9_cut_253 rfl rfl ?_
              refine r_if_eq (pc' := 258) (tgt := 264) X dX9_cut_255 rfl rfl (by omega) (fun h255 => absurd h255 (by decide)) (fun h255 => ?_)
              refine r_lload (pc' := 260) X 8 dX9_cut_258 rfl rfl ?_
              refine r_l2i (pc' := 261) X dX9_cut_260 rfl ?_
              refine r_goto (tgt := 270) X dX9_cut_261 rfl ?_
              refine r_iast (i := (8 + J)) (pc' := 271) X hrw (by omega) (by omega) (by decide) dX9_cut_270 rfl (fun M22 hM22 => ?_)
              refine r_iload (pc' := 273) X 9 dX9_cut_271 rfl rfl ?_
              refine r_if_ne (pc' := 276) (tgt := 281) X dX9_cut_273 rfl rfl (by omega) (fun h273 => ?_) (fun h273 => absurd h273 (by decide))
              refine r_iconst (pc' := 282) X dX9_cut_281 rfl ?_
              refine r_goto (tgt := 286) X dX9_cut_282 rfl ?_
              refine w_iret X hr dX9_cut_286 ?_
              try dsimp only
              first
                | (rw [cut1_same (show pv (9 + K) J ≠ 0 by omega) (by rw [hf3, hf4]; omega) (by rw [hf3, hf4]; omega)]
                   refine ⟨rfl, fun i hi0 => ⟨?_, ?_⟩, fun a b x q => ?_⟩
                   · rw [hM22]; unfold wu; rw [if_neg (by omega), hM21]; unfold wu
                     by_cases q : i = J
                     · rw [if_pos ⟨rfl, rfl, by omega⟩, q]; exact hlj
                     · rw [if_neg (by omega)]; exact hlo i hi0
                   · rw [hM22]; unfold wu
                     by_cases q : i = J
                     · rw [if_pos ⟨rfl, rfl, by omega⟩, q]; exact e8
                     · rw [if_neg (by omega), hM21]; unfold wu; rw [if_neg (by omega)]; exact hhi i hi0
                   · rw [hM22]; unfold wu; rw [if_neg (by omega), hM21]; unfold wu; rw [if_neg (by omega)])
                | (rw [cut1_new (show pv (9 + K) J ≠ 0 by omega) (by rw [hf3, hf4]; omega) (by rw [hf3, hf4]; omega), hf3, hf4]
                   refine ⟨rfl, fun i hi0 => ⟨?_, ?_⟩, fun a b x q => ?_⟩
                   · rw [hM22]; unfold wu; rw [if_neg (by omega), hM21]; unfold wu
                     show _ = (if i = J then _ else lo i)
                     by_cases q : i = J
                     · rw [if_pos ⟨rfl, rfl, by omega⟩, if_pos q]; omega
                     · rw [if_neg (by omega), if_neg q]; exact hlo i hi0
                   · rw [hM22]; unfold wu
                     show _ = (if i = J then _ else hi i)
                     by_cases q : i = J
                     · rw [if_pos ⟨rfl, rfl, by omega⟩, if_pos q]; omega
                     · rw [if_neg (by omega), if_neg q, hM21]; unfold wu; rw [if_neg (by omega)]; exact hhi i hi0
                   · rw [hM22]; unfold wu; rw [if_neg (by omega), hM21]; unfold wu; rw [if_neg (by omega)])
            · refine r_iconst (pc' := 226) X dX9_cut_225 rfl ?_
              refine w_iret X hr dX9_cut_226 ?_
              try dsimp only
              rw [cut1_empty (show pv (9 + K) J ≠ 0 by omega) (by rw [hf3, hf4]; omega)]
              exact ⟨rfl, fun i hi0 => ⟨hlo i hi0, hhi i hi0⟩, fun _ _ _ _ => rfl⟩
theorem cf_X9_tighten : wCal yX9_tighten cX9_tighten 7 (some .boolean) 1 := ⟨gw_1241, gw_10, by decide, by decide, by rfl⟩
set_option maxRecDepth 100000 in
set_option maxHeartbeats 4000000 in
theorem c_X9_tighten (l : Launch) (G : wG) (M : wM) (N P : Nat) (pv : Nat → Nat → Int) (hp : PlOk pv N P) (hq : PEq N P pv (M 29)) (jr : Nat) (hrw : wkd 29 jr = some (.inr (0, 48, wNr))) (hj : jr = 13 ∨ jr = 14 ∨ jr = 15) (lo hi : Nat → Int) (hlo : ∀ i, i < N → M 29 jr (4 + i) = lo i) (hhi : ∀ i, i < N → M 29 jr (8 + i) = hi i) (hLr : ∀ i, i < N → -1000000 ≤ lo i ∧ lo i ≤ 1000000) (hUr : ∀ i, i < N → -1000000 ≤ hi i ∧ hi i ≤ 1000000) (hbx : BoxOk N lo hi) (y age : Nat → Int) (hy : ∀ k, k < P → M 29 jr (31 + k) = y k) (hage : ∀ k, k < P → M 29 jr (34 + k) = age k) (hyr : ∀ k, k < P → -400000000 ≤ y k ∧ y k ≤ 400000000) (hagr : ∀ k, k < P → -1 ≤ age k ∧ age k ≤ 2000000) : Met l yX9_tighten (gws yX9_tighten cX9_tighten 7 (some .boolean)) (wrm 3 0 0) (wPc G M [vR G (29, 0), vR G (29, jr)]) (wQi G (fun z M1 => z = (if (tight N P pv y age 100 lo hi).1 = 2 then 0 else 1) ∧ (∀ i, i < N → M1 29 jr (4 + i) = (tight N P pv y age 100 lo hi).2.1 i ∧ M1 29 jr (8 + i) = (tight N P pv y age 100 lo hi).2.2 i) ∧ ∀ a b x, ¬ (a = 29 ∧ b = jr ∧ 4 ≤ x ∧ x < 12) → M1 a b x = M a b x)) 0 0 (wA G) := by
  refine wMet (lc := [(0, vR G (29, 0)), (1, vR G (29, jr))]) (by decide) (Nat.le_of_ble_eq_true rfl) rfl ?_
  intro p e s m args below meth c X hr
  have X : wX p s m args meth c G 7 "StateObserverModel" cX9_tighten := X
  obtain ⟨hN, hN1, hN4, hP, hP1, hP3, hA, hB, hE, hC, hQ⟩ := id hp
  obtain ⟨qN, qP, qA, qB, qE, qC, qQ⟩ := id hq
  refine r_iconst (pc' := 1) X dX9_tighten_0 rfl ?_
  refine r_istore_n (pc' := 2) (lc' := [(0, vR G (29, 0)), (1, vR G (29, jr)), (2, vI 1)]) X [1, 2, 0] dX9_tighten_1 rfl (by decide) rfl rfl ?_
  refine r_iconst (pc' := 3) X dX9_tighten_2 rfl ?_
  refine r_istore_n (pc' := 4) (lc' := [(0, vR G (29, 0)), (1, vR G (29, jr)), (2, vI 1), (3, vI 0)]) X [1, 2, 3, 0] dX9_tighten_3 rfl (by decide) rfl rfl ?_
  have L4 : ∀ (fu : Nat) (p0 : Nat) (mo : Int) (lo1 : Nat → Int) (hi1 : Nat → Int) (Ma : wM), 100 - p0 < fu → (p0 ≤ 100) → ((mo = 1 ∧ (tight N P pv y age 100 lo hi) = (tight N P pv y age (100 - p0) lo1 hi1)) ∨ (mo = 0 ∧ (tight N P pv y age 100 lo hi) = (0, lo1, hi1))) → (BoxOk N lo1 hi1) → (∀ i, i < N → Ma 29 jr (4 + i) = lo1 i ∧ Ma 29 jr (8 + i) = hi1 i) → (∀ a b x, ¬ (a = 29 ∧ b = jr ∧ 4 ≤ x ∧ x < 12) → Ma a b x = M a b x) → wV p l e (wrm 3 0 0) s m args below meth c G 7 Ma 0 0 (MQ below (wQi G (fun z M1 => z = (if (tight N P pv y age 100 lo hi).1 = 2 then 0 else 1) ∧ (∀ i, i < N → M1 29 jr (4 + i) = (tight N P pv y age 100 lo hi).2.1 i ∧ M1 29 jr (8 + i) = (tight N P pv y age 100 lo hi).2.2 i) ∧ ∀ a b x, ¬ (a = 29 ∧ b = jr ∧ 4 ≤ x ∧ x < 12) → M1 a b x = M a b x)) args s 0 0 (wA G)) 4 [(0, vR G (29, 0)), (1, vR G (29, jr)), (2, vI mo), (3, vI (p0 : Int))] [] := by
    intro fu
    induction fu with
    | zero => intro p0 mo lo1 hi1 Ma hfu; exact absurd hfu (Nat.not_lt_zero _)
    | succ fu ih4 =>
      intro p0 mo lo1 hi1 Ma hfu4 hp0 hT hbb hme hfr
      refine r_iload_n (pc' := 5) X 3 dX9_tighten_4 rfl rfl rfl ?_
      refine r_bipush (pc' := 7) X dX9_tighten_5 rfl rfl ?_
      refine r_icmp_ge (pc' := 10) (tgt := 122) X dX9_tighten_7 rfl rfl (by omega) (by omega) (fun h7 => ?_) (fun h7 => ?_)
      · refine r_iconst (pc' := 123) X dX9_tighten_122 rfl ?_
        refine w_zret X hr (by decide) dX9_tighten_123 ?_
        try dsimp only
        have hT9 : (tight N P pv y age 100 lo hi).1 ≠ 2 ∧ (tight N P pv y age 100 lo hi).2.1 = lo1 ∧ (tight N P pv y age 100 lo hi).2.2 = hi1 := by
          rcases hT with q | q
          · rw [q.2, show 100 - p0 = 0 by omega]
            exact ⟨by show (1 : Int) ≠ 2; decide, rfl, rfl⟩
          · rw [q.2]
            exact ⟨by show (0 : Int) ≠ 2; decide, rfl, rfl⟩
        rw [if_neg hT9.1, hT9.2.1, hT9.2.2]
        exact ⟨rfl, hme, hfr⟩
      · refine r_iload_n (pc' := 11) X 2 dX9_tighten_10 rfl rfl rfl ?_
        refine r_if_eq (pc' := 14) (tgt := 122) X dX9_tighten_11 rfl rfl (by omega) (fun h11 => ?_) (fun h11 => ?_)
        · refine r_iconst (pc' := 123) X dX9_tighten_122 rfl ?_
          refine w_zret X hr (by decide) dX9_tighten_123 ?_
          try dsimp only
          have hT9 : (tight N P pv y age 100 lo hi).1 ≠ 2 ∧ (tight N P pv y age 100 lo hi).2.1 = lo1 ∧ (tight N P pv y age 100 lo hi).2.2 = hi1 := by
            rcases hT with q | q
            · rw [q.2, show 100 - p0 = 0 by omega]
              exact ⟨by show (1 : Int) ≠ 2; decide, rfl, rfl⟩
            · rw [q.2]
              exact ⟨by show (0 : Int) ≠ 2; decide, rfl, rfl⟩
          rw [if_neg hT9.1, hT9.2.1, hT9.2.2]
          exact ⟨rfl, hme, hfr⟩
        · refine r_iconst (pc' := 15) X dX9_tighten_14 rfl ?_
          refine r_istore_n (pc' := 16) (lc' := [(0, vR G (29, 0)), (1, vR G (29, jr)), (2, vI 0), (3, vI (p0 : Int))]) X [1, 2, 0, 3] dX9_tighten_15 rfl (by decide) rfl rfl ?_
          refine r_iconst (pc' := 17) X dX9_tighten_16 rfl ?_
          refine r_istore (pc' := 19) (lc' := [(0, vR G (29, 0)), (1, vR G (29, jr)), (2, vI 0), (3, vI (p0 : Int)), (4, vI 0)]) X [1, 2, 3, 4, 0] dX9_tighten_17 (by decide) rfl rfl ?_
          have L19 : ∀ (fu : Nat) (k : Nat) (mk : Int) (Mb : wM), P - k < fu → (k ≤ P) → (mk = (passK N pv y age k (0, lo1, hi1)).1) → (mk = 0 ∨ mk = 1) → (∀ i, i < N → Mb 29 jr (4 + i) = (passK N pv y age k (0, lo1, hi1)).2.1 i ∧ Mb 29 jr (8 + i) = (passK N pv y age k (0, lo1, hi1)).2.2 i) → (∀ a b x, ¬ (a = 29 ∧ b = jr ∧ 4 ≤ x ∧ x < 12) → Mb a b x = M a b x) → wV p l e (wrm 3 0 0) s m args below meth c G 7 Mb 0 0 (MQ below (wQi G (fun z M1 => z = (if (tight N P pv y age 100 lo hi).1 = 2 then 0 else 1) ∧ (∀ i, i < N → M1 29 jr (4 + i) = (tight N P pv y age 100 lo hi).2.1 i ∧ M1 29 jr (8 + i) = (tight N P pv y age 100 lo hi).2.2 i) ∧ ∀ a b x, ¬ (a = 29 ∧ b = jr ∧ 4 ≤ x ∧ x < 12) → M1 a b x = M a b x)) args s 0 0 (wA G)) 19 [(0, vR G (29, 0)), (1, vR G (29, jr)), (2, vI mk), (3, vI (p0 : Int)), (4, vI (k : Int))] [] := by
            intro fu
            induction fu with
            | zero => intro k mk Mb hfu; exact absurd hfu (Nat.not_lt_zero _)
            | succ fu ih19 =>
              intro k mk Mb hfu19 hk0 hmk1 hmk2 hmk hfk
              refine r_iload (pc' := 21) X 4 dX9_tighten_19 rfl rfl ?_
              have eP : Mb 29 0 6 = P := by rw [hfk 29 0 6 (by omega)]; exact qP
              refine r_aload_n (pc' := 22) X 0 dX9_tighten_21 rfl rfl rfl ?_
              refine gf_29_outputs (pc' := 25) X gw_973 dX9_tighten_22 rfl ?_
              refine r_icmp_ge (pc' := 28) (tgt := 116) X dX9_tighten_25 rfl rfl (by omega) (by omega) (fun h25 => ?_) (fun h25 => ?_)
              · refine r_iinc (pc' := 119) (z' := ((p0 + 1 : Nat) : Int)) (lc' := [(0, vR G (29, 0)), (1, vR G (29, jr)), (2, vI mk), (3, vI ((p0 + 1 : Nat) : Int)), (4, vI (k : Int))]) X 3 [1, 2, 3, 0, 4] dX9_tighten_116 rfl (by omega) (by decide) rfl rfl ?_
                refine r_goto (tgt := 4) X dX9_tighten_119 rfl ?_
                have ekP : k = P := by omega
                have hok : stOk N (passK N pv y age P (0, lo1, hi1)) := passK_ok ⟨Or.inl rfl, hbb⟩
                have hTp : (tight N P pv y age 100 lo hi) = (tight N P pv y age (100 - p0) lo1 hi1) := by
                  rcases hT with q | q
                  · exact q.2
                  · exfalso; omega
                have hun : (tight N P pv y age (100 - p0) lo1 hi1) = if (passK N pv y age P (0, lo1, hi1)).1 = 1 then (tight N P pv y age (100 - (p0 + 1)) (passK N pv y age P (0, lo1, hi1)).2.1 (passK N pv y age P (0, lo1, hi1)).2.2) else (passK N pv y age P (0, lo1, hi1)) := by rw [show 100 - p0 = (100 - (p0 + 1)) + 1 by omega]; rfl
                have hT2 : (mk = 1 ∧ (tight N P pv y age 100 lo hi) = (tight N P pv y age (100 - (p0 + 1)) (passK N pv y age P (0, lo1, hi1)).2.1 (passK N pv y age P (0, lo1, hi1)).2.2)) ∨ (mk = 0 ∧ (tight N P pv y age 100 lo hi) = (0, (passK N pv y age P (0, lo1, hi1)).2.1, (passK N pv y age P (0, lo1, hi1)).2.2)) := by
                  rw [ekP] at hmk1
                  rw [hTp, hun]
                  rcases hmk2 with q | q
                  · refine Or.inr ⟨q, ?_⟩
                    rw [if_neg (by omega)]
                    exact Prod.ext (by show _ = (0 : Int); omega) rfl
                  · refine Or.inl ⟨q, ?_⟩
                    rw [if_pos (by omega)]
                refine w_sub (lc' := [(0, vR G (29, 0)), (1, vR G (29, jr)), (2, vI mk), (3, vI ((p0 + 1 : Nat) : Int))]) [0, 1, 2, 3] rfl ?_
                exact ih4 (p0 + 1) mk ((passK N pv y age P (0, lo1, hi1)).2.1) ((passK N pv y age P (0, lo1, hi1)).2.2) Mb (by omega) (by omega) hT2 hok.2 (by have q := hmk; rw [ekP] at q; exact q) hfk
              · refine r_iconst (pc' := 29) X dX9_tighten_28 rfl ?_
                refine r_istore (pc' := 31) (lc' := [(0, vR G (29, 0)), (1, vR G (29, jr)), (2, vI mk), (3, vI (p0 : Int)), (4, vI (k : Int)), (5, vI 0)]) X [1, 2, 3, 4, 5, 0] dX9_tighten_29 (by decide) rfl rfl ?_
                have L31 : ∀ (fu : Nat) (j : Nat) (mj : Int) (Mc : wM), N - j < fu → (j ≤ N) → (mj = (rowJ N pv y age k j (0, lo1, hi1)).1) → (mj = 0 ∨ mj = 1) → (∀ i, i < N → Mc 29 jr (4 + i) = (rowJ N pv y age k j (0, lo1, hi1)).2.1 i ∧ Mc 29 jr (8 + i) = (rowJ N pv y age k j (0, lo1, hi1)).2.2 i) → (∀ a b x, ¬ (a = 29 ∧ b = jr ∧ 4 ≤ x ∧ x < 12) → Mc a b x = M a b x) → wV p l e (wrm 3 0 0) s m args below meth c G 7 Mc 0 0 (MQ below (wQi G (fun z M1 => z = (if (tight N P pv y age 100 lo hi).1 = 2 then 0 else 1) ∧ (∀ i, i < N → M1 29 jr (4 + i) = (tight N P pv y age 100 lo hi).2.1 i ∧ M1 29 jr (8 + i) = (tight N P pv y age 100 lo hi).2.2 i) ∧ ∀ a b x, ¬ (a = 29 ∧ b = jr ∧ 4 ≤ x ∧ x < 12) → M1 a b x = M a b x)) args s 0 0 (wA G)) 31 [(0, vR G (29, 0)), (1, vR G (29, jr)), (2, vI mj), (3, vI (p0 : Int)), (4, vI (k : Int)), (5, vI (j : Int))] [] := by
                  intro fu
                  induction fu with
                  | zero => intro j mj Mc hfu; exact absurd hfu (Nat.not_lt_zero _)
                  | succ fu ih31 =>
                    intro j mj Mc hfu31 hj0 hmj1 hmj2 hmj hfj
                    refine r_iload (pc' := 33) X 5 dX9_tighten_31 rfl rfl ?_
                    have eN : Mc 29 0 5 = N := by rw [hfj 29 0 5 (by omega)]; exact qN
                    refine r_aload_n (pc' := 34) X 0 dX9_tighten_33 rfl rfl rfl ?_
                    refine gf_29_states (pc' := 37) X gw_972 dX9_tighten_34 rfl ?_
                    refine r_icmp_ge (pc' := 40) (tgt := 110) X dX9_tighten_37 rfl rfl (by omega) (by omega) (fun h37 => ?_) (fun h37 => ?_)
                    · refine r_iinc (pc' := 113) (z' := ((k + 1 : Nat) : Int)) (lc' := [(0, vR G (29, 0)), (1, vR G (29, jr)), (2, vI mj), (3, vI (p0 : Int)), (4, vI ((k + 1 : Nat) : Int)), (5, vI (j : Int))]) X 4 [1, 2, 3, 4, 0, 5] dX9_tighten_110 rfl (by omega) (by decide) rfl rfl ?_
                      refine r_goto (tgt := 19) X dX9_tighten_113 rfl ?_
                      refine w_sub (lc' := [(0, vR G (29, 0)), (1, vR G (29, jr)), (2, vI mj), (3, vI (p0 : Int)), (4, vI ((k + 1 : Nat) : Int))]) [0, 1, 2, 3, 4] rfl ?_
                      exact ih19 (k + 1) mj Mc (by omega) (by omega) (by rw [← rowJ_N, hmj1, show j = N by omega]) hmj2 (by have q := hmj; rw [show j = N by omega, rowJ_N] at q; exact q) hfj
                    · have ea : Mc 29 jr (34 + k) = age k := by rw [hfj 29 jr _ (by omega)]; exact hage k (by omega)
                      have ra := hagr k (by omega)
                      have qc : Mc 29 5 (4 * k + j) = pv (9 + k) j := by rw [hfj 29 5 _ (by omega)]; exact qC k j (by omega) (by omega)
                      have rc := hC k j (by omega) (by omega)
                      have hs0 : stOk N (0, lo1, hi1) := ⟨Or.inl rfl, hbb⟩
                      have hrk := rowJ_ok (N := N) (pv := pv) (y := y) (age := age) (k := k) (j := j) hs0
                      have hq2 : PEq N P pv (Mc 29) := hq.keep (fun b x q => hfj 29 b x (by omega))
                      refine r_aload_n (pc' := 41) X 1 dX9_tighten_40 rfl rfl rfl ?_
                      refine r_bipush (pc' := 43) X dX9_tighten_41 rfl rfl ?_
                      refine r_iload (pc' := 45) X 4 dX9_tighten_43 rfl rfl ?_
                      refine r_iadd (pc' := 46) X dX9_tighten_45 rfl ?_
                      refine r_iald (i := (34 + k)) (pc' := 47) X hrw (by omega) (by omega) (by decide) dX9_tighten_46 rfl ?_
                      refine r_if_ne (pc' := 50) (tgt := 77) X dX9_tighten_47 rfl rfl (by omega) (fun h47 => ?_) (fun h47 => ?_)
                      · have hsame : (rowJ N pv y age k (j + 1) (0, lo1, hi1)) = (rowJ N pv y age k j (0, lo1, hi1)) := by rw [rowJ_no (by omega), rowJ_no (by omega)]
                        refine r_iconst (pc' := 78) X dX9_tighten_77 rfl ?_
                        refine r_istore (pc' := 80) (lc' := [(0, vR G (29, 0)), (1, vR G (29, jr)), (2, vI mj), (3, vI (p0 : Int)), (4, vI (k : Int)), (5, vI (j : Int)), (6, vI 0)]) X [1, 2, 3, 4, 5, 6, 0] dX9_tighten_78 (by decide) rfl rfl ?_
                        refine r_iload (pc' := 82) X 6 dX9_tighten_80 rfl rfl ?_
                        refine r_iconst (pc' := 83) X dX9_tighten_82 rfl ?_
                        refine r_icmp_ne (pc' := 86) (tgt := 88) X dX9_tighten_83 rfl rfl (by omega) (by omega) (fun h83 => ?_) (fun h83 => absurd h83 (by decide))
                        refine r_iload_n (pc' := 89) X 2 dX9_tighten_88 rfl rfl rfl ?_
                        refine r_if_ne (pc' := 92) (tgt := 98) X dX9_tighten_89 rfl rfl (by omega) (fun h89 => ?_) (fun h89 => ?_)
                        · refine r_iconst (pc' := 99) X dX9_tighten_98 rfl ?_
                          refine r_goto (tgt := 103) X dX9_tighten_99 rfl ?_
                          refine r_istore_n (pc' := 104) (lc' := [(0, vR G (29, 0)), (1, vR G (29, jr)), (2, vI 1), (3, vI (p0 : Int)), (4, vI (k : Int)), (5, vI (j : Int)), (6, vI 0)]) X [1, 2, 0, 3, 4, 5, 6] dX9_tighten_103 rfl (by decide) rfl rfl ?_
                          refine r_iinc (pc' := 107) (z' := ((j + 1 : Nat) : Int)) (lc' := [(0, vR G (29, 0)), (1, vR G (29, jr)), (2, vI 1), (3, vI (p0 : Int)), (4, vI (k : Int)), (5, vI ((j + 1 : Nat) : Int)), (6, vI 0)]) X 5 [1, 2, 3, 4, 5, 0, 6] dX9_tighten_104 rfl (by omega) (by decide) rfl rfl ?_
                          refine r_goto (tgt := 31) X dX9_tighten_107 rfl ?_
                          refine w_sub (lc' := [(0, vR G (29, 0)), (1, vR G (29, jr)), (2, vI 1), (3, vI (p0 : Int)), (4, vI (k : Int)), (5, vI ((j + 1 : Nat) : Int))]) [0, 1, 2, 3, 4, 5] rfl ?_
                          exact ih31 (j + 1) 1 Mc (by omega) (by omega) (by rw [hsame]; omega) (by first | exact Or.inl rfl | exact Or.inr rfl) (by rw [hsame]; exact hmj) hfj
                        · refine r_iload (pc' := 94) X 6 dX9_tighten_92 rfl rfl ?_
                          refine r_iconst (pc' := 95) X dX9_tighten_94 rfl ?_
                          refine r_icmp_ne (pc' := 98) (tgt := 102) X dX9_tighten_95 rfl rfl (by omega) (by omega) (fun h95 => ?_) (fun h95 => absurd h95 (by decide))
                          refine r_iconst (pc' := 103) X dX9_tighten_102 rfl ?_
                          refine r_istore_n (pc' := 104) (lc' := [(0, vR G (29, 0)), (1, vR G (29, jr)), (2, vI 0), (3, vI (p0 : Int)), (4, vI (k : Int)), (5, vI (j : Int)), (6, vI 0)]) X [1, 2, 0, 3, 4, 5, 6] dX9_tighten_103 rfl (by decide) rfl rfl ?_
                          refine r_iinc (pc' := 107) (z' := ((j + 1 : Nat) : Int)) (lc' := [(0, vR G (29, 0)), (1, vR G (29, jr)), (2, vI 0), (3, vI (p0 : Int)), (4, vI (k : Int)), (5, vI ((j + 1 : Nat) : Int)), (6, vI 0)]) X 5 [1, 2, 3, 4, 5, 0, 6] dX9_tighten_104 rfl (by omega) (by decide) rfl rfl ?_
                          refine r_goto (tgt := 31) X dX9_tighten_107 rfl ?_
                          refine w_sub (lc' := [(0, vR G (29, 0)), (1, vR G (29, jr)), (2, vI 0), (3, vI (p0 : Int)), (4, vI (k : Int)), (5, vI ((j + 1 : Nat) : Int))]) [0, 1, 2, 3, 4, 5] rfl ?_
                          exact ih31 (j + 1) 0 Mc (by omega) (by omega) (by rw [hsame]; omega) (by first | exact Or.inl rfl | exact Or.inr rfl) (by rw [hsame]; exact hmj) hfj
                      · refine r_aload_n (pc' := 51) X 0 dX9_tighten_50 rfl rfl rfl ?_
                        refine gf_29_view (pc' := 54) X gw_977 dX9_tighten_51 rfl ?_
                        refine r_iconst (pc' := 55) X dX9_tighten_54 rfl ?_
                        refine r_iload (pc' := 57) X 4 dX9_tighten_55 rfl rfl ?_
                        refine r_imul (pc' := 58) X dX9_tighten_57 rfl ?_
                        refine r_iload (pc' := 60) X 5 dX9_tighten_58 rfl rfl ?_
                        refine r_iadd (pc' := 61) X dX9_tighten_60 rfl ?_
                        refine r_iald (i := (4 * k + j)) (pc' := 62) X k29_5 (by omega) (by omega) (by decide) dX9_tighten_61 rfl ?_
                        refine r_if_eq (pc' := 65) (tgt := 77) X dX9_tighten_62 rfl rfl (by omega) (fun h62 => ?_) (fun h62 => ?_)
                        · have hsame : (rowJ N pv y age k (j + 1) (0, lo1, hi1)) = (rowJ N pv y age k j (0, lo1, hi1)) := by rw [rowJ_s (by omega)]; exact cut1_zero (by omega)
                          refine r_iconst (pc' := 78) X dX9_tighten_77 rfl ?_
                          refine r_istore (pc' := 80) (lc' := [(0, vR G (29, 0)), (1, vR G (29, jr)), (2, vI mj), (3, vI (p0 : Int)), (4, vI (k : Int)), (5, vI (j : Int)), (6, vI 0)]) X [1, 2, 3, 4, 5, 6, 0] dX9_tighten_78 (by decide) rfl rfl ?_
                          refine r_iload (pc' := 82) X 6 dX9_tighten_80 rfl rfl ?_
                          refine r_iconst (pc' := 83) X dX9_tighten_82 rfl ?_
                          refine r_icmp_ne (pc' := 86) (tgt := 88) X dX9_tighten_83 rfl rfl (by omega) (by omega) (fun h83 => ?_) (fun h83 => absurd h83 (by decide))
                          refine r_iload_n (pc' := 89) X 2 dX9_tighten_88 rfl rfl rfl ?_
                          refine r_if_ne (pc' := 92) (tgt := 98) X dX9_tighten_89 rfl rfl (by omega) (fun h89 => ?_) (fun h89 => ?_)
                          · refine r_iconst (pc' := 99) X dX9_tighten_98 rfl ?_
                            refine r_goto (tgt := 103) X dX9_tighten_99 rfl ?_
                            refine r_istore_n (pc' := 104) (lc' := [(0, vR G (29, 0)), (1, vR G (29, jr)), (2, vI 1), (3, vI (p0 : Int)), (4, vI (k : Int)), (5, vI (j : Int)), (6, vI 0)]) X [1, 2, 0, 3, 4, 5, 6] dX9_tighten_103 rfl (by decide) rfl rfl ?_
                            refine r_iinc (pc' := 107) (z' := ((j + 1 : Nat) : Int)) (lc' := [(0, vR G (29, 0)), (1, vR G (29, jr)), (2, vI 1), (3, vI (p0 : Int)), (4, vI (k : Int)), (5, vI ((j + 1 : Nat) : Int)), (6, vI 0)]) X 5 [1, 2, 3, 4, 5, 0, 6] dX9_tighten_104 rfl (by omega) (by decide) rfl rfl ?_
                            refine r_goto (tgt := 31) X dX9_tighten_107 rfl ?_
                            refine w_sub (lc' := [(0, vR G (29, 0)), (1, vR G (29, jr)), (2, vI 1), (3, vI (p0 : Int)), (4, vI (k : Int)), (5, vI ((j + 1 : Nat) : Int))]) [0, 1, 2, 3, 4, 5] rfl ?_
                            exact ih31 (j + 1) 1 Mc (by omega) (by omega) (by rw [hsame]; omega) (by first | exact Or.inl rfl | exact Or.inr rfl) (by rw [hsame]; exact hmj) hfj
                          · refine r_iload (pc' := 94) X 6 dX9_tighten_92 rfl rfl ?_
                            refine r_iconst (pc' := 95) X dX9_tighten_94 rfl ?_
                            refine r_icmp_ne (pc' := 98) (tgt := 102) X dX9_tighten_95 rfl rfl (by omega) (by omega) (fun h95 => ?_) (fun h95 => absurd h95 (by decide))
                            refine r_iconst (pc' := 103) X dX9_tighten_102 rfl ?_
                            refine r_istore_n (pc' := 104) (lc' := [(0, vR G (29, 0)), (1, vR G (29, jr)), (2, vI 0), (3, vI (p0 : Int)), (4, vI (k : Int)), (5, vI (j : Int)), (6, vI 0)]) X [1, 2, 0, 3, 4, 5, 6] dX9_tighten_103 rfl (by decide) rfl rfl ?_
                            refine r_iinc (pc' := 107) (z' := ((j + 1 : Nat) : Int)) (lc' := [(0, vR G (29, 0)), (1, vR G (29, jr)), (2, vI 0), (3, vI (p0 : Int)), (4, vI (k : Int)), (5, vI ((j + 1 : Nat) : Int)), (6, vI 0)]) X 5 [1, 2, 3, 4, 5, 0, 6] dX9_tighten_104 rfl (by omega) (by decide) rfl rfl ?_
                            refine r_goto (tgt := 31) X dX9_tighten_107 rfl ?_
                            refine w_sub (lc' := [(0, vR G (29, 0)), (1, vR G (29, jr)), (2, vI 0), (3, vI (p0 : Int)), (4, vI (k : Int)), (5, vI ((j + 1 : Nat) : Int))]) [0, 1, 2, 3, 4, 5] rfl ?_
                            exact ih31 (j + 1) 0 Mc (by omega) (by omega) (by rw [hsame]; omega) (by first | exact Or.inl rfl | exact Or.inr rfl) (by rw [hsame]; exact hmj) hfj
                        · refine r_aload_n (pc' := 66) X 0 dX9_tighten_65 rfl rfl rfl ?_
                          refine r_aload_n (pc' := 67) X 1 dX9_tighten_66 rfl rfl rfl ?_
                          refine r_iload (pc' := 69) X 4 dX9_tighten_67 rfl rfl ?_
                          refine r_iload (pc' := 71) X 5 dX9_tighten_69 rfl rfl ?_
                          refine w_calli (pc' := 74) (st := []) (w_runV X (c_X9_cut l G Mc N P pv (by first | assumption | omega) hq2 jr k j hrw (by first | assumption | omega) (by first | assumption | omega) (by first | assumption | omega) ((rowJ N pv y age k j (0, lo1, hi1)).2.1) ((rowJ N pv y age k j (0, lo1, hi1)).2.2) (fun i hi0 => (hmj i hi0).1) (fun i hi0 => (hmj i hi0).2) (fun i hi0 => by have := hrk.2 i hi0; omega) (fun i hi0 => by have := hrk.2 i hi0; omega) hrk.2 y (fun x hx => by rw [hfj 29 jr _ (by omega)]; exact hy x hx) hyr (by omega)) cf_X9_cut k29_0 rfl gw_1244 gp_48 rfl rfl ⟨Nat.le_of_ble_eq_true rfl, Nat.le_of_ble_eq_true rfl⟩ rfl rfl (Nat.le_of_ble_eq_true rfl) ⟨Nat.le_of_ble_eq_true rfl, Nat.le_of_ble_eq_true rfl⟩ gw_1242 dX9_tighten_71) rfl (fun z71 M1 h71 => ?_)
                          have hz71 : z71 = (cut1 N (pv (9 + k)) (pv 12 k) (y k) j (0, (rowJ N pv y age k j (0, lo1, hi1)).2)).1 := h71.1
                          have hag0 : age k = 0 := by omega
                          have hnew : (rowJ N pv y age k (j + 1) (0, lo1, hi1)) = (max (rowJ N pv y age k j (0, lo1, hi1)).1 (cut1 N (pv (9 + k)) (pv 12 k) (y k) j (0, (rowJ N pv y age k j (0, lo1, hi1)).2)).1, (cut1 N (pv (9 + k)) (pv 12 k) (y k) j (0, (rowJ N pv y age k j (0, lo1, hi1)).2)).2) := by rw [rowJ_s hag0]; exact cut1_max (by rw [← hmj1]; exact hmj2)
                          have hc9 : stOk N (cut1 N (pv (9 + k)) (pv 12 k) (y k) j (0, (rowJ N pv y age k j (0, lo1, hi1)).2)) := cut1_ok ⟨Or.inl rfl, hrk.2⟩
                          have hc10 : z71 = 0 ∨ z71 = 1 ∨ z71 = 2 := by rw [hz71]; exact hc9.1
                          refine r_goto (tgt := 78) X dX9_tighten_74 rfl ?_
                          refine r_istore (pc' := 80) (lc' := [(0, vR G (29, 0)), (1, vR G (29, jr)), (2, vI mj), (3, vI (p0 : Int)), (4, vI (k : Int)), (5, vI (j : Int)), (6, vI z71)]) X [1, 2, 3, 4, 5, 6, 0] dX9_tighten_78 (by decide) rfl rfl ?_
                          refine r_iload (pc' := 82) X 6 dX9_tighten_80 rfl rfl ?_
                          refine r_iconst (pc' := 83) X dX9_tighten_82 rfl ?_
                          refine r_icmp_ne (pc' := 86) (tgt := 88) X dX9_tighten_83 rfl rfl (by omega) (by omega) (fun h83 => ?_) (fun h83 => ?_)
                          · refine r_iload_n (pc' := 89) X 2 dX9_tighten_88 rfl rfl rfl ?_
                            refine r_if_ne (pc' := 92) (tgt := 98) X dX9_tighten_89 rfl rfl (by omega) (fun h89 => ?_) (fun h89 => ?_)
                            · refine r_iconst (pc' := 99) X dX9_tighten_98 rfl ?_
                              refine r_goto (tgt := 103) X dX9_tighten_99 rfl ?_
                              refine r_istore_n (pc' := 104) (lc' := [(0, vR G (29, 0)), (1, vR G (29, jr)), (2, vI 1), (3, vI (p0 : Int)), (4, vI (k : Int)), (5, vI (j : Int)), (6, vI z71)]) X [1, 2, 0, 3, 4, 5, 6] dX9_tighten_103 rfl (by decide) rfl rfl ?_
                              refine r_iinc (pc' := 107) (z' := ((j + 1 : Nat) : Int)) (lc' := [(0, vR G (29, 0)), (1, vR G (29, jr)), (2, vI 1), (3, vI (p0 : Int)), (4, vI (k : Int)), (5, vI ((j + 1 : Nat) : Int)), (6, vI z71)]) X 5 [1, 2, 3, 4, 5, 0, 6] dX9_tighten_104 rfl (by omega) (by decide) rfl rfl ?_
                              refine r_goto (tgt := 31) X dX9_tighten_107 rfl ?_
                              refine w_sub (lc' := [(0, vR G (29, 0)), (1, vR G (29, jr)), (2, vI 1), (3, vI (p0 : Int)), (4, vI (k : Int)), (5, vI ((j + 1 : Nat) : Int))]) [0, 1, 2, 3, 4, 5] rfl ?_
                              exact ih31 (j + 1) 1 M1 (by omega) (by omega) (by rw [hnew]; show _ = max _ _; rw [← hmj1, ← hz71]; omega) (by first | exact Or.inl rfl | exact Or.inr rfl) (by rw [hnew]; exact h71.2.1) (fun a b x q => by rw [h71.2.2 a b x q]; exact hfj a b x q)
                            · refine r_iload (pc' := 94) X 6 dX9_tighten_92 rfl rfl ?_
                              refine r_iconst (pc' := 95) X dX9_tighten_94 rfl ?_
                              refine r_icmp_ne (pc' := 98) (tgt := 102) X dX9_tighten_95 rfl rfl (by omega) (by omega) (fun h95 => ?_) (fun h95 => ?_)
                              · refine r_iconst (pc' := 103) X dX9_tighten_102 rfl ?_
                                refine r_istore_n (pc' := 104) (lc' := [(0, vR G (29, 0)), (1, vR G (29, jr)), (2, vI 0), (3, vI (p0 : Int)), (4, vI (k : Int)), (5, vI (j : Int)), (6, vI z71)]) X [1, 2, 0, 3, 4, 5, 6] dX9_tighten_103 rfl (by decide) rfl rfl ?_
                                refine r_iinc (pc' := 107) (z' := ((j + 1 : Nat) : Int)) (lc' := [(0, vR G (29, 0)), (1, vR G (29, jr)), (2, vI 0), (3, vI (p0 : Int)), (4, vI (k : Int)), (5, vI ((j + 1 : Nat) : Int)), (6, vI z71)]) X 5 [1, 2, 3, 4, 5, 0, 6] dX9_tighten_104 rfl (by omega) (by decide) rfl rfl ?_
                                refine r_goto (tgt := 31) X dX9_tighten_107 rfl ?_
                                refine w_sub (lc' := [(0, vR G (29, 0)), (1, vR G (29, jr)), (2, vI 0), (3, vI (p0 : Int)), (4, vI (k : Int)), (5, vI ((j + 1 : Nat) : Int))]) [0, 1, 2, 3, 4, 5] rfl ?_
                                exact ih31 (j + 1) 0 M1 (by omega) (by omega) (by rw [hnew]; show _ = max _ _; rw [← hmj1, ← hz71]; omega) (by first | exact Or.inl rfl | exact Or.inr rfl) (by rw [hnew]; exact h71.2.1) (fun a b x q => by rw [h71.2.2 a b x q]; exact hfj a b x q)
                              · refine r_iconst (pc' := 99) X dX9_tighten_98 rfl ?_
                                refine r_goto (tgt := 103) X dX9_tighten_99 rfl ?_
                                refine r_istore_n (pc' := 104) (lc' := [(0, vR G (29, 0)), (1, vR G (29, jr)), (2, vI 1), (3, vI (p0 : Int)), (4, vI (k : Int)), (5, vI (j : Int)), (6, vI z71)]) X [1, 2, 0, 3, 4, 5, 6] dX9_tighten_103 rfl (by decide) rfl rfl ?_
                                refine r_iinc (pc' := 107) (z' := ((j + 1 : Nat) : Int)) (lc' := [(0, vR G (29, 0)), (1, vR G (29, jr)), (2, vI 1), (3, vI (p0 : Int)), (4, vI (k : Int)), (5, vI ((j + 1 : Nat) : Int)), (6, vI z71)]) X 5 [1, 2, 3, 4, 5, 0, 6] dX9_tighten_104 rfl (by omega) (by decide) rfl rfl ?_
                                refine r_goto (tgt := 31) X dX9_tighten_107 rfl ?_
                                refine w_sub (lc' := [(0, vR G (29, 0)), (1, vR G (29, jr)), (2, vI 1), (3, vI (p0 : Int)), (4, vI (k : Int)), (5, vI ((j + 1 : Nat) : Int))]) [0, 1, 2, 3, 4, 5] rfl ?_
                                exact ih31 (j + 1) 1 M1 (by omega) (by omega) (by rw [hnew]; show _ = max _ _; rw [← hmj1, ← hz71]; omega) (by first | exact Or.inl rfl | exact Or.inr rfl) (by rw [hnew]; exact h71.2.1) (fun a b x q => by rw [h71.2.2 a b x q]; exact hfj a b x q)
                          · refine r_iconst (pc' := 87) X dX9_tighten_86 rfl ?_
                            refine w_zret X hr (by decide) dX9_tighten_87 ?_
                            try dsimp only
                            have h2 : (rowJ N pv y age k (j + 1) (0, lo1, hi1)).1 = 2 := by rw [hnew]; show max _ _ = 2; rw [← hmj1, ← hz71]; omega
                            have hpk : (passK N pv y age P (0, lo1, hi1)) = (rowJ N pv y age k (j + 1) (0, lo1, hi1)) := rowJ_2 (k := k) (j := j + 1) (by omega) (by omega) h2
                            have hTp : (tight N P pv y age 100 lo hi) = (tight N P pv y age (100 - p0) lo1 hi1) := by
                              rcases hT with q | q
                              · exact q.2
                              · exfalso; omega
                            have hT9 : (tight N P pv y age 100 lo hi) = (rowJ N pv y age k (j + 1) (0, lo1, hi1)) := by
                              rw [hTp, show 100 - p0 = (100 - (p0 + 1)) + 1 by omega]
                              show (if (passK N pv y age P (0, lo1, hi1)).1 = 1 then _ else (passK N pv y age P (0, lo1, hi1))) = _
                              rw [hpk, if_neg (by omega)]
                            rw [hT9, if_pos h2]
                            exact ⟨rfl, by rw [hnew]; exact h71.2.1, fun a b x q => by rw [h71.2.2 a b x q]; exact hfj a b x q⟩
                exact L31 ((N - 0) + 1) 0 mk Mb (Nat.lt_succ_self _) (by omega) (by rw [rowJ_0]; exact hmk1) hmk2 (by rw [rowJ_0]; exact hmk) hfk
          exact L19 ((P - 0) + 1) 0 0 Ma (Nat.lt_succ_self _) (by omega) rfl (Or.inl rfl) hme hfr
  exact L4 ((100 - 0) + 1) 0 1 lo hi M (Nat.lt_succ_self _) (by omega) (Or.inl ⟨rfl, rfl⟩) hbx (fun i hi0 => ⟨hlo i hi0, hhi i hi0⟩) (fun _ _ _ _ => rfl)
theorem cf_X9_readOn : wCal yX9_readOn cX9_readOn 3 none 2 := ⟨gw_1237, gw_10, by decide, by decide, by rfl⟩
set_option maxRecDepth 100000 in
set_option maxHeartbeats 4000000 in
theorem c_X9_readOn (l : Launch) (G : wG) (M : wM) (N P : Nat) (pv : Nat → Nat → Int) (hp : PlOk pv N P) (hq : PEq N P pv (M 29)) (jr K : Nat) (hrw : wkd 29 jr = some (.inr (0, 48, wNr))) (hj : jr = 13 ∨ jr = 14 ∨ jr = 15) (w : Nat → Nat → Int) (T : Int) (hm : MoOk w N P T) (hT6 : T ≤ 1000000) (hv : REq N P w (M 29 jr)) (hbx : BoxOk N (w 2) (w 3)) (hK : K < P) : Met l yX9_readOn (gws yX9_readOn cX9_readOn 3 none) (wrm 4 0 0) (wPc G M [vR G (29, 0), vR G (29, jr), vI (K : Int)]) (wQv G (fun M1 => REq N P (obsV N P pv w K) (M1 29 jr) ∧ ∀ a b x, ¬ (a = 29 ∧ b = jr) → M1 a b x = M a b x)) 0 0 (wA G) := by
  refine wMet (lc := [(0, vR G (29, 0)), (1, vR G (29, jr)), (2, vI (K : Int))]) (by decide) (Nat.le_of_ble_eq_true rfl) rfl ?_
  intro p e s m args below meth c X hr
  have X : wX p s m args meth c G 3 "StateObserverModel" cX9_readOn := X
  obtain ⟨hN, hN1, hN4, hP, hP1, hP3, hA, hB, hE, hC, hQ⟩ := id hp
  obtain ⟨qN, qP, qA, qB, qE, qC, qQ⟩ := id hq
  obtain ⟨hT, hL, hU, hS, hG, hY, hAg, hHo, hBo, hTi, hLi, hLb, hLl, hLh⟩ := id hm
  obtain ⟨v1, v2, v3, v28, v29, v30, v38, v39, v37⟩ := id hv
  have rq := hQ K hK
  have qq := qQ K hK
  have hdb := dot_bd (A := 99) (B := 1000000) (by decide) (by decide) (n := N) (f := pv (9 + K)) (g := w 1) (fun i hi => hC K i hK hi) hT
  have hfd := fdiv_small (a := dot N (pv (9 + K)) (w 1)) (b := pv 12 K) (B := 400000000) (by omega) (by omega) (by decide)
  refine r_aload_n (pc' := 1) X 1 dX9_readOn_0 rfl rfl rfl ?_
  refine r_bipush (pc' := 3) X dX9_readOn_1 rfl rfl ?_
  refine r_iload_n (pc' := 4) X 2 dX9_readOn_3 rfl rfl rfl ?_
  refine r_iadd (pc' := 5) X dX9_readOn_4 rfl ?_
  refine r_aload_n (pc' := 6) X 0 dX9_readOn_5 rfl rfl rfl ?_
  refine r_aload_n (pc' := 7) X 1 dX9_readOn_6 rfl rfl rfl ?_
  refine r_iconst (pc' := 8) X dX9_readOn_7 rfl ?_
  refine r_iload_n (pc' := 9) X 2 dX9_readOn_8 rfl rfl rfl ?_
  refine w_callj (pc' := 12) (st := [vI (31 + (K : Int)), vR G (29, jr)]) (w_runV X (c_X9_seenBy l G M N P pv (by first | assumption | omega) (by first | assumption | omega) jr 0 K hrw (by first | assumption | omega) (by first | assumption | omega) (w 1) (fun i hi => by rw [Nat.zero_add]; exact (v1 i hi).1) (fun i hi => by have := hT i hi; omega)) cf_X9_seenBy k29_0 rfl gw_1192 gp_40 rfl rfl ⟨Nat.le_of_ble_eq_true rfl, Nat.le_of_ble_eq_true rfl⟩ rfl rfl (Nat.le_of_ble_eq_true rfl) ⟨Nat.le_of_ble_eq_true rfl, Nat.le_of_ble_eq_true rfl⟩ gw_1190 dX9_readOn_9) rfl (fun z9 M1 h9 => ?_)
  obtain rfl := h9.1.symm
  obtain rfl := h9.2.symm
  refine r_aload_n (pc' := 13) X 0 dX9_readOn_12 rfl rfl rfl ?_
  refine gf_29_quantum (pc' := 16) X gw_978 dX9_readOn_13 rfl ?_
  refine r_iload_n (pc' := 17) X 2 dX9_readOn_16 rfl rfl rfl ?_
  refine r_iald (i := K) (pc' := 18) X k29_6 (by omega) (by omega) (by decide) dX9_readOn_17 rfl ?_
  refine r_i2l (pc' := 19) X dX9_readOn_18 (by omega) rfl ?_
  refine w_callj (pc' := 22) (st := [vI (31 + (K : Int)), vR G (29, jr)]) (w_runS X (c_X9_down l G M ((dot N (pv (9 + K)) (w 1))) (M 29 6 K) (by first | assumption | omega) (by first | assumption | omega)) cf_X9_down gw_1172 rfl rfl ⟨Nat.le_of_ble_eq_true rfl, Nat.le_of_ble_eq_true rfl⟩ rfl rfl (Nat.le_of_ble_eq_true rfl) ⟨Nat.le_of_ble_eq_true rfl, Nat.le_of_ble_eq_true rfl⟩ gw_1171 dX9_readOn_19) rfl (fun z19 M2 h19 => ?_)
  obtain rfl := h19.1.symm
  obtain rfl := h19.2.symm
  refine r_l2i (pc' := 23) X dX9_readOn_22 rfl ?_
  refine r_iast (i := (31 + K)) (pc' := 24) X hrw (by omega) (by omega) (by decide) dX9_readOn_23 rfl (fun M3 hM3 => ?_)
  refine r_aload_n (pc' := 25) X 1 dX9_readOn_24 rfl rfl rfl ?_
  refine r_bipush (pc' := 27) X dX9_readOn_25 rfl rfl ?_
  refine r_iload_n (pc' := 28) X 2 dX9_readOn_27 rfl rfl rfl ?_
  refine r_iadd (pc' := 29) X dX9_readOn_28 rfl ?_
  refine r_iconst (pc' := 30) X dX9_readOn_29 rfl ?_
  refine r_iast (i := (34 + K)) (pc' := 31) X hrw (by omega) (by omega) (by decide) dX9_readOn_30 rfl (fun M4 hM4 => ?_)
  have e2 : ∀ a b x, ¬ (a = 29 ∧ b = jr ∧ (x = 31 + K ∨ x = 34 + K)) → M4 a b x = M a b x := fun a b x q => by
    rw [hM4]; unfold wu; rw [if_neg (by omega), hM3]; unfold wu; rw [if_neg (by omega)]
  have q2 : PEq N P pv (M4 29) := hq.keep (fun b x q => e2 29 b x (by omega))
  have ey : ∀ k, k < P → M4 29 jr (31 + k) = obsY N pv w K k := fun k hk => by
    unfold obsY up1
    by_cases c1 : k = K
    · rw [if_pos c1, hM4]; unfold wu; rw [if_neg (by omega), hM3]; unfold wu; rw [if_pos ⟨rfl, rfl, by omega⟩, qq]
    · rw [if_neg c1, e2 29 jr _ (by omega)]; exact (v3 k hk).1
  have ea : ∀ k, k < P → M4 29 jr (34 + k) = obsA w K k := fun k hk => by
    unfold obsA up1
    by_cases c1 : k = K
    · rw [if_pos c1, hM4]; unfold wu; rw [if_pos ⟨rfl, rfl, by omega⟩]
    · rw [if_neg c1, e2 29 jr _ (by omega)]; exact (v3 k hk).2
  refine r_aload_n (pc' := 32) X 0 dX9_readOn_31 rfl rfl rfl ?_
  refine r_aload_n (pc' := 33) X 1 dX9_readOn_32 rfl rfl rfl ?_
  refine w_calli (pc' := 36) (st := []) (w_runV X (c_X9_tighten l G M4 N P pv (by first | assumption | omega) q2 jr hrw (by first | assumption | omega) (w 2) (w 3) (fun i hi => by rw [e2 29 jr _ (by omega)]; exact (v1 i hi).2.1) (fun i hi => by rw [e2 29 jr _ (by omega)]; exact (v1 i hi).2.2.1) hL hU hbx (obsY N pv w K) (obsA w K) ey ea (fun k hk => by unfold obsY up1; split; exact hfd; exact hY k hk) (fun k hk => by unfold obsA up1; have := hAg k hk; split <;> omega)) cf_X9_tighten k29_0 rfl gw_1240 gp_47 rfl rfl ⟨Nat.le_of_ble_eq_true rfl, Nat.le_of_ble_eq_true rfl⟩ rfl rfl (Nat.le_of_ble_eq_true rfl) ⟨Nat.le_of_ble_eq_true rfl, Nat.le_of_ble_eq_true rfl⟩ gw_1238 dX9_readOn_33) rfl (fun z33 M5 h33 => ?_)
  refine r_pop (pc' := 37) X dX9_readOn_36 rfl rfl ?_
  refine w_vret X hr dX9_readOn_37 ?_
  try dsimp only
  have oB : ∀ b, b ≠ 2 → b ≠ 3 → b ≠ 10 → b ≠ 11 → obsV N P pv w K b = w b := fun b h1 h2 h3 h4 => by unfold obsV; rw [if_neg h2, if_neg h1, if_neg h4, if_neg h3]
  have eo : ∀ x, ¬ (4 ≤ x ∧ x < 12) → ¬ (x = 31 + K ∨ x = 34 + K) → M5 29 jr x = M 29 jr x := fun x c1 c2 => by rw [h33.2.2 29 jr x (by omega), e2 29 jr x (by omega)]
  refine ⟨⟨fun i hi => ⟨?_, (h33.2.1 i hi).1, (h33.2.1 i hi).2, ?_, ?_, ?_⟩, fun i k hi hk => ?_, fun k hk => ⟨?_, ?_⟩, ?_, ?_, ?_, ?_, ?_, ?_⟩, fun a b x q => by rw [h33.2.2 a b x (by omega), e2 a b x (by omega)]⟩
  · rw [oB 1 (by omega) (by omega) (by omega) (by omega), eo _ (by omega) (by omega)]; exact (v1 i hi).1
  · rw [oB 4 (by omega) (by omega) (by omega) (by omega), eo _ (by omega) (by omega)]; exact (v1 i hi).2.2.2.1
  · rw [oB 12 (by omega) (by omega) (by omega) (by omega), eo _ (by omega) (by omega)]; exact (v1 i hi).2.2.2.2.1
  · rw [oB 13 (by omega) (by omega) (by omega) (by omega), eo _ (by omega) (by omega)]; exact (v1 i hi).2.2.2.2.2
  · rw [oB (6 + i) (by omega) (by omega) (by omega) (by omega), eo _ (by omega) (by omega)]; exact v2 i k hi hk
  · rw [h33.2.2 29 jr _ (by omega)]; exact ey k hk
  · rw [h33.2.2 29 jr _ (by omega)]; exact ea k hk
  · rw [oB 0 (by omega) (by omega) (by omega) (by omega), eo _ (by omega) (by omega)]; exact v28
  · rw [oB 0 (by omega) (by omega) (by omega) (by omega), eo _ (by omega) (by omega)]; exact v29
  · rw [oB 0 (by omega) (by omega) (by omega) (by omega), eo _ (by omega) (by omega)]; exact v30
  · rw [oB 0 (by omega) (by omega) (by omega) (by omega), eo _ (by omega) (by omega)]; exact v38
  · rw [oB 0 (by omega) (by omega) (by omega) (by omega), eo _ (by omega) (by omega)]; exact v39
  · rw [oB 0 (by omega) (by omega) (by omega) (by omega), eo _ (by omega) (by omega)]; exact v37
