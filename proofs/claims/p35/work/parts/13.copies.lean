theorem cf_X8_copyRows : wCal yX8_copyRows cX8_copyRows 3 none 2 := ⟨gw_531, gw_1, by decide, by decide, by rfl⟩
set_option maxRecDepth 100000 in
set_option maxHeartbeats 4000000 in
theorem c_X8_copyRows (l : Launch) (G : wG) (M : wM) (fo fj to tj fb tb n K : Nat) (hf : wkd fo fj = some (.inr (4, n, fun i => (fo, fb + i)))) (ht : wkd to tj = some (.inr (4, n, fun i => (to, tb + i)))) (hfr : ∀ i, i < n → wkd fo (fb + i) = some (.inr (0, K, wNr))) (htr : ∀ i, i < n → wkd to (tb + i) = some (.inr (0, K, wNr))) (hK : K ≤ 100000) (hn : n ≤ 100) (hne : fo ≠ to) : Met l yX8_copyRows (gws yX8_copyRows cX8_copyRows 3 none) (wrm 2 0 0) (wPc G M [vR G (fo, fj), vR G (to, tj)]) (wQv G (fun M1 => M1 = wrs M to tb n fo fb)) 0 0 (wA G) := by
  refine wMet (lc := [(0, vR G (fo, fj)), (1, vR G (to, tj))]) (by decide) (Nat.le_of_ble_eq_true rfl) rfl ?_
  intro p e s m args below meth c X hr
  have X : wX p s m args meth c G 3 "StateObserver" cX8_copyRows := X
  refine r_iconst (pc' := 1) X dX8_copyRows_0 rfl ?_
  refine r_istore_n (pc' := 2) (lc' := [(0, vR G (fo, fj)), (1, vR G (to, tj)), (2, vI 0)]) X [1, 2, 0] dX8_copyRows_1 rfl (by decide) rfl rfl ?_
  have L2 : ∀ (fu : Nat) (i : Nat) (M2 : wM), n - i < fu → (i ≤ n) → (M2 = wrs M to tb i fo fb) → wV p l e (wrm 2 0 0) s m args below meth c G 3 M2 0 0 (MQ below (wQv G (fun M1 => M1 = wrs M to tb n fo fb)) args s 0 0 (wA G)) 2 [(0, vR G (fo, fj)), (1, vR G (to, tj)), (2, vI (i : Int))] [] := by
    intro fu
    induction fu with
    | zero => intro i M2 hfu; exact absurd hfu (Nat.not_lt_zero _)
    | succ fu ih2 =>
      intro i M2 hfu2 hi hm
      refine r_iload_n (pc' := 3) X 2 dX8_copyRows_2 rfl rfl rfl ?_
      refine r_aload_n (pc' := 4) X 0 dX8_copyRows_3 rfl rfl rfl ?_
      refine r_alen (pc' := 5) X hf (by decide) dX8_copyRows_4 rfl ?_
      refine r_icmp_ge (pc' := 8) (tgt := 29) X dX8_copyRows_5 rfl rfl (by omega) (by omega) (fun h5 => ?_) (fun h5 => ?_)
      · refine w_vret X hr dX8_copyRows_29 ?_
        try dsimp only
        have e : i = n := by omega
        subst e
        exact hm
      · refine r_iload_n (pc' := 9) X 2 dX8_copyRows_8 rfl rfl rfl ?_
        refine r_aload_n (pc' := 10) X 1 dX8_copyRows_9 rfl rfl rfl ?_
        refine r_alen (pc' := 11) X ht (by decide) dX8_copyRows_10 rfl ?_
        refine r_icmp_ge (pc' := 14) (tgt := 29) X dX8_copyRows_11 rfl rfl (by omega) (by omega) (fun h11 => by exfalso; omega) (fun h11 => ?_)
        refine r_aload_n (pc' := 15) X 0 dX8_copyRows_14 rfl rfl rfl ?_
        refine r_iload_n (pc' := 16) X 2 dX8_copyRows_15 rfl rfl rfl ?_
        refine r_aald (i := i) (x := (fo, (fb + i))) (pc' := 17) X hf (by decide) (by omega) (by omega) (by omega) rfl dX8_copyRows_16 rfl ?_
        refine r_aload_n (pc' := 18) X 1 dX8_copyRows_17 rfl rfl rfl ?_
        refine r_iload_n (pc' := 19) X 2 dX8_copyRows_18 rfl rfl rfl ?_
        refine r_aald (i := i) (x := (to, (tb + i))) (pc' := 20) X ht (by decide) (by omega) (by omega) (by omega) rfl dX8_copyRows_19 rfl ?_
        refine w_callv (pc' := 23) (st := []) (w_runS X (c_X8_copyRow l G M2 fo (fb + i) to (tb + i) K (hfr i (by omega)) (htr i (by omega)) (by first | assumption | omega)) cf_X8_copyRow gw_521 rfl rfl ⟨Nat.le_of_ble_eq_true rfl, Nat.le_of_ble_eq_true rfl⟩ rfl rfl (Nat.le_of_ble_eq_true rfl) ⟨Nat.le_of_ble_eq_true rfl, Nat.le_of_ble_eq_true rfl⟩ gw_532 dX8_copyRows_20) rfl (fun M1 h20 => ?_)
        refine r_iinc (pc' := 26) (z' := ((i + 1 : Nat) : Int)) (lc' := [(0, vR G (fo, fj)), (1, vR G (to, tj)), (2, vI ((i + 1 : Nat) : Int))]) X 2 [1, 2, 0] dX8_copyRows_23 rfl (by omega) (by decide) rfl rfl ?_
        refine r_goto (tgt := 2) X dX8_copyRows_26 rfl ?_
        exact ih2 (i + 1) M1 (by omega) (by omega) (by rw [h20, hm]; exact wrs_s hne)
  exact L2 ((n - 0) + 1) 0 M (Nat.lt_succ_self _) (by omega) wrs_0.symm
theorem cf_X1_copyFrom : wCal yX1_copyFrom cX1_copyFrom 2 none 1 := ⟨gw_519, gw_3, by decide, by decide, by rfl⟩
set_option maxRecDepth 100000 in
set_option maxHeartbeats 4000000 in
theorem c_X1_copyFrom (l : Launch) (G : wG) (M : wM) (om oq : Nat) (hom : om < 19) (hoq : oq < 19) (hne : oq ≠ om) : Met l yX1_copyFrom (gws yX1_copyFrom cX1_copyFrom 2 none) (wrm 3 0 0) (wPc G M [vR G (om, 0), vR G (oq, 0)]) (wQv G (fun M1 => M1 = wo M om (M oq))) 0 0 (wA G) := by
  refine wMet (lc := [(0, vR G (om, 0)), (1, vR G (oq, 0))]) (by decide) (Nat.le_of_ble_eq_true rfl) rfl ?_
  intro p e s m args below meth c X hr
  have X : wX p s m args meth c G 2 "StateObserver$Moment" cX1_copyFrom := X
  refine r_aload_n (pc' := 1) X 1 dX1_copyFrom_0 rfl rfl rfl ?_
  refine gf_M_truth (pc' := 4) X hoq gw_90 dX1_copyFrom_1 rfl ?_
  refine r_aload_n (pc' := 5) X 0 dX1_copyFrom_4 rfl rfl rfl ?_
  refine gf_M_truth (pc' := 8) X hom gw_90 dX1_copyFrom_5 rfl ?_
  refine w_callv (pc' := 11) (st := []) (w_runSN X (c_X8_copyRow l G M oq 1 om 1 4 (kM_1 hoq) (kM_1 hom) (by first | assumption | omega)) cf_X8_copyRow gw_521 rfl rfl ⟨Nat.le_of_ble_eq_true rfl, Nat.le_of_ble_eq_true rfl⟩ rfl rfl (Nat.le_of_ble_eq_true rfl) ⟨Nat.le_of_ble_eq_true rfl, Nat.le_of_ble_eq_true rfl⟩ tn_520 dX1_copyFrom_8) rfl (fun M1 h8 => ?_)
  refine r_aload_n (pc' := 12) X 1 dX1_copyFrom_11 rfl rfl rfl ?_
  refine gf_M_lower (pc' := 15) X hoq gw_93 dX1_copyFrom_12 rfl ?_
  refine r_aload_n (pc' := 16) X 0 dX1_copyFrom_15 rfl rfl rfl ?_
  refine gf_M_lower (pc' := 19) X hom gw_93 dX1_copyFrom_16 rfl ?_
  refine w_callv (pc' := 22) (st := []) (w_runSN X (c_X8_copyRow l G M1 oq 2 om 2 4 (kM_2 hoq) (kM_2 hom) (by first | assumption | omega)) cf_X8_copyRow gw_521 rfl rfl ⟨Nat.le_of_ble_eq_true rfl, Nat.le_of_ble_eq_true rfl⟩ rfl rfl (Nat.le_of_ble_eq_true rfl) ⟨Nat.le_of_ble_eq_true rfl, Nat.le_of_ble_eq_true rfl⟩ tn_520 dX1_copyFrom_19) rfl (fun M2 h19 => ?_)
  refine r_aload_n (pc' := 23) X 1 dX1_copyFrom_22 rfl rfl rfl ?_
  refine gf_M_upper (pc' := 26) X hoq gw_97 dX1_copyFrom_23 rfl ?_
  refine r_aload_n (pc' := 27) X 0 dX1_copyFrom_26 rfl rfl rfl ?_
  refine gf_M_upper (pc' := 30) X hom gw_97 dX1_copyFrom_27 rfl ?_
  refine w_callv (pc' := 33) (st := []) (w_runSN X (c_X8_copyRow l G M2 oq 3 om 3 4 (kM_3 hoq) (kM_3 hom) (by first | assumption | omega)) cf_X8_copyRow gw_521 rfl rfl ⟨Nat.le_of_ble_eq_true rfl, Nat.le_of_ble_eq_true rfl⟩ rfl rfl (Nat.le_of_ble_eq_true rfl) ⟨Nat.le_of_ble_eq_true rfl, Nat.le_of_ble_eq_true rfl⟩ tn_520 dX1_copyFrom_30) rfl (fun M3 h30 => ?_)
  refine r_aload_n (pc' := 34) X 1 dX1_copyFrom_33 rfl rfl rfl ?_
  refine gf_M_estimate (pc' := 37) X hoq gw_101 dX1_copyFrom_34 rfl ?_
  refine r_aload_n (pc' := 38) X 0 dX1_copyFrom_37 rfl rfl rfl ?_
  refine gf_M_estimate (pc' := 41) X hom gw_101 dX1_copyFrom_38 rfl ?_
  refine w_callv (pc' := 44) (st := []) (w_runSN X (c_X8_copyRow l G M3 oq 4 om 4 4 (kM_4 hoq) (kM_4 hom) (by first | assumption | omega)) cf_X8_copyRow gw_521 rfl rfl ⟨Nat.le_of_ble_eq_true rfl, Nat.le_of_ble_eq_true rfl⟩ rfl rfl (Nat.le_of_ble_eq_true rfl) ⟨Nat.le_of_ble_eq_true rfl, Nat.le_of_ble_eq_true rfl⟩ tn_520 dX1_copyFrom_41) rfl (fun M4 h41 => ?_)
  refine r_aload_n (pc' := 45) X 1 dX1_copyFrom_44 rfl rfl rfl ?_
  refine gf_M_gain (pc' := 48) X hoq gw_104 dX1_copyFrom_45 rfl ?_
  refine r_aload_n (pc' := 49) X 0 dX1_copyFrom_48 rfl rfl rfl ?_
  refine gf_M_gain (pc' := 52) X hom gw_104 dX1_copyFrom_49 rfl ?_
  refine w_callv (pc' := 55) (st := []) (w_runSN X (c_X8_copyRows l G M4 oq 5 om 5 6 6 4 3 (kM_5 hoq) (kM_5 hom) (fun i hi => kM_g hoq hi) (fun i hi => kM_g hom hi) (by first | assumption | omega) (by first | assumption | omega) (by first | assumption | omega)) cf_X8_copyRows gw_530 rfl rfl ⟨Nat.le_of_ble_eq_true rfl, Nat.le_of_ble_eq_true rfl⟩ rfl rfl (Nat.le_of_ble_eq_true rfl) ⟨Nat.le_of_ble_eq_true rfl, Nat.le_of_ble_eq_true rfl⟩ tn_529 dX1_copyFrom_52) rfl (fun M5 h52 => ?_)
  refine r_aload_n (pc' := 56) X 1 dX1_copyFrom_55 rfl rfl rfl ?_
  refine gf_M_reading (pc' := 59) X hoq gw_108 dX1_copyFrom_56 rfl ?_
  refine r_aload_n (pc' := 60) X 0 dX1_copyFrom_59 rfl rfl rfl ?_
  refine gf_M_reading (pc' := 63) X hom gw_108 dX1_copyFrom_60 rfl ?_
  refine w_callv (pc' := 66) (st := []) (w_runSN X (c_X8_copyRow l G M5 oq 10 om 10 3 (kM_10 hoq) (kM_10 hom) (by first | assumption | omega)) cf_X8_copyRow gw_521 rfl rfl ⟨Nat.le_of_ble_eq_true rfl, Nat.le_of_ble_eq_true rfl⟩ rfl rfl (Nat.le_of_ble_eq_true rfl) ⟨Nat.le_of_ble_eq_true rfl, Nat.le_of_ble_eq_true rfl⟩ tn_520 dX1_copyFrom_63) rfl (fun M6 h63 => ?_)
  refine r_aload_n (pc' := 67) X 1 dX1_copyFrom_66 rfl rfl rfl ?_
  refine gf_M_age (pc' := 70) X hoq gw_112 dX1_copyFrom_67 rfl ?_
  refine r_aload_n (pc' := 71) X 0 dX1_copyFrom_70 rfl rfl rfl ?_
  refine gf_M_age (pc' := 74) X hom gw_112 dX1_copyFrom_71 rfl ?_
  refine w_callv (pc' := 77) (st := []) (w_runSN X (c_X8_copyRow l G M6 oq 11 om 11 3 (kM_11 hoq) (kM_11 hom) (by first | assumption | omega)) cf_X8_copyRow gw_521 rfl rfl ⟨Nat.le_of_ble_eq_true rfl, Nat.le_of_ble_eq_true rfl⟩ rfl rfl (Nat.le_of_ble_eq_true rfl) ⟨Nat.le_of_ble_eq_true rfl, Nat.le_of_ble_eq_true rfl⟩ tn_520 dX1_copyFrom_74) rfl (fun M7 h74 => ?_)
  refine r_aload_n (pc' := 78) X 0 dX1_copyFrom_77 rfl rfl rfl ?_
  refine r_aload_n (pc' := 79) X 1 dX1_copyFrom_78 rfl rfl rfl ?_
  refine gf_M_hold (pc' := 82) X hoq gw_116 dX1_copyFrom_79 rfl ?_
  refine pf_M_hold (pc' := 85) X hom gw_116 dX1_copyFrom_82 rfl (fun M8 hM8 => ?_)
  refine r_aload_n (pc' := 86) X 0 dX1_copyFrom_85 rfl rfl rfl ?_
  refine r_aload_n (pc' := 87) X 1 dX1_copyFrom_86 rfl rfl rfl ?_
  refine gf_M_bound (pc' := 90) X hoq gw_121 dX1_copyFrom_87 rfl ?_
  refine pf_M_bound (pc' := 93) X hom gw_121 dX1_copyFrom_90 rfl (fun M9 hM9 => ?_)
  refine r_aload_n (pc' := 94) X 0 dX1_copyFrom_93 rfl rfl rfl ?_
  refine r_aload_n (pc' := 95) X 1 dX1_copyFrom_94 rfl rfl rfl ?_
  refine gf_M_time (pc' := 98) X hoq gw_125 dX1_copyFrom_95 rfl ?_
  refine pf_M_time (pc' := 101) X hom gw_125 dX1_copyFrom_98 rfl (fun M10 hM10 => ?_)
  refine r_aload_n (pc' := 102) X 0 dX1_copyFrom_101 rfl rfl rfl ?_
  refine r_aload_n (pc' := 103) X 1 dX1_copyFrom_102 rfl rfl rfl ?_
  refine gf_M_lastInput (pc' := 106) X hoq gw_128 dX1_copyFrom_103 rfl ?_
  refine pf_M_lastInput (pc' := 109) X hom gw_128 dX1_copyFrom_106 rfl (fun M11 hM11 => ?_)
  refine r_aload_n (pc' := 110) X 0 dX1_copyFrom_109 rfl rfl rfl ?_
  refine r_aload_n (pc' := 111) X 1 dX1_copyFrom_110 rfl rfl rfl ?_
  refine gf_M_lastBound (pc' := 114) X hoq gw_131 dX1_copyFrom_111 rfl ?_
  refine pf_M_lastBound (pc' := 117) X hom gw_131 dX1_copyFrom_114 rfl (fun M12 hM12 => ?_)
  refine r_aload_n (pc' := 118) X 1 dX1_copyFrom_117 rfl rfl rfl ?_
  refine gf_M_lastLow (pc' := 121) X hoq gw_133 dX1_copyFrom_118 rfl ?_
  refine r_aload_n (pc' := 122) X 0 dX1_copyFrom_121 rfl rfl rfl ?_
  refine gf_M_lastLow (pc' := 125) X hom gw_133 dX1_copyFrom_122 rfl ?_
  refine w_callv (pc' := 128) (st := []) (w_runSN X (c_X8_copyRow l G M12 oq 12 om 12 4 (kM_12 hoq) (kM_12 hom) (by first | assumption | omega)) cf_X8_copyRow gw_521 rfl rfl ⟨Nat.le_of_ble_eq_true rfl, Nat.le_of_ble_eq_true rfl⟩ rfl rfl (Nat.le_of_ble_eq_true rfl) ⟨Nat.le_of_ble_eq_true rfl, Nat.le_of_ble_eq_true rfl⟩ tn_520 dX1_copyFrom_125) rfl (fun M13 h125 => ?_)
  refine r_aload_n (pc' := 129) X 1 dX1_copyFrom_128 rfl rfl rfl ?_
  refine gf_M_lastHigh (pc' := 132) X hoq gw_136 dX1_copyFrom_129 rfl ?_
  refine r_aload_n (pc' := 133) X 0 dX1_copyFrom_132 rfl rfl rfl ?_
  refine gf_M_lastHigh (pc' := 136) X hom gw_136 dX1_copyFrom_133 rfl ?_
  refine w_callv (pc' := 139) (st := []) (w_runSN X (c_X8_copyRow l G M13 oq 13 om 13 4 (kM_13 hoq) (kM_13 hom) (by first | assumption | omega)) cf_X8_copyRow gw_521 rfl rfl ⟨Nat.le_of_ble_eq_true rfl, Nat.le_of_ble_eq_true rfl⟩ rfl rfl (Nat.le_of_ble_eq_true rfl) ⟨Nat.le_of_ble_eq_true rfl, Nat.le_of_ble_eq_true rfl⟩ tn_520 dX1_copyFrom_136) rfl (fun M14 h136 => ?_)
  refine w_mem (wo M om (M oq)) (by
    intro o j i hr
    unfold wo
    by_cases ho : o = om
    · subst ho
      rw [if_pos rfl]
      rcases wrel_m hom hr with ⟨rfl, h1, h2⟩ | ⟨h1, h2, h3⟩ | ⟨h1, h2, h3⟩ | ⟨h1, h2, h3⟩
      · rcases (show i = 7 ∨ i = 8 ∨ i = 9 ∨ i = 10 ∨ i = 11 by omega) with rfl | rfl | rfl | rfl | rfl <;> simp [hne, hne.symm, wr, wu, wrs, h8, h19, h30, h41, h52, h63, h74, hM8, hM9, hM10, hM11, hM12, h125, h136]
      · rcases (show j = 1 ∨ j = 2 ∨ j = 3 ∨ j = 4 by omega) with rfl | rfl | rfl | rfl <;> simp [hne, hne.symm, wr, wu, wrs, h8, h19, h30, h41, h52, h63, h74, hM8, hM9, hM10, hM11, hM12, h125, h136]
      · rcases (show j = 6 ∨ j = 7 ∨ j = 8 ∨ j = 9 ∨ j = 10 ∨ j = 11 by omega) with rfl | rfl | rfl | rfl | rfl | rfl <;> simp [hne, hne.symm, wr, wu, wrs, h8, h19, h30, h41, h52, h63, h74, hM8, hM9, hM10, hM11, hM12, h125, h136]
      · rcases (show j = 12 ∨ j = 13 by omega) with rfl | rfl <;> simp [hne, hne.symm, wr, wu, wrs, h8, h19, h30, h41, h52, h63, h74, hM8, hM9, hM10, hM11, hM12, h125, h136]
    · rw [if_neg ho]
      simp [ho, wr, wu, wrs, h8, h19, h30, h41, h52, h63, h74, hM8, hM9, hM10, hM11, hM12, h125, h136]) ?_
  generalize hgM15 : (wo M om (M oq)) = M15
  refine w_vret X hr dX1_copyFrom_139 ?_
  try dsimp only
  first | done | exact hgM15.symm
theorem cf_X3_copyFrom : wCal yX3_copyFrom cX3_copyFrom 2 none 1 := ⟨gw_611, gw_2, by decide, by decide, by rfl⟩
set_option maxRecDepth 100000 in
set_option maxHeartbeats 4000000 in
theorem c_X3_copyFrom (l : Launch) (G : wG) (M : wM) (op oq : Nat) (hop : op = 19 ∨ op = 20) (hoq : oq = 19 ∨ oq = 20) (hne : oq ≠ op) : Met l yX3_copyFrom (gws yX3_copyFrom cX3_copyFrom 2 none) (wrm 3 0 0) (wPc G M [vR G (op, 0), vR G (oq, 0)]) (wQv G (fun M1 => M1 = wo M op (M oq))) 0 0 (wA G) := by
  refine wMet (lc := [(0, vR G (op, 0)), (1, vR G (oq, 0))]) (by decide) (Nat.le_of_ble_eq_true rfl) rfl ?_
  intro p e s m args below meth c X hr
  have X : wX p s m args meth c G 2 "StateObserver$Plant" cX3_copyFrom := X
  refine r_aload_n (pc' := 1) X 0 dX3_copyFrom_0 rfl rfl rfl ?_
  refine r_aload_n (pc' := 2) X 1 dX3_copyFrom_1 rfl rfl rfl ?_
  refine gf_P_n (pc' := 5) X hoq gw_34 dX3_copyFrom_2 rfl ?_
  refine pf_P_n (pc' := 8) X hop gw_34 dX3_copyFrom_5 rfl (fun M1 hM1 => ?_)
  refine r_aload_n (pc' := 9) X 0 dX3_copyFrom_8 rfl rfl rfl ?_
  refine r_aload_n (pc' := 10) X 1 dX3_copyFrom_9 rfl rfl rfl ?_
  refine gf_P_p (pc' := 13) X hoq gw_39 dX3_copyFrom_10 rfl ?_
  refine pf_P_p (pc' := 16) X hop gw_39 dX3_copyFrom_13 rfl (fun M2 hM2 => ?_)
  refine r_aload_n (pc' := 17) X 1 dX3_copyFrom_16 rfl rfl rfl ?_
  refine gf_P_a (pc' := 20) X hoq gw_44 dX3_copyFrom_17 rfl ?_
  refine r_aload_n (pc' := 21) X 0 dX3_copyFrom_20 rfl rfl rfl ?_
  refine gf_P_a (pc' := 24) X hop gw_44 dX3_copyFrom_21 rfl ?_
  refine w_callv (pc' := 27) (st := []) (w_runSN X (c_X8_copyRows l G M2 oq 1 op 1 2 2 4 4 (kP_1 hoq) (kP_1 hop) (fun i hi => kP_a hoq hi) (fun i hi => kP_a hop hi) (by first | assumption | omega) (by first | assumption | omega) (by first | assumption | omega)) cf_X8_copyRows gw_530 rfl rfl ⟨Nat.le_of_ble_eq_true rfl, Nat.le_of_ble_eq_true rfl⟩ rfl rfl (Nat.le_of_ble_eq_true rfl) ⟨Nat.le_of_ble_eq_true rfl, Nat.le_of_ble_eq_true rfl⟩ tn_612 dX3_copyFrom_24) rfl (fun M3 h24 => ?_)
  refine r_aload_n (pc' := 28) X 1 dX3_copyFrom_27 rfl rfl rfl ?_
  refine gf_P_b (pc' := 31) X hoq gw_49 dX3_copyFrom_28 rfl ?_
  refine r_aload_n (pc' := 32) X 0 dX3_copyFrom_31 rfl rfl rfl ?_
  refine gf_P_b (pc' := 35) X hop gw_49 dX3_copyFrom_32 rfl ?_
  refine w_callv (pc' := 38) (st := []) (w_runSN X (c_X8_copyRow l G M3 oq 6 op 6 4 (kP_6 hoq) (kP_6 hop) (by first | assumption | omega)) cf_X8_copyRow gw_521 rfl rfl ⟨Nat.le_of_ble_eq_true rfl, Nat.le_of_ble_eq_true rfl⟩ rfl rfl (Nat.le_of_ble_eq_true rfl) ⟨Nat.le_of_ble_eq_true rfl, Nat.le_of_ble_eq_true rfl⟩ tn_613 dX3_copyFrom_35) rfl (fun M4 h35 => ?_)
  refine r_aload_n (pc' := 39) X 1 dX3_copyFrom_38 rfl rfl rfl ?_
  refine gf_P_e (pc' := 42) X hoq gw_53 dX3_copyFrom_39 rfl ?_
  refine r_aload_n (pc' := 43) X 0 dX3_copyFrom_42 rfl rfl rfl ?_
  refine gf_P_e (pc' := 46) X hop gw_53 dX3_copyFrom_43 rfl ?_
  refine w_callv (pc' := 49) (st := []) (w_runSN X (c_X8_copyRow l G M4 oq 7 op 7 4 (kP_7 hoq) (kP_7 hop) (by first | assumption | omega)) cf_X8_copyRow gw_521 rfl rfl ⟨Nat.le_of_ble_eq_true rfl, Nat.le_of_ble_eq_true rfl⟩ rfl rfl (Nat.le_of_ble_eq_true rfl) ⟨Nat.le_of_ble_eq_true rfl, Nat.le_of_ble_eq_true rfl⟩ tn_613 dX3_copyFrom_46) rfl (fun M5 h46 => ?_)
  refine r_aload_n (pc' := 50) X 1 dX3_copyFrom_49 rfl rfl rfl ?_
  refine gf_P_c (pc' := 53) X hoq gw_58 dX3_copyFrom_50 rfl ?_
  refine r_aload_n (pc' := 54) X 0 dX3_copyFrom_53 rfl rfl rfl ?_
  refine gf_P_c (pc' := 57) X hop gw_58 dX3_copyFrom_54 rfl ?_
  refine w_callv (pc' := 60) (st := []) (w_runSN X (c_X8_copyRows l G M5 oq 8 op 8 9 9 3 4 (kP_8 hoq) (kP_8 hop) (fun i hi => kP_c hoq hi) (fun i hi => kP_c hop hi) (by first | assumption | omega) (by first | assumption | omega) (by first | assumption | omega)) cf_X8_copyRows gw_530 rfl rfl ⟨Nat.le_of_ble_eq_true rfl, Nat.le_of_ble_eq_true rfl⟩ rfl rfl (Nat.le_of_ble_eq_true rfl) ⟨Nat.le_of_ble_eq_true rfl, Nat.le_of_ble_eq_true rfl⟩ tn_612 dX3_copyFrom_57) rfl (fun M6 h57 => ?_)
  refine r_aload_n (pc' := 61) X 1 dX3_copyFrom_60 rfl rfl rfl ?_
  refine gf_P_quantum (pc' := 64) X hoq gw_63 dX3_copyFrom_61 rfl ?_
  refine r_aload_n (pc' := 65) X 0 dX3_copyFrom_64 rfl rfl rfl ?_
  refine gf_P_quantum (pc' := 68) X hop gw_63 dX3_copyFrom_65 rfl ?_
  refine w_callv (pc' := 71) (st := []) (w_runSN X (c_X8_copyRow l G M6 oq 12 op 12 3 (kP_12 hoq) (kP_12 hop) (by first | assumption | omega)) cf_X8_copyRow gw_521 rfl rfl ⟨Nat.le_of_ble_eq_true rfl, Nat.le_of_ble_eq_true rfl⟩ rfl rfl (Nat.le_of_ble_eq_true rfl) ⟨Nat.le_of_ble_eq_true rfl, Nat.le_of_ble_eq_true rfl⟩ tn_613 dX3_copyFrom_68) rfl (fun M7 h68 => ?_)
  refine w_mem (wo M op (M oq)) (by
    intro o j i hr
    unfold wo
    by_cases ho : o = op
    · subst ho
      rw [if_pos rfl]
      rcases wrel_p hop hr with ⟨rfl, h1⟩ | ⟨h1, h2, h3⟩ | ⟨h1, h2, h3⟩ | ⟨rfl, h3⟩
      · rcases (show i = 0 ∨ i = 1 by omega) with rfl | rfl <;> simp [hne, hne.symm, wr, wu, wrs, hM1, hM2, h24, h35, h46, h57, h68]
      · rcases (show j = 2 ∨ j = 3 ∨ j = 4 ∨ j = 5 ∨ j = 6 ∨ j = 7 by omega) with rfl | rfl | rfl | rfl | rfl | rfl <;> simp [hne, hne.symm, wr, wu, wrs, hM1, hM2, h24, h35, h46, h57, h68]
      · rcases (show j = 9 ∨ j = 10 ∨ j = 11 by omega) with rfl | rfl | rfl <;> simp [hne, hne.symm, wr, wu, wrs, hM1, hM2, h24, h35, h46, h57, h68]
      · simp [hne, hne.symm, wr, wu, wrs, hM1, hM2, h24, h35, h46, h57, h68]
    · rw [if_neg ho]
      simp [ho, wr, wu, wrs, hM1, hM2, h24, h35, h46, h57, h68]) ?_
  generalize hgM8 : (wo M op (M oq)) = M8
  refine w_vret X hr dX3_copyFrom_71 ?_
  try dsimp only
  first | done | exact hgM8.symm
theorem cf_X1_clearGains : wCal yX1_clearGains cX1_clearGains 3 none 0 := ⟨gw_363, gw_3, by decide, by decide, by rfl⟩
set_option maxRecDepth 100000 in
set_option maxHeartbeats 4000000 in
theorem c_X1_clearGains (l : Launch) (G : wG) (M : wM) (om : Nat) (hom : om < 19) : Met l yX1_clearGains (gws yX1_clearGains cX1_clearGains 3 none) (wrm 0 0 0) (wPc G M [vR G (om, 0)]) (wQv G (fun M1 => (∀ a b, ¬ (a = om ∧ 6 ≤ b ∧ b < 10) → M1 a b = M a b) ∧ ∀ i k, i < 4 → k < 3 → M1 om (6 + i) k = 0)) 0 0 (wA G) := by
  refine wMet (lc := [(0, vR G (om, 0))]) (by decide) (Nat.le_of_ble_eq_true rfl) rfl ?_
  intro p e s m args below meth c X hr
  have X : wX p s m args meth c G 3 "StateObserver$Moment" cX1_clearGains := X
  refine r_iconst (pc' := 1) X dX1_clearGains_0 rfl ?_
  refine r_istore_n (pc' := 2) (lc' := [(0, vR G (om, 0)), (1, vI 0)]) X [1, 0] dX1_clearGains_1 rfl (by decide) rfl rfl ?_
  have L2 : ∀ (fu : Nat) (i : Nat) (M2 : wM), 4 - i < fu → (i ≤ 4) → (∀ a b, ¬ (a = om ∧ 6 ≤ b ∧ b < 10) → M2 a b = M a b) → (∀ x k, x < i → k < 3 → M2 om (6 + x) k = 0) → wV p l e (wrm 0 0 0) s m args below meth c G 3 M2 0 0 (MQ below (wQv G (fun M1 => (∀ a b, ¬ (a = om ∧ 6 ≤ b ∧ b < 10) → M1 a b = M a b) ∧ ∀ i k, i < 4 → k < 3 → M1 om (6 + i) k = 0)) args s 0 0 (wA G)) 2 [(0, vR G (om, 0)), (1, vI (i : Int))] [] := by
    intro fu
    induction fu with
    | zero => intro i M2 hfu; exact absurd hfu (Nat.not_lt_zero _)
    | succ fu ih2 =>
      intro i M2 hfu2 hi hm hz
      refine r_iload_n (pc' := 3) X 1 dX1_clearGains_2 rfl rfl rfl ?_
      refine r_iconst (pc' := 4) X dX1_clearGains_3 rfl ?_
      refine r_icmp_ge (pc' := 7) (tgt := 35) X dX1_clearGains_4 rfl rfl (by omega) (by omega) (fun h4 => ?_) (fun h4 => ?_)
      · refine w_vret X hr dX1_clearGains_35 ?_
        try dsimp only
        exact ⟨hm, fun x k hx hk => hz x k (by omega) hk⟩
      · refine r_iconst (pc' := 8) X dX1_clearGains_7 rfl ?_
        refine r_istore_n (pc' := 9) (lc' := [(0, vR G (om, 0)), (1, vI (i : Int)), (2, vI 0)]) X [1, 2, 0] dX1_clearGains_8 rfl (by decide) rfl rfl ?_
        have L9 : ∀ (fu : Nat) (k : Nat) (M3 : wM), 3 - k < fu → (k ≤ 3) → (∀ a b, ¬ (a = om ∧ 6 ≤ b ∧ b < 10) → M3 a b = M a b) → (∀ x y, (x < i ∧ y < 3) ∨ (x = i ∧ y < k) → M3 om (6 + x) y = 0) → wV p l e (wrm 0 0 0) s m args below meth c G 3 M3 0 0 (MQ below (wQv G (fun M1 => (∀ a b, ¬ (a = om ∧ 6 ≤ b ∧ b < 10) → M1 a b = M a b) ∧ ∀ i k, i < 4 → k < 3 → M1 om (6 + i) k = 0)) args s 0 0 (wA G)) 9 [(0, vR G (om, 0)), (1, vI (i : Int)), (2, vI (k : Int))] [] := by
          intro fu
          induction fu with
          | zero => intro k M3 hfu; exact absurd hfu (Nat.not_lt_zero _)
          | succ fu ih9 =>
            intro k M3 hfu9 hk hm2 hz2
            refine r_iload_n (pc' := 10) X 2 dX1_clearGains_9 rfl rfl rfl ?_
            refine r_iconst (pc' := 11) X dX1_clearGains_10 rfl ?_
            refine r_icmp_ge (pc' := 14) (tgt := 29) X dX1_clearGains_11 rfl rfl (by omega) (by omega) (fun h11 => ?_) (fun h11 => ?_)
            · refine r_iinc (pc' := 32) (z' := ((i + 1 : Nat) : Int)) (lc' := [(0, vR G (om, 0)), (1, vI ((i + 1 : Nat) : Int)), (2, vI (k : Int))]) X 1 [1, 0, 2] dX1_clearGains_29 rfl (by omega) (by decide) rfl rfl ?_
              refine r_goto (tgt := 2) X dX1_clearGains_32 rfl ?_
              refine w_sub (lc' := [(0, vR G (om, 0)), (1, vI ((i + 1 : Nat) : Int))]) [0, 1] rfl ?_
              exact ih2 (i + 1) M3 (by omega) (by omega) hm2 (fun x k hx hk => by rcases Nat.lt_or_ge x i with q | q; exact hz2 x k (Or.inl ⟨q, hk⟩); exact hz2 x k (Or.inr ⟨by omega, by omega⟩))
            · refine r_aload_n (pc' := 15) X 0 dX1_clearGains_14 rfl rfl rfl ?_
              refine gf_M_gain (pc' := 18) X hom gw_104 dX1_clearGains_15 rfl ?_
              refine r_iload_n (pc' := 19) X 1 dX1_clearGains_18 rfl rfl rfl ?_
              refine r_aald (i := i) (x := (om, (6 + i))) (pc' := 20) X (kM_5 hom) (by decide) (by omega) (by omega) (by decide) rfl dX1_clearGains_19 rfl ?_
              refine r_iload_n (pc' := 21) X 2 dX1_clearGains_20 rfl rfl rfl ?_
              refine r_iconst (pc' := 22) X dX1_clearGains_21 rfl ?_
              refine r_iast (i := k) (pc' := 23) X (kM_g hom (by omega)) (by omega) (by omega) (by decide) dX1_clearGains_22 rfl (fun M1 hM1 => ?_)
              refine r_iinc (pc' := 26) (z' := ((k + 1 : Nat) : Int)) (lc' := [(0, vR G (om, 0)), (1, vI (i : Int)), (2, vI ((k + 1 : Nat) : Int))]) X 2 [1, 2, 0] dX1_clearGains_23 rfl (by omega) (by decide) rfl rfl ?_
              refine r_goto (tgt := 9) X dX1_clearGains_26 rfl ?_
              exact ih9 (k + 1) M1 (by omega) (by omega) (fun a b h => by rw [hM1, wu_ne (by omega)]; exact hm2 a b h) (fun x y h => by rw [hM1]; unfold wu; split; rfl; exact hz2 x y (by omega))
        exact L9 ((3 - 0) + 1) 0 M2 (Nat.lt_succ_self _) (by omega) hm (fun x y h => hz x y (by omega) (by omega))
  exact L2 ((4 - 0) + 1) 0 M (Nat.lt_succ_self _) (by omega) (fun _ _ _ => rfl) (fun x k h _ => absurd h (Nat.not_lt_zero _))
theorem cf_X0_remember : wCal yX0_remember cX0_remember 2 none 1 := ⟨gw_722, gw_4, by decide, by decide, by rfl⟩
set_option maxRecDepth 100000 in
set_option maxHeartbeats 4000000 in
theorem c_X0_remember (l : Launch) (G : wG) (M : wM) (om : Nat) (hom : om < 5) (nx ct : Nat) (hnx : M 26 0 1 = (nx : Int)) (hnx14 : nx < 14) (hct : M 26 0 2 = (ct : Int)) (hct14 : ct ≤ 14) : Met l yX0_remember (gws yX0_remember cX0_remember 2 none) (wrm 4 0 0) (wPc G M [vR G (26, 0), vR G (om, 0)]) (wQv G (fun M1 => M1 = wu (wu (wo M (5 + nx) (M om)) 26 0 1 ((((nx + 1) % 14 : Nat)) : Int)) 26 0 2 (((min (ct + 1) 14 : Nat)) : Int))) 0 0 (wA G) := by
  refine wMet (lc := [(0, vR G (26, 0)), (1, vR G (om, 0))]) (by decide) (Nat.le_of_ble_eq_true rfl) rfl ?_
  intro p e s m args below meth c X hr
  have X : wX p s m args meth c G 2 "StateObserver$History" cX0_remember := X
  refine r_aload_n (pc' := 1) X 0 dX0_remember_0 rfl rfl rfl ?_
  refine gf_26_moments (pc' := 4) X gw_177 dX0_remember_1 rfl ?_
  refine r_aload_n (pc' := 5) X 0 dX0_remember_4 rfl rfl rfl ?_
  refine gf_26_next (pc' := 8) X gw_178 dX0_remember_5 rfl ?_
  refine w_eqI (z' := (nx : Int)) hnx ?_
  refine r_aald (i := nx) (x := ((5 + nx), 0)) (pc' := 9) X k26_1 (by decide) (by omega) (by omega) (by decide) rfl dX0_remember_8 rfl ?_
  refine r_aload_n (pc' := 10) X 1 dX0_remember_9 rfl rfl rfl ?_
  refine w_callv (pc' := 13) (st := []) (w_runV X (c_X1_copyFrom l G M (5 + nx) om (by omega) (show om < 19 by omega) (by first | assumption | omega)) cf_X1_copyFrom (kM_0 (by omega)) rfl gw_517 gw_518 rfl rfl ⟨Nat.le_of_ble_eq_true rfl, Nat.le_of_ble_eq_true rfl⟩ rfl rfl (Nat.le_of_ble_eq_true rfl) ⟨Nat.le_of_ble_eq_true rfl, Nat.le_of_ble_eq_true rfl⟩ gw_516 dX0_remember_10) rfl (fun M1 h10 => ?_)
  refine r_aload_n (pc' := 14) X 0 dX0_remember_13 rfl rfl rfl ?_
  refine r_aload_n (pc' := 15) X 0 dX0_remember_14 rfl rfl rfl ?_
  refine gf_26_next (pc' := 18) X gw_178 dX0_remember_15 rfl ?_
  refine w_eqI (z' := (nx : Int)) (by rw [h10]; unfold wo; rw [if_neg (by omega)]; exact hnx) ?_
  refine r_iconst (pc' := 19) X dX0_remember_18 rfl ?_
  refine r_iadd (pc' := 20) X dX0_remember_19 rfl ?_
  refine r_bipush (pc' := 22) X dX0_remember_20 rfl rfl ?_
  refine r_irem (pc' := 23) X dX0_remember_22 (by omega) (by omega) (by omega) rfl ?_
  refine pf_26_next (pc' := 26) X gw_178 dX0_remember_23 rfl (fun M2 hM2 => ?_)
  refine r_aload_n (pc' := 27) X 0 dX0_remember_26 rfl rfl rfl ?_
  refine r_aload_n (pc' := 28) X 0 dX0_remember_27 rfl rfl rfl ?_
  refine gf_26_count (pc' := 31) X gw_179 dX0_remember_28 rfl ?_
  refine w_eqI (z' := (ct : Int)) (by rw [hM2, h10]; simp [wu, wo, show ¬ 26 = 5 + nx by omega, hct]) ?_
  refine r_iconst (pc' := 32) X dX0_remember_31 rfl ?_
  refine r_iadd (pc' := 33) X dX0_remember_32 rfl ?_
  refine r_bipush (pc' := 35) X dX0_remember_33 rfl rfl ?_
  refine w_calli (pc' := 38) (st := [vR G (26, 0)]) (w_runS X (c_J9_min_7cf53 l G M2 ((ct : Int) + 1) 14 (by first | assumption | omega) (by first | assumption | omega)) cf_J9_min_7cf53 gw_524 rfl rfl ⟨Nat.le_of_ble_eq_true rfl, Nat.le_of_ble_eq_true rfl⟩ rfl rfl (Nat.le_of_ble_eq_true rfl) ⟨Nat.le_of_ble_eq_true rfl, Nat.le_of_ble_eq_true rfl⟩ gw_723 dX0_remember_35) rfl (fun z35 M3 h35 => ?_)
  obtain rfl := h35.1.symm
  obtain rfl := h35.2.symm
  refine pf_26_count (pc' := 41) X gw_179 dX0_remember_38 rfl (fun M4 hM4 => ?_)
  refine w_vret X hr dX0_remember_41 ?_
  try dsimp only
  rw [hM4, hM2, h10]
  have e1 : (((nx : Int) + 1)).tmod 14 = (((nx + 1) % 14 : Nat) : Int) := tm_nat (nx + 1) 14
  have e2 : min ((ct : Int) + 1) 14 = ((min (ct + 1) 14 : Nat) : Int) := by omega
  rw [e1, e2]
theorem cf_X0_takeBack : wCal yX0_takeBack cX0_takeBack 2 none 1 := ⟨gw_515, gw_4, by decide, by decide, by rfl⟩
set_option maxRecDepth 100000 in
set_option maxHeartbeats 4000000 in
theorem c_X0_takeBack (l : Launch) (G : wG) (M : wM) (om : Nat) (hom : om < 5) (nx ct : Nat) (hnx : M 26 0 1 = (nx : Int)) (hnx14 : nx < 14) (hct : M 26 0 2 = (ct : Int)) (hct14 : ct ≤ 14) (hct0 : 1 ≤ ct) : Met l yX0_takeBack (gws yX0_takeBack cX0_takeBack 2 none) (wrm 4 0 0) (wPc G M [vR G (26, 0), vR G (om, 0)]) (wQv G (fun M1 => M1 = wo (wu (wu M 26 0 1 ((((nx + 13) % 14 : Nat)) : Int)) 26 0 2 ((ct : Int) - 1)) om (M (5 + (nx + 13) % 14)))) 0 0 (wA G) := by
  refine wMet (lc := [(0, vR G (26, 0)), (1, vR G (om, 0))]) (by decide) (Nat.le_of_ble_eq_true rfl) rfl ?_
  intro p e s m args below meth c X hr
  have X : wX p s m args meth c G 2 "StateObserver$History" cX0_takeBack := X
  have ett : (((nx : Int) + 14 - 1)).tmod 14 = (((nx + 13) % 14 : Nat) : Int) := by rw [show (nx : Int) + 14 - 1 = ((nx + 13 : Nat) : Int) by omega]; exact tm_nat (nx + 13) 14
  refine r_aload_n (pc' := 1) X 0 dX0_takeBack_0 rfl rfl rfl ?_
  refine r_aload_n (pc' := 2) X 0 dX0_takeBack_1 rfl rfl rfl ?_
  refine gf_26_next (pc' := 5) X gw_178 dX0_takeBack_2 rfl ?_
  refine w_eqI (z' := (nx : Int)) hnx ?_
  refine r_bipush (pc' := 7) X dX0_takeBack_5 rfl rfl ?_
  refine r_iadd (pc' := 8) X dX0_takeBack_7 rfl ?_
  refine r_iconst (pc' := 9) X dX0_takeBack_8 rfl ?_
  refine r_isub (pc' := 10) X dX0_takeBack_9 rfl ?_
  refine r_bipush (pc' := 12) X dX0_takeBack_10 rfl rfl ?_
  refine r_irem (pc' := 13) X dX0_takeBack_12 (by omega) (by omega) (by omega) rfl ?_
  refine pf_26_next (pc' := 16) X gw_178 dX0_takeBack_13 rfl (fun M1 hM1 => ?_)
  refine r_aload_n (pc' := 17) X 0 dX0_takeBack_16 rfl rfl rfl ?_
  refine r_dup (pc' := 18) X dX0_takeBack_17 rfl rfl ?_
  refine gf_26_count (pc' := 21) X gw_179 dX0_takeBack_18 rfl ?_
  refine w_eqI (z' := (ct : Int)) (by rw [hM1]; unfold wu; simp; exact hct) ?_
  refine r_iconst (pc' := 22) X dX0_takeBack_21 rfl ?_
  refine r_isub (pc' := 23) X dX0_takeBack_22 rfl ?_
  refine pf_26_count (pc' := 26) X gw_179 dX0_takeBack_23 rfl (fun M2 hM2 => ?_)
  refine r_aload_n (pc' := 27) X 1 dX0_takeBack_26 rfl rfl rfl ?_
  refine r_aload_n (pc' := 28) X 0 dX0_takeBack_27 rfl rfl rfl ?_
  refine gf_26_moments (pc' := 31) X gw_177 dX0_takeBack_28 rfl ?_
  refine r_aload_n (pc' := 32) X 0 dX0_takeBack_31 rfl rfl rfl ?_
  refine gf_26_next (pc' := 35) X gw_178 dX0_takeBack_32 rfl ?_
  refine w_eqI (z' := (((nx + 13) % 14 : Nat) : Int)) (by rw [hM2, hM1]; unfold wu; simp; exact ett) ?_
  refine r_aald (i := ((nx + 13) % 14)) (x := ((5 + ((nx + 13) % 14)), 0)) (pc' := 36) X k26_1 (by decide) (by omega) (by omega) (by decide) rfl dX0_takeBack_35 rfl ?_
  refine w_callv (pc' := 39) (st := []) (w_runV X (c_X1_copyFrom l G M2 om (5 + ((nx + 13) % 14)) (show om < 19 by omega) (by omega) (by omega)) cf_X1_copyFrom (kM_0 (show om < 19 by omega)) rfl gw_517 gw_518 rfl rfl ⟨Nat.le_of_ble_eq_true rfl, Nat.le_of_ble_eq_true rfl⟩ rfl rfl (Nat.le_of_ble_eq_true rfl) ⟨Nat.le_of_ble_eq_true rfl, Nat.le_of_ble_eq_true rfl⟩ gw_516 dX0_takeBack_36) rfl (fun M3 h36 => ?_)
  refine w_vret X hr dX0_takeBack_39 ?_
  try dsimp only
  rw [h36, hM2, hM1, ett]
  congr 1
  funext b i
  simp [wu, show ¬ 5 + (nx + 13) % 14 = 26 by omega]
theorem cf_X0_forget : wCal yX0_forget cX0_forget 1 none 0 := ⟨gw_568, gw_4, by decide, by decide, by rfl⟩
set_option maxRecDepth 100000 in
set_option maxHeartbeats 4000000 in
theorem c_X0_forget (l : Launch) (G : wG) (M : wM)  : Met l yX0_forget (gws yX0_forget cX0_forget 1 none) (wrm 0 0 0) (wPc G M [vR G (26, 0)]) (wQv G (fun M1 => M1 = wu M 26 0 2 0)) 0 0 (wA G) := by
  refine wMet (lc := [(0, vR G (26, 0))]) (by decide) (Nat.le_of_ble_eq_true rfl) rfl ?_
  intro p e s m args below meth c X hr
  have X : wX p s m args meth c G 1 "StateObserver$History" cX0_forget := X
  refine r_aload_n (pc' := 1) X 0 dX0_forget_0 rfl rfl rfl ?_
  refine r_iconst (pc' := 2) X dX0_forget_1 rfl ?_
  refine pf_26_count (pc' := 5) X gw_179 dX0_forget_2 rfl (fun M1 hM1 => ?_)
  refine w_vret X hr dX0_forget_5 ?_
  try dsimp only
  exact hM1
theorem cf_X5_forget : wCal yX5_forget cX5_forget 2 none 0 := ⟨gw_617, gw_5, by decide, by decide, by rfl⟩
set_option maxRecDepth 100000 in
set_option maxHeartbeats 4000000 in
theorem c_X5_forget (l : Launch) (G : wG) (M : wM)  : Met l yX5_forget (gws yX5_forget cX5_forget 2 none) (wrm 0 0 0) (wPc G M [vR G (25, 0)]) (wQv G (fun M1 => M1 = wu (wu M 25 2 0 0) 25 2 1 0)) 0 0 (wA G) := by
  refine wMet (lc := [(0, vR G (25, 0))]) (by decide) (Nat.le_of_ble_eq_true rfl) rfl ?_
  intro p e s m args below meth c X hr
  have X : wX p s m args meth c G 2 "StateObserver$Slots" cX5_forget := X
  refine r_iconst (pc' := 1) X dX5_forget_0 rfl ?_
  refine r_istore_n (pc' := 2) (lc' := [(0, vR G (25, 0)), (1, vI 0)]) X [1, 0] dX5_forget_1 rfl (by decide) rfl rfl ?_
  have L2 : ∀ (fu : Nat) (i : Nat) (M2 : wM), 2 - i < fu → (i ≤ 2) → ((i = 0 → M2 = M) ∧ (i = 1 → M2 = wu M 25 2 0 0) ∧ (i = 2 → M2 = wu (wu M 25 2 0 0) 25 2 1 0)) → wV p l e (wrm 0 0 0) s m args below meth c G 2 M2 0 0 (MQ below (wQv G (fun M1 => M1 = wu (wu M 25 2 0 0) 25 2 1 0)) args s 0 0 (wA G)) 2 [(0, vR G (25, 0)), (1, vI (i : Int))] [] := by
    intro fu
    induction fu with
    | zero => intro i M2 hfu; exact absurd hfu (Nat.not_lt_zero _)
    | succ fu ih2 =>
      intro i M2 hfu2 hi hm
      refine r_iload_n (pc' := 3) X 1 dX5_forget_2 rfl rfl rfl ?_
      refine r_iconst (pc' := 4) X dX5_forget_3 rfl ?_
      refine r_icmp_ge (pc' := 7) (tgt := 20) X dX5_forget_4 rfl rfl (by omega) (by omega) (fun h4 => ?_) (fun h4 => ?_)
      · refine w_vret X hr dX5_forget_20 ?_
        try dsimp only
        exact hm.2.2 (by omega)
      · refine r_aload_n (pc' := 8) X 0 dX5_forget_7 rfl rfl rfl ?_
        refine gf_25_filled (pc' := 11) X gw_198 dX5_forget_8 rfl ?_
        refine r_iload_n (pc' := 12) X 1 dX5_forget_11 rfl rfl rfl ?_
        refine r_iconst (pc' := 13) X dX5_forget_12 rfl ?_
        refine r_zast (i := i) (pc' := 14) X k25_2 (by omega) (by omega) (by decide) (by omega) dX5_forget_13 rfl (fun M1 hM1 => ?_)
        refine r_iinc (pc' := 17) (z' := ((i + 1 : Nat) : Int)) (lc' := [(0, vR G (25, 0)), (1, vI ((i + 1 : Nat) : Int))]) X 1 [1, 0] dX5_forget_14 rfl (by omega) (by decide) rfl rfl ?_
        refine r_goto (tgt := 2) X dX5_forget_17 rfl ?_
        exact ih2 (i + 1) M1 (by omega) (by omega) (by rcases (show i = 0 ∨ i = 1 by omega) with rfl | rfl; exact ⟨fun h => absurd h (by omega), fun _ => by rw [hM1, hm.1 rfl], fun h => absurd h (by omega)⟩; exact ⟨fun h => absurd h (by omega), fun h => absurd h (by omega), fun _ => by rw [hM1, hm.2.1 rfl]⟩)
  exact L2 ((2 - 0) + 1) 0 M (Nat.lt_succ_self _) (by omega) ⟨fun _ => rfl, fun h => absurd h (by omega), fun h => absurd h (by omega)⟩
