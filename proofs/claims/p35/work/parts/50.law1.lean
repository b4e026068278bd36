/-! refusals; the unknown input -/
theorem cf_L_refuses : wCal yL_refuses cL_refuses 5 (some .boolean) 1 := ⟨gw_702, gw_0, by decide, by decide, by rfl⟩
set_option maxRecDepth 100000 in
set_option maxHeartbeats 4000000 in
theorem c_L_refuses (l : Launch) (G : wG) (M : wM) (hfl : l.stackTraces = false) (N P L nx ct : Nat) (T : Int) (lo : Lo N P L nx ct T M)  : Met l yL_refuses (gws yL_refuses cL_refuses 5 (some .boolean)) (wrm 8 80 480) (wPc G M [vR G (28, 0)]) (wQi G (fun z M1 => z = 1 ∧ ScrEq M M1)) 80 480 (wA G) := by
  refine wMet (lc := [(0, vR G (28, 0))]) (by decide) (Nat.le_of_ble_eq_true rfl) rfl ?_
  intro p e s m args below meth c X hr
  have X : wX p s m args meth c G 5 "StateObserverLaw" cL_refuses := X
  have hn := lo.n
  have hb0 := lo.box (i := 0) (by omega)
  have hbn := lo.box (i := ((N : Int) - 1).toNat) (by omega)
  have hbo := lo.bo
  have hcb : combs (M 19 7) N ≤ (N : Int) := by unfold combs; split <;> omega
  refine r_aload_n (pc' := 1) X 0 dL_refuses_0 rfl rfl rfl ?_
  refine r_iconst (pc' := 2) X dL_refuses_1 rfl ?_
  refine w_calli (pc' := 5) (st := []) (w_runSH X (c_L_tryAbout l G M hfl N P T lo.ck (by have := lo.t; omega) 0 (by first | omega | assumption | decide)) cf_L_tryAbout gw_681 rfl rfl ⟨Nat.le_of_ble_eq_true rfl, Nat.le_of_ble_eq_true rfl⟩ rfl rfl (Nat.le_of_ble_eq_true rfl) ⟨by show _ ≤ 80; omega, by show _ ≤ 480; omega⟩ gw_680 dL_refuses_2) rfl (fun z2 M1 h2 => ?_)
  rcases h2 with h2 | h2
  rotate_left 1
  · exfalso
    have hd := h2.2.1; clear h2; omega
  obtain ⟨-, hv2, hm2⟩ := h2
  obtain rfl := hm2.symm
  refine w_eqI (z' := (N : Int)) hv2 ?_
  refine r_istore_n (pc' := 6) (lc' := [(0, vR G (28, 0)), (1, vI (N : Int))]) X [1, 0] dL_refuses_5 rfl (by decide) rfl rfl ?_
  refine r_aload_n (pc' := 7) X 0 dL_refuses_6 rfl rfl rfl ?_
  refine r_iconst (pc' := 8) X dL_refuses_7 rfl ?_
  refine w_calli (pc' := 11) (st := []) (w_runSH X (c_L_tryAbout l G M hfl N P T lo.ck (by have := lo.t; omega) 1 (by first | omega | assumption | decide)) cf_L_tryAbout gw_681 rfl rfl ⟨Nat.le_of_ble_eq_true rfl, Nat.le_of_ble_eq_true rfl⟩ rfl rfl (Nat.le_of_ble_eq_true rfl) ⟨by show _ ≤ 80; omega, by show _ ≤ 480; omega⟩ gw_680 dL_refuses_8) rfl (fun z8 M2 h8 => ?_)
  rcases h8 with h8 | h8
  rotate_left 1
  · exfalso
    have hd := h8.2.1; clear h8; omega
  obtain ⟨-, hv8, hm8⟩ := h8
  obtain rfl := hm8.symm
  refine w_eqI (z' := (P : Int)) hv8 ?_
  refine r_istore_n (pc' := 12) (lc' := [(0, vR G (28, 0)), (1, vI (N : Int)), (2, vI (P : Int))]) X [1, 2, 0] dL_refuses_11 rfl (by decide) rfl rfl ?_
  refine r_aload_n (pc' := 13) X 0 dL_refuses_12 rfl rfl rfl ?_
  refine r_iconst (pc' := 14) X dL_refuses_13 rfl ?_
  refine w_calli (pc' := 17) (st := []) (w_runSH X (c_L_tryAbout l G M hfl N P T lo.ck (by have := lo.t; omega) 2 (by first | omega | assumption | decide)) cf_L_tryAbout gw_681 rfl rfl ⟨Nat.le_of_ble_eq_true rfl, Nat.le_of_ble_eq_true rfl⟩ rfl rfl (Nat.le_of_ble_eq_true rfl) ⟨by show _ ≤ 80; omega, by show _ ≤ 480; omega⟩ gw_680 dL_refuses_14) rfl (fun z14 M3 h14 => ?_)
  rcases h14 with h14 | h14
  rotate_left 1
  · exfalso
    have hd := h14.2.1; clear h14; omega
  obtain ⟨-, hv14, hm14⟩ := h14
  obtain rfl := hm14.symm
  refine w_eqI (z' := M 0 0 8) hv14 ?_
  refine r_istore_n (pc' := 18) (lc' := [(0, vR G (28, 0)), (1, vI (N : Int)), (2, vI (P : Int)), (3, vI (M 0 0 8))]) X [1, 2, 3, 0] dL_refuses_17 rfl (by decide) rfl rfl ?_
  refine r_aload_n (pc' := 19) X 0 dL_refuses_18 rfl rfl rfl ?_
  refine r_iconst (pc' := 20) X dL_refuses_19 rfl ?_
  refine w_calli (pc' := 23) (st := []) (w_runSH X (c_L_tryAbout l G M hfl N P T lo.ck (by have := lo.t; omega) 5 (by first | omega | assumption | decide)) cf_L_tryAbout gw_681 rfl rfl ⟨Nat.le_of_ble_eq_true rfl, Nat.le_of_ble_eq_true rfl⟩ rfl rfl (Nat.le_of_ble_eq_true rfl) ⟨by show _ ≤ 80; omega, by show _ ≤ 480; omega⟩ gw_680 dL_refuses_20) rfl (fun z20 M4 h20 => ?_)
  rcases h20 with h20 | h20
  · exfalso
    have hd := h20.1; clear h20; omega
  obtain ⟨hz20, hc20, hs20⟩ := h20
  have sM4 : ScrEq M M4 := hs20
  have qM4 := lo.scr sM4
  have e0M4 : M4 0 = M 0 := sM4.z0
  have e19M4 : M4 19 = M 19 := sM4.z19
  refine w_eqI (z' := (-1002)) hz20 ?_
  refine r_sipush (pc' := 26) X dL_refuses_23 rfl rfl ?_
  refine r_icmp_ne (pc' := 29) (tgt := 162) X dL_refuses_26 rfl rfl (by omega) (by omega) (fun h26 => absurd h26 (by decide)) (fun h26 => ?_)
  refine r_aload_n (pc' := 30) X 0 dL_refuses_29 rfl rfl rfl ?_
  refine r_iconst (pc' := 31) X dL_refuses_30 rfl ?_
  refine r_iload_n (pc' := 32) X 1 dL_refuses_31 rfl rfl rfl ?_
  refine r_iconst (pc' := 33) X dL_refuses_32 rfl ?_
  refine w_calli (pc' := 36) (st := []) (w_runSH X (c_L_tryNumber l G M4 hfl N P T qM4.ck (by have := qM4.t; omega) 0 (N : Int) 0 (by first | omega | assumption | decide) (by first | omega | assumption | decide) (by first | omega | assumption | decide)) cf_L_tryNumber gw_619 rfl rfl ⟨Nat.le_of_ble_eq_true rfl, Nat.le_of_ble_eq_true rfl⟩ rfl rfl (Nat.le_of_ble_eq_true rfl) ⟨by show _ ≤ 80; omega, by show _ ≤ 480; omega⟩ gw_618 dL_refuses_33) rfl (fun z33 M5 h33 => ?_)
  rcases h33 with h33 | h33 | h33
  · exfalso
    exact absurd h33.2.1.2 (by rw [if_neg (by decide)]; omega)
  · exfalso
    have hd := h33.2.1; clear h33; omega
  obtain ⟨hz33, hc33, hs33⟩ := h33
  have sM5 : ScrEq M M5 := sM4.trans (hs33)
  have qM5 := lo.scr sM5
  have e0M5 : M5 0 = M 0 := sM5.z0
  have e19M5 : M5 19 = M 19 := sM5.z19
  refine w_eqI (z' := (-1001)) hz33 ?_
  refine r_sipush (pc' := 39) X dL_refuses_36 rfl rfl ?_
  refine r_icmp_ne (pc' := 42) (tgt := 162) X dL_refuses_39 rfl rfl (by omega) (by omega) (fun h39 => absurd h39 (by decide)) (fun h39 => ?_)
  refine r_aload_n (pc' := 43) X 0 dL_refuses_42 rfl rfl rfl ?_
  refine r_iconst (pc' := 44) X dL_refuses_43 rfl ?_
  refine r_iconst (pc' := 45) X dL_refuses_44 rfl ?_
  refine r_iconst (pc' := 46) X dL_refuses_45 rfl ?_
  refine w_calli (pc' := 49) (st := []) (w_runSH X (c_L_tryNumber l G M5 hfl N P T qM5.ck (by have := qM5.t; omega) 1 0 1 (by first | omega | assumption | decide) (by first | omega | assumption | decide) (by first | omega | assumption | decide)) cf_L_tryNumber gw_619 rfl rfl ⟨Nat.le_of_ble_eq_true rfl, Nat.le_of_ble_eq_true rfl⟩ rfl rfl (Nat.le_of_ble_eq_true rfl) ⟨by show _ ≤ 80; omega, by show _ ≤ 480; omega⟩ gw_618 dL_refuses_46) rfl (fun z46 M6 h46 => ?_)
  rcases h46 with h46 | h46 | h46
  · exfalso
    exact absurd h46.2.2.1.2 (by unfold colsF; rw [if_neg (by decide), if_neg (by decide)]; omega)
  · exfalso
    have hd := h46.2.1; clear h46; omega
  obtain ⟨hz46, hc46, hs46⟩ := h46
  have sM6 : ScrEq M M6 := sM5.trans (hs46)
  have qM6 := lo.scr sM6
  have e0M6 : M6 0 = M 0 := sM6.z0
  have e19M6 : M6 19 = M 19 := sM6.z19
  refine w_eqI (z' := (-1001)) hz46 ?_
  refine r_sipush (pc' := 52) X dL_refuses_49 rfl rfl ?_
  refine r_icmp_ne (pc' := 55) (tgt := 162) X dL_refuses_52 rfl rfl (by omega) (by omega) (fun h52 => absurd h52 (by decide)) (fun h52 => ?_)
  refine r_aload_n (pc' := 56) X 0 dL_refuses_55 rfl rfl rfl ?_
  refine r_iconst (pc' := 57) X dL_refuses_56 rfl ?_
  refine r_iload_n (pc' := 58) X 2 dL_refuses_57 rfl rfl rfl ?_
  refine r_iconst (pc' := 59) X dL_refuses_58 rfl ?_
  refine w_calli (pc' := 62) (st := []) (w_runSH X (c_L_tryNumber l G M6 hfl N P T qM6.ck (by have := qM6.t; omega) 3 (P : Int) 0 (by first | omega | assumption | decide) (by first | omega | assumption | decide) (by first | omega | assumption | decide)) cf_L_tryNumber gw_619 rfl rfl ⟨Nat.le_of_ble_eq_true rfl, Nat.le_of_ble_eq_true rfl⟩ rfl rfl (Nat.le_of_ble_eq_true rfl) ⟨by show _ ≤ 80; omega, by show _ ≤ 480; omega⟩ gw_618 dL_refuses_59) rfl (fun z59 M7 h59 => ?_)
  rcases h59 with h59 | h59 | h59
  · exfalso
    exact absurd h59.2.1.2 (by rw [if_pos (by decide)]; omega)
  · exfalso
    have hd := h59.2.1; clear h59; omega
  obtain ⟨hz59, hc59, hs59⟩ := h59
  have sM7 : ScrEq M M7 := sM6.trans (hs59)
  have qM7 := lo.scr sM7
  have e0M7 : M7 0 = M 0 := sM7.z0
  have e19M7 : M7 19 = M 19 := sM7.z19
  refine w_eqI (z' := (-1001)) hz59 ?_
  refine r_sipush (pc' := 65) X dL_refuses_62 rfl rfl ?_
  refine r_icmp_ne (pc' := 68) (tgt := 162) X dL_refuses_65 rfl rfl (by omega) (by omega) (fun h65 => absurd h65 (by decide)) (fun h65 => ?_)
  refine r_aload_n (pc' := 69) X 0 dL_refuses_68 rfl rfl rfl ?_
  refine r_iconst (pc' := 70) X dL_refuses_69 rfl ?_
  refine r_iconst (pc' := 71) X dL_refuses_70 rfl ?_
  refine r_iconst (pc' := 72) X dL_refuses_71 rfl ?_
  refine w_calli (pc' := 75) (st := []) (w_runSH X (c_L_tryNumber l G M7 hfl N P T qM7.ck (by have := qM7.t; omega) 4 0 (-1) (by first | omega | assumption | decide) (by first | omega | assumption | decide) (by first | omega | assumption | decide)) cf_L_tryNumber gw_619 rfl rfl ⟨Nat.le_of_ble_eq_true rfl, Nat.le_of_ble_eq_true rfl⟩ rfl rfl (Nat.le_of_ble_eq_true rfl) ⟨by show _ ≤ 80; omega, by show _ ≤ 480; omega⟩ gw_618 dL_refuses_72) rfl (fun z72 M8 h72 => ?_)
  rcases h72 with h72 | h72 | h72
  · exfalso
    exact absurd h72.2.2.1.1 (by omega)
  · exfalso
    have hd := h72.2.1; clear h72; omega
  obtain ⟨hz72, hc72, hs72⟩ := h72
  have sM8 : ScrEq M M8 := sM7.trans (hs72)
  have qM8 := lo.scr sM8
  have e0M8 : M8 0 = M 0 := sM8.z0
  have e19M8 : M8 19 = M 19 := sM8.z19
  refine w_eqI (z' := (-1001)) hz72 ?_
  refine r_sipush (pc' := 78) X dL_refuses_75 rfl rfl ?_
  refine r_icmp_ne (pc' := 81) (tgt := 162) X dL_refuses_78 rfl rfl (by omega) (by omega) (fun h78 => absurd h78 (by decide)) (fun h78 => ?_)
  refine r_aload_n (pc' := 82) X 0 dL_refuses_81 rfl rfl rfl ?_
  refine r_iconst (pc' := 83) X dL_refuses_82 rfl ?_
  refine r_iconst (pc' := 84) X dL_refuses_83 rfl ?_
  refine r_iload_n (pc' := 85) X 2 dL_refuses_84 rfl rfl rfl ?_
  refine w_calli (pc' := 88) (st := []) (w_runSH X (c_L_tryNumber l G M8 hfl N P T qM8.ck (by have := qM8.t; omega) 5 0 (P : Int) (by first | omega | assumption | decide) (by first | omega | assumption | decide) (by first | omega | assumption | decide)) cf_L_tryNumber gw_619 rfl rfl ⟨Nat.le_of_ble_eq_true rfl, Nat.le_of_ble_eq_true rfl⟩ rfl rfl (Nat.le_of_ble_eq_true rfl) ⟨by show _ ≤ 80; omega, by show _ ≤ 480; omega⟩ gw_618 dL_refuses_85) rfl (fun z85 M9 h85 => ?_)
  rcases h85 with h85 | h85 | h85
  · exfalso
    exact absurd h85.2.2.1.2 (by unfold colsF; rw [if_neg (by decide), if_pos rfl]; omega)
  · exfalso
    have hd := h85.2.1; clear h85; omega
  obtain ⟨hz85, hc85, hs85⟩ := h85
  have sM9 : ScrEq M M9 := sM8.trans (hs85)
  have qM9 := lo.scr sM9
  have e0M9 : M9 0 = M 0 := sM9.z0
  have e19M9 : M9 19 = M 19 := sM9.z19
  refine w_eqI (z' := (-1001)) hz85 ?_
  refine r_sipush (pc' := 91) X dL_refuses_88 rfl rfl ?_
  refine r_icmp_ne (pc' := 94) (tgt := 162) X dL_refuses_91 rfl rfl (by omega) (by omega) (fun h91 => absurd h91 (by decide)) (fun h91 => ?_)
  refine r_aload_n (pc' := 95) X 0 dL_refuses_94 rfl rfl rfl ?_
  refine r_bipush (pc' := 97) X dL_refuses_95 rfl rfl ?_
  refine r_bipush (pc' := 99) X dL_refuses_97 rfl rfl ?_
  refine r_bipush (pc' := 101) X dL_refuses_99 rfl rfl ?_
  refine w_calli (pc' := 104) (st := []) (w_runSH X (c_L_tryNumber l G M9 hfl N P T qM9.ck (by have := qM9.t; omega) 6 9 9 (by first | omega | assumption | decide) (by first | omega | assumption | decide) (by first | omega | assumption | decide)) cf_L_tryNumber gw_619 rfl rfl ⟨Nat.le_of_ble_eq_true rfl, Nat.le_of_ble_eq_true rfl⟩ rfl rfl (Nat.le_of_ble_eq_true rfl) ⟨by show _ ≤ 80; omega, by show _ ≤ 480; omega⟩ gw_618 dL_refuses_101) rfl (fun z101 M10 h101 => ?_)
  rcases h101 with h101 | h101 | h101
  · exfalso
    have hd := h101.1; clear h101; omega
  rotate_left 1
  · exfalso
    have hd := h101.2.1; clear h101; omega
  obtain ⟨hz101, hc101, hs101⟩ := h101
  have sM10 : ScrEq M M10 := sM9.trans (hs101)
  have qM10 := lo.scr sM10
  have e0M10 : M10 0 = M 0 := sM10.z0
  have e19M10 : M10 19 = M 19 := sM10.z19
  refine w_eqI (z' := (-1002)) hz101 ?_
  refine r_sipush (pc' := 107) X dL_refuses_104 rfl rfl ?_
  refine r_icmp_ne (pc' := 110) (tgt := 162) X dL_refuses_107 rfl rfl (by omega) (by omega) (fun h107 => absurd h107 (by decide)) (fun h107 => ?_)
  refine r_aload_n (pc' := 111) X 0 dL_refuses_110 rfl rfl rfl ?_
  refine r_iload_n (pc' := 112) X 1 dL_refuses_111 rfl rfl rfl ?_
  refine r_iconst (pc' := 113) X dL_refuses_112 rfl ?_
  refine w_calli (pc' := 116) (st := []) (w_runSH X (c_L_tryState l G M10 hfl N P T qM10.ck (by have := qM10.t; omega) (N : Int) 5 (by first | omega | assumption | decide) (by first | omega | assumption | decide)) cf_L_tryState gw_689 rfl rfl ⟨Nat.le_of_ble_eq_true rfl, Nat.le_of_ble_eq_true rfl⟩ rfl rfl (Nat.le_of_ble_eq_true rfl) ⟨by show _ ≤ 80; omega, by show _ ≤ 480; omega⟩ gw_688 dL_refuses_113) rfl (fun z113 M11 h113 => ?_)
  rcases h113 with h113 | h113 | h113
  · exfalso
    have hd := h113.1; clear h113; omega
  rotate_left 1
  · exfalso
    have hd := h113.2.1; clear h113; omega
  obtain ⟨hz113, hc113, hs113⟩ := h113
  have sM11 : ScrEq M M11 := sM10.trans (hs113)
  have qM11 := lo.scr sM11
  have e0M11 : M11 0 = M 0 := sM11.z0
  have e19M11 : M11 19 = M 19 := sM11.z19
  refine w_eqI (z' := (-1001)) hz113 ?_
  refine r_sipush (pc' := 119) X dL_refuses_116 rfl rfl ?_
  refine r_icmp_ne (pc' := 122) (tgt := 162) X dL_refuses_119 rfl rfl (by omega) (by omega) (fun h119 => absurd h119 (by decide)) (fun h119 => ?_)
  refine r_aload_n (pc' := 123) X 0 dL_refuses_122 rfl rfl rfl ?_
  refine r_iconst (pc' := 124) X dL_refuses_123 rfl ?_
  refine r_iconst (pc' := 125) X dL_refuses_124 rfl ?_
  refine w_calli (pc' := 128) (st := []) (w_runSH X (c_L_tryState l G M11 hfl N P T qM11.ck (by have := qM11.t; omega) 0 5 (by first | omega | assumption | decide) (by first | omega | assumption | decide)) cf_L_tryState gw_689 rfl rfl ⟨Nat.le_of_ble_eq_true rfl, Nat.le_of_ble_eq_true rfl⟩ rfl rfl (Nat.le_of_ble_eq_true rfl) ⟨by show _ ≤ 80; omega, by show _ ≤ 480; omega⟩ gw_688 dL_refuses_125) rfl (fun z125 M12 h125 => ?_)
  rcases h125 with h125 | h125 | h125
  · exfalso
    have hd := h125.2.1; clear h125; omega
  · exfalso
    have hd := h125.2.1; clear h125; omega
  obtain ⟨hz125, hc125, hs125⟩ := h125
  have sM12 : ScrEq M M12 := sM11.trans (hs125)
  have qM12 := lo.scr sM12
  have e0M12 : M12 0 = M 0 := sM12.z0
  have e19M12 : M12 19 = M 19 := sM12.z19
  refine w_eqI (z' := (-1002)) hz125 ?_
  refine r_sipush (pc' := 131) X dL_refuses_128 rfl rfl ?_
  refine r_icmp_ne (pc' := 134) (tgt := 162) X dL_refuses_131 rfl rfl (by omega) (by omega) (fun h131 => absurd h131 (by decide)) (fun h131 => ?_)
  refine r_aload_n (pc' := 135) X 0 dL_refuses_134 rfl rfl rfl ?_
  refine r_iload_n (pc' := 136) X 2 dL_refuses_135 rfl rfl rfl ?_
  refine r_iconst (pc' := 137) X dL_refuses_136 rfl ?_
  refine w_calli (pc' := 140) (st := []) (w_runSH X (c_L_tryOutput l G M12 hfl N P T qM12.ck (by have := qM12.t; omega) (P : Int) 4 (by first | omega | assumption | decide) (by first | omega | assumption | decide)) cf_L_tryOutput gw_377 rfl rfl ⟨Nat.le_of_ble_eq_true rfl, Nat.le_of_ble_eq_true rfl⟩ rfl rfl (Nat.le_of_ble_eq_true rfl) ⟨by show _ ≤ 80; omega, by show _ ≤ 480; omega⟩ gw_376 dL_refuses_137) rfl (fun z137 M13 h137 => ?_)
  rcases h137 with h137 | h137 | h137 | h137
  · exfalso
    have hd := h137.1; clear h137; omega
  rotate_left 1
  · exfalso
    have hd := h137.2.1; clear h137; omega
  · exfalso
    have hd := h137.2.1; clear h137; omega
  obtain ⟨hz137, hc137, hs137⟩ := h137
  have sM13 : ScrEq M M13 := sM12.trans (hs137)
  have qM13 := lo.scr sM13
  have e0M13 : M13 0 = M 0 := sM13.z0
  have e19M13 : M13 19 = M 19 := sM13.z19
  refine w_eqI (z' := (-1001)) hz137 ?_
  refine r_sipush (pc' := 143) X dL_refuses_140 rfl rfl ?_
  refine r_icmp_ne (pc' := 146) (tgt := 162) X dL_refuses_143 rfl rfl (by omega) (by omega) (fun h143 => absurd h143 (by decide)) (fun h143 => ?_)
  refine r_aload_n (pc' := 147) X 0 dL_refuses_146 rfl rfl rfl ?_
  refine r_iconst (pc' := 148) X dL_refuses_147 rfl ?_
  refine r_iconst (pc' := 149) X dL_refuses_148 rfl ?_
  refine w_calli (pc' := 152) (st := []) (w_runSH X (c_L_tryOutput l G M13 hfl N P T qM13.ck (by have := qM13.t; omega) 0 (-1) (by first | omega | assumption | decide) (by first | omega | assumption | decide)) cf_L_tryOutput gw_377 rfl rfl ⟨Nat.le_of_ble_eq_true rfl, Nat.le_of_ble_eq_true rfl⟩ rfl rfl (Nat.le_of_ble_eq_true rfl) ⟨by show _ ≤ 80; omega, by show _ ≤ 480; omega⟩ gw_376 dL_refuses_149) rfl (fun z149 M14 h149 => ?_)
  rcases h149 with h149 | h149 | h149 | h149
  · exfalso
    have hd := h149.2.1; clear h149; omega
  · exfalso
    have hd := h149.2.1; clear h149; omega
  rotate_left 1
  · exfalso
    have hd := h149.2.1; clear h149; omega
  obtain ⟨hz149, hc149, hs149⟩ := h149
  have sM14 : ScrEq M M14 := sM13.trans (hs149)
  have qM14 := lo.scr sM14
  have e0M14 : M14 0 = M 0 := sM14.z0
  have e19M14 : M14 19 = M 19 := sM14.z19
  refine w_eqI (z' := (-1002)) hz149 ?_
  refine r_sipush (pc' := 155) X dL_refuses_152 rfl rfl ?_
  refine r_icmp_ne (pc' := 158) (tgt := 162) X dL_refuses_155 rfl rfl (by omega) (by omega) (fun h155 => absurd h155 (by decide)) (fun h155 => ?_)
  refine r_iconst (pc' := 159) X dL_refuses_158 rfl ?_
  refine r_goto (tgt := 163) X dL_refuses_159 rfl ?_
  refine r_istore (pc' := 165) (lc' := [(0, vR G (28, 0)), (1, vI (N : Int)), (2, vI (P : Int)), (3, vI (M 0 0 8)), (4, vI 1)]) X [1, 2, 3, 4, 0] dL_refuses_163 (by decide) rfl rfl ?_
  refine r_iload (pc' := 167) X 4 dL_refuses_165 rfl rfl ?_
  refine r_if_eq (pc' := 170) (tgt := 369) X dL_refuses_167 rfl rfl (by omega) (fun h167 => absurd h167 (by decide)) (fun h167 => ?_)
  refine r_aload_n (pc' := 171) X 0 dL_refuses_170 rfl rfl rfl ?_
  refine r_iload_n (pc' := 172) X 1 dL_refuses_171 rfl rfl rfl ?_
  refine r_iconst (pc' := 173) X dL_refuses_172 rfl ?_
  refine w_calli (pc' := 176) (st := []) (w_runSH X (c_L_tryPlace l G M14 hfl N P T qM14.ck (by have := qM14.t; omega) nx ct qM14.nxe qM14.nx14 qM14.cte qM14.ct14 (N : Int) 0 (by first | omega | assumption | decide) (by first | omega | assumption | decide)) cf_L_tryPlace gw_704 rfl rfl ⟨Nat.le_of_ble_eq_true rfl, Nat.le_of_ble_eq_true rfl⟩ rfl rfl (Nat.le_of_ble_eq_true rfl) ⟨by show _ ≤ 80; omega, by show _ ≤ 480; omega⟩ gw_703 dL_refuses_173) rfl (fun z173 M15 h173 => ?_)
  rcases h173 with h173 | h173 | h173
  · exfalso
    have hd := h173.1; clear h173; omega
  rotate_left 1
  · exfalso
    have hd := h173.2.1; clear h173; omega
  obtain ⟨hz173, hc173, hs173⟩ := h173
  have sM15 : ScrEq M M15 := sM14.trans (hs173)
  have qM15 := lo.scr sM15
  have e0M15 : M15 0 = M 0 := sM15.z0
  have e19M15 : M15 19 = M 19 := sM15.z19
  refine w_eqI (z' := (-1001)) hz173 ?_
  refine r_sipush (pc' := 179) X dL_refuses_176 rfl rfl ?_
  refine r_icmp_ne (pc' := 182) (tgt := 369) X dL_refuses_179 rfl rfl (by omega) (by omega) (fun h179 => absurd h179 (by decide)) (fun h179 => ?_)
  refine r_aload_n (pc' := 183) X 0 dL_refuses_182 rfl rfl rfl ?_
  refine r_iconst (pc' := 184) X dL_refuses_183 rfl ?_
  refine r_aload_n (pc' := 185) X 0 dL_refuses_184 rfl rfl rfl ?_
  refine r_iconst (pc' := 186) X dL_refuses_185 rfl ?_
  refine r_iconst (pc' := 187) X dL_refuses_186 rfl ?_
  refine w_calli (pc' := 190) (st := [vI 0, vR G (28, 0)]) (w_runSH X (c_L_tryState l G M15 hfl N P T qM15.ck (by have := qM15.t; omega) 0 2 (by first | omega | assumption | decide) (by first | omega | assumption | decide)) cf_L_tryState gw_689 rfl rfl ⟨Nat.le_of_ble_eq_true rfl, Nat.le_of_ble_eq_true rfl⟩ rfl rfl (Nat.le_of_ble_eq_true rfl) ⟨by show _ ≤ 80; omega, by show _ ≤ 480; omega⟩ gw_688 dL_refuses_187) rfl (fun z187 M16 h187 => ?_)
  rcases h187 with h187 | h187 | h187
  rotate_left 1
  · exfalso
    have hd := h187.2.1; clear h187; omega
  · exfalso
    have hd := h187.2.1; clear h187; omega
  obtain ⟨-, -, hv187, hm187⟩ := h187
  obtain rfl := hm187.symm
  simp only [e0M15, e19M15] at hv187
  refine w_eqI (z' := M 0 3 0) hv187 ?_
  refine r_iconst (pc' := 191) X dL_refuses_190 rfl ?_
  refine r_iadd (pc' := 192) X dL_refuses_191 rfl ?_
  refine w_calli (pc' := 195) (st := []) (w_runSH X (c_L_tryPlace l G M15 hfl N P T qM15.ck (by have := qM15.t; omega) nx ct qM15.nxe qM15.nx14 qM15.cte qM15.ct14 0 ((M 0 3 0) + 1) (by first | omega | assumption | decide) (by first | omega | assumption | decide)) cf_L_tryPlace gw_704 rfl rfl ⟨Nat.le_of_ble_eq_true rfl, Nat.le_of_ble_eq_true rfl⟩ rfl rfl (Nat.le_of_ble_eq_true rfl) ⟨by show _ ≤ 80; omega, by show _ ≤ 480; omega⟩ gw_703 dL_refuses_192) rfl (fun z192 M17 h192 => ?_)
  rcases h192 with h192 | h192 | h192
  · exfalso
    try simp only [e0M15, e19M15] at h192
    exact absurd (show M 0 3 0 + 1 ≤ M 0 3 0 from h192.2.1.1.2) (by omega)
  · exfalso
    have hd := h192.2.1; clear h192; omega
  obtain ⟨hz192, hc192, hs192⟩ := h192
  have sM17 : ScrEq M M17 := sM15.trans (hs192)
  have qM17 := lo.scr sM17
  have e0M17 : M17 0 = M 0 := sM17.z0
  have e19M17 : M17 19 = M 19 := sM17.z19
  refine w_eqI (z' := (-1003)) hz192 ?_
  refine r_sipush (pc' := 198) X dL_refuses_195 rfl rfl ?_
  refine r_icmp_ne (pc' := 201) (tgt := 369) X dL_refuses_198 rfl rfl (by omega) (by omega) (fun h198 => absurd h198 (by decide)) (fun h198 => ?_)
  refine r_aload_n (pc' := 202) X 0 dL_refuses_201 rfl rfl rfl ?_
  refine r_iload_n (pc' := 203) X 1 dL_refuses_202 rfl rfl rfl ?_
  refine r_iconst (pc' := 204) X dL_refuses_203 rfl ?_
  refine r_isub (pc' := 205) X dL_refuses_204 rfl ?_
  refine r_aload_n (pc' := 206) X 0 dL_refuses_205 rfl rfl rfl ?_
  refine r_iload_n (pc' := 207) X 1 dL_refuses_206 rfl rfl rfl ?_
  refine r_iconst (pc' := 208) X dL_refuses_207 rfl ?_
  refine r_isub (pc' := 209) X dL_refuses_208 rfl ?_
  refine r_iconst (pc' := 210) X dL_refuses_209 rfl ?_
  refine w_calli (pc' := 213) (st := [vI ((N : Int) - 1), vR G (28, 0)]) (w_runSH X (c_L_tryState l G M17 hfl N P T qM17.ck (by have := qM17.t; omega) ((N : Int) - 1) 1 (by first | omega | assumption | decide) (by first | omega | assumption | decide)) cf_L_tryState gw_689 rfl rfl ⟨Nat.le_of_ble_eq_true rfl, Nat.le_of_ble_eq_true rfl⟩ rfl rfl (Nat.le_of_ble_eq_true rfl) ⟨by show _ ≤ 80; omega, by show _ ≤ 480; omega⟩ gw_688 dL_refuses_210) rfl (fun z210 M18 h210 => ?_)
  rcases h210 with h210 | h210 | h210
  rotate_left 1
  · exfalso
    have hd := h210.2.1; clear h210; omega
  · exfalso
    have hd := h210.2.1; clear h210; omega
  obtain ⟨-, -, hv210, hm210⟩ := h210
  obtain rfl := hm210.symm
  simp only [e0M17, e19M17] at hv210
  refine w_eqI (z' := M 0 2 ((((N : Int) - 1)).toNat)) hv210 ?_
  refine r_iconst (pc' := 214) X dL_refuses_213 rfl ?_
  refine r_isub (pc' := 215) X dL_refuses_214 rfl ?_
  refine w_calli (pc' := 218) (st := []) (w_runSH X (c_L_tryPlace l G M17 hfl N P T qM17.ck (by have := qM17.t; omega) nx ct qM17.nxe qM17.nx14 qM17.cte qM17.ct14 ((N : Int) - 1) ((M 0 2 ((((N : Int) - 1)).toNat)) - 1) (by first | omega | assumption | decide) (by first | omega | assumption | decide)) cf_L_tryPlace gw_704 rfl rfl ⟨Nat.le_of_ble_eq_true rfl, Nat.le_of_ble_eq_true rfl⟩ rfl rfl (Nat.le_of_ble_eq_true rfl) ⟨by show _ ≤ 80; omega, by show _ ≤ 480; omega⟩ gw_703 dL_refuses_215) rfl (fun z215 M19 h215 => ?_)
  rcases h215 with h215 | h215 | h215
  · exfalso
    try simp only [e0M17, e19M17] at h215
    have hd := h215.2.1.1.1; clear h215; omega
  · exfalso
    have hd := h215.2.1; clear h215; omega
  obtain ⟨hz215, hc215, hs215⟩ := h215
  have sM19 : ScrEq M M19 := sM17.trans (hs215)
  have qM19 := lo.scr sM19
  have e0M19 : M19 0 = M 0 := sM19.z0
  have e19M19 : M19 19 = M 19 := sM19.z19
  refine w_eqI (z' := (-1003)) hz215 ?_
  refine r_sipush (pc' := 221) X dL_refuses_218 rfl rfl ?_
  refine r_icmp_ne (pc' := 224) (tgt := 369) X dL_refuses_221 rfl rfl (by omega) (by omega) (fun h221 => absurd h221 (by decide)) (fun h221 => ?_)
  refine r_aload_n (pc' := 225) X 0 dL_refuses_224 rfl rfl rfl ?_
  refine r_bipush (pc' := 227) X dL_refuses_225 rfl rfl ?_
  refine r_iconst (pc' := 228) X dL_refuses_227 rfl ?_
  refine w_calli (pc' := 231) (st := []) (w_runSH X (c_L_tryStep l G M19 hfl N P T qM19.ck (by have := qM19.t; omega) nx ct qM19.nxe qM19.nx14 qM19.cte qM19.ct14 100 0 (by first | omega | assumption | decide) (by first | omega | assumption | decide)) cf_L_tryStep gw_725 rfl rfl ⟨Nat.le_of_ble_eq_true rfl, Nat.le_of_ble_eq_true rfl⟩ rfl rfl (Nat.le_of_ble_eq_true rfl) ⟨by show _ ≤ 80; omega, by show _ ≤ 480; omega⟩ gw_724 dL_refuses_228) rfl (fun z228 M20 h228 => ?_)
  rcases h228 with h228 | h228
  · exfalso
    have hd := h228.1; clear h228; omega
  obtain ⟨hz228, hc228, hs228⟩ := h228
  have sM20 : ScrEq M M20 := sM19.trans (hs228)
  have qM20 := lo.scr sM20
  have e0M20 : M20 0 = M 0 := sM20.z0
  have e19M20 : M20 19 = M 19 := sM20.z19
  refine w_eqI (z' := (-1002)) hz228 ?_
  refine r_sipush (pc' := 234) X dL_refuses_231 rfl rfl ?_
  refine r_icmp_ne (pc' := 237) (tgt := 369) X dL_refuses_234 rfl rfl (by omega) (by omega) (fun h234 => absurd h234 (by decide)) (fun h234 => ?_)
  refine r_aload_n (pc' := 238) X 0 dL_refuses_237 rfl rfl rfl ?_
  refine r_iconst (pc' := 239) X dL_refuses_238 rfl ?_
  refine r_iload_n (pc' := 240) X 3 dL_refuses_239 rfl rfl rfl ?_
  refine r_iconst (pc' := 241) X dL_refuses_240 rfl ?_
  refine r_iadd (pc' := 242) X dL_refuses_241 rfl ?_
  refine w_calli (pc' := 245) (st := []) (w_runSH X (c_L_tryStep l G M20 hfl N P T qM20.ck (by have := qM20.t; omega) nx ct qM20.nxe qM20.nx14 qM20.cte qM20.ct14 0 ((M 0 0 8) + 1) (by first | omega | assumption | decide) (by first | omega | assumption | decide)) cf_L_tryStep gw_725 rfl rfl ⟨Nat.le_of_ble_eq_true rfl, Nat.le_of_ble_eq_true rfl⟩ rfl rfl (Nat.le_of_ble_eq_true rfl) ⟨by show _ ≤ 80; omega, by show _ ≤ 480; omega⟩ gw_724 dL_refuses_242) rfl (fun z242 M21 h242 => ?_)
  rcases h242 with h242 | h242
  · exfalso
    try simp only [e0M20, e19M20] at h242
    have hd := h242.1; clear h242; omega
  obtain ⟨hz242, hc242, hs242⟩ := h242
  have sM21 : ScrEq M M21 := sM20.trans (hs242)
  have qM21 := lo.scr sM21
  have e0M21 : M21 0 = M 0 := sM21.z0
  have e19M21 : M21 19 = M 19 := sM21.z19
  refine w_eqI (z' := (-1002)) hz242 ?_
  refine r_sipush (pc' := 248) X dL_refuses_245 rfl rfl ?_
  refine r_icmp_ne (pc' := 251) (tgt := 369) X dL_refuses_248 rfl rfl (by omega) (by omega) (fun h248 => absurd h248 (by decide)) (fun h248 => ?_)
  refine r_aload_n (pc' := 252) X 0 dL_refuses_251 rfl rfl rfl ?_
  refine r_iconst (pc' := 253) X dL_refuses_252 rfl ?_
  refine r_iload_n (pc' := 254) X 3 dL_refuses_253 rfl rfl rfl ?_
  refine r_ineg (pc' := 255) X dL_refuses_254 rfl ?_
  refine r_iconst (pc' := 256) X dL_refuses_255 rfl ?_
  refine r_isub (pc' := 257) X dL_refuses_256 rfl ?_
  refine w_calli (pc' := 260) (st := []) (w_runSH X (c_L_tryStep l G M21 hfl N P T qM21.ck (by have := qM21.t; omega) nx ct qM21.nxe qM21.nx14 qM21.cte qM21.ct14 0 ((-(M 0 0 8)) - 1) (by first | omega | assumption | decide) (by first | omega | assumption | decide)) cf_L_tryStep gw_725 rfl rfl ⟨Nat.le_of_ble_eq_true rfl, Nat.le_of_ble_eq_true rfl⟩ rfl rfl (Nat.le_of_ble_eq_true rfl) ⟨by show _ ≤ 80; omega, by show _ ≤ 480; omega⟩ gw_724 dL_refuses_257) rfl (fun z257 M22 h257 => ?_)
  rcases h257 with h257 | h257
  · exfalso
    try simp only [e0M21, e19M21] at h257
    have hd := h257.1; clear h257; omega
  obtain ⟨hz257, hc257, hs257⟩ := h257
  have sM22 : ScrEq M M22 := sM21.trans (hs257)
  have qM22 := lo.scr sM22
  have e0M22 : M22 0 = M 0 := sM22.z0
  have e19M22 : M22 19 = M 19 := sM22.z19
  refine w_eqI (z' := (-1002)) hz257 ?_
  refine r_sipush (pc' := 263) X dL_refuses_260 rfl rfl ?_
  refine r_icmp_ne (pc' := 266) (tgt := 369) X dL_refuses_263 rfl rfl (by omega) (by omega) (fun h263 => absurd h263 (by decide)) (fun h263 => ?_)
  refine r_aload_n (pc' := 267) X 0 dL_refuses_266 rfl rfl rfl ?_
  refine r_iload_n (pc' := 268) X 2 dL_refuses_267 rfl rfl rfl ?_
  refine w_calli (pc' := 271) (st := []) (w_runSH X (c_L_tryRead l G M22 hfl N P T qM22.ck (by have := qM22.t; omega) nx ct qM22.nxe qM22.nx14 qM22.cte qM22.ct14 qM22.t.1 (P : Int) (by first | omega | assumption | decide)) cf_L_tryRead gw_776 rfl rfl ⟨Nat.le_of_ble_eq_true rfl, Nat.le_of_ble_eq_true rfl⟩ rfl rfl (Nat.le_of_ble_eq_true rfl) ⟨by show _ ≤ 80; omega, by show _ ≤ 480; omega⟩ gw_775 dL_refuses_268) rfl (fun z268 M23 h268 => ?_)
  rcases h268 with h268 | h268
  · exfalso
    have hd := h268.1; clear h268; omega
  obtain ⟨hz268, hc268, hs268⟩ := h268
  have sM23 : ScrEq M M23 := sM22.trans (hs268)
  have qM23 := lo.scr sM23
  have e0M23 : M23 0 = M 0 := sM23.z0
  have e19M23 : M23 19 = M 19 := sM23.z19
  refine w_eqI (z' := (-1001)) hz268 ?_
  refine r_sipush (pc' := 274) X dL_refuses_271 rfl rfl ?_
  refine r_icmp_ne (pc' := 277) (tgt := 369) X dL_refuses_274 rfl rfl (by omega) (by omega) (fun h274 => absurd h274 (by decide)) (fun h274 => ?_)
  refine r_aload_n (pc' := 278) X 0 dL_refuses_277 rfl rfl rfl ?_
  refine r_iconst (pc' := 279) X dL_refuses_278 rfl ?_
  refine w_calli (pc' := 282) (st := []) (w_runSH X (c_L_tryRead l G M23 hfl N P T qM23.ck (by have := qM23.t; omega) nx ct qM23.nxe qM23.nx14 qM23.cte qM23.ct14 qM23.t.1 (-1) (by first | omega | assumption | decide)) cf_L_tryRead gw_776 rfl rfl ⟨Nat.le_of_ble_eq_true rfl, Nat.le_of_ble_eq_true rfl⟩ rfl rfl (Nat.le_of_ble_eq_true rfl) ⟨by show _ ≤ 80; omega, by show _ ≤ 480; omega⟩ gw_775 dL_refuses_279) rfl (fun z279 M24 h279 => ?_)
  rcases h279 with h279 | h279
  · exfalso
    have hd := h279.1; clear h279; omega
  obtain ⟨hz279, hc279, hs279⟩ := h279
  have sM24 : ScrEq M M24 := sM23.trans (hs279)
  have qM24 := lo.scr sM24
  have e0M24 : M24 0 = M 0 := sM24.z0
  have e19M24 : M24 19 = M 19 := sM24.z19
  refine w_eqI (z' := (-1001)) hz279 ?_
  refine r_sipush (pc' := 285) X dL_refuses_282 rfl rfl ?_
  refine r_icmp_ne (pc' := 288) (tgt := 369) X dL_refuses_285 rfl rfl (by omega) (by omega) (fun h285 => absurd h285 (by decide)) (fun h285 => ?_)
  refine r_aload_n (pc' := 289) X 0 dL_refuses_288 rfl rfl rfl ?_
  refine r_iload_n (pc' := 290) X 1 dL_refuses_289 rfl rfl rfl ?_
  refine r_iconst (pc' := 291) X dL_refuses_290 rfl ?_
  refine w_calli (pc' := 294) (st := []) (w_runSH X (c_L_tryShave l G M24 hfl N P T qM24.ck (by have := qM24.t; omega) nx ct qM24.nxe qM24.nx14 qM24.cte qM24.ct14 qM24.tr (N : Int) 0 (by first | omega | assumption | decide) (by first | omega | assumption | decide)) cf_L_tryShave gw_804 rfl rfl ⟨Nat.le_of_ble_eq_true rfl, Nat.le_of_ble_eq_true rfl⟩ rfl rfl (Nat.le_of_ble_eq_true rfl) ⟨by show _ ≤ 80; omega, by show _ ≤ 480; omega⟩ gw_803 dL_refuses_291) rfl (fun z291 M25 h291 => ?_)
  rcases h291 with h291 | h291 | h291
  · exfalso
    have hd := h291.1; clear h291; omega
  rotate_left 1
  · exfalso
    have hd := h291.2.1; clear h291; omega
  obtain ⟨hz291, hc291, hs291⟩ := h291
  have sM25 : ScrEq M M25 := sM24.trans (hs291)
  have qM25 := lo.scr sM25
  have e0M25 : M25 0 = M 0 := sM25.z0
  have e19M25 : M25 19 = M 19 := sM25.z19
  refine w_eqI (z' := (-1001)) hz291 ?_
  refine r_sipush (pc' := 297) X dL_refuses_294 rfl rfl ?_
  refine r_icmp_ne (pc' := 300) (tgt := 369) X dL_refuses_297 rfl rfl (by omega) (by omega) (fun h297 => absurd h297 (by decide)) (fun h297 => ?_)
  refine r_aload_n (pc' := 301) X 0 dL_refuses_300 rfl rfl rfl ?_
  refine r_iconst (pc' := 302) X dL_refuses_301 rfl ?_
  refine r_bipush (pc' := 304) X dL_refuses_302 rfl rfl ?_
  refine w_calli (pc' := 307) (st := []) (w_runSH X (c_L_tryShave l G M25 hfl N P T qM25.ck (by have := qM25.t; omega) nx ct qM25.nxe qM25.nx14 qM25.cte qM25.ct14 qM25.tr 0 101 (by first | omega | assumption | decide) (by first | omega | assumption | decide)) cf_L_tryShave gw_804 rfl rfl ⟨Nat.le_of_ble_eq_true rfl, Nat.le_of_ble_eq_true rfl⟩ rfl rfl (Nat.le_of_ble_eq_true rfl) ⟨by show _ ≤ 80; omega, by show _ ≤ 480; omega⟩ gw_803 dL_refuses_304) rfl (fun z304 M26 h304 => ?_)
  rcases h304 with h304 | h304 | h304
  · exfalso
    have hd := h304.1; clear h304; omega
  · exfalso
    have hd := h304.2.1; clear h304; omega
  obtain ⟨hz304, hc304, hs304⟩ := h304
  have sM26 : ScrEq M M26 := sM25.trans (hs304)
  have qM26 := lo.scr sM26
  have e0M26 : M26 0 = M 0 := sM26.z0
  have e19M26 : M26 19 = M 19 := sM26.z19
  refine w_eqI (z' := (-1002)) hz304 ?_
  refine r_sipush (pc' := 310) X dL_refuses_307 rfl rfl ?_
  refine r_icmp_ne (pc' := 313) (tgt := 369) X dL_refuses_310 rfl rfl (by omega) (by omega) (fun h310 => absurd h310 (by decide)) (fun h310 => ?_)
  refine r_aload_n (pc' := 314) X 0 dL_refuses_313 rfl rfl rfl ?_
  refine r_iconst (pc' := 315) X dL_refuses_314 rfl ?_
  refine r_iload_n (pc' := 316) X 2 dL_refuses_315 rfl rfl rfl ?_
  refine r_bipush (pc' := 318) X dL_refuses_316 rfl rfl ?_
  refine w_calli (pc' := 321) (st := []) (w_runSH X (c_L_trySetGain l G M26 hfl N P T qM26.ck (by have := qM26.t; omega) nx ct qM26.nxe qM26.nx14 qM26.cte qM26.ct14 0 (P : Int) 100 (by first | omega | assumption | decide) (by first | omega | assumption | decide) (by first | omega | assumption | decide)) cf_L_trySetGain gw_817 rfl rfl ⟨Nat.le_of_ble_eq_true rfl, Nat.le_of_ble_eq_true rfl⟩ rfl rfl (Nat.le_of_ble_eq_true rfl) ⟨by show _ ≤ 80; omega, by show _ ≤ 480; omega⟩ gw_816 dL_refuses_318) rfl (fun z318 M27 h318 => ?_)
  rcases h318 with h318 | h318 | h318
  · exfalso
    have hd := h318.1; clear h318; omega
  rotate_left 1
  · exfalso
    have hd := h318.2.1; clear h318; omega
  obtain ⟨hz318, hc318, hs318⟩ := h318
  have sM27 : ScrEq M M27 := sM26.trans (hs318)
  have qM27 := lo.scr sM27
  have e0M27 : M27 0 = M 0 := sM27.z0
  have e19M27 : M27 19 = M 19 := sM27.z19
  refine w_eqI (z' := (-1001)) hz318 ?_
  refine r_sipush (pc' := 324) X dL_refuses_321 rfl rfl ?_
  refine r_icmp_ne (pc' := 327) (tgt := 369) X dL_refuses_324 rfl rfl (by omega) (by omega) (fun h324 => absurd h324 (by decide)) (fun h324 => ?_)
  refine r_aload_n (pc' := 328) X 0 dL_refuses_327 rfl rfl rfl ?_
  refine r_iconst (pc' := 329) X dL_refuses_328 rfl ?_
  refine r_iconst (pc' := 330) X dL_refuses_329 rfl ?_
  refine r_bipush (pc' := 332) X dL_refuses_330 rfl rfl ?_
  refine w_calli (pc' := 335) (st := []) (w_runSH X (c_L_trySetGain l G M27 hfl N P T qM27.ck (by have := qM27.t; omega) nx ct qM27.nxe qM27.nx14 qM27.cte qM27.ct14 0 0 100 (by first | omega | assumption | decide) (by first | omega | assumption | decide) (by first | omega | assumption | decide)) cf_L_trySetGain gw_817 rfl rfl ⟨Nat.le_of_ble_eq_true rfl, Nat.le_of_ble_eq_true rfl⟩ rfl rfl (Nat.le_of_ble_eq_true rfl) ⟨by show _ ≤ 80; omega, by show _ ≤ 480; omega⟩ gw_816 dL_refuses_332) rfl (fun z332 M28 h332 => ?_)
  rcases h332 with h332 | h332 | h332
  · exfalso
    have hd := h332.1; clear h332; omega
  · exfalso
    have hd := h332.2.1; clear h332; omega
  obtain ⟨hz332, hc332, hs332⟩ := h332
  have sM28 : ScrEq M M28 := sM27.trans (hs332)
  have qM28 := lo.scr sM28
  have e0M28 : M28 0 = M 0 := sM28.z0
  have e19M28 : M28 19 = M 19 := sM28.z19
  refine w_eqI (z' := (-1002)) hz332 ?_
  refine r_sipush (pc' := 338) X dL_refuses_335 rfl rfl ?_
  refine r_icmp_ne (pc' := 341) (tgt := 369) X dL_refuses_338 rfl rfl (by omega) (by omega) (fun h338 => absurd h338 (by decide)) (fun h338 => ?_)
  refine r_aload_n (pc' := 342) X 0 dL_refuses_341 rfl rfl rfl ?_
  refine r_bipush (pc' := 344) X dL_refuses_342 rfl rfl ?_
  refine w_calli (pc' := 347) (st := []) (w_runSH X (c_L_trySetHold l G M28 hfl N P T qM28.ck (by have := qM28.t; omega) nx ct qM28.nxe qM28.nx14 qM28.cte qM28.ct14 10 (by first | omega | assumption | decide)) cf_L_trySetHold gw_826 rfl rfl ⟨Nat.le_of_ble_eq_true rfl, Nat.le_of_ble_eq_true rfl⟩ rfl rfl (Nat.le_of_ble_eq_true rfl) ⟨by show _ ≤ 80; omega, by show _ ≤ 480; omega⟩ gw_825 dL_refuses_344) rfl (fun z344 M29 h344 => ?_)
  rcases h344 with h344 | h344
  · exfalso
    have hd := h344.1; clear h344; omega
  obtain ⟨hz344, hc344, hs344⟩ := h344
  have sM29 : ScrEq M M29 := sM28.trans (hs344)
  have qM29 := lo.scr sM29
  have e0M29 : M29 0 = M 0 := sM29.z0
  have e19M29 : M29 19 = M 19 := sM29.z19
  refine w_eqI (z' := (-1002)) hz344 ?_
  refine r_sipush (pc' := 350) X dL_refuses_347 rfl rfl ?_
  refine r_icmp_ne (pc' := 353) (tgt := 369) X dL_refuses_350 rfl rfl (by omega) (by omega) (fun h350 => absurd h350 (by decide)) (fun h350 => ?_)
  refine r_aload_n (pc' := 354) X 0 dL_refuses_353 rfl rfl rfl ?_
  refine r_bipush (pc' := 356) X dL_refuses_354 rfl rfl ?_
  refine w_calli (pc' := 359) (st := []) (w_runSH X (c_L_trySetBound l G M29 hfl N P T qM29.ck (by have := qM29.t; omega) nx ct qM29.nxe qM29.nx14 qM29.cte qM29.ct14 100 (by first | omega | assumption | decide)) cf_L_trySetBound gw_834 rfl rfl ⟨Nat.le_of_ble_eq_true rfl, Nat.le_of_ble_eq_true rfl⟩ rfl rfl (Nat.le_of_ble_eq_true rfl) ⟨by show _ ≤ 80; omega, by show _ ≤ 480; omega⟩ gw_833 dL_refuses_356) rfl (fun z356 M30 h356 => ?_)
  rcases h356 with h356 | h356
  · exfalso
    have hd := h356.1; clear h356; omega
  obtain ⟨hz356, hc356, hs356⟩ := h356
  have sM30 : ScrEq M M30 := sM29.trans (hs356)
  have qM30 := lo.scr sM30
  have e0M30 : M30 0 = M 0 := sM30.z0
  have e19M30 : M30 19 = M 19 := sM30.z19
  refine w_eqI (z' := (-1002)) hz356 ?_
  refine r_sipush (pc' := 362) X dL_refuses_359 rfl rfl ?_
  refine r_icmp_ne (pc' := 365) (tgt := 369) X dL_refuses_362 rfl rfl (by omega) (by omega) (fun h362 => absurd h362 (by decide)) (fun h362 => ?_)
  refine r_iconst (pc' := 366) X dL_refuses_365 rfl ?_
  refine r_goto (tgt := 370) X dL_refuses_366 rfl ?_
  refine r_istore (pc' := 372) (lc' := [(0, vR G (28, 0)), (1, vI (N : Int)), (2, vI (P : Int)), (3, vI (M 0 0 8)), (4, vI 1)]) X [1, 2, 3, 4, 0] dL_refuses_370 (by decide) rfl rfl ?_
  refine r_iload (pc' := 374) X 4 dL_refuses_372 rfl rfl ?_
  refine r_if_eq (pc' := 377) (tgt := 595) X dL_refuses_374 rfl rfl (by omega) (fun h374 => absurd h374 (by decide)) (fun h374 => ?_)
  have J423 : ∀ (Mj : wM), (ScrEq M Mj) → wV p l e (wrm 8 80 480) s m args below meth c G 5 Mj (40) (6 * (40)) (MQ below (wQi G (fun z M1 => z = 1 ∧ ScrEq M M1)) args s 80 480 (wA G)) 423 [(0, vR G (28, 0)), (1, vI (N : Int)), (2, vI (P : Int)), (3, vI (M 0 0 8)), (4, vI 1)] [] := by
    intro Mj sMj
    have qMj := lo.scr sMj
    have e0Mj := sMj.z0
    have e19Mj := sMj.z19
    refine r_aload_n (pc' := 424) X 0 dL_refuses_423 rfl rfl rfl ?_
    refine r_iload_n (pc' := 425) X 2 dL_refuses_424 rfl rfl rfl ?_
    refine r_ldc (pc' := 427) (z := 1000001) X gw_849 dL_refuses_425 rfl rfl ?_
    refine w_calli (pc' := 430) (st := []) (w_runSH X (c_L_tryWidthIf l G Mj hfl N P T qMj.ck (by have := qMj.t; omega) qMj.t.1 (P : Int) 1000001 (by first | omega | assumption | decide) (by first | omega | assumption | decide)) cf_L_tryWidthIf gw_851 rfl rfl ⟨Nat.le_of_ble_eq_true rfl, Nat.le_of_ble_eq_true rfl⟩ rfl rfl (Nat.le_of_ble_eq_true rfl) ⟨by show _ ≤ 80; omega, by show _ ≤ 480; omega⟩ gw_850 dL_refuses_427) rfl (fun z427 M31 h427 => ?_)
    rcases h427 with h427 | h427 | h427
    · exfalso
      have hd := h427.1; clear h427; omega
    rotate_left 1
    · exfalso
      have hd := h427.2.1; clear h427; omega
    obtain ⟨hz427, hc427, hs427⟩ := h427
    have sM31 : ScrEq M M31 := sMj.trans (hs427)
    have qM31 := lo.scr sM31
    have e0M31 : M31 0 = M 0 := sM31.z0
    have e19M31 : M31 19 = M 19 := sM31.z19
    refine w_eqI (z' := (-1001)) hz427 ?_
    refine r_sipush (pc' := 433) X dL_refuses_430 rfl rfl ?_
    refine r_icmp_ne (pc' := 436) (tgt := 595) X dL_refuses_433 rfl rfl (by omega) (by omega) (fun h433 => absurd h433 (by decide)) (fun h433 => ?_)
    refine r_aload_n (pc' := 437) X 0 dL_refuses_436 rfl rfl rfl ?_
    refine r_iconst (pc' := 438) X dL_refuses_437 rfl ?_
    refine r_ldc (pc' := 440) (z := 1000001) X gw_849 dL_refuses_438 rfl rfl ?_
    refine w_calli (pc' := 443) (st := []) (w_runSH X (c_L_tryWidthIf l G M31 hfl N P T qM31.ck (by have := qM31.t; omega) qM31.t.1 0 1000001 (by first | omega | assumption | decide) (by first | omega | assumption | decide)) cf_L_tryWidthIf gw_851 rfl rfl ⟨Nat.le_of_ble_eq_true rfl, Nat.le_of_ble_eq_true rfl⟩ rfl rfl (Nat.le_of_ble_eq_true rfl) ⟨by show _ ≤ 80; omega, by show _ ≤ 480; omega⟩ gw_850 dL_refuses_440) rfl (fun z440 M32 h440 => ?_)
    rcases h440 with h440 | h440 | h440
    · exfalso
      have hd := h440.1; clear h440; omega
    · exfalso
      have hd := h440.2.1; clear h440; omega
    obtain ⟨hz440, hc440, hs440⟩ := h440
    have sM32 : ScrEq M M32 := sM31.trans (hs440)
    have qM32 := lo.scr sM32
    have e0M32 : M32 0 = M 0 := sM32.z0
    have e19M32 : M32 19 = M 19 := sM32.z19
    refine w_eqI (z' := (-1002)) hz440 ?_
    refine r_sipush (pc' := 446) X dL_refuses_443 rfl rfl ?_
    refine r_icmp_ne (pc' := 449) (tgt := 595) X dL_refuses_446 rfl rfl (by omega) (by omega) (fun h446 => absurd h446 (by decide)) (fun h446 => ?_)
    refine r_aload_n (pc' := 450) X 0 dL_refuses_449 rfl rfl rfl ?_
    refine r_bipush (pc' := 452) X dL_refuses_450 rfl rfl ?_
    refine r_iconst (pc' := 453) X dL_refuses_452 rfl ?_
    refine r_iload_n (pc' := 454) X 1 dL_refuses_453 rfl rfl rfl ?_
    refine r_iconst (pc' := 455) X dL_refuses_454 rfl ?_
    refine w_calli (pc' := 458) (st := []) (w_runSH X (c_L_tryAhead l G M32 hfl N P T qM32.ck (by have := qM32.t; omega) 61 0 (N : Int) 1 (by first | omega | assumption | decide) (by first | omega | assumption | decide) (by first | omega | assumption | decide) (by first | omega | assumption | decide)) cf_L_tryAhead gw_861 rfl rfl ⟨Nat.le_of_ble_eq_true rfl, Nat.le_of_ble_eq_true rfl⟩ rfl rfl (Nat.le_of_ble_eq_true rfl) ⟨by show _ ≤ 80; omega, by show _ ≤ 480; omega⟩ gw_860 dL_refuses_455) rfl (fun z455 M33 h455 => ?_)
    rcases h455 with h455 | h455 | h455
    · exfalso
      have hd := h455.1; clear h455; omega
    rotate_left 1
    · exfalso
      have hd := h455.2.1; clear h455; omega
    obtain ⟨hz455, hc455, hs455⟩ := h455
    have sM33 : ScrEq M M33 := sM32.trans (hs455)
    have qM33 := lo.scr sM33
    have e0M33 : M33 0 = M 0 := sM33.z0
    have e19M33 : M33 19 = M 19 := sM33.z19
    refine w_eqI (z' := (-1001)) hz455 ?_
    refine r_sipush (pc' := 461) X dL_refuses_458 rfl rfl ?_
    refine r_icmp_ne (pc' := 464) (tgt := 595) X dL_refuses_461 rfl rfl (by omega) (by omega) (fun h461 => absurd h461 (by decide)) (fun h461 => ?_)
    refine r_aload_n (pc' := 465) X 0 dL_refuses_464 rfl rfl rfl ?_
    refine r_bipush (pc' := 467) X dL_refuses_465 rfl rfl ?_
    refine r_iconst (pc' := 468) X dL_refuses_467 rfl ?_
    refine r_iconst (pc' := 469) X dL_refuses_468 rfl ?_
    refine r_iconst (pc' := 470) X dL_refuses_469 rfl ?_
    refine w_calli (pc' := 473) (st := []) (w_runSH X (c_L_tryAhead l G M33 hfl N P T qM33.ck (by have := qM33.t; omega) 61 0 0 1 (by first | omega | assumption | decide) (by first | omega | assumption | decide) (by first | omega | assumption | decide) (by first | omega | assumption | decide)) cf_L_tryAhead gw_861 rfl rfl ⟨Nat.le_of_ble_eq_true rfl, Nat.le_of_ble_eq_true rfl⟩ rfl rfl (Nat.le_of_ble_eq_true rfl) ⟨by show _ ≤ 80; omega, by show _ ≤ 480; omega⟩ gw_860 dL_refuses_470) rfl (fun z470 M34 h470 => ?_)
    rcases h470 with h470 | h470 | h470
    · exfalso
      have hd := h470.1; clear h470; omega
    · exfalso
      have hd := h470.2.1; clear h470; omega
    obtain ⟨hz470, hc470, hs470⟩ := h470
    have sM34 : ScrEq M M34 := sM33.trans (hs470)
    have qM34 := lo.scr sM34
    have e0M34 : M34 0 = M 0 := sM34.z0
    have e19M34 : M34 19 = M 19 := sM34.z19
    refine w_eqI (z' := (-1002)) hz470 ?_
    refine r_sipush (pc' := 476) X dL_refuses_473 rfl rfl ?_
    refine r_icmp_ne (pc' := 479) (tgt := 595) X dL_refuses_476 rfl rfl (by omega) (by omega) (fun h476 => absurd h476 (by decide)) (fun h476 => ?_)
    refine r_aload_n (pc' := 480) X 0 dL_refuses_479 rfl rfl rfl ?_
    refine r_iload_n (pc' := 481) X 1 dL_refuses_480 rfl rfl rfl ?_
    refine r_iconst (pc' := 482) X dL_refuses_481 rfl ?_
    refine r_bipush (pc' := 484) X dL_refuses_482 rfl rfl ?_
    refine r_iconst (pc' := 485) X dL_refuses_484 rfl ?_
    refine w_calli (pc' := 488) (st := []) (w_runSH X (c_L_tryEarliest l G M34 hfl N P T qM34.ck (by have := qM34.t; omega) (N : Int) 0 100 1 (by first | omega | assumption | decide) (by first | omega | assumption | decide) (by first | omega | assumption | decide) (by first | omega | assumption | decide)) cf_L_tryEarliest gw_869 rfl rfl ⟨Nat.le_of_ble_eq_true rfl, Nat.le_of_ble_eq_true rfl⟩ rfl rfl (Nat.le_of_ble_eq_true rfl) ⟨by show _ ≤ 80; omega, by show _ ≤ 480; omega⟩ gw_868 dL_refuses_485) rfl (fun z485 M35 h485 => ?_)
    rcases h485 with h485 | h485 | h485
    · exfalso
      have hd := h485.1; clear h485; omega
    rotate_left 1
    · exfalso
      have hd := h485.2.1; clear h485; omega
    obtain ⟨hz485, hc485, hs485⟩ := h485
    have sM35 : ScrEq M M35 := sM34.trans (hs485)
    have qM35 := lo.scr sM35
    have e0M35 : M35 0 = M 0 := sM35.z0
    have e19M35 : M35 19 = M 19 := sM35.z19
    refine w_eqI (z' := (-1001)) hz485 ?_
    refine r_sipush (pc' := 491) X dL_refuses_488 rfl rfl ?_
    refine r_icmp_ne (pc' := 494) (tgt := 595) X dL_refuses_491 rfl rfl (by omega) (by omega) (fun h491 => absurd h491 (by decide)) (fun h491 => ?_)
    refine r_aload_n (pc' := 495) X 0 dL_refuses_494 rfl rfl rfl ?_
    refine r_iconst (pc' := 496) X dL_refuses_495 rfl ?_
    refine r_iconst (pc' := 497) X dL_refuses_496 rfl ?_
    refine r_bipush (pc' := 499) X dL_refuses_497 rfl rfl ?_
    refine r_iconst (pc' := 500) X dL_refuses_499 rfl ?_
    refine w_calli (pc' := 503) (st := []) (w_runSH X (c_L_tryEarliest l G M35 hfl N P T qM35.ck (by have := qM35.t; omega) 0 0 (-100) 0 (by first | omega | assumption | decide) (by first | omega | assumption | decide) (by first | omega | assumption | decide) (by first | omega | assumption | decide)) cf_L_tryEarliest gw_869 rfl rfl ⟨Nat.le_of_ble_eq_true rfl, Nat.le_of_ble_eq_true rfl⟩ rfl rfl (Nat.le_of_ble_eq_true rfl) ⟨by show _ ≤ 80; omega, by show _ ≤ 480; omega⟩ gw_868 dL_refuses_500) rfl (fun z500 M36 h500 => ?_)
    rcases h500 with h500 | h500 | h500
    · exfalso
      have hd := h500.1; clear h500; omega
    · exfalso
      have hd := h500.2.1; clear h500; omega
    obtain ⟨hz500, hc500, hs500⟩ := h500
    have sM36 : ScrEq M M36 := sM35.trans (hs500)
    have qM36 := lo.scr sM36
    have e0M36 : M36 0 = M 0 := sM36.z0
    have e19M36 : M36 19 = M 19 := sM36.z19
    refine w_eqI (z' := (-1002)) hz500 ?_
    refine r_sipush (pc' := 506) X dL_refuses_503 rfl rfl ?_
    refine r_icmp_ne (pc' := 509) (tgt := 595) X dL_refuses_506 rfl rfl (by omega) (by omega) (fun h506 => absurd h506 (by decide)) (fun h506 => ?_)
    refine r_aload_n (pc' := 510) X 0 dL_refuses_509 rfl rfl rfl ?_
    refine r_iconst (pc' := 511) X dL_refuses_510 rfl ?_
    refine w_calli (pc' := 514) (st := []) (w_runSH X (c_L_tryRank l G M36 hfl N P T qM36.ck (by have := qM36.t; omega) 0 (by first | omega | assumption | decide)) cf_L_tryRank gw_637 rfl rfl ⟨Nat.le_of_ble_eq_true rfl, Nat.le_of_ble_eq_true rfl⟩ rfl rfl (Nat.le_of_ble_eq_true rfl) ⟨by show _ ≤ 80; omega, by show _ ≤ 480; omega⟩ gw_636 dL_refuses_511) rfl (fun z511 M37 h511 => ?_)
    rcases h511 with h511 | h511
    · exfalso
      have hd := h511.1; clear h511; omega
    obtain ⟨hz511, hc511, hs511⟩ := h511
    have sM37 : ScrEq M M37 := sM36.trans (hs511)
    have qM37 := lo.scr sM37
    have e0M37 : M37 0 = M 0 := sM37.z0
    have e19M37 : M37 19 = M 19 := sM37.z19
    refine w_eqI (z' := (-1002)) hz511 ?_
    refine r_sipush (pc' := 517) X dL_refuses_514 rfl rfl ?_
    refine r_icmp_ne (pc' := 520) (tgt := 595) X dL_refuses_517 rfl rfl (by omega) (by omega) (fun h517 => absurd h517 (by decide)) (fun h517 => ?_)
    refine r_aload_n (pc' := 521) X 0 dL_refuses_520 rfl rfl rfl ?_
    refine r_bipush (pc' := 523) X dL_refuses_521 rfl rfl ?_
    refine w_calli (pc' := 526) (st := []) (w_runSH X (c_L_tryRank l G M37 hfl N P T qM37.ck (by have := qM37.t; omega) 9 (by first | omega | assumption | decide)) cf_L_tryRank gw_637 rfl rfl ⟨Nat.le_of_ble_eq_true rfl, Nat.le_of_ble_eq_true rfl⟩ rfl rfl (Nat.le_of_ble_eq_true rfl) ⟨by show _ ≤ 80; omega, by show _ ≤ 480; omega⟩ gw_636 dL_refuses_523) rfl (fun z523 M38 h523 => ?_)
    rcases h523 with h523 | h523
    · exfalso
      have hd := h523.1; clear h523; omega
    obtain ⟨hz523, hc523, hs523⟩ := h523
    have sM38 : ScrEq M M38 := sM37.trans (hs523)
    have qM38 := lo.scr sM38
    have e0M38 : M38 0 = M 0 := sM38.z0
    have e19M38 : M38 19 = M 19 := sM38.z19
    refine w_eqI (z' := (-1002)) hz523 ?_
    refine r_sipush (pc' := 529) X dL_refuses_526 rfl rfl ?_
    refine r_icmp_ne (pc' := 532) (tgt := 595) X dL_refuses_529 rfl rfl (by omega) (by omega) (fun h529 => absurd h529 (by decide)) (fun h529 => ?_)
    refine r_aload_n (pc' := 533) X 0 dL_refuses_532 rfl rfl rfl ?_
    refine r_iconst (pc' := 534) X dL_refuses_533 rfl ?_
    refine w_calli (pc' := 537) (st := []) (w_runSH X (c_L_tryHidden l G M38 hfl N P T qM38.ck (by have := qM38.t; omega) (-1) (by first | omega | assumption | decide)) cf_L_tryHidden gw_877 rfl rfl ⟨Nat.le_of_ble_eq_true rfl, Nat.le_of_ble_eq_true rfl⟩ rfl rfl (Nat.le_of_ble_eq_true rfl) ⟨by show _ ≤ 80; omega, by show _ ≤ 480; omega⟩ gw_876 dL_refuses_534) rfl (fun z534 M39 h534 => ?_)
    rcases h534 with h534 | h534
    · exfalso
      have hd := h534.1; clear h534; omega
    obtain ⟨hz534, hc534, hs534⟩ := h534
    have sM39 : ScrEq M M39 := sM38.trans (hs534)
    have qM39 := lo.scr sM39
    have e0M39 : M39 0 = M 0 := sM39.z0
    have e19M39 : M39 19 = M 19 := sM39.z19
    refine w_eqI (z' := (-1002)) hz534 ?_
    refine r_sipush (pc' := 540) X dL_refuses_537 rfl rfl ?_
    refine r_icmp_ne (pc' := 543) (tgt := 595) X dL_refuses_540 rfl rfl (by omega) (by omega) (fun h540 => absurd h540 (by decide)) (fun h540 => ?_)
    refine r_aload_n (pc' := 544) X 0 dL_refuses_543 rfl rfl rfl ?_
    refine r_bipush (pc' := 546) X dL_refuses_544 rfl rfl ?_
    refine w_calli (pc' := 549) (st := []) (w_runSH X (c_L_tryHidden l G M39 hfl N P T qM39.ck (by have := qM39.t; omega) 9 (by first | omega | assumption | decide)) cf_L_tryHidden gw_877 rfl rfl ⟨Nat.le_of_ble_eq_true rfl, Nat.le_of_ble_eq_true rfl⟩ rfl rfl (Nat.le_of_ble_eq_true rfl) ⟨by show _ ≤ 80; omega, by show _ ≤ 480; omega⟩ gw_876 dL_refuses_546) rfl (fun z546 M40 h546 => ?_)
    rcases h546 with h546 | h546
    · exfalso
      have hd := h546.1; clear h546; omega
    obtain ⟨hz546, hc546, hs546⟩ := h546
    have sM40 : ScrEq M M40 := sM39.trans (hs546)
    have qM40 := lo.scr sM40
    have e0M40 : M40 0 = M 0 := sM40.z0
    have e19M40 : M40 19 = M 19 := sM40.z19
    refine w_eqI (z' := (-1002)) hz546 ?_
    refine r_sipush (pc' := 552) X dL_refuses_549 rfl rfl ?_
    refine r_icmp_ne (pc' := 555) (tgt := 595) X dL_refuses_552 rfl rfl (by omega) (by omega) (fun h552 => absurd h552 (by decide)) (fun h552 => ?_)
    refine r_aload_n (pc' := 556) X 0 dL_refuses_555 rfl rfl rfl ?_
    refine r_iconst (pc' := 557) X dL_refuses_556 rfl ?_
    refine r_iconst (pc' := 558) X dL_refuses_557 rfl ?_
    refine w_calli (pc' := 561) (st := []) (w_runSH X (c_L_tryFree l G M40 hfl N P T qM40.ck (by have := qM40.t; omega) (-1) 0 (by first | omega | assumption | decide) (by first | omega | assumption | decide)) cf_L_tryFree gw_902 rfl rfl ⟨Nat.le_of_ble_eq_true rfl, Nat.le_of_ble_eq_true rfl⟩ rfl rfl (Nat.le_of_ble_eq_true rfl) ⟨by show _ ≤ 80; omega, by show _ ≤ 480; omega⟩ gw_901 dL_refuses_558) rfl (fun z558 M41 h558 => ?_)
    rcases h558 with h558 | h558
    · exfalso
      try simp only [e0M40, e19M40] at h558
      have hd := h558.1; clear h558; omega
    obtain ⟨hz558, hc558, hs558⟩ := h558
    have sM41 : ScrEq M M41 := sM40.trans (hs558)
    have qM41 := lo.scr sM41
    have e0M41 : M41 0 = M 0 := sM41.z0
    have e19M41 : M41 19 = M 19 := sM41.z19
    refine w_eqI (z' := (-1001)) hz558 ?_
    refine r_sipush (pc' := 564) X dL_refuses_561 rfl rfl ?_
    refine r_icmp_ne (pc' := 567) (tgt := 595) X dL_refuses_564 rfl rfl (by omega) (by omega) (fun h564 => absurd h564 (by decide)) (fun h564 => ?_)
    refine r_aload_n (pc' := 568) X 0 dL_refuses_567 rfl rfl rfl ?_
    refine r_iload_n (pc' := 569) X 1 dL_refuses_568 rfl rfl rfl ?_
    refine r_iconst (pc' := 570) X dL_refuses_569 rfl ?_
    refine w_calli (pc' := 573) (st := []) (w_runSH X (c_L_tryFree l G M41 hfl N P T qM41.ck (by have := qM41.t; omega) (N : Int) 0 (by first | omega | assumption | decide) (by first | omega | assumption | decide)) cf_L_tryFree gw_902 rfl rfl ⟨Nat.le_of_ble_eq_true rfl, Nat.le_of_ble_eq_true rfl⟩ rfl rfl (Nat.le_of_ble_eq_true rfl) ⟨by show _ ≤ 80; omega, by show _ ≤ 480; omega⟩ gw_901 dL_refuses_570) rfl (fun z570 M42 h570 => ?_)
    rcases h570 with h570 | h570
    · exfalso
      try simp only [e0M41, e19M41] at h570
      have hd := h570.1; clear h570; omega
    obtain ⟨hz570, hc570, hs570⟩ := h570
    have sM42 : ScrEq M M42 := sM41.trans (hs570)
    have qM42 := lo.scr sM42
    have e0M42 : M42 0 = M 0 := sM42.z0
    have e19M42 : M42 19 = M 19 := sM42.z19
    refine w_eqI (z' := (-1001)) hz570 ?_
    refine r_sipush (pc' := 576) X dL_refuses_573 rfl rfl ?_
    refine r_icmp_ne (pc' := 579) (tgt := 595) X dL_refuses_576 rfl rfl (by omega) (by omega) (fun h576 => absurd h576 (by decide)) (fun h576 => ?_)
    refine r_aload_n (pc' := 580) X 0 dL_refuses_579 rfl rfl rfl ?_
    refine r_iload_n (pc' := 581) X 1 dL_refuses_580 rfl rfl rfl ?_
    refine r_iconst (pc' := 582) X dL_refuses_581 rfl ?_
    refine w_calli (pc' := 585) (st := []) (w_runSH X (c_L_tryFreeRange l G M42 hfl N P T qM42.ck (by have := qM42.t; omega) (N : Int) 1 (by first | omega | assumption | decide) (by first | omega | assumption | decide)) cf_L_tryFreeRange gw_929 rfl rfl ⟨Nat.le_of_ble_eq_true rfl, Nat.le_of_ble_eq_true rfl⟩ rfl rfl (Nat.le_of_ble_eq_true rfl) ⟨by show _ ≤ 80; omega, by show _ ≤ 480; omega⟩ gw_928 dL_refuses_582) rfl (fun z582 M43 h582 => ?_)
    rcases h582 with h582 | h582
    · exfalso
      try simp only [e0M42, e19M42] at h582
      have hd := h582.1; clear h582; omega
    obtain ⟨hz582, hc582, hs582⟩ := h582
    have sM43 : ScrEq M M43 := sM42.trans (hs582)
    have qM43 := lo.scr sM43
    have e0M43 : M43 0 = M 0 := sM43.z0
    have e19M43 : M43 19 = M 19 := sM43.z19
    refine w_eqI (z' := (-1001)) hz582 ?_
    refine r_sipush (pc' := 588) X dL_refuses_585 rfl rfl ?_
    refine r_icmp_ne (pc' := 591) (tgt := 595) X dL_refuses_588 rfl rfl (by omega) (by omega) (fun h588 => absurd h588 (by decide)) (fun h588 => ?_)
    refine r_iconst (pc' := 592) X dL_refuses_591 rfl ?_
    refine r_goto (tgt := 596) X dL_refuses_592 rfl ?_
    refine r_istore (pc' := 598) (lc' := [(0, vR G (28, 0)), (1, vI (N : Int)), (2, vI (P : Int)), (3, vI (M 0 0 8)), (4, vI 1)]) X [1, 2, 3, 4, 0] dL_refuses_596 (by decide) rfl rfl ?_
    refine r_iload (pc' := 600) X 4 dL_refuses_598 rfl rfl ?_
    refine r_if_eq (pc' := 603) (tgt := 696) X dL_refuses_600 rfl rfl (by omega) (fun h600 => absurd h600 (by decide)) (fun h600 => ?_)
    refine r_aload_n (pc' := 604) X 0 dL_refuses_603 rfl rfl rfl ?_
    refine r_iconst (pc' := 605) X dL_refuses_604 rfl ?_
    refine r_lconst (pc' := 606) (z := 0) X dL_refuses_605 rfl rfl ?_
    refine w_calli (pc' := 609) (st := []) (w_runSH X (c_L_tryScript l G M43 hfl N P T qM43.ck (by have := qM43.t; omega) qM43.t.1 qM43.tr 0 0 (by first | omega | assumption | decide) (by first | omega | assumption | decide)) cf_L_tryScript gw_937 rfl rfl ⟨Nat.le_of_ble_eq_true rfl, Nat.le_of_ble_eq_true rfl⟩ rfl rfl (Nat.le_of_ble_eq_true rfl) ⟨by show _ ≤ 80; omega, by show _ ≤ 480; omega⟩ gw_936 dL_refuses_606) rfl (fun z606 M44 h606 => ?_)
    rcases h606 with h606 | h606
    · exfalso
      have hd := h606.1; clear h606; omega
    obtain ⟨hz606, hc606, hs606⟩ := h606
    have sM44 : ScrEq M M44 := sM43.trans (hs606)
    have qM44 := lo.scr sM44
    have e0M44 : M44 0 = M 0 := sM44.z0
    have e19M44 : M44 19 = M 19 := sM44.z19
    refine w_eqI (z' := (-1002)) hz606 ?_
    refine r_sipush (pc' := 612) X dL_refuses_609 rfl rfl ?_
    refine r_icmp_ne (pc' := 615) (tgt := 696) X dL_refuses_612 rfl rfl (by omega) (by omega) (fun h612 => absurd h612 (by decide)) (fun h612 => ?_)
    refine r_aload_n (pc' := 616) X 0 dL_refuses_615 rfl rfl rfl ?_
    refine r_iconst (pc' := 617) X dL_refuses_616 rfl ?_
    refine r_ldc2 (pc' := 620) (z := 10000) X gw_955 dL_refuses_617 rfl rfl ?_
    refine w_calli (pc' := 623) (st := []) (w_runSH X (c_L_tryScript l G M44 hfl N P T qM44.ck (by have := qM44.t; omega) qM44.t.1 qM44.tr 1 10000 (by first | omega | assumption | decide) (by first | omega | assumption | decide)) cf_L_tryScript gw_937 rfl rfl ⟨Nat.le_of_ble_eq_true rfl, Nat.le_of_ble_eq_true rfl⟩ rfl rfl (Nat.le_of_ble_eq_true rfl) ⟨by show _ ≤ 80; omega, by show _ ≤ 480; omega⟩ gw_936 dL_refuses_620) rfl (fun z620 M45 h620 => ?_)
    rcases h620 with h620 | h620
    · exfalso
      exact absurd h620.1.2.2 (by show ¬ ((10000 : Int) < ((10000 : Nat) : Int)); omega)
    obtain ⟨hz620, hc620, hs620⟩ := h620
    have sM45 : ScrEq M M45 := sM44.trans (hs620)
    have qM45 := lo.scr sM45
    have e0M45 : M45 0 = M 0 := sM45.z0
    have e19M45 : M45 19 = M 19 := sM45.z19
    refine w_eqI (z' := (-1002)) hz620 ?_
    refine r_sipush (pc' := 626) X dL_refuses_623 rfl rfl ?_
    refine r_icmp_ne (pc' := 629) (tgt := 696) X dL_refuses_626 rfl rfl (by omega) (by omega) (fun h626 => absurd h626 (by decide)) (fun h626 => ?_)
    refine r_aload_n (pc' := 630) X 0 dL_refuses_629 rfl rfl rfl ?_
    refine r_iconst (pc' := 631) X dL_refuses_630 rfl ?_
    refine r_ldc2 (pc' := 634) (z := (-1)) X gw_956 dL_refuses_631 rfl rfl ?_
    refine w_calli (pc' := 637) (st := []) (w_runSH X (c_L_tryScript l G M45 hfl N P T qM45.ck (by have := qM45.t; omega) qM45.t.1 qM45.tr 4 (-1) (by first | omega | assumption | decide) (by first | omega | assumption | decide)) cf_L_tryScript gw_937 rfl rfl ⟨Nat.le_of_ble_eq_true rfl, Nat.le_of_ble_eq_true rfl⟩ rfl rfl (Nat.le_of_ble_eq_true rfl) ⟨by show _ ≤ 80; omega, by show _ ≤ 480; omega⟩ gw_936 dL_refuses_634) rfl (fun z634 M46 h634 => ?_)
    rcases h634 with h634 | h634
    · exfalso
      have hd := h634.1; clear h634; omega
    obtain ⟨hz634, hc634, hs634⟩ := h634
    have sM46 : ScrEq M M46 := sM45.trans (hs634)
    have qM46 := lo.scr sM46
    have e0M46 : M46 0 = M 0 := sM46.z0
    have e19M46 : M46 19 = M 19 := sM46.z19
    refine w_eqI (z' := (-1002)) hz634 ?_
    refine r_sipush (pc' := 640) X dL_refuses_637 rfl rfl ?_
    refine r_icmp_ne (pc' := 643) (tgt := 696) X dL_refuses_640 rfl rfl (by omega) (by omega) (fun h640 => absurd h640 (by decide)) (fun h640 => ?_)
    refine r_aload_n (pc' := 644) X 0 dL_refuses_643 rfl rfl rfl ?_
    refine r_ldc2 (pc' := 647) (z := 5) X gw_957 dL_refuses_644 rfl rfl ?_
    refine r_bipush (pc' := 649) X dL_refuses_647 rfl rfl ?_
    refine w_callj (pc' := 652) (st := []) (w_runSH X (c_L_trySimulate l G M46 hfl N P T qM46.ck (by have := qM46.t; omega) qM46.t.1 qM46.tr 5 101 (by first | omega | assumption | decide) (by first | omega | assumption | decide)) cf_L_trySimulate gw_959 rfl rfl ⟨Nat.le_of_ble_eq_true rfl, Nat.le_of_ble_eq_true rfl⟩ rfl rfl (Nat.le_of_ble_eq_true rfl) ⟨by show _ ≤ 80; omega, by show _ ≤ 480; omega⟩ gw_958 dL_refuses_649) rfl (fun z649 M47 h649 => ?_)
    rcases h649 with h649 | h649
    · exfalso
      have hd := h649.1; clear h649; omega
    obtain ⟨hz649, hc649, hs649⟩ := h649
    have sM47 : ScrEq M M47 := sM46.trans (hs649)
    have qM47 := lo.scr sM47
    have e0M47 : M47 0 = M 0 := sM47.z0
    have e19M47 : M47 19 = M 19 := sM47.z19
    refine w_eqJ (z' := (-1002)) hz649 ?_
    refine r_ldc2 (pc' := 655) (z := (-1002)) X gw_972 dL_refuses_652 rfl rfl ?_
    refine r_lcmp (pc' := 656) X dL_refuses_655 (by omega) (by omega) rfl (fun z655 z655r z655l z655e z655g => ?_)
    refine r_if_ne (pc' := 659) (tgt := 696) X dL_refuses_656 rfl rfl (by omega) (fun h656 => by exfalso; omega) (fun h656 => ?_)
    refine r_aload_n (pc' := 660) X 0 dL_refuses_659 rfl rfl rfl ?_
    refine r_iconst (pc' := 661) X dL_refuses_660 rfl ?_
    refine w_calli (pc' := 664) (st := []) (w_runSH X (c_L_trySave l G M47 hfl 2 (by first | omega | assumption | decide)) cf_L_trySave gw_549 rfl rfl ⟨Nat.le_of_ble_eq_true rfl, Nat.le_of_ble_eq_true rfl⟩ rfl rfl (Nat.le_of_ble_eq_true rfl) ⟨by show _ ≤ 80; omega, by show _ ≤ 480; omega⟩ gw_548 dL_refuses_661) rfl (fun z661 M48 h661 => ?_)
    rcases h661 with h661 | h661
    · exfalso
      have hd := h661.1; clear h661; omega
    obtain ⟨hz661, hc661, hs661⟩ := h661
    have sM48 : ScrEq M M48 := sM47.trans (hs661)
    have qM48 := lo.scr sM48
    have e0M48 : M48 0 = M 0 := sM48.z0
    have e19M48 : M48 19 = M 19 := sM48.z19
    refine w_eqI (z' := (-1001)) hz661 ?_
    refine r_sipush (pc' := 667) X dL_refuses_664 rfl rfl ?_
    refine r_icmp_ne (pc' := 670) (tgt := 696) X dL_refuses_667 rfl rfl (by omega) (by omega) (fun h667 => absurd h667 (by decide)) (fun h667 => ?_)
    refine r_aload_n (pc' := 671) X 0 dL_refuses_670 rfl rfl rfl ?_
    refine r_iconst (pc' := 672) X dL_refuses_671 rfl ?_
    refine w_calli (pc' := 675) (st := []) (w_runSH X (c_L_tryRestore l G M48 hfl (-1) (by first | omega | assumption | decide) qM48.sl) cf_L_tryRestore gw_558 rfl rfl ⟨Nat.le_of_ble_eq_true rfl, Nat.le_of_ble_eq_true rfl⟩ rfl rfl (Nat.le_of_ble_eq_true rfl) ⟨by show _ ≤ 80; omega, by show _ ≤ 480; omega⟩ gw_557 dL_refuses_672) rfl (fun z672 M49 h672 => ?_)
    rcases h672 with h672 | h672 | h672
    · exfalso
      have hd := h672.1; clear h672; omega
    rotate_left 1
    · exfalso
      have hd := h672.2.1; clear h672; omega
    obtain ⟨hz672, hc672, hs672⟩ := h672
    have sM49 : ScrEq M M49 := sM48.trans (hs672)
    have qM49 := lo.scr sM49
    have e0M49 : M49 0 = M 0 := sM49.z0
    have e19M49 : M49 19 = M 19 := sM49.z19
    refine w_eqI (z' := (-1001)) hz672 ?_
    refine r_sipush (pc' := 678) X dL_refuses_675 rfl rfl ?_
    refine r_icmp_ne (pc' := 681) (tgt := 696) X dL_refuses_678 rfl rfl (by omega) (by omega) (fun h678 => absurd h678 (by decide)) (fun h678 => ?_)
    refine r_aload_n (pc' := 682) X 0 dL_refuses_681 rfl rfl rfl ?_
    refine r_iconst (pc' := 683) X dL_refuses_682 rfl ?_
    refine w_calli (pc' := 686) (st := []) (w_runSH X (c_L_tryAppend l G M49 hfl L (-1) qM49.tx (by first | omega | assumption | decide)) cf_L_tryAppend gw_585 rfl rfl ⟨Nat.le_of_ble_eq_true rfl, Nat.le_of_ble_eq_true rfl⟩ rfl rfl (Nat.le_of_ble_eq_true rfl) ⟨by show _ ≤ 80; omega, by show _ ≤ 480; omega⟩ gw_584 dL_refuses_683) rfl (fun z683 M50 h683 => ?_)
    rcases h683 with h683 | h683 | h683
    · exfalso
      have hd := h683.1; clear h683; omega
    rotate_left 1
    · exfalso
      have hd := h683.2.1; clear h683; omega
    obtain ⟨hz683, hc683, hs683⟩ := h683
    have sM50 : ScrEq M M50 := sM49.trans (hs683)
    have qM50 := lo.scr sM50
    have e0M50 : M50 0 = M 0 := sM50.z0
    have e19M50 : M50 19 = M 19 := sM50.z19
    refine w_eqI (z' := (-1002)) hz683 ?_
    refine r_sipush (pc' := 689) X dL_refuses_686 rfl rfl ?_
    refine r_icmp_ne (pc' := 692) (tgt := 696) X dL_refuses_689 rfl rfl (by omega) (by omega) (fun h689 => absurd h689 (by decide)) (fun h689 => ?_)
    refine r_iconst (pc' := 693) X dL_refuses_692 rfl ?_
    refine r_goto (tgt := 697) X dL_refuses_693 rfl ?_
    refine w_widen (k' := 80) (n' := 480) (by omega) (by omega) ?_
    refine w_zret X hr (by decide) dL_refuses_697 ?_
    try dsimp only
    exact ⟨rfl, sM50⟩
  refine r_iload_n (pc' := 378) X 1 dL_refuses_377 rfl rfl rfl ?_
  refine r_iconst (pc' := 379) X dL_refuses_378 rfl ?_
  refine r_icmp_eq (pc' := 382) (tgt := 423) X dL_refuses_379 rfl rfl (by omega) (by omega) (fun h379 => ?_) (fun h379 => ?_)
  · refine w_widen (k' := 40) (n' := 6 * (40)) (by omega) (by omega) ?_
    exact J423 M30 sM30
  · have J414 : ∀ (vb : Int) (vc : Int) (vd : Int), ((0 ≤ vb ∧ vb ≤ 1) ∧ (0 ≤ vc ∧ vc ≤ 1) ∧ 0 ≤ vd ∧ vd ≤ 1) → ((N = 1 ∧ vb = 1) ∨ (N = 2 ∧ vc = 1) ∨ (N = 3 ∧ vd = 1)) → wV p l e (wrm 8 80 480) s m args below meth c G 5 M30 (30) (6 * (30)) (MQ below (wQi G (fun z M1 => z = 1 ∧ ScrEq M M1)) args s 80 480 (wA G)) 414 [(0, vR G (28, 0)), (1, vI (N : Int)), (2, vI (P : Int)), (3, vI (M 0 0 8)), (4, vI 1)] [vI vd, vI vc, vI vb, vI 0, vR G (28, 0)] := by
      intro vb vc vd hb01 hnb
      skip
      refine w_calli (pc' := 417) (st := []) (w_runSH X (c_L_tryCanBe l G M30 hfl N P T qM30.ck (by have := qM30.t; omega) 0 vb vc vd (by first | omega | assumption | decide) (by first | omega | assumption | decide) (by first | omega | assumption | decide) (by first | omega | assumption | decide)) cf_L_tryCanBe gw_842 rfl rfl ⟨Nat.le_of_ble_eq_true rfl, Nat.le_of_ble_eq_true rfl⟩ rfl rfl (Nat.le_of_ble_eq_true rfl) ⟨by show _ ≤ 80; omega, by show _ ≤ 480; omega⟩ gw_841 dL_refuses_414) rfl (fun z414 M51 h414 => ?_)
      rcases h414 with h414 | h414
      · exfalso
        have hd := h414.1; clear h414
        rcases hnb with ⟨q1, q2⟩ | ⟨q1, q2⟩ | ⟨q1, q2⟩
        · have := hd 1 (by omega) (by omega); rw [row4_b] at this; omega
        · have := hd 2 (by omega) (by omega); rw [row4_c] at this; omega
        · have := hd 3 (by omega) (by omega); rw [row4_d] at this; omega
      obtain ⟨hz414, hc414, hs414⟩ := h414
      have sM51 : ScrEq M M51 := sM30.trans (hs414)
      have qM51 := lo.scr sM51
      have e0M51 : M51 0 = M 0 := sM51.z0
      have e19M51 : M51 19 = M 19 := sM51.z19
      refine w_eqI (z' := (-1002)) hz414 ?_
      refine r_sipush (pc' := 420) X dL_refuses_417 rfl rfl ?_
      refine r_icmp_ne (pc' := 423) (tgt := 595) X dL_refuses_420 rfl rfl (by omega) (by omega) (fun h420 => absurd h420 (by decide)) (fun h420 => ?_)
      refine w_widen (k' := 40) (n' := 6 * (40)) (by omega) (by omega) ?_
      exact J423 M51 sM51
    refine r_aload_n (pc' := 383) X 0 dL_refuses_382 rfl rfl rfl ?_
    refine r_iconst (pc' := 384) X dL_refuses_383 rfl ?_
    refine r_iload_n (pc' := 385) X 1 dL_refuses_384 rfl rfl rfl ?_
    refine r_iconst (pc' := 386) X dL_refuses_385 rfl ?_
    refine r_icmp_ge (pc' := 389) (tgt := 393) X dL_refuses_386 rfl rfl (by omega) (by omega) (fun h386 => ?_) (fun h386 => ?_)
    · refine r_iconst (pc' := 394) X dL_refuses_393 rfl ?_
      refine r_iload_n (pc' := 395) X 1 dL_refuses_394 rfl rfl rfl ?_
      refine r_iconst (pc' := 396) X dL_refuses_395 rfl ?_
      refine r_icmp_ne (pc' := 399) (tgt := 403) X dL_refuses_396 rfl rfl (by omega) (by omega) (fun h396 => ?_) (fun h396 => ?_)
      · refine r_iconst (pc' := 404) X dL_refuses_403 rfl ?_
        refine r_iload_n (pc' := 405) X 1 dL_refuses_404 rfl rfl rfl ?_
        refine r_iconst (pc' := 406) X dL_refuses_405 rfl ?_
        refine r_icmp_ne (pc' := 409) (tgt := 413) X dL_refuses_406 rfl rfl (by omega) (by omega) (fun h406 => ?_) (fun h406 => ?_)
        · refine r_iconst (pc' := 414) X dL_refuses_413 rfl ?_
          refine w_widen (k' := 30) (n' := 6 * (30)) (by omega) (by omega) ?_
          exact J414 0 0 0 (by omega) (by omega)
        · refine r_iconst (pc' := 410) X dL_refuses_409 rfl ?_
          refine r_goto (tgt := 414) X dL_refuses_410 rfl ?_
          refine w_widen (k' := 30) (n' := 6 * (30)) (by omega) (by omega) ?_
          exact J414 0 0 1 (by omega) (by omega)
      · refine r_iconst (pc' := 400) X dL_refuses_399 rfl ?_
        refine r_goto (tgt := 404) X dL_refuses_400 rfl ?_
        refine r_iload_n (pc' := 405) X 1 dL_refuses_404 rfl rfl rfl ?_
        refine r_iconst (pc' := 406) X dL_refuses_405 rfl ?_
        refine r_icmp_ne (pc' := 409) (tgt := 413) X dL_refuses_406 rfl rfl (by omega) (by omega) (fun h406 => ?_) (fun h406 => ?_)
        · refine r_iconst (pc' := 414) X dL_refuses_413 rfl ?_
          refine w_widen (k' := 30) (n' := 6 * (30)) (by omega) (by omega) ?_
          exact J414 0 1 0 (by omega) (by omega)
        · refine r_iconst (pc' := 410) X dL_refuses_409 rfl ?_
          refine r_goto (tgt := 414) X dL_refuses_410 rfl ?_
          refine w_widen (k' := 30) (n' := 6 * (30)) (by omega) (by omega) ?_
          exact J414 0 1 1 (by omega) (by omega)
    · refine r_iconst (pc' := 390) X dL_refuses_389 rfl ?_
      refine r_goto (tgt := 394) X dL_refuses_390 rfl ?_
      refine r_iload_n (pc' := 395) X 1 dL_refuses_394 rfl rfl rfl ?_
      refine r_iconst (pc' := 396) X dL_refuses_395 rfl ?_
      refine r_icmp_ne (pc' := 399) (tgt := 403) X dL_refuses_396 rfl rfl (by omega) (by omega) (fun h396 => ?_) (fun h396 => ?_)
      · refine r_iconst (pc' := 404) X dL_refuses_403 rfl ?_
        refine r_iload_n (pc' := 405) X 1 dL_refuses_404 rfl rfl rfl ?_
        refine r_iconst (pc' := 406) X dL_refuses_405 rfl ?_
        refine r_icmp_ne (pc' := 409) (tgt := 413) X dL_refuses_406 rfl rfl (by omega) (by omega) (fun h406 => ?_) (fun h406 => ?_)
        · refine r_iconst (pc' := 414) X dL_refuses_413 rfl ?_
          refine w_widen (k' := 30) (n' := 6 * (30)) (by omega) (by omega) ?_
          exact J414 1 0 0 (by omega) (by omega)
        · refine r_iconst (pc' := 410) X dL_refuses_409 rfl ?_
          refine r_goto (tgt := 414) X dL_refuses_410 rfl ?_
          refine w_widen (k' := 30) (n' := 6 * (30)) (by omega) (by omega) ?_
          exact J414 1 0 1 (by omega) (by omega)
      · refine r_iconst (pc' := 400) X dL_refuses_399 rfl ?_
        refine r_goto (tgt := 404) X dL_refuses_400 rfl ?_
        refine r_iload_n (pc' := 405) X 1 dL_refuses_404 rfl rfl rfl ?_
        refine r_iconst (pc' := 406) X dL_refuses_405 rfl ?_
        refine r_icmp_ne (pc' := 409) (tgt := 413) X dL_refuses_406 rfl rfl (by omega) (by omega) (fun h406 => ?_) (fun h406 => ?_)
        · refine r_iconst (pc' := 414) X dL_refuses_413 rfl ?_
          refine w_widen (k' := 30) (n' := 6 * (30)) (by omega) (by omega) ?_
          exact J414 1 1 0 (by omega) (by omega)
        · refine r_iconst (pc' := 410) X dL_refuses_409 rfl ?_
          refine r_goto (tgt := 414) X dL_refuses_410 rfl ?_
          refine w_widen (k' := 30) (n' := 6 * (30)) (by omega) (by omega) ?_
          exact J414 1 1 1 (by omega) (by omega)
theorem cf_L_bounded : wCal yL_bounded cL_bounded 4 (some .boolean) 2 := ⟨gw_1008, gw_0, by decide, by decide, by rfl⟩
set_option maxRecDepth 100000 in
set_option maxHeartbeats 4000000 in
theorem c_L_bounded (l : Launch) (G : wG) (M : wM) (hfl : l.stackTraces = false) (N P L nx ct : Nat) (T : Int) (lo : Lo N P L nx ct T M) (d : Int) (hd : rI d) (hu : (M 0 0 9 ≠ 0 ∧ expl N (M 19) (M 0) d ∧ -(M 0 0 11) ≤ d ∧ d ≤ M 0 0 11)) : Met l yL_bounded (gws yL_bounded cL_bounded 4 (some .boolean)) (wrm 8 2 12) (wPc G M [vR G (28, 0), vI d]) (wQi G (fun z M1 => z = 1 ∧ M1 = M)) 2 12 (wA G) := by
  refine wMet (lc := [(0, vR G (28, 0)), (1, vI d)]) (by decide) (Nat.le_of_ble_eq_true rfl) rfl ?_
  intro p e s m args below meth c X hr
  have X : wX p s m args meth c G 4 "StateObserverLaw" cL_bounded := X
  have hbo := lo.1.2.1.2.2.2.2.2.2.2.2.2.2.2.1
  refine r_aload_n (pc' := 1) X 0 dL_bounded_0 rfl rfl rfl ?_
  refine r_iconst (pc' := 2) X dL_bounded_1 rfl ?_
  refine w_calli (pc' := 5) (st := []) (w_runSH X (c_L_tryUnknown l G M hfl N P T lo.ck (by have := lo.t; omega) 0 (by first | omega | assumption | decide)) cf_L_tryUnknown gw_534 rfl rfl ⟨Nat.le_of_ble_eq_true rfl, Nat.le_of_ble_eq_true rfl⟩ rfl rfl (Nat.le_of_ble_eq_true rfl) ⟨by show _ ≤ 2; omega, by show _ ≤ 12; omega⟩ gw_533 dL_bounded_2) rfl (fun z2 M1 h2 => ?_)
  rcases h2 with h2 | h2
  rotate_left 1
  · exfalso
    rcases h2.2.1 with q | q
    exact hu.1 q
    exact q d hu.2.2.1 hu.2.2.2 hu.2.1
  obtain ⟨hq2, hm2⟩ : _ ∧ M1 = M := ⟨h2, h2.2.2.2.2⟩
  obtain rfl := hm2.symm
  have hd2 : z2 ≤ d := hq2.2.2.2.1 d hu.2.2.1 hu.2.2.2 hu.2.1
  have hr2 := hq2.2.2.1
  refine r_istore_n (pc' := 6) (lc' := [(0, vR G (28, 0)), (1, vI d), (2, vI z2)]) X [1, 2, 0] dL_bounded_5 rfl (by decide) rfl rfl ?_
  refine r_aload_n (pc' := 7) X 0 dL_bounded_6 rfl rfl rfl ?_
  refine r_iconst (pc' := 8) X dL_bounded_7 rfl ?_
  refine w_calli (pc' := 11) (st := []) (w_runSH X (c_L_tryUnknown l G M hfl N P T lo.ck (by have := lo.t; omega) 1 (by first | omega | assumption | decide)) cf_L_tryUnknown gw_534 rfl rfl ⟨Nat.le_of_ble_eq_true rfl, Nat.le_of_ble_eq_true rfl⟩ rfl rfl (Nat.le_of_ble_eq_true rfl) ⟨by show _ ≤ 2; omega, by show _ ≤ 12; omega⟩ gw_533 dL_bounded_8) rfl (fun z8 M2 h8 => ?_)
  rcases h8 with h8 | h8
  rotate_left 1
  · exfalso
    rcases h8.2.1 with q | q
    exact hu.1 q
    exact q d hu.2.2.1 hu.2.2.2 hu.2.1
  obtain ⟨hq8, hm8⟩ : _ ∧ M2 = M := ⟨h8, h8.2.2.2.2⟩
  obtain rfl := hm8.symm
  have hd8 : d ≤ z8 := hq8.2.2.2.1 d hu.2.2.1 hu.2.2.2 hu.2.1
  have hr8 := hq8.2.2.1
  refine r_istore_n (pc' := 12) (lc' := [(0, vR G (28, 0)), (1, vI d), (2, vI z2), (3, vI z8)]) X [1, 2, 3, 0] dL_bounded_11 rfl (by decide) rfl rfl ?_
  refine r_iload_n (pc' := 13) X 2 dL_bounded_12 rfl rfl rfl ?_
  refine r_iload_n (pc' := 14) X 1 dL_bounded_13 rfl rfl rfl ?_
  refine r_icmp_gt (pc' := 17) (tgt := 33) X dL_bounded_14 rfl rfl (by omega) (by omega) (fun h14 => by exfalso; omega) (fun h14 => ?_)
  refine r_iload_n (pc' := 18) X 1 dL_bounded_17 rfl rfl rfl ?_
  refine r_iload_n (pc' := 19) X 3 dL_bounded_18 rfl rfl rfl ?_
  refine r_icmp_gt (pc' := 22) (tgt := 33) X dL_bounded_19 rfl rfl (by omega) (by omega) (fun h19 => by exfalso; omega) (fun h19 => ?_)
  refine r_iload_n (pc' := 23) X 2 dL_bounded_22 rfl rfl rfl ?_
  refine r_sipush (pc' := 26) X dL_bounded_23 rfl rfl ?_
  refine r_icmp_le (pc' := 29) (tgt := 33) X dL_bounded_26 rfl rfl (by omega) (by omega) (fun h26 => by exfalso; omega) (fun h26 => ?_)
  refine r_iconst (pc' := 30) X dL_bounded_29 rfl ?_
  refine r_goto (tgt := 34) X dL_bounded_30 rfl ?_
  refine w_widen (k' := 2) (n' := 12) (by omega) (by omega) ?_
  refine w_zret X hr (by decide) dL_bounded_34 ?_
  try dsimp only
  exact ⟨rfl, rfl⟩
