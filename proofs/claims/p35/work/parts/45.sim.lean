theorem cf_X8_simulate : wCal yX8_simulate cX8_simulate 11 (some .long) 2 := ⟨gw_964, gw_1, by decide, by decide, by rfl⟩
set_option maxRecDepth 100000 in
set_option maxHeartbeats 4000000 in
theorem c_X8_simulate (l : Launch) (G : wG) (M : wM) (hfl : l.stackTraces = false) (N P : Nat) (T : Int) (hck : COk M N P T) (hT6 : T ≤ 800000) (hT0 : 0 ≤ T) (htr : TrOk (M 0) N P (M 19)) (s0 n : Int) (hs : rJ s0) (hn : rI n) : vx_Met l yX8_simulate (gws yX8_simulate cX8_simulate 11 (some .long)) (wrm 6 1 6) (wPc G M [vR G (28, 0), vJ s0, vI n]) (wQj G (fun z M1 => (1 ≤ n ∧ n ≤ 100) ∧ z = simF N P (M 19) n.toNat s0 (M 0) ∧ ScrEq M M1)) (wQx G (fun E M1 => ((E = "java/lang/IllegalArgumentException" ∧ ¬ (1 ≤ n ∧ n ≤ 100))) ∧ ScrEq M M1)) 1 6 (wA G) := by
  refine wMetX (lc := [(0, vR G (28, 0)), (1, vJ s0), (3, vI n)]) (by decide) (Nat.le_of_ble_eq_true rfl) rfl ?_
  intro p e s m args below meth c X hr hex
  have X : wX p s m args meth c G 11 "StateObserver" cX8_simulate := X
  obtain ⟨hp, hm, hbx⟩ := id hck
  obtain ⟨hN, hN1, hN4, hP, hP1, hP3, hA, hB, hE, hC, hQ⟩ := id hp
  obtain ⟨hT, hL, hU, hS, hG, hY, hAg, hHo, hBo, hTi, hLi, hLb, hLl, hLh⟩ := id hm
  refine r_iload_n (pc' := 1) X 2 dX8_simulate_0 rfl rfl rfl ?_
  refine r_iconst (pc' := 2) X dX8_simulate_1 rfl ?_
  refine r_icmp_lt (pc' := 5) (tgt := 11) X dX8_simulate_2 rfl rfl (by omega) (by omega) (fun h2 => ?_) (fun h2 => ?_)
  · refine r_thAW X hfl hex gw_458 ts_965 dX8_simulate_11 dX8_simulate_14 dX8_simulate_15 dX8_simulate_18 dX8_simulate_21 (by decide) (by decide) (by decide) (by decide) ?_
    try dsimp only
    exact ⟨⟨rfl, by omega⟩, ScrEq.rfl⟩
  · refine r_iload_n (pc' := 6) X 2 dX8_simulate_5 rfl rfl rfl ?_
    refine r_bipush (pc' := 8) X dX8_simulate_6 rfl rfl ?_
    refine r_icmp_le (pc' := 11) (tgt := 22) X dX8_simulate_8 rfl rfl (by omega) (by omega) (fun h8 => ?_) (fun h8 => ?_)
    · refine r_aload_n (pc' := 23) X 0 dX8_simulate_22 rfl rfl rfl ?_
      refine gf_28_copy (pc' := 26) X gw_298 dX8_simulate_23 rfl ?_
      refine r_aload_n (pc' := 27) X 0 dX8_simulate_26 rfl rfl rfl ?_
      refine gf_28_now (pc' := 30) X gw_297 dX8_simulate_27 rfl ?_
      refine w_callv (pc' := 33) (st := []) (w_runV X (c_X1_copyFrom l G M 1 0 (by decide) (by decide) (by decide)) cf_X1_copyFrom (kM_0 (by decide)) rfl gw_517 gw_518 rfl rfl ⟨Nat.le_of_ble_eq_true rfl, Nat.le_of_ble_eq_true rfl⟩ rfl rfl (Nat.le_of_ble_eq_true rfl) ⟨Nat.le_of_ble_eq_true rfl, Nat.le_of_ble_eq_true rfl⟩ gw_556 dX8_simulate_30) rfl (fun M1 h30 => ?_)
      have ecp : M1 1 = M 0 := by rw [h30]; unfold wo; rw [if_pos rfl]
      have ecf : ∀ a, a ≠ 1 → M1 a = M a := fun a ha => by rw [h30]; unfold wo; rw [if_neg ha]
      refine r_lload_n (pc' := 34) X 1 dX8_simulate_33 rfl rfl rfl ?_
      refine r_lstore (pc' := 36) (lc' := [(0, vR G (28, 0)), (1, vJ s0), (3, vI n), (4, vJ s0)]) X [1, 2, 3, 0] dX8_simulate_34 (by decide) rfl rfl ?_
      refine r_lconst (pc' := 37) (z := 0) X dX8_simulate_36 rfl rfl ?_
      refine r_lstore (pc' := 39) (lc' := [(0, vR G (28, 0)), (1, vJ s0), (3, vI n), (4, vJ s0), (6, vJ 0)]) X [1, 2, 3, 4, 0] dX8_simulate_37 (by decide) rfl rfl ?_
      refine r_iconst (pc' := 40) X dX8_simulate_39 rfl ?_
      refine r_istore (pc' := 42) (lc' := [(0, vR G (28, 0)), (1, vJ s0), (3, vI n), (4, vJ s0), (6, vJ 0), (8, vI 0)]) X [1, 2, 3, 4, 5, 0] dX8_simulate_40 (by decide) rfl rfl ?_
      have L42 : ∀ (fu : Nat) (t : Nat) (x : Int) (sm : Int) (Ma : wM), n.toNat - t < fu → (t ≤ n.toNat) → (∃ v, VEq N P (Ma 1) v ∧ sm + simF N P (M 19) (n.toNat - t) x v = simF N P (M 19) n.toNat s0 (M 0)) → (CCk Ma N P (T + t)) → (∀ a, a ≠ 1 → a ≠ 21 → Ma a = M a) → wV p l e (wrm 6 1 6) s m args below meth c G 11 Ma 0 0 (vx_MQ below (wQj G (fun z M1 => (1 ≤ n ∧ n ≤ 100) ∧ z = simF N P (M 19) n.toNat s0 (M 0) ∧ ScrEq M M1)) (wQx G (fun E M1 => ((E = "java/lang/IllegalArgumentException" ∧ ¬ (1 ≤ n ∧ n ≤ 100))) ∧ ScrEq M M1)) args s 1 6 (wA G)) 42 [(0, vR G (28, 0)), (1, vJ s0), (3, vI n), (4, vJ x), (6, vJ sm), (8, vI (t : Int))] [] := by
        intro fu
        induction fu with
        | zero => intro t x sm Ma hfu; exact absurd hfu (Nat.not_lt_zero _)
        | succ fu ih42 =>
          intro t x sm Ma hfu42 ht hv hcc hfr
          refine r_iload (pc' := 44) X 5 dX8_simulate_42 rfl rfl ?_
          refine r_iload_n (pc' := 45) X 2 dX8_simulate_44 rfl rfl rfl ?_
          refine r_icmp_ge (pc' := 48) (tgt := 187) X dX8_simulate_45 rfl rfl (by omega) (by omega) (fun h45 => ?_) (fun h45 => ?_)
          · refine r_lload (pc' := 189) X 4 dX8_simulate_187 rfl rfl ?_
            refine w_x (by decide) (by decide) ?_
            refine w_lret X hr dX8_simulate_189 ?_
            try dsimp only
            obtain ⟨v, -, hv3⟩ := hv
            refine ⟨by omega, ?_, fun a h1 h21 _ _ _ _ => hfr a h1 h21⟩
            rw [← hv3, show n.toNat - t = 0 by omega]
            exact (Int.add_zero sm).symm
          · obtain ⟨v, hv1, hv3⟩ := hv
            have e19 : Ma 19 = M 19 := hfr 19 (by decide) (by decide)
            have hb8 := hcc.2.1.2.2.2.2.2.2.2.2.1
            have hbd : Ma 1 0 8 = v 0 8 := hv1.2.2.2.2.1
            have hsr := shr33 (x * 6364136223846793005 + 1442695040888963407)
            obtain ⟨rn, hrn⟩ : ∃ q, q = (shrJ (x * 6364136223846793005 + 1442695040888963407) 33).toNat := ⟨_, rfl⟩
            refine r_lload (pc' := 50) X 3 dX8_simulate_48 rfl rfl ?_
            refine r_ldc2 (pc' := 53) (z := 6364136223846793005) X gw_966 dX8_simulate_50 rfl rfl ?_
            refine r_lmul (pc' := 54) X dX8_simulate_53 rfl ?_
            refine r_ldc2 (pc' := 57) (z := 1442695040888963407) X gw_967 dX8_simulate_54 rfl rfl ?_
            refine r_ladd (pc' := 58) X dX8_simulate_57 rfl ?_
            refine r_lstore (pc' := 60) (lc' := [(0, vR G (28, 0)), (1, vJ s0), (3, vI n), (4, vJ ((x * 6364136223846793005) + 1442695040888963407)), (6, vJ sm), (8, vI (t : Int))]) X [1, 2, 3, 0, 4, 5] dX8_simulate_58 (by decide) rfl rfl ?_
            refine r_lload (pc' := 62) X 3 dX8_simulate_60 rfl rfl ?_
            refine r_bipush (pc' := 64) X dX8_simulate_62 rfl rfl ?_
            refine r_lushr (pc' := 65) X dX8_simulate_64 rfl ?_
            refine r_l2i (pc' := 66) X dX8_simulate_65 rfl ?_
            refine w_eqI (z' := (rn : Int)) (by omega) ?_
            refine r_istore (pc' := 68) (lc' := [(0, vR G (28, 0)), (1, vJ s0), (3, vI n), (4, vJ ((x * 6364136223846793005) + 1442695040888963407)), (6, vJ sm), (8, vI (t : Int)), (9, vI (rn : Int))]) X [1, 2, 3, 4, 5, 6, 0] dX8_simulate_66 (by decide) rfl rfl ?_
            refine r_iload (pc' := 70) X 6 dX8_simulate_68 rfl rfl ?_
            refine r_bipush (pc' := 72) X dX8_simulate_70 rfl rfl ?_
            refine r_idiv (pc' := 73) X dX8_simulate_72 (by omega) (by omega) (by omega) rfl ?_
            refine w_eqI (z' := ((rn / 32 : Nat) : Int)) rfl ?_
            refine r_iconst (pc' := 74) X dX8_simulate_73 rfl ?_
            refine r_aload_n (pc' := 75) X 0 dX8_simulate_74 rfl rfl rfl ?_
            refine gf_28_copy (pc' := 78) X gw_298 dX8_simulate_75 rfl ?_
            refine gf_M_bound (pc' := 81) X (by decide) gw_123 dX8_simulate_78 rfl ?_
            refine r_imul (pc' := 82) X dX8_simulate_81 rfl ?_
            refine r_iconst (pc' := 83) X dX8_simulate_82 rfl ?_
            refine r_iadd (pc' := 84) X dX8_simulate_83 rfl ?_
            have htm := tmod_bd (a := ((rn / 32 : Nat) : Int)) (b := 2 * Ma 1 0 8 + 1) (by omega)
            refine w_calli (pc' := 87) (st := []) (w_runS X (c_X8_remainder l G Ma ((rn / 32 : Nat) : Int) ((2 * (Ma 1 0 8)) + 1) (by first | assumption | omega) (by first | assumption | omega) (by first | assumption | omega)) cf_X8_remainder gw_969 rfl rfl ⟨Nat.le_of_ble_eq_true rfl, Nat.le_of_ble_eq_true rfl⟩ rfl rfl (Nat.le_of_ble_eq_true rfl) ⟨Nat.le_of_ble_eq_true rfl, Nat.le_of_ble_eq_true rfl⟩ gw_968 dX8_simulate_84) rfl (fun z84 M2 h84 => ?_)
            obtain rfl := h84.1.symm
            obtain rfl := h84.2.symm
            refine r_aload_n (pc' := 88) X 0 dX8_simulate_87 rfl rfl rfl ?_
            refine gf_28_copy (pc' := 91) X gw_298 dX8_simulate_88 rfl ?_
            refine gf_M_bound (pc' := 94) X (by decide) gw_123 dX8_simulate_91 rfl ?_
            refine r_isub (pc' := 95) X dX8_simulate_94 rfl ?_
            refine r_istore (pc' := 97) (lc' := [(0, vR G (28, 0)), (1, vJ s0), (3, vI n), (4, vJ ((x * 6364136223846793005) + 1442695040888963407)), (6, vJ sm), (8, vI (t : Int)), (9, vI (rn : Int)), (10, vI (((((rn / 32 : Nat) : Int).tmod ((2 * (Ma 1 0 8)) + 1))) - (Ma 1 0 8)))]) X [1, 2, 3, 4, 5, 6, 7, 0] dX8_simulate_95 (by decide) rfl rfl ?_
            refine r_aload_n (pc' := 98) X 0 dX8_simulate_97 rfl rfl rfl ?_
            refine gf_28_motion (pc' := 101) X gw_302 dX8_simulate_98 rfl ?_
            refine r_aload_n (pc' := 102) X 0 dX8_simulate_101 rfl rfl rfl ?_
            refine gf_28_plant (pc' := 105) X gw_296 dX8_simulate_102 rfl ?_
            refine r_aload_n (pc' := 106) X 0 dX8_simulate_105 rfl rfl rfl ?_
            refine gf_28_copy (pc' := 109) X gw_298 dX8_simulate_106 rfl ?_
            refine r_iload (pc' := 111) X 6 dX8_simulate_109 rfl rfl ?_
            refine r_bipush (pc' := 113) X dX8_simulate_111 rfl rfl ?_
            refine r_irem (pc' := 114) X dX8_simulate_113 (by omega) (by omega) (by omega) rfl ?_
            refine w_eqI (z' := ((rn % 21 : Nat) : Int)) rfl ?_
            refine r_bipush (pc' := 116) X dX8_simulate_114 rfl rfl ?_
            refine r_isub (pc' := 117) X dX8_simulate_116 rfl ?_
            refine r_iload (pc' := 119) X 7 dX8_simulate_117 rfl rfl ?_
            refine w_callv (pc' := 122) (st := []) (w_runV X (c_X2_advance l G Ma 19 1 N P (((rn % 21 : Nat) : Int) - 10) (((((rn / 32 : Nat) : Int).tmod ((2 * (Ma 1 0 8)) + 1))) - (Ma 1 0 8)) (T + t) (by decide) (by decide) (by omega) (by rw [e19]; exact hp) hcc.2.1 (by omega) (by omega)) cf_X2_advance k21_0 rfl gw_736 gw_737 rfl rfl ⟨Nat.le_of_ble_eq_true rfl, Nat.le_of_ble_eq_true rfl⟩ rfl rfl (Nat.le_of_ble_eq_true rfl) ⟨Nat.le_of_ble_eq_true rfl, Nat.le_of_ble_eq_true rfl⟩ gw_735 dX8_simulate_119) rfl (fun M3 h119 => ?_)
            have hsv := h119.1
            rw [e19] at hsv
            have hok := StepV.ok hp hcc.2.1 hcc.2.2.1 hsv (by omega)
            have htk := StepV.tr hcc.2.1 (by have := hcc.2.2.2; rw [e19] at this; exact this) hsv (by omega)
            have hfr2 : ∀ a, a ≠ 1 → a ≠ 21 → M3 a = M a := fun a h1 h2 => by rw [h119.2 a h1 h2]; exact hfr a h1 h2
            have e192 : M3 19 = M 19 := hfr2 19 (by decide) (by decide)
            have hc2 : CCk M3 N P (T + (t : Int) + 1) := ⟨by rw [e192]; exact hp, hok.1, hok.2, by rw [e192]; exact htk⟩
            have hP2 : M3 19 0 1 = P := by rw [e192]; exact hP
            have hv4 := hv1.step hN4 hsv
            rw [hbd] at hv4
            have hPm : rn / 32768 % P < P := Nat.mod_lt _ (by omega)
            refine r_iload (pc' := 124) X 6 dX8_simulate_122 rfl rfl ?_
            refine r_sipush (pc' := 127) X dX8_simulate_124 rfl rfl ?_
            refine r_idiv (pc' := 128) X dX8_simulate_127 (by omega) (by omega) (by omega) rfl ?_
            refine w_eqI (z' := ((rn / 8192 : Nat) : Int)) rfl ?_
            refine r_iconst (pc' := 129) X dX8_simulate_128 rfl ?_
            refine r_irem (pc' := 130) X dX8_simulate_129 (by omega) (by omega) (by omega) rfl ?_
            refine w_eqI (z' := ((rn / 8192 % 4 : Nat) : Int)) rfl ?_
            refine r_if_eq (pc' := 133) (tgt := 164) X dX8_simulate_130 rfl rfl (by omega) (fun h130 => ?_) (fun h130 => ?_)
            · have hccn : CCk M3 N P (T + ((t + 1 : Nat) : Int)) := by rw [show T + ((t + 1 : Nat) : Int) = T + (t : Int) + 1 by omega]; exact hc2
              have hfrn : ∀ a, a ≠ 1 → a ≠ 21 → M3 a = M a := hfr2
              have hvn : VEq N P (M3 1) (simV N P (M 19) v rn) := by unfold simV; rw [if_pos (by omega)]; exact hv4
              have hNn : M3 19 0 0 = N := by rw [hfrn 19 (by decide) (by decide)]; exact hN
              refine r_lload (pc' := 166) X 4 dX8_simulate_164 rfl rfl ?_
              refine r_aload_n (pc' := 167) X 0 dX8_simulate_166 rfl rfl rfl ?_
              refine gf_28_plant (pc' := 170) X gw_296 dX8_simulate_167 rfl ?_
              refine r_aload_n (pc' := 171) X 0 dX8_simulate_170 rfl rfl rfl ?_
              refine gf_28_copy (pc' := 174) X gw_298 dX8_simulate_171 rfl ?_
              refine w_calli (pc' := 177) (st := [vJ sm]) (w_runV X (c_X3_widthOf l G M3 19 1 N (by decide) (by decide) hNn hN4) cf_X3_widthOf (kP_0 (by decide)) rfl gw_373 gw_374 rfl rfl ⟨Nat.le_of_ble_eq_true rfl, Nat.le_of_ble_eq_true rfl⟩ rfl rfl (Nat.le_of_ble_eq_true rfl) ⟨Nat.le_of_ble_eq_true rfl, Nat.le_of_ble_eq_true rfl⟩ gw_372 dX8_simulate_174) rfl (fun z174 M4 h174 => ?_)
              have hz174 := h174.1
              obtain rfl := h174.2.symm
              have hwb := wid_bd hccn.2.2.1
              refine r_i2l (pc' := 178) X dX8_simulate_177 (by omega) rfl ?_
              refine r_ladd (pc' := 179) X dX8_simulate_178 rfl ?_
              refine r_lstore (pc' := 181) (lc' := [(0, vR G (28, 0)), (1, vJ s0), (3, vI n), (4, vJ ((x * 6364136223846793005) + 1442695040888963407)), (6, vJ (sm + z174)), (8, vI (t : Int)), (9, vI (rn : Int)), (10, vI (((((rn / 32 : Nat) : Int).tmod ((2 * (Ma 1 0 8)) + 1))) - (Ma 1 0 8)))]) X [1, 2, 3, 4, 0, 5, 6, 7] dX8_simulate_179 (by decide) rfl rfl ?_
              have hv2 : ∃ v, VEq N P (M3 1) v ∧ sm + z174 + simF N P (M 19) (n.toNat - (t + 1)) (x * 6364136223846793005 + 1442695040888963407) v = simF N P (M 19) n.toNat s0 (M 0) := by
                refine ⟨_, hvn, ?_⟩
                rw [← hv3, show n.toNat - t = (n.toNat - (t + 1)) + 1 by omega]
                show _ = sm + (wid N (simV N P (M 19) v (shrJ (x * 6364136223846793005 + 1442695040888963407) 33).toNat 2) (simV N P (M 19) v (shrJ (x * 6364136223846793005 + 1442695040888963407) 33).toNat 3) + simF N P (M 19) (n.toNat - (t + 1)) (x * 6364136223846793005 + 1442695040888963407) (simV N P (M 19) v (shrJ (x * 6364136223846793005 + 1442695040888963407) 33).toNat))
                rw [← hrn, hz174, wid_congr (fun i hi => (hvn.1 i hi).2.1) (fun i hi => (hvn.1 i hi).2.2.1)]
                omega
              refine r_iinc (pc' := 184) (z' := ((t + 1 : Nat) : Int)) (lc' := [(0, vR G (28, 0)), (1, vJ s0), (3, vI n), (4, vJ ((x * 6364136223846793005) + 1442695040888963407)), (6, vJ (sm + z174)), (8, vI ((t + 1 : Nat) : Int)), (9, vI (rn : Int)), (10, vI (((((rn / 32 : Nat) : Int).tmod ((2 * (Ma 1 0 8)) + 1))) - (Ma 1 0 8)))]) X 5 [1, 2, 3, 4, 5, 0, 6, 7] dX8_simulate_181 rfl (by omega) (by decide) rfl rfl ?_
              refine r_goto (tgt := 42) X dX8_simulate_184 rfl ?_
              refine w_sub (lc' := [(0, vR G (28, 0)), (1, vJ s0), (3, vI n), (4, vJ ((x * 6364136223846793005) + 1442695040888963407)), (6, vJ (sm + z174)), (8, vI ((t + 1 : Nat) : Int))]) [0, 1, 2, 3, 4, 5] rfl ?_
              exact ih42 (t + 1) ((x * 6364136223846793005) + 1442695040888963407) (sm + z174) M3 (by omega) (by omega) hv2 hccn hfrn
            · refine r_aload_n (pc' := 134) X 0 dX8_simulate_133 rfl rfl rfl ?_
              refine gf_28_motion (pc' := 137) X gw_302 dX8_simulate_134 rfl ?_
              refine r_aload_n (pc' := 138) X 0 dX8_simulate_137 rfl rfl rfl ?_
              refine gf_28_plant (pc' := 141) X gw_296 dX8_simulate_138 rfl ?_
              refine r_aload_n (pc' := 142) X 0 dX8_simulate_141 rfl rfl rfl ?_
              refine gf_28_copy (pc' := 145) X gw_298 dX8_simulate_142 rfl ?_
              refine r_iload (pc' := 147) X 6 dX8_simulate_145 rfl rfl ?_
              refine r_ldcw (pc' := 150) (z := 32768) X gw_971 dX8_simulate_147 rfl rfl ?_
              refine r_idiv (pc' := 151) X dX8_simulate_150 (by omega) (by omega) (by omega) rfl ?_
              refine w_eqI (z' := ((rn / 32768 : Nat) : Int)) rfl ?_
              refine r_aload_n (pc' := 152) X 0 dX8_simulate_151 rfl rfl rfl ?_
              refine gf_28_plant (pc' := 155) X gw_296 dX8_simulate_152 rfl ?_
              refine gf_P_p (pc' := 158) X (by decide) gw_43 dX8_simulate_155 rfl ?_
              refine w_eqI (z' := (P : Int)) hP2 ?_
              refine w_calli (pc' := 161) (st := [vR G (1, 0), vR G (19, 0), vR G (21, 0)]) (w_runS X (c_X8_remainder l G M3 ((rn / 32768 : Nat) : Int) (P : Int) (by first | assumption | omega) (by first | assumption | omega) (by first | assumption | omega)) cf_X8_remainder gw_969 rfl rfl ⟨Nat.le_of_ble_eq_true rfl, Nat.le_of_ble_eq_true rfl⟩ rfl rfl (Nat.le_of_ble_eq_true rfl) ⟨Nat.le_of_ble_eq_true rfl, Nat.le_of_ble_eq_true rfl⟩ gw_968 dX8_simulate_158) rfl (fun z158 M5 h158 => ?_)
              obtain rfl := h158.1.symm
              obtain rfl := h158.2.symm
              refine w_eqI (z' := ((rn / 32768 % P : Nat) : Int)) rfl ?_
              refine w_callv (pc' := 164) (st := []) (w_runV X (c_X2_observe l G M3 19 1 (rn / 32768 % P) N P (T + (t : Int) + 1) (by decide) (by decide) hPm hc2.1 hc2.2.1 (by omega) hc2.2.2.1 (by omega)) cf_X2_observe k21_0 rfl gw_783 gw_784 rfl rfl ⟨Nat.le_of_ble_eq_true rfl, Nat.le_of_ble_eq_true rfl⟩ rfl rfl (Nat.le_of_ble_eq_true rfl) ⟨Nat.le_of_ble_eq_true rfl, Nat.le_of_ble_eq_true rfl⟩ gw_782 dX8_simulate_161) rfl (fun M6 h161 => ?_)
              have e3 : M6 1 = obsV N P (M 19) (M3 1) (rn / 32768 % P) := by
                rw [h161, setLH_V, e192]
                rfl
              have hfrn : ∀ a, a ≠ 1 → a ≠ 21 → M6 a = M a := fun a ha h21 => by rw [h161, setLH_o ha, wr_o ha, wr_o ha]; exact hfr2 a ha h21
              have hob := obs_ok hp hc2.2.1 (by omega) hc2.2.2.1 (by have := hc2.2.2.2; rw [e192] at this; exact this) hPm
              have hccn : CCk M6 N P (T + ((t + 1 : Nat) : Int)) := by
                rw [show T + ((t + 1 : Nat) : Int) = T + (t : Int) + 1 by omega]
                exact ⟨by rw [hfrn 19 (by decide) (by decide)]; exact hp, by rw [e3]; exact hob.1, by rw [e3]; exact hob.2.1, by rw [e3, hfrn 19 (by decide) (by decide)]; exact hob.2.2⟩
              have hvn : VEq N P (M6 1) (simV N P (M 19) v rn) := by unfold simV; rw [if_neg (by omega), e3]; exact hv4.obs hN4 hPm
              have hNn : M6 19 0 0 = N := by rw [hfrn 19 (by decide) (by decide)]; exact hN
              refine r_lload (pc' := 166) X 4 dX8_simulate_164 rfl rfl ?_
              refine r_aload_n (pc' := 167) X 0 dX8_simulate_166 rfl rfl rfl ?_
              refine gf_28_plant (pc' := 170) X gw_296 dX8_simulate_167 rfl ?_
              refine r_aload_n (pc' := 171) X 0 dX8_simulate_170 rfl rfl rfl ?_
              refine gf_28_copy (pc' := 174) X gw_298 dX8_simulate_171 rfl ?_
              refine w_calli (pc' := 177) (st := [vJ sm]) (w_runV X (c_X3_widthOf l G M6 19 1 N (by decide) (by decide) hNn hN4) cf_X3_widthOf (kP_0 (by decide)) rfl gw_373 gw_374 rfl rfl ⟨Nat.le_of_ble_eq_true rfl, Nat.le_of_ble_eq_true rfl⟩ rfl rfl (Nat.le_of_ble_eq_true rfl) ⟨Nat.le_of_ble_eq_true rfl, Nat.le_of_ble_eq_true rfl⟩ gw_372 dX8_simulate_174) rfl (fun z174 M7 h174 => ?_)
              have hz174 := h174.1
              obtain rfl := h174.2.symm
              have hwb := wid_bd hccn.2.2.1
              refine r_i2l (pc' := 178) X dX8_simulate_177 (by omega) rfl ?_
              refine r_ladd (pc' := 179) X dX8_simulate_178 rfl ?_
              refine r_lstore (pc' := 181) (lc' := [(0, vR G (28, 0)), (1, vJ s0), (3, vI n), (4, vJ ((x * 6364136223846793005) + 1442695040888963407)), (6, vJ (sm + z174)), (8, vI (t : Int)), (9, vI (rn : Int)), (10, vI (((((rn / 32 : Nat) : Int).tmod ((2 * (Ma 1 0 8)) + 1))) - (Ma 1 0 8)))]) X [1, 2, 3, 4, 0, 5, 6, 7] dX8_simulate_179 (by decide) rfl rfl ?_
              have hv2 : ∃ v, VEq N P (M6 1) v ∧ sm + z174 + simF N P (M 19) (n.toNat - (t + 1)) (x * 6364136223846793005 + 1442695040888963407) v = simF N P (M 19) n.toNat s0 (M 0) := by
                refine ⟨_, hvn, ?_⟩
                rw [← hv3, show n.toNat - t = (n.toNat - (t + 1)) + 1 by omega]
                show _ = sm + (wid N (simV N P (M 19) v (shrJ (x * 6364136223846793005 + 1442695040888963407) 33).toNat 2) (simV N P (M 19) v (shrJ (x * 6364136223846793005 + 1442695040888963407) 33).toNat 3) + simF N P (M 19) (n.toNat - (t + 1)) (x * 6364136223846793005 + 1442695040888963407) (simV N P (M 19) v (shrJ (x * 6364136223846793005 + 1442695040888963407) 33).toNat))
                rw [← hrn, hz174, wid_congr (fun i hi => (hvn.1 i hi).2.1) (fun i hi => (hvn.1 i hi).2.2.1)]
                omega
              refine r_iinc (pc' := 184) (z' := ((t + 1 : Nat) : Int)) (lc' := [(0, vR G (28, 0)), (1, vJ s0), (3, vI n), (4, vJ ((x * 6364136223846793005) + 1442695040888963407)), (6, vJ (sm + z174)), (8, vI ((t + 1 : Nat) : Int)), (9, vI (rn : Int)), (10, vI (((((rn / 32 : Nat) : Int).tmod ((2 * (Ma 1 0 8)) + 1))) - (Ma 1 0 8)))]) X 5 [1, 2, 3, 4, 5, 0, 6, 7] dX8_simulate_181 rfl (by omega) (by decide) rfl rfl ?_
              refine r_goto (tgt := 42) X dX8_simulate_184 rfl ?_
              refine w_sub (lc' := [(0, vR G (28, 0)), (1, vJ s0), (3, vI n), (4, vJ ((x * 6364136223846793005) + 1442695040888963407)), (6, vJ (sm + z174)), (8, vI ((t + 1 : Nat) : Int))]) [0, 1, 2, 3, 4, 5] rfl ?_
              exact ih42 (t + 1) ((x * 6364136223846793005) + 1442695040888963407) (sm + z174) M6 (by omega) (by omega) hv2 hccn hfrn
      exact L42 ((n.toNat - 0) + 1) 0 s0 0 M1 (Nat.lt_succ_self _) (by omega) ⟨M 0, by rw [ecp]; exact VEq.self, by rw [Int.zero_add]; rfl⟩ (by rw [Int.natCast_zero, Int.add_zero]; exact ⟨by rw [ecf 19 (by decide)]; exact hp, by rw [ecp]; exact hm, by rw [ecp]; exact hbx, by rw [ecp, ecf 19 (by decide)]; exact htr⟩) (fun a h1 _ => ecf a h1)
    · refine r_thAW X hfl hex gw_458 ts_965 dX8_simulate_11 dX8_simulate_14 dX8_simulate_15 dX8_simulate_18 dX8_simulate_21 (by decide) (by decide) (by decide) (by decide) ?_
      try dsimp only
      exact ⟨⟨rfl, by omega⟩, ScrEq.rfl⟩
