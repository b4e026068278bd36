theorem cf_X8_ahead : wCal yX8_ahead cX8_ahead 6 (some .int) 4 := ⟨gw_866, gw_1, by decide, by decide, by rfl⟩
set_option maxRecDepth 100000 in
set_option maxHeartbeats 4000000 in
theorem c_X8_ahead (l : Launch) (G : wG) (M : wM) (hfl : l.stackTraces = false) (N P : Nat) (T : Int) (hck : COk M N P T) (hT6 : T ≤ 900000) (n u i b : Int) (hn : rI n) (hu : rI u) (hi : rI i) (hb : b = 0 ∨ b = 1) : vx_Met l yX8_ahead (gws yX8_ahead cX8_ahead 6 (some .int)) (wrm 6 1 6) (wPc G M [vR G (28, 0), vI n, vI u, vI i, vI b]) (wQi G (fun z M1 => ((0 ≤ i ∧ i < N) ∧ (0 ≤ n ∧ n ≤ 60) ∧ -99 ≤ u ∧ u ≤ 99) ∧ z = (if b = 1 then (itv N (M 19) u (M 0 0 8) (M 0 2) (M 0 3) n.toNat).2 i.toNat else (itv N (M 19) u (M 0 0 8) (M 0 2) (M 0 3) n.toNat).1 i.toNat) ∧ ScrEq M M1)) (wQx G (fun E M1 => ((E = "java/lang/IndexOutOfBoundsException" ∧ ¬ (0 ≤ i ∧ i < N)) ∨ (E = "java/lang/IllegalArgumentException" ∧ (0 ≤ i ∧ i < N) ∧ ¬ ((0 ≤ n ∧ n ≤ 60) ∧ -99 ≤ u ∧ u ≤ 99))) ∧ ScrEq M M1)) 1 6 (wA G) := by
  refine wMetX (lc := [(0, vR G (28, 0)), (1, vI n), (2, vI u), (3, vI i), (4, vI b)]) (by decide) (Nat.le_of_ble_eq_true rfl) rfl ?_
  intro p e s m args below meth c X hr hex
  have X : wX p s m args meth c G 6 "StateObserver" cX8_ahead := X
  obtain ⟨hp, hm, hbx⟩ := id hck
  obtain ⟨hN, hN1, hN4, hP, hP1, hP3, hA, hB, hE, hC, hQ⟩ := id hp
  obtain ⟨hT, hL, hU, hS, hG, hY, hAg, hHo, hBo, hTi, hLi, hLb, hLl, hLh⟩ := id hm
  refine r_aload_n (pc' := 1) X 0 dX8_ahead_0 rfl rfl rfl ?_
  refine r_iload_n (pc' := 2) X 3 dX8_ahead_1 rfl rfl rfl ?_
  refine w_calli (pc' := 5) (st := []) (w_runV X (c_X8_isState l G M N P T hck (by first | assumption | omega) i (by first | assumption | omega)) cf_X8_isState k28_0 rfl gw_628 gp_10 rfl rfl ⟨Nat.le_of_ble_eq_true rfl, Nat.le_of_ble_eq_true rfl⟩ rfl rfl (Nat.le_of_ble_eq_true rfl) ⟨Nat.le_of_ble_eq_true rfl, Nat.le_of_ble_eq_true rfl⟩ gw_626 dX8_ahead_2) rfl (fun z2 M1 h2 => ?_)
  have hz2 := h2.1
  obtain rfl := h2.2.symm
  have hi2 : z2 = 0 ∨ z2 = 1 := by rw [hz2]; split <;> omega
  have hq2 : z2 = 1 ↔ (0 ≤ i ∧ i < N) := by rw [hz2]; split <;> omega
  refine r_if_ne (pc' := 8) (tgt := 18) X dX8_ahead_5 rfl rfl (by omega) (fun h5 => ?_) (fun h5 => ?_)
  · refine r_iload_n (pc' := 19) X 1 dX8_ahead_18 rfl rfl rfl ?_
    refine r_if_lt (pc' := 22) (tgt := 35) X dX8_ahead_19 rfl rfl (by omega) (fun h19 => ?_) (fun h19 => ?_)
    · refine r_thAW X hfl hex gw_458 ts_867 dX8_ahead_35 dX8_ahead_38 dX8_ahead_39 dX8_ahead_42 dX8_ahead_45 (by decide) (by decide) (by decide) (by decide) ?_
      try dsimp only
      exact ⟨(Or.inr (⟨rfl, by omega⟩)), ScrEq.rfl⟩
    · refine r_iload_n (pc' := 23) X 1 dX8_ahead_22 rfl rfl rfl ?_
      refine r_bipush (pc' := 25) X dX8_ahead_23 rfl rfl ?_
      refine r_icmp_gt (pc' := 28) (tgt := 35) X dX8_ahead_25 rfl rfl (by omega) (by omega) (fun h25 => ?_) (fun h25 => ?_)
      · refine r_thAW X hfl hex gw_458 ts_867 dX8_ahead_35 dX8_ahead_38 dX8_ahead_39 dX8_ahead_42 dX8_ahead_45 (by decide) (by decide) (by decide) (by decide) ?_
        try dsimp only
        exact ⟨(Or.inr (⟨rfl, by omega⟩)), ScrEq.rfl⟩
      · refine r_iload_n (pc' := 29) X 2 dX8_ahead_28 rfl rfl rfl ?_
        refine w_calli (pc' := 32) (st := []) (w_runS X (c_X8_isFactor l G M u (by first | assumption | omega)) cf_X8_isFactor gw_732 rfl rfl ⟨Nat.le_of_ble_eq_true rfl, Nat.le_of_ble_eq_true rfl⟩ rfl rfl (Nat.le_of_ble_eq_true rfl) ⟨Nat.le_of_ble_eq_true rfl, Nat.le_of_ble_eq_true rfl⟩ gw_731 dX8_ahead_29) rfl (fun z29 M2 h29 => ?_)
        have hz29 := h29.1
        obtain rfl := h29.2.symm
        have hi29 : z29 = 0 ∨ z29 = 1 := by rw [hz29]; split <;> omega
        have hq29 : z29 = 1 ↔ (-99 ≤ u ∧ u ≤ 99) := by rw [hz29]; split <;> omega
        refine r_if_ne (pc' := 35) (tgt := 46) X dX8_ahead_32 rfl rfl (by omega) (fun h32 => ?_) (fun h32 => ?_)
        · refine r_aload_n (pc' := 47) X 0 dX8_ahead_46 rfl rfl rfl ?_
          refine gf_28_copy (pc' := 50) X gw_298 dX8_ahead_47 rfl ?_
          refine r_aload_n (pc' := 51) X 0 dX8_ahead_50 rfl rfl rfl ?_
          refine gf_28_now (pc' := 54) X gw_297 dX8_ahead_51 rfl ?_
          refine w_callv (pc' := 57) (st := []) (w_runV X (c_X1_copyFrom l G M 1 0 (by decide) (by decide) (by decide)) cf_X1_copyFrom (kM_0 (by decide)) rfl gw_517 gw_518 rfl rfl ⟨Nat.le_of_ble_eq_true rfl, Nat.le_of_ble_eq_true rfl⟩ rfl rfl (Nat.le_of_ble_eq_true rfl) ⟨Nat.le_of_ble_eq_true rfl, Nat.le_of_ble_eq_true rfl⟩ gw_556 dX8_ahead_54) rfl (fun M3 h54 => ?_)
          have ecp : M3 1 = M 0 := by rw [h54]; unfold wo; rw [if_pos rfl]
          have ecf : ∀ a, a ≠ 1 → M3 a = M a := fun a ha => by rw [h54]; unfold wo; rw [if_neg ha]
          refine r_iconst (pc' := 58) X dX8_ahead_57 rfl ?_
          refine r_istore (pc' := 60) (lc' := [(0, vR G (28, 0)), (1, vI n), (2, vI u), (3, vI i), (4, vI b), (5, vI 0)]) X [1, 2, 3, 4, 5, 0] dX8_ahead_58 (by decide) rfl rfl ?_
          have L60 : ∀ (fu : Nat) (t : Nat) (Ma : wM), n.toNat - t < fu → (t ≤ n.toNat) → (MoOk (Ma 1) N P (T + t)) → (BoxOk N (Ma 1 2) (Ma 1 3)) → (∀ i, i < N → Ma 1 2 i = (itv N (M 19) u (M 0 0 8) (M 0 2) (M 0 3) t).1 i ∧ Ma 1 3 i = (itv N (M 19) u (M 0 0 8) (M 0 2) (M 0 3) t).2 i) → (Ma 1 0 8 = M 0 0 8) → (∀ a, a ≠ 1 → a ≠ 21 → Ma a = M a) → wV p l e (wrm 6 1 6) s m args below meth c G 6 Ma 0 0 (vx_MQ below (wQi G (fun z M1 => ((0 ≤ i ∧ i < N) ∧ (0 ≤ n ∧ n ≤ 60) ∧ -99 ≤ u ∧ u ≤ 99) ∧ z = (if b = 1 then (itv N (M 19) u (M 0 0 8) (M 0 2) (M 0 3) n.toNat).2 i.toNat else (itv N (M 19) u (M 0 0 8) (M 0 2) (M 0 3) n.toNat).1 i.toNat) ∧ ScrEq M M1)) (wQx G (fun E M1 => ((E = "java/lang/IndexOutOfBoundsException" ∧ ¬ (0 ≤ i ∧ i < N)) ∨ (E = "java/lang/IllegalArgumentException" ∧ (0 ≤ i ∧ i < N) ∧ ¬ ((0 ≤ n ∧ n ≤ 60) ∧ -99 ≤ u ∧ u ≤ 99))) ∧ ScrEq M M1)) args s 1 6 (wA G)) 60 [(0, vR G (28, 0)), (1, vI n), (2, vI u), (3, vI i), (4, vI b), (5, vI (t : Int))] [] := by
            intro fu
            induction fu with
            | zero => intro t Ma hfu; exact absurd hfu (Nat.not_lt_zero _)
            | succ fu ih60 =>
              intro t Ma hfu60 htn hmt hbt hit hb8 hfr
              refine r_iload (pc' := 62) X 5 dX8_ahead_60 rfl rfl ?_
              refine r_iload_n (pc' := 63) X 1 dX8_ahead_62 rfl rfl rfl ?_
              refine r_icmp_ge (pc' := 66) (tgt := 89) X dX8_ahead_63 rfl rfl (by omega) (by omega) (fun h63 => ?_) (fun h63 => ?_)
              · have etn : t = n.toNat := by omega
                have hiv := hit i.toNat (by omega)
                rw [etn] at hiv
                refine r_iload (pc' := 91) X 4 dX8_ahead_89 rfl rfl ?_
                refine r_if_eq (pc' := 94) (tgt := 106) X dX8_ahead_91 rfl rfl (by omega) (fun h91 => ?_) (fun h91 => ?_)
                · refine r_aload_n (pc' := 107) X 0 dX8_ahead_106 rfl rfl rfl ?_
                  refine gf_28_copy (pc' := 110) X gw_298 dX8_ahead_107 rfl ?_
                  refine gf_M_lower (pc' := 113) X (by decide) gw_96 dX8_ahead_110 rfl ?_
                  refine r_iload_n (pc' := 114) X 3 dX8_ahead_113 rfl rfl rfl ?_
                  refine r_iald (i := i.toNat) (pc' := 115) X (kM_2 (by decide)) (by omega) (by omega) (by decide) dX8_ahead_114 rfl ?_
                  refine w_x (by decide) (by decide) ?_
                  refine w_iret X hr dX8_ahead_115 ?_
                  try dsimp only
                  refine ⟨by omega, ?_, fun a h1 h21 _ _ _ _ => hfr a h1 h21⟩
                  first | (rw [if_pos (by omega)]; exact hiv.2) | (rw [if_neg (by omega)]; exact hiv.1)
                · refine r_aload_n (pc' := 95) X 0 dX8_ahead_94 rfl rfl rfl ?_
                  refine gf_28_copy (pc' := 98) X gw_298 dX8_ahead_95 rfl ?_
                  refine gf_M_upper (pc' := 101) X (by decide) gw_100 dX8_ahead_98 rfl ?_
                  refine r_iload_n (pc' := 102) X 3 dX8_ahead_101 rfl rfl rfl ?_
                  refine r_iald (i := i.toNat) (pc' := 103) X (kM_3 (by decide)) (by omega) (by omega) (by decide) dX8_ahead_102 rfl ?_
                  refine r_goto (tgt := 115) X dX8_ahead_103 rfl ?_
                  refine w_x (by decide) (by decide) ?_
                  refine w_iret X hr dX8_ahead_115 ?_
                  try dsimp only
                  refine ⟨by omega, ?_, fun a h1 h21 _ _ _ _ => hfr a h1 h21⟩
                  first | (rw [if_pos (by omega)]; exact hiv.2) | (rw [if_neg (by omega)]; exact hiv.1)
              · have e19 := hfr 19 (by decide) (by decide)
                refine r_aload_n (pc' := 67) X 0 dX8_ahead_66 rfl rfl rfl ?_
                refine gf_28_motion (pc' := 70) X gw_302 dX8_ahead_67 rfl ?_
                refine r_aload_n (pc' := 71) X 0 dX8_ahead_70 rfl rfl rfl ?_
                refine gf_28_plant (pc' := 74) X gw_296 dX8_ahead_71 rfl ?_
                refine r_aload_n (pc' := 75) X 0 dX8_ahead_74 rfl rfl rfl ?_
                refine gf_28_copy (pc' := 78) X gw_298 dX8_ahead_75 rfl ?_
                refine r_iload_n (pc' := 79) X 2 dX8_ahead_78 rfl rfl rfl ?_
                refine r_iconst (pc' := 80) X dX8_ahead_79 rfl ?_
                refine w_callv (pc' := 83) (st := []) (w_runV X (c_X2_advance l G Ma 19 1 N P u 0 (T + t) (by decide) (by decide) (by omega) (by rw [e19]; exact hp) hmt (by omega) (by omega)) cf_X2_advance k21_0 rfl gw_736 gw_737 rfl rfl ⟨Nat.le_of_ble_eq_true rfl, Nat.le_of_ble_eq_true rfl⟩ rfl rfl (Nat.le_of_ble_eq_true rfl) ⟨Nat.le_of_ble_eq_true rfl, Nat.le_of_ble_eq_true rfl⟩ gw_735 dX8_ahead_80) rfl (fun M4 h80 => ?_)
                have hsv := h80.1
                rw [e19] at hsv
                have hst := StepV.ok hp hmt hbt hsv (by omega)
                have hb82 : M4 1 0 8 = M 0 0 8 := by rw [hsv.2.2.2.2.2.2.2.1]; exact hb8
                have hit2 : ∀ i, i < N → M4 1 2 i = (itv N (M 19) u (M 0 0 8) (M 0 2) (M 0 3) (t + 1)).1 i ∧ M4 1 3 i = (itv N (M 19) u (M 0 0 8) (M 0 2) (M 0 3) (t + 1)).2 i := fun i hi => by
                  have a := hsv.2.1 i hi
                  rw [a.2.2.1, a.2.2.2, hb8]
                  exact low_congr (fun j hj => (hit j hj).1) (fun j hj => (hit j hj).2) i
                have hfr2 : ∀ a, a ≠ 1 → a ≠ 21 → M4 a = M a := fun a h1 h2 => by rw [h80.2 a h1 h2]; exact hfr a h1 h2
                refine r_iinc (pc' := 86) (z' := ((t + 1 : Nat) : Int)) (lc' := [(0, vR G (28, 0)), (1, vI n), (2, vI u), (3, vI i), (4, vI b), (5, vI ((t + 1 : Nat) : Int))]) X 5 [1, 2, 3, 4, 5, 0] dX8_ahead_83 rfl (by omega) (by decide) rfl rfl ?_
                refine r_goto (tgt := 60) X dX8_ahead_86 rfl ?_
                exact ih60 (t + 1) M4 (by omega) (by omega) (by rw [show T + ((t + 1 : Nat) : Int) = T + (t : Int) + 1 by omega]; exact hst.1) hst.2 hit2 hb82 hfr2
          exact L60 ((n.toNat - 0) + 1) 0 M3 (Nat.lt_succ_self _) (by omega) (by rw [ecp, Int.natCast_zero, Int.add_zero]; exact hm) (by rw [ecp]; exact hbx) (fun i hi => by rw [ecp]; exact ⟨rfl, rfl⟩) (by rw [ecp]) (fun a h1 _ => ecf a h1)
        · refine r_thAW X hfl hex gw_458 ts_867 dX8_ahead_35 dX8_ahead_38 dX8_ahead_39 dX8_ahead_42 dX8_ahead_45 (by decide) (by decide) (by decide) (by decide) ?_
          try dsimp only
          exact ⟨(Or.inr (⟨rfl, by omega⟩)), ScrEq.rfl⟩
  · refine r_thX X hfl hex gw_390 ts_695 dX8_ahead_8 dX8_ahead_11 dX8_ahead_12 dX8_ahead_14 dX8_ahead_17 (by decide) (by decide) (by decide) (by decide) ?_
    try dsimp only
    exact ⟨(Or.inl ⟨rfl, by omega⟩), ScrEq.rfl⟩
theorem cf_X8_earliest : wCal yX8_earliest cX8_earliest 7 (some .int) 4 := ⟨gw_874, gw_1, by decide, by decide, by rfl⟩
set_option maxRecDepth 100000 in
set_option maxHeartbeats 4000000 in
theorem c_X8_earliest (l : Launch) (G : wG) (M : wM) (hfl : l.stackTraces = false) (N P : Nat) (T : Int) (hck : COk M N P T) (hT6 : T ≤ 900000) (i v u b : Int) (hi : rI i) (hv : rI v) (hu : rI u) (hb : b = 0 ∨ b = 1) : vx_Met l yX8_earliest (gws yX8_earliest cX8_earliest 7 (some .int)) (wrm 6 1 6) (wPc G M [vR G (28, 0), vI i, vI v, vI u, vI b]) (wQi G (fun z M1 => ((0 ≤ i ∧ i < N) ∧ -99 ≤ u ∧ u ≤ 99) ∧ ((∃ t : Nat, t ≤ 60 ∧ z = t ∧ v ≤ (if b = 1 then (itv N (M 19) u (M 0 0 8) (M 0 2) (M 0 3) t).1 i.toNat else (itv N (M 19) u (M 0 0 8) (M 0 2) (M 0 3) t).2 i.toNat) ∧ ∀ s, s < t → (if b = 1 then (itv N (M 19) u (M 0 0 8) (M 0 2) (M 0 3) s).1 i.toNat else (itv N (M 19) u (M 0 0 8) (M 0 2) (M 0 3) s).2 i.toNat) < v) ∨ (z = -9 ∧ ∀ s, s ≤ 60 → (if b = 1 then (itv N (M 19) u (M 0 0 8) (M 0 2) (M 0 3) s).1 i.toNat else (itv N (M 19) u (M 0 0 8) (M 0 2) (M 0 3) s).2 i.toNat) < v)) ∧ ScrEq M M1)) (wQx G (fun E M1 => ((E = "java/lang/IndexOutOfBoundsException" ∧ ¬ (0 ≤ i ∧ i < N)) ∨ (E = "java/lang/IllegalArgumentException" ∧ (0 ≤ i ∧ i < N) ∧ ¬ (-99 ≤ u ∧ u ≤ 99))) ∧ ScrEq M M1)) 1 6 (wA G) := by
  refine wMetX (lc := [(0, vR G (28, 0)), (1, vI i), (2, vI v), (3, vI u), (4, vI b)]) (by decide) (Nat.le_of_ble_eq_true rfl) rfl ?_
  intro p e s m args below meth c X hr hex
  have X : wX p s m args meth c G 7 "StateObserver" cX8_earliest := X
  obtain ⟨hp, hm, hbx⟩ := id hck
  obtain ⟨hN, hN1, hN4, hP, hP1, hP3, hA, hB, hE, hC, hQ⟩ := id hp
  obtain ⟨hT, hL, hU, hS, hG, hY, hAg, hHo, hBo, hTi, hLi, hLb, hLl, hLh⟩ := id hm
  refine r_aload_n (pc' := 1) X 0 dX8_earliest_0 rfl rfl rfl ?_
  refine r_iload_n (pc' := 2) X 1 dX8_earliest_1 rfl rfl rfl ?_
  refine w_calli (pc' := 5) (st := []) (w_runV X (c_X8_isState l G M N P T hck (by first | assumption | omega) i (by first | assumption | omega)) cf_X8_isState k28_0 rfl gw_628 gp_10 rfl rfl ⟨Nat.le_of_ble_eq_true rfl, Nat.le_of_ble_eq_true rfl⟩ rfl rfl (Nat.le_of_ble_eq_true rfl) ⟨Nat.le_of_ble_eq_true rfl, Nat.le_of_ble_eq_true rfl⟩ gw_626 dX8_earliest_2) rfl (fun z2 M1 h2 => ?_)
  have hz2 := h2.1
  obtain rfl := h2.2.symm
  have hi2 : z2 = 0 ∨ z2 = 1 := by rw [hz2]; split <;> omega
  have hq2 : z2 = 1 ↔ (0 ≤ i ∧ i < N) := by rw [hz2]; split <;> omega
  refine r_if_ne (pc' := 8) (tgt := 18) X dX8_earliest_5 rfl rfl (by omega) (fun h5 => ?_) (fun h5 => ?_)
  · refine r_iload_n (pc' := 19) X 3 dX8_earliest_18 rfl rfl rfl ?_
    refine w_calli (pc' := 22) (st := []) (w_runS X (c_X8_isFactor l G M u (by first | assumption | omega)) cf_X8_isFactor gw_732 rfl rfl ⟨Nat.le_of_ble_eq_true rfl, Nat.le_of_ble_eq_true rfl⟩ rfl rfl (Nat.le_of_ble_eq_true rfl) ⟨Nat.le_of_ble_eq_true rfl, Nat.le_of_ble_eq_true rfl⟩ gw_731 dX8_earliest_19) rfl (fun z19 M2 h19 => ?_)
    have hz19 := h19.1
    obtain rfl := h19.2.symm
    have hi19 : z19 = 0 ∨ z19 = 1 := by rw [hz19]; split <;> omega
    have hq19 : z19 = 1 ↔ (-99 ≤ u ∧ u ≤ 99) := by rw [hz19]; split <;> omega
    refine r_if_ne (pc' := 25) (tgt := 36) X dX8_earliest_22 rfl rfl (by omega) (fun h22 => ?_) (fun h22 => ?_)
    · refine r_aload_n (pc' := 37) X 0 dX8_earliest_36 rfl rfl rfl ?_
      refine gf_28_copy (pc' := 40) X gw_298 dX8_earliest_37 rfl ?_
      refine r_aload_n (pc' := 41) X 0 dX8_earliest_40 rfl rfl rfl ?_
      refine gf_28_now (pc' := 44) X gw_297 dX8_earliest_41 rfl ?_
      refine w_callv (pc' := 47) (st := []) (w_runV X (c_X1_copyFrom l G M 1 0 (by decide) (by decide) (by decide)) cf_X1_copyFrom (kM_0 (by decide)) rfl gw_517 gw_518 rfl rfl ⟨Nat.le_of_ble_eq_true rfl, Nat.le_of_ble_eq_true rfl⟩ rfl rfl (Nat.le_of_ble_eq_true rfl) ⟨Nat.le_of_ble_eq_true rfl, Nat.le_of_ble_eq_true rfl⟩ gw_556 dX8_earliest_44) rfl (fun M3 h44 => ?_)
      have ecp : M3 1 = M 0 := by rw [h44]; unfold wo; rw [if_pos rfl]
      have ecf : ∀ a, a ≠ 1 → M3 a = M a := fun a ha => by rw [h44]; unfold wo; rw [if_neg ha]
      refine r_iconst (pc' := 48) X dX8_earliest_47 rfl ?_
      refine r_istore (pc' := 50) (lc' := [(0, vR G (28, 0)), (1, vI i), (2, vI v), (3, vI u), (4, vI b), (5, vI 0)]) X [1, 2, 3, 4, 5, 0] dX8_earliest_48 (by decide) rfl rfl ?_
      have L50 : ∀ (fu : Nat) (t : Nat) (Ma : wM), 61 - t < fu → (t ≤ 61) → (∀ s, s < t → (if b = 1 then (itv N (M 19) u (M 0 0 8) (M 0 2) (M 0 3) s).1 i.toNat else (itv N (M 19) u (M 0 0 8) (M 0 2) (M 0 3) s).2 i.toNat) < v) → (MoOk (Ma 1) N P (T + t)) → (BoxOk N (Ma 1 2) (Ma 1 3)) → (∀ i, i < N → Ma 1 2 i = (itv N (M 19) u (M 0 0 8) (M 0 2) (M 0 3) t).1 i ∧ Ma 1 3 i = (itv N (M 19) u (M 0 0 8) (M 0 2) (M 0 3) t).2 i) → (Ma 1 0 8 = M 0 0 8) → (∀ a, a ≠ 1 → a ≠ 21 → Ma a = M a) → wV p l e (wrm 6 1 6) s m args below meth c G 7 Ma 0 0 (vx_MQ below (wQi G (fun z M1 => ((0 ≤ i ∧ i < N) ∧ -99 ≤ u ∧ u ≤ 99) ∧ ((∃ t : Nat, t ≤ 60 ∧ z = t ∧ v ≤ (if b = 1 then (itv N (M 19) u (M 0 0 8) (M 0 2) (M 0 3) t).1 i.toNat else (itv N (M 19) u (M 0 0 8) (M 0 2) (M 0 3) t).2 i.toNat) ∧ ∀ s, s < t → (if b = 1 then (itv N (M 19) u (M 0 0 8) (M 0 2) (M 0 3) s).1 i.toNat else (itv N (M 19) u (M 0 0 8) (M 0 2) (M 0 3) s).2 i.toNat) < v) ∨ (z = -9 ∧ ∀ s, s ≤ 60 → (if b = 1 then (itv N (M 19) u (M 0 0 8) (M 0 2) (M 0 3) s).1 i.toNat else (itv N (M 19) u (M 0 0 8) (M 0 2) (M 0 3) s).2 i.toNat) < v)) ∧ ScrEq M M1)) (wQx G (fun E M1 => ((E = "java/lang/IndexOutOfBoundsException" ∧ ¬ (0 ≤ i ∧ i < N)) ∨ (E = "java/lang/IllegalArgumentException" ∧ (0 ≤ i ∧ i < N) ∧ ¬ (-99 ≤ u ∧ u ≤ 99))) ∧ ScrEq M M1)) args s 1 6 (wA G)) 50 [(0, vR G (28, 0)), (1, vI i), (2, vI v), (3, vI u), (4, vI b), (5, vI (t : Int))] [] := by
        intro fu
        induction fu with
        | zero => intro t Ma hfu; exact absurd hfu (Nat.not_lt_zero _)
        | succ fu ih50 =>
          intro t Ma hfu50 htn hno hmt hbt hit hb8 hfr
          refine r_iload (pc' := 52) X 5 dX8_earliest_50 rfl rfl ?_
          refine r_bipush (pc' := 54) X dX8_earliest_52 rfl rfl ?_
          refine r_icmp_gt (pc' := 57) (tgt := 117) X dX8_earliest_54 rfl rfl (by omega) (by omega) (fun h54 => ?_) (fun h54 => ?_)
          · refine r_bipush (pc' := 119) X dX8_earliest_117 rfl rfl ?_
            refine w_x (by decide) (by decide) ?_
            refine w_iret X hr dX8_earliest_119 ?_
            try dsimp only
            exact ⟨by omega, Or.inr ⟨rfl, fun s hs => hno s (by omega)⟩, fun a h1 h21 _ _ _ _ => hfr a h1 h21⟩
          · have e19 := hfr 19 (by decide) (by decide)
            have hiv := hit i.toNat (by omega)
            obtain ⟨ev, hev⟩ : ∃ x, x = (if b = 1 then (itv N (M 19) u (M 0 0 8) (M 0 2) (M 0 3) t).1 i.toNat else (itv N (M 19) u (M 0 0 8) (M 0 2) (M 0 3) t).2 i.toNat) := ⟨_, rfl⟩
            have hb3 := hbt i.toNat (by omega)
            refine r_iload (pc' := 59) X 4 dX8_earliest_57 rfl rfl ?_
            refine r_if_eq (pc' := 62) (tgt := 74) X dX8_earliest_59 rfl rfl (by omega) (fun h59 => ?_) (fun h59 => ?_)
            · refine r_aload_n (pc' := 75) X 0 dX8_earliest_74 rfl rfl rfl ?_
              refine gf_28_copy (pc' := 78) X gw_298 dX8_earliest_75 rfl ?_
              refine gf_M_upper (pc' := 81) X (by decide) gw_100 dX8_earliest_78 rfl ?_
              refine r_iload_n (pc' := 82) X 1 dX8_earliest_81 rfl rfl rfl ?_
              refine r_iald (i := i.toNat) (pc' := 83) X (kM_3 (by decide)) (by omega) (by omega) (by decide) dX8_earliest_82 rfl ?_
              have hst : (Ma 1 3 i.toNat) = ev := by rw [hev]; first | (rw [if_pos (by omega)]; exact hiv.1) | (rw [if_neg (by omega)]; exact hiv.2)
              refine r_istore (pc' := 85) (lc' := [(0, vR G (28, 0)), (1, vI i), (2, vI v), (3, vI u), (4, vI b), (5, vI (t : Int)), (6, vI (Ma 1 3 i.toNat))]) X [1, 2, 3, 4, 5, 6, 0] dX8_earliest_83 (by decide) rfl rfl ?_
              refine r_iload (pc' := 87) X 6 dX8_earliest_85 rfl rfl ?_
              refine r_iload_n (pc' := 88) X 2 dX8_earliest_87 rfl rfl rfl ?_
              refine r_icmp_lt (pc' := 91) (tgt := 94) X dX8_earliest_88 rfl rfl (by omega) (by omega) (fun h88 => ?_) (fun h88 => ?_)
              · have hlt : (if b = 1 then (itv N (M 19) u (M 0 0 8) (M 0 2) (M 0 3) t).1 i.toNat else (itv N (M 19) u (M 0 0 8) (M 0 2) (M 0 3) t).2 i.toNat) < v := by rw [← hev]; omega
                refine r_aload_n (pc' := 95) X 0 dX8_earliest_94 rfl rfl rfl ?_
                refine gf_28_motion (pc' := 98) X gw_302 dX8_earliest_95 rfl ?_
                refine r_aload_n (pc' := 99) X 0 dX8_earliest_98 rfl rfl rfl ?_
                refine gf_28_plant (pc' := 102) X gw_296 dX8_earliest_99 rfl ?_
                refine r_aload_n (pc' := 103) X 0 dX8_earliest_102 rfl rfl rfl ?_
                refine gf_28_copy (pc' := 106) X gw_298 dX8_earliest_103 rfl ?_
                refine r_iload_n (pc' := 107) X 3 dX8_earliest_106 rfl rfl rfl ?_
                refine r_iconst (pc' := 108) X dX8_earliest_107 rfl ?_
                refine w_callv (pc' := 111) (st := []) (w_runV X (c_X2_advance l G Ma 19 1 N P u 0 (T + t) (by decide) (by decide) (by omega) (by rw [e19]; exact hp) hmt (by omega) (by omega)) cf_X2_advance k21_0 rfl gw_736 gw_737 rfl rfl ⟨Nat.le_of_ble_eq_true rfl, Nat.le_of_ble_eq_true rfl⟩ rfl rfl (Nat.le_of_ble_eq_true rfl) ⟨Nat.le_of_ble_eq_true rfl, Nat.le_of_ble_eq_true rfl⟩ gw_735 dX8_earliest_108) rfl (fun M4 h108 => ?_)
                have hsv := h108.1
                rw [e19] at hsv
                have hst := StepV.ok hp hmt hbt hsv (by omega)
                have hb82 : M4 1 0 8 = M 0 0 8 := by rw [hsv.2.2.2.2.2.2.2.1]; exact hb8
                have hit2 : ∀ i, i < N → M4 1 2 i = (itv N (M 19) u (M 0 0 8) (M 0 2) (M 0 3) (t + 1)).1 i ∧ M4 1 3 i = (itv N (M 19) u (M 0 0 8) (M 0 2) (M 0 3) (t + 1)).2 i := fun i hi => by
                  have a := hsv.2.1 i hi
                  rw [a.2.2.1, a.2.2.2, hb8]
                  exact low_congr (fun j hj => (hit j hj).1) (fun j hj => (hit j hj).2) i
                have hfr2 : ∀ a, a ≠ 1 → a ≠ 21 → M4 a = M a := fun a h1 h2 => by rw [h108.2 a h1 h2]; exact hfr a h1 h2
                refine r_iinc (pc' := 114) (z' := ((t + 1 : Nat) : Int)) (lc' := [(0, vR G (28, 0)), (1, vI i), (2, vI v), (3, vI u), (4, vI b), (5, vI ((t + 1 : Nat) : Int)), (6, vI (Ma 1 3 i.toNat))]) X 5 [1, 2, 3, 4, 5, 0, 6] dX8_earliest_111 rfl (by omega) (by decide) rfl rfl ?_
                refine r_goto (tgt := 50) X dX8_earliest_114 rfl ?_
                refine w_sub (lc' := [(0, vR G (28, 0)), (1, vI i), (2, vI v), (3, vI u), (4, vI b), (5, vI ((t + 1 : Nat) : Int))]) [0, 1, 2, 3, 4, 5] rfl ?_
                exact ih50 (t + 1) M4 (by omega) (by omega) (fun s hs => by rcases Nat.lt_or_ge s t with q | q; exact hno s q; rw [show s = t by omega]; exact hlt) (by rw [show T + ((t + 1 : Nat) : Int) = T + (t : Int) + 1 by omega]; exact hst.1) hst.2 hit2 hb82 hfr2
              · refine r_iload (pc' := 93) X 5 dX8_earliest_91 rfl rfl ?_
                refine w_x (by decide) (by decide) ?_
                refine w_iret X hr dX8_earliest_93 ?_
                try dsimp only
                exact ⟨by omega, Or.inl ⟨t, by omega, rfl, by rw [← hev]; omega, hno⟩, fun a h1 h21 _ _ _ _ => hfr a h1 h21⟩
            · refine r_aload_n (pc' := 63) X 0 dX8_earliest_62 rfl rfl rfl ?_
              refine gf_28_copy (pc' := 66) X gw_298 dX8_earliest_63 rfl ?_
              refine gf_M_lower (pc' := 69) X (by decide) gw_96 dX8_earliest_66 rfl ?_
              refine r_iload_n (pc' := 70) X 1 dX8_earliest_69 rfl rfl rfl ?_
              refine r_iald (i := i.toNat) (pc' := 71) X (kM_2 (by decide)) (by omega) (by omega) (by decide) dX8_earliest_70 rfl ?_
              refine r_goto (tgt := 83) X dX8_earliest_71 rfl ?_
              have hst : (Ma 1 2 i.toNat) = ev := by rw [hev]; first | (rw [if_pos (by omega)]; exact hiv.1) | (rw [if_neg (by omega)]; exact hiv.2)
              refine r_istore (pc' := 85) (lc' := [(0, vR G (28, 0)), (1, vI i), (2, vI v), (3, vI u), (4, vI b), (5, vI (t : Int)), (6, vI (Ma 1 2 i.toNat))]) X [1, 2, 3, 4, 5, 6, 0] dX8_earliest_83 (by decide) rfl rfl ?_
              refine r_iload (pc' := 87) X 6 dX8_earliest_85 rfl rfl ?_
              refine r_iload_n (pc' := 88) X 2 dX8_earliest_87 rfl rfl rfl ?_
              refine r_icmp_lt (pc' := 91) (tgt := 94) X dX8_earliest_88 rfl rfl (by omega) (by omega) (fun h88 => ?_) (fun h88 => ?_)
              · have hlt : (if b = 1 then (itv N (M 19) u (M 0 0 8) (M 0 2) (M 0 3) t).1 i.toNat else (itv N (M 19) u (M 0 0 8) (M 0 2) (M 0 3) t).2 i.toNat) < v := by rw [← hev]; omega
                refine r_aload_n (pc' := 95) X 0 dX8_earliest_94 rfl rfl rfl ?_
                refine gf_28_motion (pc' := 98) X gw_302 dX8_earliest_95 rfl ?_
                refine r_aload_n (pc' := 99) X 0 dX8_earliest_98 rfl rfl rfl ?_
                refine gf_28_plant (pc' := 102) X gw_296 dX8_earliest_99 rfl ?_
                refine r_aload_n (pc' := 103) X 0 dX8_earliest_102 rfl rfl rfl ?_
                refine gf_28_copy (pc' := 106) X gw_298 dX8_earliest_103 rfl ?_
                refine r_iload_n (pc' := 107) X 3 dX8_earliest_106 rfl rfl rfl ?_
                refine r_iconst (pc' := 108) X dX8_earliest_107 rfl ?_
                refine w_callv (pc' := 111) (st := []) (w_runV X (c_X2_advance l G Ma 19 1 N P u 0 (T + t) (by decide) (by decide) (by omega) (by rw [e19]; exact hp) hmt (by omega) (by omega)) cf_X2_advance k21_0 rfl gw_736 gw_737 rfl rfl ⟨Nat.le_of_ble_eq_true rfl, Nat.le_of_ble_eq_true rfl⟩ rfl rfl (Nat.le_of_ble_eq_true rfl) ⟨Nat.le_of_ble_eq_true rfl, Nat.le_of_ble_eq_true rfl⟩ gw_735 dX8_earliest_108) rfl (fun M5 h108 => ?_)
                have hsv := h108.1
                rw [e19] at hsv
                have hst := StepV.ok hp hmt hbt hsv (by omega)
                have hb82 : M5 1 0 8 = M 0 0 8 := by rw [hsv.2.2.2.2.2.2.2.1]; exact hb8
                have hit2 : ∀ i, i < N → M5 1 2 i = (itv N (M 19) u (M 0 0 8) (M 0 2) (M 0 3) (t + 1)).1 i ∧ M5 1 3 i = (itv N (M 19) u (M 0 0 8) (M 0 2) (M 0 3) (t + 1)).2 i := fun i hi => by
                  have a := hsv.2.1 i hi
                  rw [a.2.2.1, a.2.2.2, hb8]
                  exact low_congr (fun j hj => (hit j hj).1) (fun j hj => (hit j hj).2) i
                have hfr2 : ∀ a, a ≠ 1 → a ≠ 21 → M5 a = M a := fun a h1 h2 => by rw [h108.2 a h1 h2]; exact hfr a h1 h2
                refine r_iinc (pc' := 114) (z' := ((t + 1 : Nat) : Int)) (lc' := [(0, vR G (28, 0)), (1, vI i), (2, vI v), (3, vI u), (4, vI b), (5, vI ((t + 1 : Nat) : Int)), (6, vI (Ma 1 2 i.toNat))]) X 5 [1, 2, 3, 4, 5, 0, 6] dX8_earliest_111 rfl (by omega) (by decide) rfl rfl ?_
                refine r_goto (tgt := 50) X dX8_earliest_114 rfl ?_
                refine w_sub (lc' := [(0, vR G (28, 0)), (1, vI i), (2, vI v), (3, vI u), (4, vI b), (5, vI ((t + 1 : Nat) : Int))]) [0, 1, 2, 3, 4, 5] rfl ?_
                exact ih50 (t + 1) M5 (by omega) (by omega) (fun s hs => by rcases Nat.lt_or_ge s t with q | q; exact hno s q; rw [show s = t by omega]; exact hlt) (by rw [show T + ((t + 1 : Nat) : Int) = T + (t : Int) + 1 by omega]; exact hst.1) hst.2 hit2 hb82 hfr2
              · refine r_iload (pc' := 93) X 5 dX8_earliest_91 rfl rfl ?_
                refine w_x (by decide) (by decide) ?_
                refine w_iret X hr dX8_earliest_93 ?_
                try dsimp only
                exact ⟨by omega, Or.inl ⟨t, by omega, rfl, by rw [← hev]; omega, hno⟩, fun a h1 h21 _ _ _ _ => hfr a h1 h21⟩
      exact L50 ((61 - 0) + 1) 0 M3 (Nat.lt_succ_self _) (by omega) (fun s h => absurd h (Nat.not_lt_zero s)) (by rw [ecp, Int.natCast_zero, Int.add_zero]; exact hm) (by rw [ecp]; exact hbx) (fun i hi => by rw [ecp]; exact ⟨rfl, rfl⟩) (by rw [ecp]) (fun a h1 _ => ecf a h1)
    · refine r_thAW X hfl hex gw_458 ts_875 dX8_earliest_25 dX8_earliest_28 dX8_earliest_29 dX8_earliest_32 dX8_earliest_35 (by decide) (by decide) (by decide) (by decide) ?_
      try dsimp only
      exact ⟨(Or.inr (⟨rfl, by omega⟩)), ScrEq.rfl⟩
  · refine r_thX X hfl hex gw_390 ts_695 dX8_earliest_8 dX8_earliest_11 dX8_earliest_12 dX8_earliest_14 dX8_earliest_17 (by decide) (by decide) (by decide) (by decide) ?_
    try dsimp only
    exact ⟨(Or.inl ⟨rfl, by omega⟩), ScrEq.rfl⟩
theorem cf_X8_widthIf : wCal yX8_widthIf cX8_widthIf 3 (some .int) 2 := ⟨gw_856, gw_1, by decide, by decide, by rfl⟩
set_option maxRecDepth 100000 in
set_option maxHeartbeats 4000000 in
theorem c_X8_widthIf (l : Launch) (G : wG) (M : wM) (hfl : l.stackTraces = false) (N P : Nat) (T : Int) (hck : COk M N P T) (hT6 : T ≤ 1000000) (hT0 : 0 ≤ T) (k y : Int) (hk : rI k) (hy : rI y) : vx_Met l yX8_widthIf (gws yX8_widthIf cX8_widthIf 3 (some .int)) (wrm 6 1 6) (wPc G M [vR G (28, 0), vI k, vI y]) (wQi G (fun z M1 => ((0 ≤ k ∧ k < P) ∧ -1000000 ≤ y ∧ y ≤ 1000000) ∧ z = (if (tight N P (M 19) (up1 (M 0 10) k.toNat y) (up1 (M 0 11) k.toNat 0) 100 (M 0 2) (M 0 3)).1 = 2 then -9 else wid N (tight N P (M 19) (up1 (M 0 10) k.toNat y) (up1 (M 0 11) k.toNat 0) 100 (M 0 2) (M 0 3)).2.1 (tight N P (M 19) (up1 (M 0 10) k.toNat y) (up1 (M 0 11) k.toNat 0) 100 (M 0 2) (M 0 3)).2.2) ∧ ScrEq M M1)) (wQx G (fun E M1 => ((E = "java/lang/IndexOutOfBoundsException" ∧ ¬ (0 ≤ k ∧ k < P)) ∨ (E = "java/lang/IllegalArgumentException" ∧ (0 ≤ k ∧ k < P) ∧ ¬ (-1000000 ≤ y ∧ y ≤ 1000000))) ∧ ScrEq M M1)) 1 6 (wA G) := by
  refine wMetX (lc := [(0, vR G (28, 0)), (1, vI k), (2, vI y)]) (by decide) (Nat.le_of_ble_eq_true rfl) rfl ?_
  intro p e s m args below meth c X hr hex
  have X : wX p s m args meth c G 3 "StateObserver" cX8_widthIf := X
  obtain ⟨hp, hm, hbx⟩ := id hck
  obtain ⟨hN, hN1, hN4, hP, hP1, hP3, hA, hB, hE, hC, hQ⟩ := id hp
  obtain ⟨hT, hL, hU, hS, hG, hY, hAg, hHo, hBo, hTi, hLi, hLb, hLl, hLh⟩ := id hm
  refine r_aload_n (pc' := 1) X 0 dX8_widthIf_0 rfl rfl rfl ?_
  refine r_iload_n (pc' := 2) X 1 dX8_widthIf_1 rfl rfl rfl ?_
  refine w_calli (pc' := 5) (st := []) (w_runV X (c_X8_isOutput l G M N P T hck (by first | assumption | omega) k (by first | assumption | omega)) cf_X8_isOutput k28_0 rfl gw_388 gp_8 rfl rfl ⟨Nat.le_of_ble_eq_true rfl, Nat.le_of_ble_eq_true rfl⟩ rfl rfl (Nat.le_of_ble_eq_true rfl) ⟨Nat.le_of_ble_eq_true rfl, Nat.le_of_ble_eq_true rfl⟩ gw_386 dX8_widthIf_2) rfl (fun z2 M1 h2 => ?_)
  have hz2 := h2.1
  obtain rfl := h2.2.symm
  have hi2 : z2 = 0 ∨ z2 = 1 := by rw [hz2]; split <;> omega
  have hq2 : z2 = 1 ↔ (0 ≤ k ∧ k < P) := by rw [hz2]; split <;> omega
  refine r_if_ne (pc' := 8) (tgt := 18) X dX8_widthIf_5 rfl rfl (by omega) (fun h5 => ?_) (fun h5 => ?_)
  · refine r_iload_n (pc' := 19) X 2 dX8_widthIf_18 rfl rfl rfl ?_
    refine r_ldcw (pc' := 22) (z := (-1000000)) X gw_857 dX8_widthIf_19 rfl rfl ?_
    refine r_icmp_lt (pc' := 25) (tgt := 32) X dX8_widthIf_22 rfl rfl (by omega) (by omega) (fun h22 => ?_) (fun h22 => ?_)
    · refine r_thAW X hfl hex gw_458 ts_859 dX8_widthIf_32 dX8_widthIf_35 dX8_widthIf_36 dX8_widthIf_39 dX8_widthIf_42 (by decide) (by decide) (by decide) (by decide) ?_
      try dsimp only
      exact ⟨(Or.inr (⟨rfl, by omega⟩)), ScrEq.rfl⟩
    · refine r_iload_n (pc' := 26) X 2 dX8_widthIf_25 rfl rfl rfl ?_
      refine r_ldcw (pc' := 29) (z := 1000000) X gw_858 dX8_widthIf_26 rfl rfl ?_
      refine r_icmp_le (pc' := 32) (tgt := 43) X dX8_widthIf_29 rfl rfl (by omega) (by omega) (fun h29 => ?_) (fun h29 => ?_)
      · refine r_aload_n (pc' := 44) X 0 dX8_widthIf_43 rfl rfl rfl ?_
        refine gf_28_copy (pc' := 47) X gw_298 dX8_widthIf_44 rfl ?_
        refine r_aload_n (pc' := 48) X 0 dX8_widthIf_47 rfl rfl rfl ?_
        refine gf_28_now (pc' := 51) X gw_297 dX8_widthIf_48 rfl ?_
        refine w_callv (pc' := 54) (st := []) (w_runV X (c_X1_copyFrom l G M 1 0 (by decide) (by decide) (by decide)) cf_X1_copyFrom (kM_0 (by decide)) rfl gw_517 gw_518 rfl rfl ⟨Nat.le_of_ble_eq_true rfl, Nat.le_of_ble_eq_true rfl⟩ rfl rfl (Nat.le_of_ble_eq_true rfl) ⟨Nat.le_of_ble_eq_true rfl, Nat.le_of_ble_eq_true rfl⟩ gw_556 dX8_widthIf_51) rfl (fun M2 h51 => ?_)
        have ecp : M2 1 = M 0 := by rw [h51]; unfold wo; rw [if_pos rfl]
        have ecf : ∀ a, a ≠ 1 → M2 a = M a := fun a ha => by rw [h51]; unfold wo; rw [if_neg ha]
        refine r_aload_n (pc' := 55) X 0 dX8_widthIf_54 rfl rfl rfl ?_
        refine gf_28_copy (pc' := 58) X gw_298 dX8_widthIf_55 rfl ?_
        refine gf_M_reading (pc' := 61) X (by decide) gw_111 dX8_widthIf_58 rfl ?_
        refine r_iload_n (pc' := 62) X 1 dX8_widthIf_61 rfl rfl rfl ?_
        refine r_iload_n (pc' := 63) X 2 dX8_widthIf_62 rfl rfl rfl ?_
        refine r_iast (i := k.toNat) (pc' := 64) X (kM_10 (by decide)) (by omega) (by omega) (by decide) dX8_widthIf_63 rfl (fun M3 hM3 => ?_)
        refine r_aload_n (pc' := 65) X 0 dX8_widthIf_64 rfl rfl rfl ?_
        refine gf_28_copy (pc' := 68) X gw_298 dX8_widthIf_65 rfl ?_
        refine gf_M_age (pc' := 71) X (by decide) gw_115 dX8_widthIf_68 rfl ?_
        refine r_iload_n (pc' := 72) X 1 dX8_widthIf_71 rfl rfl rfl ?_
        refine r_iconst (pc' := 73) X dX8_widthIf_72 rfl ?_
        refine r_iast (i := k.toNat) (pc' := 74) X (kM_11 (by decide)) (by omega) (by omega) (by decide) dX8_widthIf_73 rfl (fun M4 hM4 => ?_)
        have hlh : M4 = wr (wr M2 1 10 (up1 (M 0 10) k.toNat y)) 1 11 (up1 (M 0 11) k.toNat 0) := by rw [hM4, hM3, wu_wr, wu_wr, wr_ne (show ¬ (1 = 1 ∧ 11 = 10) by omega), ecp]
        have eo : ∀ a, a ≠ 1 → M4 a = M a := fun a ha => by rw [hlh, wr_o ha, wr_o ha]; exact ecf a ha
        have e19 := eo 19 (by decide)
        have eb : ∀ b, b ≠ 10 → b ≠ 11 → M4 1 b = M 0 b := fun b h1 h2 => by rw [hlh, wr_ne (by omega), wr_ne (by omega), ecp]
        have m10 : M4 1 10 = up1 (M 0 10) k.toNat y := by rw [hlh, wr_ne (by omega), wr_eq]
        have m11 : M4 1 11 = up1 (M 0 11) k.toNat 0 := by rw [hlh, wr_eq]
        have m2 := eb 2 (by decide) (by decide)
        have m3 := eb 3 (by decide) (by decide)
        have hb2 : BoxOk N (M4 1 2) (M4 1 3) := by rw [m2, m3]; exact hbx
        have hm2 : MoOk (M4 1) N P T := ⟨by rw [eb 1 (by decide) (by decide)]; exact hT, by rw [m2]; exact hL, by rw [m3]; exact hU, by rw [eb 4 (by decide) (by decide)]; exact hS, fun i k hi hk => by rw [eb (6 + i) (by omega) (by omega)]; exact hG i k hi hk, fun k hk => by rw [m10]; unfold up1; split; omega; exact hY k hk, fun k hk => by rw [m11]; unfold up1; split; omega; exact hAg k hk, by rw [eb 0 (by decide) (by decide)]; exact hHo, by rw [eb 0 (by decide) (by decide)]; exact hBo, by rw [eb 0 (by decide) (by decide)]; exact hTi, by rw [eb 0 (by decide) (by decide)]; exact hLi, by rw [eb 0 (by decide) (by decide)]; exact hLb, by rw [eb 12 (by decide) (by decide)]; exact hLl, by rw [eb 13 (by decide) (by decide)]; exact hLh⟩
        refine r_aload_n (pc' := 75) X 0 dX8_widthIf_74 rfl rfl rfl ?_
        refine gf_28_motion (pc' := 78) X gw_302 dX8_widthIf_75 rfl ?_
        refine r_aload_n (pc' := 79) X 0 dX8_widthIf_78 rfl rfl rfl ?_
        refine gf_28_plant (pc' := 82) X gw_296 dX8_widthIf_79 rfl ?_
        refine r_aload_n (pc' := 83) X 0 dX8_widthIf_82 rfl rfl rfl ?_
        refine gf_28_copy (pc' := 86) X gw_298 dX8_widthIf_83 rfl ?_
        refine w_calli (pc' := 89) (st := []) (w_runV X (c_X2_tighten l G M4 19 1 N P T (by decide) (by decide) (by rw [e19]; exact hp) hm2 (by first | assumption | omega) hb2) cf_X2_tighten k21_0 rfl gw_788 gw_789 rfl rfl ⟨Nat.le_of_ble_eq_true rfl, Nat.le_of_ble_eq_true rfl⟩ rfl rfl (Nat.le_of_ble_eq_true rfl) ⟨Nat.le_of_ble_eq_true rfl, Nat.le_of_ble_eq_true rfl⟩ gw_815 dX8_widthIf_86) rfl (fun z86 M5 h86 => ?_)
        have hz86 := h86.1
        have hm86 := h86.2
        rw [e19, m10, m11, m2, m3] at hz86 hm86
        have eof : ∀ a, a ≠ 1 → M5 a = M a := fun a ha => by rw [h86.2, setLH_o ha]; exact eo a ha
        have eN : M5 19 0 0 = N := by rw [eof 19 (by decide)]; exact hN
        have w2 : M5 1 2 = (tight N P (M 19) (up1 (M 0 10) k.toNat y) (up1 (M 0 11) k.toNat 0) 100 (M 0 2) (M 0 3)).2.1 := by rw [hm86, setLH_2]
        have w3 : M5 1 3 = (tight N P (M 19) (up1 (M 0 10) k.toNat y) (up1 (M 0 11) k.toNat 0) 100 (M 0 2) (M 0 3)).2.2 := by rw [hm86, setLH_3]
        refine r_if_eq (pc' := 92) (tgt := 106) X dX8_widthIf_89 rfl rfl (by omega) (fun h89 => ?_) (fun h89 => ?_)
        · refine r_bipush (pc' := 108) X dX8_widthIf_106 rfl rfl ?_
          refine w_x (by decide) (by decide) ?_
          refine w_iret X hr dX8_widthIf_108 ?_
          try dsimp only
          refine ⟨by omega, ?_, fun a h1 _ _ _ _ _ => eof a h1⟩
          split at hz86 <;> rename_i q <;> first | (exfalso; omega) | (rw [if_pos q]) | (rw [if_neg q]; exact hz100)
        · refine r_aload_n (pc' := 93) X 0 dX8_widthIf_92 rfl rfl rfl ?_
          refine gf_28_plant (pc' := 96) X gw_296 dX8_widthIf_93 rfl ?_
          refine r_aload_n (pc' := 97) X 0 dX8_widthIf_96 rfl rfl rfl ?_
          refine gf_28_copy (pc' := 100) X gw_298 dX8_widthIf_97 rfl ?_
          refine w_calli (pc' := 103) (st := []) (w_runV X (c_X3_widthOf l G M5 19 1 N (by decide) (by decide) eN hN4) cf_X3_widthOf (kP_0 (by decide)) rfl gw_373 gw_374 rfl rfl ⟨Nat.le_of_ble_eq_true rfl, Nat.le_of_ble_eq_true rfl⟩ rfl rfl (Nat.le_of_ble_eq_true rfl) ⟨Nat.le_of_ble_eq_true rfl, Nat.le_of_ble_eq_true rfl⟩ gw_372 dX8_widthIf_100) rfl (fun z100 M6 h100 => ?_)
          have hz100 := h100.1
          obtain rfl := h100.2.symm
          rw [w2, w3] at hz100
          refine r_goto (tgt := 108) X dX8_widthIf_103 rfl ?_
          refine w_x (by decide) (by decide) ?_
          refine w_iret X hr dX8_widthIf_108 ?_
          try dsimp only
          refine ⟨by omega, ?_, fun a h1 _ _ _ _ _ => eof a h1⟩
          split at hz86 <;> rename_i q <;> first | (exfalso; omega) | (rw [if_pos q]) | (rw [if_neg q]; exact hz100)
      · refine r_thAW X hfl hex gw_458 ts_859 dX8_widthIf_32 dX8_widthIf_35 dX8_widthIf_36 dX8_widthIf_39 dX8_widthIf_42 (by decide) (by decide) (by decide) (by decide) ?_
        try dsimp only
        exact ⟨(Or.inr (⟨rfl, by omega⟩)), ScrEq.rfl⟩
  · refine r_thX X hfl hex gw_390 ts_431 dX8_widthIf_8 dX8_widthIf_11 dX8_widthIf_12 dX8_widthIf_14 dX8_widthIf_17 (by decide) (by decide) (by decide) (by decide) ?_
    try dsimp only
    exact ⟨(Or.inl ⟨rfl, by omega⟩), ScrEq.rfl⟩
theorem cf_X8_canBe : wCal yX8_canBe cX8_canBe 6 (some .boolean) 4 := ⟨gw_847, gw_1, by decide, by decide, by rfl⟩
set_option maxRecDepth 100000 in
set_option maxHeartbeats 4000000 in
theorem c_X8_canBe (l : Launch) (G : wG) (M : wM) (hfl : l.stackTraces = false) (N P : Nat) (T : Int) (hck : COk M N P T) (hT6 : T ≤ 1000000) (a b c0 d : Int) (ha : rI a) (hb : rI b) (hc : rI c0) (hd : rI d) : vx_Met l yX8_canBe (gws yX8_canBe cX8_canBe 6 (some .boolean)) (wrm 6 1 6) (wPc G M [vR G (28, 0), vI a, vI b, vI c0, vI d]) (wQi G (fun z M1 => (∀ i, N ≤ i → i < 4 → (row4 (M 28 1) a b c0 d) i = 0) ∧ (z = 0 ∨ z = 1) ∧ (z = 1 ↔ (∀ i, i < N → M 0 2 i ≤ (row4 (M 28 1) a b c0 d) i ∧ (row4 (M 28 1) a b c0 d) i ≤ M 0 3 i) ∧ meets N P (M 19) (row4 (M 28 1) a b c0 d) (M 0 10) (M 0 11)) ∧ ScrEq M M1)) (wQx G (fun E M1 => ((E = "java/lang/IllegalArgumentException" ∧ ¬ ∀ i, N ≤ i → i < 4 → (row4 (M 28 1) a b c0 d) i = 0)) ∧ ScrEq M M1)) 1 6 (wA G) := by
  refine wMetX (lc := [(0, vR G (28, 0)), (1, vI a), (2, vI b), (3, vI c0), (4, vI d)]) (by decide) (Nat.le_of_ble_eq_true rfl) rfl ?_
  intro p e s m args below meth c X hr hex
  have X : wX p s m args meth c G 6 "StateObserver" cX8_canBe := X
  obtain ⟨hp, hm, hbx⟩ := id hck
  obtain ⟨hN, hN1, hN4, hP, hP1, hP3, hA, hB, hE, hC, hQ⟩ := id hp
  obtain ⟨hT, hL, hU, hS, hG, hY, hAg, hHo, hBo, hTi, hLi, hLb, hLl, hLh⟩ := id hm
  have hrr : ∀ i, i < 4 → rI ((row4 (M 28 1) a b c0 d) i) := fun i hi => by unfold row4 up1; rcases (show i = 0 ∨ i = 1 ∨ i = 2 ∨ i = 3 by omega) with rfl | rfl | rfl | rfl <;> simp <;> assumption
  refine r_aload_n (pc' := 1) X 0 dX8_canBe_0 rfl rfl rfl ?_
  refine gf_28_row (pc' := 4) X gw_304 dX8_canBe_1 rfl ?_
  refine r_iconst (pc' := 5) X dX8_canBe_4 rfl ?_
  refine r_iload_n (pc' := 6) X 1 dX8_canBe_5 rfl rfl rfl ?_
  refine r_iast (i := 0) (pc' := 7) X k28_1 (by omega) (by omega) (by decide) dX8_canBe_6 rfl (fun M1 hM1 => ?_)
  refine r_aload_n (pc' := 8) X 0 dX8_canBe_7 rfl rfl rfl ?_
  refine gf_28_row (pc' := 11) X gw_304 dX8_canBe_8 rfl ?_
  refine r_iconst (pc' := 12) X dX8_canBe_11 rfl ?_
  refine r_iload_n (pc' := 13) X 2 dX8_canBe_12 rfl rfl rfl ?_
  refine r_iast (i := 1) (pc' := 14) X k28_1 (by omega) (by omega) (by decide) dX8_canBe_13 rfl (fun M2 hM2 => ?_)
  refine r_aload_n (pc' := 15) X 0 dX8_canBe_14 rfl rfl rfl ?_
  refine gf_28_row (pc' := 18) X gw_304 dX8_canBe_15 rfl ?_
  refine r_iconst (pc' := 19) X dX8_canBe_18 rfl ?_
  refine r_iload_n (pc' := 20) X 3 dX8_canBe_19 rfl rfl rfl ?_
  refine r_iast (i := 2) (pc' := 21) X k28_1 (by omega) (by omega) (by decide) dX8_canBe_20 rfl (fun M3 hM3 => ?_)
  refine r_aload_n (pc' := 22) X 0 dX8_canBe_21 rfl rfl rfl ?_
  refine gf_28_row (pc' := 25) X gw_304 dX8_canBe_22 rfl ?_
  refine r_iconst (pc' := 26) X dX8_canBe_25 rfl ?_
  refine r_iload (pc' := 28) X 4 dX8_canBe_26 rfl rfl ?_
  refine r_iast (i := 3) (pc' := 29) X k28_1 (by omega) (by omega) (by decide) dX8_canBe_28 rfl (fun M4 hM4 => ?_)
  have e28 : M4 28 1 = (row4 (M 28 1) a b c0 d) := by rw [hM4, hM3, hM2, hM1]; simp only [wu_wr, wr_eq]; rfl
  have eo : ∀ a, a ≠ 28 → M4 a = M a := fun a ha => by rw [hM4, hM3, hM2, hM1, wu_o ha, wu_o ha, wu_o ha, wu_o ha]
  have e0 := eo 0 (by decide)
  have e19 := eo 19 (by decide)
  have eN : M4 19 0 0 = N := by rw [e19]; exact hN
  refine r_aload_n (pc' := 30) X 0 dX8_canBe_29 rfl rfl rfl ?_
  refine gf_28_plant (pc' := 33) X gw_296 dX8_canBe_30 rfl ?_
  refine gf_P_n (pc' := 36) X (by decide) gw_38 dX8_canBe_33 rfl ?_
  refine w_eqI (z' := (N : Int)) eN ?_
  refine r_istore (pc' := 38) (lc' := [(0, vR G (28, 0)), (1, vI a), (2, vI b), (3, vI c0), (4, vI d), (5, vI (N : Int))]) X [1, 2, 3, 4, 5, 0] dX8_canBe_36 (by decide) rfl rfl ?_
  have L38 : ∀ (fu : Nat) (j : Nat), 4 - j < fu → (N ≤ j ∧ j ≤ 4) → (∀ i, N ≤ i → i < j → (row4 (M 28 1) a b c0 d) i = 0) → wV p l e (wrm 6 1 6) s m args below meth c G 6 M4 0 0 (vx_MQ below (wQi G (fun z M1 => (∀ i, N ≤ i → i < 4 → (row4 (M 28 1) a b c0 d) i = 0) ∧ (z = 0 ∨ z = 1) ∧ (z = 1 ↔ (∀ i, i < N → M 0 2 i ≤ (row4 (M 28 1) a b c0 d) i ∧ (row4 (M 28 1) a b c0 d) i ≤ M 0 3 i) ∧ meets N P (M 19) (row4 (M 28 1) a b c0 d) (M 0 10) (M 0 11)) ∧ ScrEq M M1)) (wQx G (fun E M1 => ((E = "java/lang/IllegalArgumentException" ∧ ¬ ∀ i, N ≤ i → i < 4 → (row4 (M 28 1) a b c0 d) i = 0)) ∧ ScrEq M M1)) args s 1 6 (wA G)) 38 [(0, vR G (28, 0)), (1, vI a), (2, vI b), (3, vI c0), (4, vI d), (5, vI (j : Int))] [] := by
    intro fu
    induction fu with
    | zero => intro j hfu; exact absurd hfu (Nat.not_lt_zero _)
    | succ fu ih38 =>
      intro j hfu38 hj hzz
      refine r_iload (pc' := 40) X 5 dX8_canBe_38 rfl rfl ?_
      refine r_iconst (pc' := 41) X dX8_canBe_40 rfl ?_
      refine r_icmp_ge (pc' := 44) (tgt := 71) X dX8_canBe_41 rfl rfl (by omega) (by omega) (fun h41 => ?_) (fun h41 => ?_)
      · refine r_iconst (pc' := 72) X dX8_canBe_71 rfl ?_
        refine r_istore (pc' := 74) (lc' := [(0, vR G (28, 0)), (1, vI a), (2, vI b), (3, vI c0), (4, vI d), (5, vI 0)]) X [1, 2, 3, 4, 5, 0] dX8_canBe_72 (by decide) rfl rfl ?_
        have L74 : ∀ (fu : Nat) (j : Nat), N - j < fu → (j ≤ N) → (∀ i, i < j → M 0 2 i ≤ (row4 (M 28 1) a b c0 d) i ∧ (row4 (M 28 1) a b c0 d) i ≤ M 0 3 i) → wV p l e (wrm 6 1 6) s m args below meth c G 6 M4 0 0 (vx_MQ below (wQi G (fun z M1 => (∀ i, N ≤ i → i < 4 → (row4 (M 28 1) a b c0 d) i = 0) ∧ (z = 0 ∨ z = 1) ∧ (z = 1 ↔ (∀ i, i < N → M 0 2 i ≤ (row4 (M 28 1) a b c0 d) i ∧ (row4 (M 28 1) a b c0 d) i ≤ M 0 3 i) ∧ meets N P (M 19) (row4 (M 28 1) a b c0 d) (M 0 10) (M 0 11)) ∧ ScrEq M M1)) (wQx G (fun E M1 => ((E = "java/lang/IllegalArgumentException" ∧ ¬ ∀ i, N ≤ i → i < 4 → (row4 (M 28 1) a b c0 d) i = 0)) ∧ ScrEq M M1)) args s 1 6 (wA G)) 74 [(0, vR G (28, 0)), (1, vI a), (2, vI b), (3, vI c0), (4, vI d), (5, vI (j : Int))] [] := by
          intro fu
          induction fu with
          | zero => intro j hfu; exact absurd hfu (Nat.not_lt_zero _)
          | succ fu ih74 =>
            intro j hfu74 hj2 hin
            refine r_iload (pc' := 76) X 5 dX8_canBe_74 rfl rfl ?_
            refine r_aload_n (pc' := 77) X 0 dX8_canBe_76 rfl rfl rfl ?_
            refine gf_28_plant (pc' := 80) X gw_296 dX8_canBe_77 rfl ?_
            refine gf_P_n (pc' := 83) X (by decide) gw_38 dX8_canBe_80 rfl ?_
            refine r_icmp_ge (pc' := 86) (tgt := 134) X dX8_canBe_83 rfl rfl (by omega) (by omega) (fun h83 => ?_) (fun h83 => ?_)
            · have hV2 : ∀ i, i < N → -1000000 ≤ M4 28 1 i ∧ M4 28 1 i ≤ 1000000 := fun i hi => by have h1 := hin i (by omega); have h2 := hL i hi; have h3 := hU i hi; rw [e28]; omega
              refine r_aload_n (pc' := 135) X 0 dX8_canBe_134 rfl rfl rfl ?_
              refine gf_28_plant (pc' := 138) X gw_296 dX8_canBe_135 rfl ?_
              refine r_aload_n (pc' := 139) X 0 dX8_canBe_138 rfl rfl rfl ?_
              refine gf_28_row (pc' := 142) X gw_304 dX8_canBe_139 rfl ?_
              refine r_aload_n (pc' := 143) X 0 dX8_canBe_142 rfl rfl rfl ?_
              refine gf_28_now (pc' := 146) X gw_297 dX8_canBe_143 rfl ?_
              refine w_calli (pc' := 149) (st := []) (w_runV X (c_X3_meetFreshOutputs l G M4 19 28 1 0 N P T (by decide) (by decide) k28_1 (by rw [e19]; exact hp) (by rw [e0]; exact hm) (by first | assumption | omega) hV2) cf_X3_meetFreshOutputs (kP_0 (by decide)) rfl gw_711 gw_712 rfl rfl ⟨Nat.le_of_ble_eq_true rfl, Nat.le_of_ble_eq_true rfl⟩ rfl rfl (Nat.le_of_ble_eq_true rfl) ⟨Nat.le_of_ble_eq_true rfl, Nat.le_of_ble_eq_true rfl⟩ gw_710 dX8_canBe_146) rfl (fun z146 M5 h146 => ?_)
              have hz146 := h146.1
              have hme := h146.2.1
              obtain rfl := h146.2.2.symm
              rw [e19, e0, e28] at hme
              refine w_x (by decide) (by decide) ?_
              refine w_zret X hr (by omega) dX8_canBe_149 ?_
              try dsimp only
              exact ⟨fun i h1 h2 => hzz i h1 (by omega), hz146, ⟨fun q => ⟨fun i hi => hin i (by omega), hme.mp q⟩, fun q => hme.mpr q.2⟩, fun a _ _ _ _ _ h28 => eo a h28⟩
            · have hri : rI (M4 28 1 j) := by rw [e28]; exact hrr j (by omega)
              have hlj := hL j (by omega)
              have huj := hU j (by omega)
              rw [← e0] at hlj huj
              refine r_aload_n (pc' := 87) X 0 dX8_canBe_86 rfl rfl rfl ?_
              refine gf_28_row (pc' := 90) X gw_304 dX8_canBe_87 rfl ?_
              refine r_iload (pc' := 92) X 5 dX8_canBe_90 rfl rfl ?_
              refine r_iald (i := j) (pc' := 93) X k28_1 (by omega) (by omega) (by decide) dX8_canBe_92 rfl ?_
              refine r_aload_n (pc' := 94) X 0 dX8_canBe_93 rfl rfl rfl ?_
              refine gf_28_now (pc' := 97) X gw_297 dX8_canBe_94 rfl ?_
              refine gf_M_lower (pc' := 100) X (by decide) gw_96 dX8_canBe_97 rfl ?_
              refine r_iload (pc' := 102) X 5 dX8_canBe_100 rfl rfl ?_
              refine r_iald (i := j) (pc' := 103) X (kM_2 (by decide)) (by omega) (by omega) (by decide) dX8_canBe_102 rfl ?_
              refine r_icmp_lt (pc' := 106) (tgt := 126) X dX8_canBe_103 rfl rfl (by omega) (by omega) (fun h103 => ?_) (fun h103 => ?_)
              · refine r_iconst (pc' := 127) X dX8_canBe_126 rfl ?_
                refine w_x (by decide) (by decide) ?_
                refine w_zret X hr (by decide) dX8_canBe_127 ?_
                try dsimp only
                refine ⟨fun i h1 h2 => hzz i h1 (by omega), Or.inl rfl, ⟨fun q => absurd q (by decide), fun q => ?_⟩, fun a _ _ _ _ _ h28 => eo a h28⟩
                have := q.1 j (by omega)
                rw [← e28, ← e0] at this
                omega
              · refine r_aload_n (pc' := 107) X 0 dX8_canBe_106 rfl rfl rfl ?_
                refine gf_28_row (pc' := 110) X gw_304 dX8_canBe_107 rfl ?_
                refine r_iload (pc' := 112) X 5 dX8_canBe_110 rfl rfl ?_
                refine r_iald (i := j) (pc' := 113) X k28_1 (by omega) (by omega) (by decide) dX8_canBe_112 rfl ?_
                refine r_aload_n (pc' := 114) X 0 dX8_canBe_113 rfl rfl rfl ?_
                refine gf_28_now (pc' := 117) X gw_297 dX8_canBe_114 rfl ?_
                refine gf_M_upper (pc' := 120) X (by decide) gw_100 dX8_canBe_117 rfl ?_
                refine r_iload (pc' := 122) X 5 dX8_canBe_120 rfl rfl ?_
                refine r_iald (i := j) (pc' := 123) X (kM_3 (by decide)) (by omega) (by omega) (by decide) dX8_canBe_122 rfl ?_
                refine r_icmp_le (pc' := 126) (tgt := 128) X dX8_canBe_123 rfl rfl (by omega) (by omega) (fun h123 => ?_) (fun h123 => ?_)
                · refine r_iinc (pc' := 131) (z' := ((j + 1 : Nat) : Int)) (lc' := [(0, vR G (28, 0)), (1, vI a), (2, vI b), (3, vI c0), (4, vI d), (5, vI ((j + 1 : Nat) : Int))]) X 5 [1, 2, 3, 4, 5, 0] dX8_canBe_128 rfl (by omega) (by decide) rfl rfl ?_
                  refine r_goto (tgt := 74) X dX8_canBe_131 rfl ?_
                  exact ih74 (j + 1) (by omega) (by omega) (fun i hi => by rcases Nat.lt_or_ge i j with q | q; exact hin i q; rw [show i = j by omega, ← e28, ← e0]; omega)
                · refine r_iconst (pc' := 127) X dX8_canBe_126 rfl ?_
                  refine w_x (by decide) (by decide) ?_
                  refine w_zret X hr (by decide) dX8_canBe_127 ?_
                  try dsimp only
                  refine ⟨fun i h1 h2 => hzz i h1 (by omega), Or.inl rfl, ⟨fun q => absurd q (by decide), fun q => ?_⟩, fun a _ _ _ _ _ h28 => eo a h28⟩
                  have := q.1 j (by omega)
                  rw [← e28, ← e0] at this
                  omega
        exact L74 ((N - 0) + 1) 0 (Nat.lt_succ_self _) (by omega) (fun i h => absurd h (Nat.not_lt_zero i))
      · refine r_aload_n (pc' := 45) X 0 dX8_canBe_44 rfl rfl rfl ?_
        refine gf_28_row (pc' := 48) X gw_304 dX8_canBe_45 rfl ?_
        refine r_iload (pc' := 50) X 5 dX8_canBe_48 rfl rfl ?_
        have hri : rI (M4 28 1 j) := by rw [e28]; exact hrr j (by omega)
        refine r_iald (i := j) (pc' := 51) X k28_1 (by omega) (by omega) (by decide) dX8_canBe_50 rfl ?_
        refine r_if_eq (pc' := 54) (tgt := 65) X dX8_canBe_51 rfl rfl (by omega) (fun h51 => ?_) (fun h51 => ?_)
        · refine r_iinc (pc' := 68) (z' := ((j + 1 : Nat) : Int)) (lc' := [(0, vR G (28, 0)), (1, vI a), (2, vI b), (3, vI c0), (4, vI d), (5, vI ((j + 1 : Nat) : Int))]) X 5 [1, 2, 3, 4, 5, 0] dX8_canBe_65 rfl (by omega) (by decide) rfl rfl ?_
          refine r_goto (tgt := 38) X dX8_canBe_68 rfl ?_
          exact ih38 (j + 1) (by omega) (by omega) (fun i h1 h2 => by rcases Nat.lt_or_ge i j with q | q; exact hzz i h1 q; rw [show i = j by omega, ← e28]; omega)
        · refine r_thAW X hfl hex gw_458 ts_848 dX8_canBe_54 dX8_canBe_57 dX8_canBe_58 dX8_canBe_61 dX8_canBe_64 (by decide) (by decide) (by decide) (by decide) ?_
          try dsimp only
          refine ⟨⟨rfl, fun q => ?_⟩, fun a _ _ _ _ _ h28 => eo a h28⟩
          have := q j (by omega) (by omega)
          rw [← e28] at this
          omega
  exact L38 ((4 - N) + 1) N (Nat.lt_succ_self _) (by omega) (fun i h1 h2 => absurd h1 (by omega))
