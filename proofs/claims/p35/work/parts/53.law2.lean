/-! the earliest time -/
theorem cf_L_earliest : wCal yL_earliest cL_earliest 6 (some .boolean) 2 := ⟨gw_1011, gw_0, by decide, by decide, by rfl⟩
set_option maxRecDepth 100000 in
set_option maxHeartbeats 4000000 in
theorem c_L_earliest (l : Launch) (G : wG) (M : wM) (hfl : l.stackTraces = false) (N P L nx ct : Nat) (T : Int) (lo : Lo N P L nx ct T M) (x : Int) (hx : 0 ≤ x ∧ x ≤ 2147483647) : Met l yL_earliest (gws yL_earliest cL_earliest 6 (some .boolean)) (wrm 8 6 36) (wPc G M [vR G (28, 0), vI x]) (wQi G (fun z M1 => z = 1 ∧ ScrEq M M1)) 6 36 (wA G) := by
  refine wMet (lc := [(0, vR G (28, 0)), (1, vI x)]) (by decide) (Nat.le_of_ble_eq_true rfl) rfl ?_
  intro p e s m args below meth c X hr
  have X : wX p s m args meth c G 6 "StateObserverLaw" cL_earliest := X
  have hn := lo.n
  have t13 := tmod_bd (a := x) (b := 13) (by decide)
  have d13 : 0 ≤ x.tdiv 13 ∧ x.tdiv 13 ≤ x := by
    have h1 := q_tdiv (a := x) (b := 13) (by decide)
    have h2 := Int.tdiv_nonneg (a := x) (b := 13) hx.1 (by decide)
    omega
  have t41 := tmod_bd (a := x.tdiv 13) (b := 4001) (by decide)
  have t2 := tmod_bd (a := x) (b := 2) (by decide)
  have t61 := tmod_bd (a := x) (b := 61) (by decide)
  have hbo := lo.bo
  have hib := itv_box (N := N) (pv := M 19) (u := x.tmod 13 - 6) (B := M 0 0 8) (lo := M 0 2) (hi := M 0 3) (fun i hi => (lo.box hi).2.1) hbo.2.1.1
  refine r_iload_n (pc' := 1) X 1 dL_earliest_0 rfl rfl rfl ?_
  refine r_bipush (pc' := 3) X dL_earliest_1 rfl rfl ?_
  refine r_irem (pc' := 4) X dL_earliest_3 (by omega) (by omega) (by omega) rfl ?_
  refine r_bipush (pc' := 6) X dL_earliest_4 rfl rfl ?_
  refine r_isub (pc' := 7) X dL_earliest_6 rfl ?_
  refine r_istore_n (pc' := 8) (lc' := [(0, vR G (28, 0)), (1, vI x), (2, vI ((x.tmod 13) - 6))]) X [1, 2, 0] dL_earliest_7 rfl (by decide) rfl rfl ?_
  refine r_iload_n (pc' := 9) X 1 dL_earliest_8 rfl rfl rfl ?_
  refine r_bipush (pc' := 11) X dL_earliest_9 rfl rfl ?_
  refine r_idiv (pc' := 12) X dL_earliest_11 (by omega) (by omega) (by omega) rfl ?_
  refine r_sipush (pc' := 15) X dL_earliest_12 rfl rfl ?_
  refine r_irem (pc' := 16) X dL_earliest_15 (by omega) (by omega) (by omega) rfl ?_
  refine r_sipush (pc' := 19) X dL_earliest_16 rfl rfl ?_
  refine r_isub (pc' := 20) X dL_earliest_19 rfl ?_
  refine r_istore_n (pc' := 21) (lc' := [(0, vR G (28, 0)), (1, vI x), (2, vI ((x.tmod 13) - 6)), (3, vI (((x.tdiv 13).tmod 4001) - 2000))]) X [1, 2, 3, 0] dL_earliest_20 rfl (by decide) rfl rfl ?_
  refine r_iload_n (pc' := 22) X 1 dL_earliest_21 rfl rfl rfl ?_
  refine r_iconst (pc' := 23) X dL_earliest_22 rfl ?_
  refine r_irem (pc' := 24) X dL_earliest_23 (by omega) (by omega) (by omega) rfl ?_
  refine r_if_ne (pc' := 27) (tgt := 31) X dL_earliest_24 rfl rfl (by omega) (fun h24 => ?_) (fun h24 => ?_)
  · refine r_iconst (pc' := 32) X dL_earliest_31 rfl ?_
    refine r_istore (pc' := 34) (lc' := [(0, vR G (28, 0)), (1, vI x), (2, vI ((x.tmod 13) - 6)), (3, vI (((x.tdiv 13).tmod 4001) - 2000)), (4, vI 0)]) X [1, 2, 3, 4, 0] dL_earliest_32 (by decide) rfl rfl ?_
    refine r_aload_n (pc' := 35) X 0 dL_earliest_34 rfl rfl rfl ?_
    refine r_iconst (pc' := 36) X dL_earliest_35 rfl ?_
    refine r_iload_n (pc' := 37) X 3 dL_earliest_36 rfl rfl rfl ?_
    refine r_iload_n (pc' := 38) X 2 dL_earliest_37 rfl rfl rfl ?_
    refine r_iload (pc' := 40) X 4 dL_earliest_38 rfl rfl ?_
    refine w_calli (pc' := 43) (st := []) (w_runSH X (c_L_tryEarliest l G M hfl N P T lo.ck (by have := lo.t; omega) 0 (((x.tdiv 13).tmod 4001) - 2000) ((x.tmod 13) - 6) 0 (by first | omega | assumption | decide) (by first | omega | assumption | decide) (by first | omega | assumption | decide) (by first | omega | assumption | decide)) cf_L_tryEarliest gw_869 rfl rfl ⟨Nat.le_of_ble_eq_true rfl, Nat.le_of_ble_eq_true rfl⟩ rfl rfl (Nat.le_of_ble_eq_true rfl) ⟨by show _ ≤ 6; omega, by show _ ≤ 36; omega⟩ gw_868 dL_earliest_40) rfl (fun z40 M1 h40 => ?_)
    rcases h40 with h40 | h40 | h40
    rotate_left 1
    · exfalso
      have hd := h40.2.1; clear h40; omega
    · exfalso
      have hd := h40.2.1; clear h40; omega
    have hs40 := h40.2.2
    have sM1 : ScrEq M M1 := hs40
    have qM1 := lo.scr sM1
    have e0M1 : M1 0 = M 0 := sM1.z0
    have e19M1 : M1 19 = M 19 := sM1.z19
    have hE : (∃ t : Nat, t ≤ 60 ∧ z40 = t ∧ ((x.tdiv 13).tmod 4001 - 2000) ≤ (itv N (M 19) (x.tmod 13 - 6) (M 0 0 8) (M 0 2) (M 0 3) t).2 0 ∧ ∀ s, s < t → (itv N (M 19) (x.tmod 13 - 6) (M 0 0 8) (M 0 2) (M 0 3) s).2 0 < ((x.tdiv 13).tmod 4001 - 2000)) ∨ (z40 = -9 ∧ ∀ s, s ≤ 60 → (itv N (M 19) (x.tmod 13 - 6) (M 0 0 8) (M 0 2) (M 0 3) s).2 0 < ((x.tdiv 13).tmod 4001 - 2000)) := h40.2.1
    have hz40 : -9 ≤ z40 ∧ z40 ≤ 60 := by rcases hE with ⟨t, q1, q2, -⟩ | ⟨q, -⟩ <;> omega
    refine r_istore (pc' := 45) (lc' := [(0, vR G (28, 0)), (1, vI x), (2, vI ((x.tmod 13) - 6)), (3, vI (((x.tdiv 13).tmod 4001) - 2000)), (4, vI 0), (5, vI z40)]) X [1, 2, 3, 4, 5, 0] dL_earliest_43 (by decide) rfl rfl ?_
    refine r_iload (pc' := 47) X 5 dL_earliest_45 rfl rfl ?_
    refine r_bipush (pc' := 49) X dL_earliest_47 rfl rfl ?_
    refine r_icmp_ne (pc' := 52) (tgt := 82) X dL_earliest_49 rfl rfl (by omega) (by omega) (fun h49 => ?_) (fun h49 => ?_)
    · obtain ⟨t40, q40a, q40b, q40c, q40d⟩ : ∃ t : Nat, t ≤ 60 ∧ z40 = t ∧ ((x.tdiv 13).tmod 4001 - 2000) ≤ (itv N (M 19) (x.tmod 13 - 6) (M 0 0 8) (M 0 2) (M 0 3) t).2 0 ∧ ∀ s, s < t → (itv N (M 19) (x.tmod 13 - 6) (M 0 0 8) (M 0 2) (M 0 3) s).2 0 < ((x.tdiv 13).tmod 4001 - 2000) := by
        rcases hE with q | ⟨q, -⟩
        · exact q
        · exfalso; omega
      have e40n : (z40).toNat = t40 := by omega
      clear hE h40
      refine r_iload (pc' := 84) X 5 dL_earliest_82 rfl rfl ?_
      refine r_if_lt (pc' := 87) (tgt := 167) X dL_earliest_84 rfl rfl (by omega) (fun h84 => by exfalso; omega) (fun h84 => ?_)
      refine r_iload (pc' := 89) X 5 dL_earliest_87 rfl rfl ?_
      refine r_bipush (pc' := 91) X dL_earliest_89 rfl rfl ?_
      refine r_icmp_gt (pc' := 94) (tgt := 167) X dL_earliest_91 rfl rfl (by omega) (by omega) (fun h91 => by exfalso; omega) (fun h91 => ?_)
      refine r_aload_n (pc' := 95) X 0 dL_earliest_94 rfl rfl rfl ?_
      refine r_iload (pc' := 97) X 5 dL_earliest_95 rfl rfl ?_
      refine r_iload_n (pc' := 98) X 2 dL_earliest_97 rfl rfl rfl ?_
      refine r_iconst (pc' := 99) X dL_earliest_98 rfl ?_
      refine r_iload (pc' := 101) X 4 dL_earliest_99 rfl rfl ?_
      refine r_if_ne (pc' := 104) (tgt := 108) X dL_earliest_101 rfl rfl (by omega) (fun h101 => absurd h101 (by decide)) (fun h101 => ?_)
      refine r_iconst (pc' := 105) X dL_earliest_104 rfl ?_
      refine r_goto (tgt := 109) X dL_earliest_105 rfl ?_
      refine w_calli (pc' := 112) (st := []) (w_runSH X (c_L_tryAhead l G M1 hfl N P T qM1.ck (by have := qM1.t; omega) z40 ((x.tmod 13) - 6) 0 1 (by first | omega | assumption | decide) (by first | omega | assumption | decide) (by first | omega | assumption | decide) (by first | omega | assumption | decide)) cf_L_tryAhead gw_861 rfl rfl ⟨Nat.le_of_ble_eq_true rfl, Nat.le_of_ble_eq_true rfl⟩ rfl rfl (Nat.le_of_ble_eq_true rfl) ⟨by show _ ≤ 6; omega, by show _ ≤ 36; omega⟩ gw_860 dL_earliest_109) rfl (fun z109 M2 h109 => ?_)
      rcases h109 with h109 | h109 | h109
      rotate_left 1
      · exfalso
        have hd := h109.2.1; clear h109; omega
      · exfalso
        have hd := h109.2.1; clear h109; omega
      have hs109 := h109.2.2
      simp only [e0M1, e19M1] at h109
      have sM2 : ScrEq M M2 := sM1.trans (hs109)
      have qM2 := lo.scr sM2
      have e0M2 : M2 0 = M 0 := sM2.z0
      have e19M2 : M2 19 = M 19 := sM2.z19
      have hv109 : z109 = (itv N (M 19) (x.tmod 13 - 6) (M 0 0 8) (M 0 2) (M 0 3) (z40).toNat).2 0 := h109.2.1
      have hrr109 := hib (z40).toNat 0 (by omega)
      have hr109 : rI z109 := by
        have q := itv_rng (pv := M 19) (u := x.tmod 13 - 6) (B := M 0 0 8) (lo := M 0 2) (hi := M 0 3) (N := N) (fun i hi => lo.box hi) hbo.2.1.1 (z40).toNat 0 (by omega)
        omega
      rw [e40n] at hv109
      refine r_iload_n (pc' := 113) X 3 dL_earliest_112 rfl rfl rfl ?_
      refine r_icmp_lt (pc' := 116) (tgt := 167) X dL_earliest_113 rfl rfl (by omega) (by omega) (fun h113 => by exfalso; omega) (fun h113 => ?_)
      refine r_iload (pc' := 118) X 5 dL_earliest_116 rfl rfl ?_
      refine r_if_eq (pc' := 121) (tgt := 145) X dL_earliest_118 rfl rfl (by omega) (fun h118 => ?_) (fun h118 => ?_)
      · refine r_iload (pc' := 147) X 4 dL_earliest_145 rfl rfl ?_
        refine r_if_eq (pc' := 150) (tgt := 163) X dL_earliest_147 rfl rfl (by omega) (fun h147 => ?_) (fun h147 => absurd h147 (by decide))
        refine r_iconst (pc' := 164) X dL_earliest_163 rfl ?_
        refine r_goto (tgt := 168) X dL_earliest_164 rfl ?_
        refine w_widen (k' := 6) (n' := 36) (by omega) (by omega) ?_
        refine w_zret X hr (by decide) dL_earliest_168 ?_
        try dsimp only
        exact ⟨rfl, sM2⟩
      · refine r_aload_n (pc' := 122) X 0 dL_earliest_121 rfl rfl rfl ?_
        refine r_iload (pc' := 124) X 5 dL_earliest_122 rfl rfl ?_
        refine r_iconst (pc' := 125) X dL_earliest_124 rfl ?_
        refine r_isub (pc' := 126) X dL_earliest_125 rfl ?_
        refine r_iload_n (pc' := 127) X 2 dL_earliest_126 rfl rfl rfl ?_
        refine r_iconst (pc' := 128) X dL_earliest_127 rfl ?_
        refine r_iload (pc' := 130) X 4 dL_earliest_128 rfl rfl ?_
        refine r_if_ne (pc' := 133) (tgt := 137) X dL_earliest_130 rfl rfl (by omega) (fun h130 => absurd h130 (by decide)) (fun h130 => ?_)
        refine r_iconst (pc' := 134) X dL_earliest_133 rfl ?_
        refine r_goto (tgt := 138) X dL_earliest_134 rfl ?_
        refine w_calli (pc' := 141) (st := []) (w_runSH X (c_L_tryAhead l G M2 hfl N P T qM2.ck (by have := qM2.t; omega) (z40 - 1) ((x.tmod 13) - 6) 0 1 (by first | omega | assumption | decide) (by first | omega | assumption | decide) (by first | omega | assumption | decide) (by first | omega | assumption | decide)) cf_L_tryAhead gw_861 rfl rfl ⟨Nat.le_of_ble_eq_true rfl, Nat.le_of_ble_eq_true rfl⟩ rfl rfl (Nat.le_of_ble_eq_true rfl) ⟨by show _ ≤ 6; omega, by show _ ≤ 36; omega⟩ gw_860 dL_earliest_138) rfl (fun z138 M3 h138 => ?_)
        rcases h138 with h138 | h138 | h138
        rotate_left 1
        · exfalso
          have hd := h138.2.1; clear h138; omega
        · exfalso
          have hd := h138.2.1; clear h138; omega
        have hs138 := h138.2.2
        simp only [e0M2, e19M2] at h138
        have sM3 : ScrEq M M3 := sM2.trans (hs138)
        have qM3 := lo.scr sM3
        have e0M3 : M3 0 = M 0 := sM3.z0
        have e19M3 : M3 19 = M 19 := sM3.z19
        have hv138 : z138 = (itv N (M 19) (x.tmod 13 - 6) (M 0 0 8) (M 0 2) (M 0 3) ((z40 - 1)).toNat).2 0 := h138.2.1
        have hrr138 := hib ((z40 - 1)).toNat 0 (by omega)
        have hr138 : rI z138 := by
          have q := itv_rng (pv := M 19) (u := x.tmod 13 - 6) (B := M 0 0 8) (lo := M 0 2) (hi := M 0 3) (N := N) (fun i hi => lo.box hi) hbo.2.1.1 ((z40 - 1)).toNat 0 (by omega)
          omega
        rw [show (z40 - 1).toNat = t40 - 1 by omega] at hv138
        have q40e := q40d (t40 - 1) (by omega)
        refine r_iload_n (pc' := 142) X 3 dL_earliest_141 rfl rfl rfl ?_
        refine r_icmp_ge (pc' := 145) (tgt := 167) X dL_earliest_142 rfl rfl (by omega) (by omega) (fun h142 => by exfalso; omega) (fun h142 => ?_)
        refine r_iload (pc' := 147) X 4 dL_earliest_145 rfl rfl ?_
        refine r_if_eq (pc' := 150) (tgt := 163) X dL_earliest_147 rfl rfl (by omega) (fun h147 => ?_) (fun h147 => absurd h147 (by decide))
        refine r_iconst (pc' := 164) X dL_earliest_163 rfl ?_
        refine r_goto (tgt := 168) X dL_earliest_164 rfl ?_
        refine w_widen (k' := 6) (n' := 36) (by omega) (by omega) ?_
        refine w_zret X hr (by decide) dL_earliest_168 ?_
        try dsimp only
        exact ⟨rfl, sM3⟩
    · have hE1 : ∀ s, s ≤ 60 → (itv N (M 19) (x.tmod 13 - 6) (M 0 0 8) (M 0 2) (M 0 3) s).2 0 < ((x.tdiv 13).tmod 4001 - 2000) := by
        rcases hE with ⟨t, q1, q2, -⟩ | ⟨-, q⟩
        · exfalso; omega
        · exact q
      have hE2 := hE1 (x.tmod 61).toNat (by omega)
      clear hE h40
      refine r_aload_n (pc' := 53) X 0 dL_earliest_52 rfl rfl rfl ?_
      refine r_iload_n (pc' := 54) X 1 dL_earliest_53 rfl rfl rfl ?_
      refine r_bipush (pc' := 56) X dL_earliest_54 rfl rfl ?_
      refine r_irem (pc' := 57) X dL_earliest_56 (by omega) (by omega) (by omega) rfl ?_
      refine r_iload_n (pc' := 58) X 2 dL_earliest_57 rfl rfl rfl ?_
      refine r_iconst (pc' := 59) X dL_earliest_58 rfl ?_
      refine r_iload (pc' := 61) X 4 dL_earliest_59 rfl rfl ?_
      refine r_if_ne (pc' := 64) (tgt := 68) X dL_earliest_61 rfl rfl (by omega) (fun h61 => absurd h61 (by decide)) (fun h61 => ?_)
      refine r_iconst (pc' := 65) X dL_earliest_64 rfl ?_
      refine r_goto (tgt := 69) X dL_earliest_65 rfl ?_
      refine w_calli (pc' := 72) (st := []) (w_runSH X (c_L_tryAhead l G M1 hfl N P T qM1.ck (by have := qM1.t; omega) (x.tmod 61) ((x.tmod 13) - 6) 0 1 (by first | omega | assumption | decide) (by first | omega | assumption | decide) (by first | omega | assumption | decide) (by first | omega | assumption | decide)) cf_L_tryAhead gw_861 rfl rfl ⟨Nat.le_of_ble_eq_true rfl, Nat.le_of_ble_eq_true rfl⟩ rfl rfl (Nat.le_of_ble_eq_true rfl) ⟨by show _ ≤ 6; omega, by show _ ≤ 36; omega⟩ gw_860 dL_earliest_69) rfl (fun z69 M4 h69 => ?_)
      rcases h69 with h69 | h69 | h69
      rotate_left 1
      · exfalso
        have hd := h69.2.1; clear h69; omega
      · exfalso
        have hd := h69.2.1; clear h69; omega
      have hs69 := h69.2.2
      simp only [e0M1, e19M1] at h69
      have sM4 : ScrEq M M4 := sM1.trans (hs69)
      have qM4 := lo.scr sM4
      have e0M4 : M4 0 = M 0 := sM4.z0
      have e19M4 : M4 19 = M 19 := sM4.z19
      have hv69 : z69 = (itv N (M 19) (x.tmod 13 - 6) (M 0 0 8) (M 0 2) (M 0 3) ((x.tmod 61)).toNat).2 0 := h69.2.1
      have hrr69 := hib ((x.tmod 61)).toNat 0 (by omega)
      have hr69 : rI z69 := by
        have q := itv_rng (pv := M 19) (u := x.tmod 13 - 6) (B := M 0 0 8) (lo := M 0 2) (hi := M 0 3) (N := N) (fun i hi => lo.box hi) hbo.2.1.1 ((x.tmod 61)).toNat 0 (by omega)
        omega
      refine r_iload_n (pc' := 73) X 3 dL_earliest_72 rfl rfl rfl ?_
      refine r_icmp_ge (pc' := 76) (tgt := 80) X dL_earliest_73 rfl rfl (by omega) (by omega) (fun h73 => by exfalso; omega) (fun h73 => ?_)
      refine r_iconst (pc' := 77) X dL_earliest_76 rfl ?_
      refine r_goto (tgt := 81) X dL_earliest_77 rfl ?_
      refine w_widen (k' := 6) (n' := 36) (by omega) (by omega) ?_
      refine w_zret X hr (by decide) dL_earliest_81 ?_
      try dsimp only
      exact ⟨rfl, sM4⟩
  · refine r_iconst (pc' := 28) X dL_earliest_27 rfl ?_
    refine r_goto (tgt := 32) X dL_earliest_28 rfl ?_
    refine r_istore (pc' := 34) (lc' := [(0, vR G (28, 0)), (1, vI x), (2, vI ((x.tmod 13) - 6)), (3, vI (((x.tdiv 13).tmod 4001) - 2000)), (4, vI 1)]) X [1, 2, 3, 4, 0] dL_earliest_32 (by decide) rfl rfl ?_
    refine r_aload_n (pc' := 35) X 0 dL_earliest_34 rfl rfl rfl ?_
    refine r_iconst (pc' := 36) X dL_earliest_35 rfl ?_
    refine r_iload_n (pc' := 37) X 3 dL_earliest_36 rfl rfl rfl ?_
    refine r_iload_n (pc' := 38) X 2 dL_earliest_37 rfl rfl rfl ?_
    refine r_iload (pc' := 40) X 4 dL_earliest_38 rfl rfl ?_
    refine w_calli (pc' := 43) (st := []) (w_runSH X (c_L_tryEarliest l G M hfl N P T lo.ck (by have := lo.t; omega) 0 (((x.tdiv 13).tmod 4001) - 2000) ((x.tmod 13) - 6) 1 (by first | omega | assumption | decide) (by first | omega | assumption | decide) (by first | omega | assumption | decide) (by first | omega | assumption | decide)) cf_L_tryEarliest gw_869 rfl rfl ⟨Nat.le_of_ble_eq_true rfl, Nat.le_of_ble_eq_true rfl⟩ rfl rfl (Nat.le_of_ble_eq_true rfl) ⟨by show _ ≤ 6; omega, by show _ ≤ 36; omega⟩ gw_868 dL_earliest_40) rfl (fun z40 M5 h40 => ?_)
    rcases h40 with h40 | h40 | h40
    rotate_left 1
    · exfalso
      have hd := h40.2.1; clear h40; omega
    · exfalso
      have hd := h40.2.1; clear h40; omega
    have hs40 := h40.2.2
    have sM5 : ScrEq M M5 := hs40
    have qM5 := lo.scr sM5
    have e0M5 : M5 0 = M 0 := sM5.z0
    have e19M5 : M5 19 = M 19 := sM5.z19
    have hE : (∃ t : Nat, t ≤ 60 ∧ z40 = t ∧ ((x.tdiv 13).tmod 4001 - 2000) ≤ (itv N (M 19) (x.tmod 13 - 6) (M 0 0 8) (M 0 2) (M 0 3) t).1 0 ∧ ∀ s, s < t → (itv N (M 19) (x.tmod 13 - 6) (M 0 0 8) (M 0 2) (M 0 3) s).1 0 < ((x.tdiv 13).tmod 4001 - 2000)) ∨ (z40 = -9 ∧ ∀ s, s ≤ 60 → (itv N (M 19) (x.tmod 13 - 6) (M 0 0 8) (M 0 2) (M 0 3) s).1 0 < ((x.tdiv 13).tmod 4001 - 2000)) := h40.2.1
    have hz40 : -9 ≤ z40 ∧ z40 ≤ 60 := by rcases hE with ⟨t, q1, q2, -⟩ | ⟨q, -⟩ <;> omega
    refine r_istore (pc' := 45) (lc' := [(0, vR G (28, 0)), (1, vI x), (2, vI ((x.tmod 13) - 6)), (3, vI (((x.tdiv 13).tmod 4001) - 2000)), (4, vI 1), (5, vI z40)]) X [1, 2, 3, 4, 5, 0] dL_earliest_43 (by decide) rfl rfl ?_
    refine r_iload (pc' := 47) X 5 dL_earliest_45 rfl rfl ?_
    refine r_bipush (pc' := 49) X dL_earliest_47 rfl rfl ?_
    refine r_icmp_ne (pc' := 52) (tgt := 82) X dL_earliest_49 rfl rfl (by omega) (by omega) (fun h49 => ?_) (fun h49 => ?_)
    · obtain ⟨t40, q40a, q40b, q40c, q40d⟩ : ∃ t : Nat, t ≤ 60 ∧ z40 = t ∧ ((x.tdiv 13).tmod 4001 - 2000) ≤ (itv N (M 19) (x.tmod 13 - 6) (M 0 0 8) (M 0 2) (M 0 3) t).1 0 ∧ ∀ s, s < t → (itv N (M 19) (x.tmod 13 - 6) (M 0 0 8) (M 0 2) (M 0 3) s).1 0 < ((x.tdiv 13).tmod 4001 - 2000) := by
        rcases hE with q | ⟨q, -⟩
        · exact q
        · exfalso; omega
      have e40n : (z40).toNat = t40 := by omega
      clear hE h40
      refine r_iload (pc' := 84) X 5 dL_earliest_82 rfl rfl ?_
      refine r_if_lt (pc' := 87) (tgt := 167) X dL_earliest_84 rfl rfl (by omega) (fun h84 => by exfalso; omega) (fun h84 => ?_)
      refine r_iload (pc' := 89) X 5 dL_earliest_87 rfl rfl ?_
      refine r_bipush (pc' := 91) X dL_earliest_89 rfl rfl ?_
      refine r_icmp_gt (pc' := 94) (tgt := 167) X dL_earliest_91 rfl rfl (by omega) (by omega) (fun h91 => by exfalso; omega) (fun h91 => ?_)
      refine r_aload_n (pc' := 95) X 0 dL_earliest_94 rfl rfl rfl ?_
      refine r_iload (pc' := 97) X 5 dL_earliest_95 rfl rfl ?_
      refine r_iload_n (pc' := 98) X 2 dL_earliest_97 rfl rfl rfl ?_
      refine r_iconst (pc' := 99) X dL_earliest_98 rfl ?_
      refine r_iload (pc' := 101) X 4 dL_earliest_99 rfl rfl ?_
      refine r_if_ne (pc' := 104) (tgt := 108) X dL_earliest_101 rfl rfl (by omega) (fun h101 => ?_) (fun h101 => absurd h101 (by decide))
      refine r_iconst (pc' := 109) X dL_earliest_108 rfl ?_
      refine w_calli (pc' := 112) (st := []) (w_runSH X (c_L_tryAhead l G M5 hfl N P T qM5.ck (by have := qM5.t; omega) z40 ((x.tmod 13) - 6) 0 0 (by first | omega | assumption | decide) (by first | omega | assumption | decide) (by first | omega | assumption | decide) (by first | omega | assumption | decide)) cf_L_tryAhead gw_861 rfl rfl ⟨Nat.le_of_ble_eq_true rfl, Nat.le_of_ble_eq_true rfl⟩ rfl rfl (Nat.le_of_ble_eq_true rfl) ⟨by show _ ≤ 6; omega, by show _ ≤ 36; omega⟩ gw_860 dL_earliest_109) rfl (fun z109 M6 h109 => ?_)
      rcases h109 with h109 | h109 | h109
      rotate_left 1
      · exfalso
        have hd := h109.2.1; clear h109; omega
      · exfalso
        have hd := h109.2.1; clear h109; omega
      have hs109 := h109.2.2
      simp only [e0M5, e19M5] at h109
      have sM6 : ScrEq M M6 := sM5.trans (hs109)
      have qM6 := lo.scr sM6
      have e0M6 : M6 0 = M 0 := sM6.z0
      have e19M6 : M6 19 = M 19 := sM6.z19
      have hv109 : z109 = (itv N (M 19) (x.tmod 13 - 6) (M 0 0 8) (M 0 2) (M 0 3) (z40).toNat).1 0 := h109.2.1
      have hrr109 := hib (z40).toNat 0 (by omega)
      have hr109 : rI z109 := by
        have q := itv_rng (pv := M 19) (u := x.tmod 13 - 6) (B := M 0 0 8) (lo := M 0 2) (hi := M 0 3) (N := N) (fun i hi => lo.box hi) hbo.2.1.1 (z40).toNat 0 (by omega)
        omega
      rw [e40n] at hv109
      refine r_iload_n (pc' := 113) X 3 dL_earliest_112 rfl rfl rfl ?_
      refine r_icmp_lt (pc' := 116) (tgt := 167) X dL_earliest_113 rfl rfl (by omega) (by omega) (fun h113 => by exfalso; omega) (fun h113 => ?_)
      refine r_iload (pc' := 118) X 5 dL_earliest_116 rfl rfl ?_
      refine r_if_eq (pc' := 121) (tgt := 145) X dL_earliest_118 rfl rfl (by omega) (fun h118 => ?_) (fun h118 => ?_)
      · refine r_iload (pc' := 147) X 4 dL_earliest_145 rfl rfl ?_
        refine r_if_eq (pc' := 150) (tgt := 163) X dL_earliest_147 rfl rfl (by omega) (fun h147 => absurd h147 (by decide)) (fun h147 => ?_)
        refine r_aload_n (pc' := 151) X 0 dL_earliest_150 rfl rfl rfl ?_
        refine r_iconst (pc' := 152) X dL_earliest_151 rfl ?_
        refine r_iload_n (pc' := 153) X 3 dL_earliest_152 rfl rfl rfl ?_
        refine r_iload_n (pc' := 154) X 2 dL_earliest_153 rfl rfl rfl ?_
        refine r_iconst (pc' := 155) X dL_earliest_154 rfl ?_
        refine w_calli (pc' := 158) (st := []) (w_runSH X (c_L_tryEarliest l G M6 hfl N P T qM6.ck (by have := qM6.t; omega) 0 (((x.tdiv 13).tmod 4001) - 2000) ((x.tmod 13) - 6) 0 (by first | omega | assumption | decide) (by first | omega | assumption | decide) (by first | omega | assumption | decide) (by first | omega | assumption | decide)) cf_L_tryEarliest gw_869 rfl rfl ⟨Nat.le_of_ble_eq_true rfl, Nat.le_of_ble_eq_true rfl⟩ rfl rfl (Nat.le_of_ble_eq_true rfl) ⟨by show _ ≤ 6; omega, by show _ ≤ 36; omega⟩ gw_868 dL_earliest_155) rfl (fun z155 M7 h155 => ?_)
        rcases h155 with h155 | h155 | h155
        rotate_left 1
        · exfalso
          have hd := h155.2.1; clear h155; omega
        · exfalso
          have hd := h155.2.1; clear h155; omega
        have hs155 := h155.2.2
        simp only [e0M6, e19M6] at h155
        have sM7 : ScrEq M M7 := sM6.trans (hs155)
        have qM7 := lo.scr sM7
        have e0M7 : M7 0 = M 0 := sM7.z0
        have e19M7 : M7 19 = M 19 := sM7.z19
        have hF : (∃ t : Nat, t ≤ 60 ∧ z155 = t ∧ ((x.tdiv 13).tmod 4001 - 2000) ≤ (itv N (M 19) (x.tmod 13 - 6) (M 0 0 8) (M 0 2) (M 0 3) t).2 0 ∧ ∀ s, s < t → (itv N (M 19) (x.tmod 13 - 6) (M 0 0 8) (M 0 2) (M 0 3) s).2 0 < ((x.tdiv 13).tmod 4001 - 2000)) ∨ (z155 = -9 ∧ ∀ s, s ≤ 60 → (itv N (M 19) (x.tmod 13 - 6) (M 0 0 8) (M 0 2) (M 0 3) s).2 0 < ((x.tdiv 13).tmod 4001 - 2000)) := h155.2.1
        have hz155 : -9 ≤ z155 ∧ z155 ≤ 60 := by rcases hF with ⟨t, q1, q2, -⟩ | ⟨q, -⟩ <;> omega
        have hu := hib t40 0 (by omega)
        have hle : z155 ≤ z40 := by
          rcases hF with ⟨t, q1, q2, q3, q4⟩ | ⟨q, q2⟩
          · rcases Nat.lt_or_ge t40 t with w | w
            · have := q4 t40 w; omega
            · omega
          · omega
        refine r_iload (pc' := 160) X 5 dL_earliest_158 rfl rfl ?_
        refine r_icmp_gt (pc' := 163) (tgt := 167) X dL_earliest_160 rfl rfl (by omega) (by omega) (fun h160 => by exfalso; omega) (fun h160 => ?_)
        refine r_iconst (pc' := 164) X dL_earliest_163 rfl ?_
        refine r_goto (tgt := 168) X dL_earliest_164 rfl ?_
        refine w_widen (k' := 6) (n' := 36) (by omega) (by omega) ?_
        refine w_zret X hr (by decide) dL_earliest_168 ?_
        try dsimp only
        exact ⟨rfl, sM7⟩
      · refine r_aload_n (pc' := 122) X 0 dL_earliest_121 rfl rfl rfl ?_
        refine r_iload (pc' := 124) X 5 dL_earliest_122 rfl rfl ?_
        refine r_iconst (pc' := 125) X dL_earliest_124 rfl ?_
        refine r_isub (pc' := 126) X dL_earliest_125 rfl ?_
        refine r_iload_n (pc' := 127) X 2 dL_earliest_126 rfl rfl rfl ?_
        refine r_iconst (pc' := 128) X dL_earliest_127 rfl ?_
        refine r_iload (pc' := 130) X 4 dL_earliest_128 rfl rfl ?_
        refine r_if_ne (pc' := 133) (tgt := 137) X dL_earliest_130 rfl rfl (by omega) (fun h130 => ?_) (fun h130 => absurd h130 (by decide))
        refine r_iconst (pc' := 138) X dL_earliest_137 rfl ?_
        refine w_calli (pc' := 141) (st := []) (w_runSH X (c_L_tryAhead l G M6 hfl N P T qM6.ck (by have := qM6.t; omega) (z40 - 1) ((x.tmod 13) - 6) 0 0 (by first | omega | assumption | decide) (by first | omega | assumption | decide) (by first | omega | assumption | decide) (by first | omega | assumption | decide)) cf_L_tryAhead gw_861 rfl rfl ⟨Nat.le_of_ble_eq_true rfl, Nat.le_of_ble_eq_true rfl⟩ rfl rfl (Nat.le_of_ble_eq_true rfl) ⟨by show _ ≤ 6; omega, by show _ ≤ 36; omega⟩ gw_860 dL_earliest_138) rfl (fun z138 M8 h138 => ?_)
        rcases h138 with h138 | h138 | h138
        rotate_left 1
        · exfalso
          have hd := h138.2.1; clear h138; omega
        · exfalso
          have hd := h138.2.1; clear h138; omega
        have hs138 := h138.2.2
        simp only [e0M6, e19M6] at h138
        have sM8 : ScrEq M M8 := sM6.trans (hs138)
        have qM8 := lo.scr sM8
        have e0M8 : M8 0 = M 0 := sM8.z0
        have e19M8 : M8 19 = M 19 := sM8.z19
        have hv138 : z138 = (itv N (M 19) (x.tmod 13 - 6) (M 0 0 8) (M 0 2) (M 0 3) ((z40 - 1)).toNat).1 0 := h138.2.1
        have hrr138 := hib ((z40 - 1)).toNat 0 (by omega)
        have hr138 : rI z138 := by
          have q := itv_rng (pv := M 19) (u := x.tmod 13 - 6) (B := M 0 0 8) (lo := M 0 2) (hi := M 0 3) (N := N) (fun i hi => lo.box hi) hbo.2.1.1 ((z40 - 1)).toNat 0 (by omega)
          omega
        rw [show (z40 - 1).toNat = t40 - 1 by omega] at hv138
        have q40e := q40d (t40 - 1) (by omega)
        refine r_iload_n (pc' := 142) X 3 dL_earliest_141 rfl rfl rfl ?_
        refine r_icmp_ge (pc' := 145) (tgt := 167) X dL_earliest_142 rfl rfl (by omega) (by omega) (fun h142 => by exfalso; omega) (fun h142 => ?_)
        refine r_iload (pc' := 147) X 4 dL_earliest_145 rfl rfl ?_
        refine r_if_eq (pc' := 150) (tgt := 163) X dL_earliest_147 rfl rfl (by omega) (fun h147 => absurd h147 (by decide)) (fun h147 => ?_)
        refine r_aload_n (pc' := 151) X 0 dL_earliest_150 rfl rfl rfl ?_
        refine r_iconst (pc' := 152) X dL_earliest_151 rfl ?_
        refine r_iload_n (pc' := 153) X 3 dL_earliest_152 rfl rfl rfl ?_
        refine r_iload_n (pc' := 154) X 2 dL_earliest_153 rfl rfl rfl ?_
        refine r_iconst (pc' := 155) X dL_earliest_154 rfl ?_
        refine w_calli (pc' := 158) (st := []) (w_runSH X (c_L_tryEarliest l G M8 hfl N P T qM8.ck (by have := qM8.t; omega) 0 (((x.tdiv 13).tmod 4001) - 2000) ((x.tmod 13) - 6) 0 (by first | omega | assumption | decide) (by first | omega | assumption | decide) (by first | omega | assumption | decide) (by first | omega | assumption | decide)) cf_L_tryEarliest gw_869 rfl rfl ⟨Nat.le_of_ble_eq_true rfl, Nat.le_of_ble_eq_true rfl⟩ rfl rfl (Nat.le_of_ble_eq_true rfl) ⟨by show _ ≤ 6; omega, by show _ ≤ 36; omega⟩ gw_868 dL_earliest_155) rfl (fun z155 M9 h155 => ?_)
        rcases h155 with h155 | h155 | h155
        rotate_left 1
        · exfalso
          have hd := h155.2.1; clear h155; omega
        · exfalso
          have hd := h155.2.1; clear h155; omega
        have hs155 := h155.2.2
        simp only [e0M8, e19M8] at h155
        have sM9 : ScrEq M M9 := sM8.trans (hs155)
        have qM9 := lo.scr sM9
        have e0M9 : M9 0 = M 0 := sM9.z0
        have e19M9 : M9 19 = M 19 := sM9.z19
        have hF : (∃ t : Nat, t ≤ 60 ∧ z155 = t ∧ ((x.tdiv 13).tmod 4001 - 2000) ≤ (itv N (M 19) (x.tmod 13 - 6) (M 0 0 8) (M 0 2) (M 0 3) t).2 0 ∧ ∀ s, s < t → (itv N (M 19) (x.tmod 13 - 6) (M 0 0 8) (M 0 2) (M 0 3) s).2 0 < ((x.tdiv 13).tmod 4001 - 2000)) ∨ (z155 = -9 ∧ ∀ s, s ≤ 60 → (itv N (M 19) (x.tmod 13 - 6) (M 0 0 8) (M 0 2) (M 0 3) s).2 0 < ((x.tdiv 13).tmod 4001 - 2000)) := h155.2.1
        have hz155 : -9 ≤ z155 ∧ z155 ≤ 60 := by rcases hF with ⟨t, q1, q2, -⟩ | ⟨q, -⟩ <;> omega
        have hu := hib t40 0 (by omega)
        have hle : z155 ≤ z40 := by
          rcases hF with ⟨t, q1, q2, q3, q4⟩ | ⟨q, q2⟩
          · rcases Nat.lt_or_ge t40 t with w | w
            · have := q4 t40 w; omega
            · omega
          · omega
        refine r_iload (pc' := 160) X 5 dL_earliest_158 rfl rfl ?_
        refine r_icmp_gt (pc' := 163) (tgt := 167) X dL_earliest_160 rfl rfl (by omega) (by omega) (fun h160 => by exfalso; omega) (fun h160 => ?_)
        refine r_iconst (pc' := 164) X dL_earliest_163 rfl ?_
        refine r_goto (tgt := 168) X dL_earliest_164 rfl ?_
        refine w_widen (k' := 6) (n' := 36) (by omega) (by omega) ?_
        refine w_zret X hr (by decide) dL_earliest_168 ?_
        try dsimp only
        exact ⟨rfl, sM9⟩
    · have hE1 : ∀ s, s ≤ 60 → (itv N (M 19) (x.tmod 13 - 6) (M 0 0 8) (M 0 2) (M 0 3) s).1 0 < ((x.tdiv 13).tmod 4001 - 2000) := by
        rcases hE with ⟨t, q1, q2, -⟩ | ⟨-, q⟩
        · exfalso; omega
        · exact q
      have hE2 := hE1 (x.tmod 61).toNat (by omega)
      clear hE h40
      refine r_aload_n (pc' := 53) X 0 dL_earliest_52 rfl rfl rfl ?_
      refine r_iload_n (pc' := 54) X 1 dL_earliest_53 rfl rfl rfl ?_
      refine r_bipush (pc' := 56) X dL_earliest_54 rfl rfl ?_
      refine r_irem (pc' := 57) X dL_earliest_56 (by omega) (by omega) (by omega) rfl ?_
      refine r_iload_n (pc' := 58) X 2 dL_earliest_57 rfl rfl rfl ?_
      refine r_iconst (pc' := 59) X dL_earliest_58 rfl ?_
      refine r_iload (pc' := 61) X 4 dL_earliest_59 rfl rfl ?_
      refine r_if_ne (pc' := 64) (tgt := 68) X dL_earliest_61 rfl rfl (by omega) (fun h61 => ?_) (fun h61 => absurd h61 (by decide))
      refine r_iconst (pc' := 69) X dL_earliest_68 rfl ?_
      refine w_calli (pc' := 72) (st := []) (w_runSH X (c_L_tryAhead l G M5 hfl N P T qM5.ck (by have := qM5.t; omega) (x.tmod 61) ((x.tmod 13) - 6) 0 0 (by first | omega | assumption | decide) (by first | omega | assumption | decide) (by first | omega | assumption | decide) (by first | omega | assumption | decide)) cf_L_tryAhead gw_861 rfl rfl ⟨Nat.le_of_ble_eq_true rfl, Nat.le_of_ble_eq_true rfl⟩ rfl rfl (Nat.le_of_ble_eq_true rfl) ⟨by show _ ≤ 6; omega, by show _ ≤ 36; omega⟩ gw_860 dL_earliest_69) rfl (fun z69 M10 h69 => ?_)
      rcases h69 with h69 | h69 | h69
      rotate_left 1
      · exfalso
        have hd := h69.2.1; clear h69; omega
      · exfalso
        have hd := h69.2.1; clear h69; omega
      have hs69 := h69.2.2
      simp only [e0M5, e19M5] at h69
      have sM10 : ScrEq M M10 := sM5.trans (hs69)
      have qM10 := lo.scr sM10
      have e0M10 : M10 0 = M 0 := sM10.z0
      have e19M10 : M10 19 = M 19 := sM10.z19
      have hv69 : z69 = (itv N (M 19) (x.tmod 13 - 6) (M 0 0 8) (M 0 2) (M 0 3) ((x.tmod 61)).toNat).1 0 := h69.2.1
      have hrr69 := hib ((x.tmod 61)).toNat 0 (by omega)
      have hr69 : rI z69 := by
        have q := itv_rng (pv := M 19) (u := x.tmod 13 - 6) (B := M 0 0 8) (lo := M 0 2) (hi := M 0 3) (N := N) (fun i hi => lo.box hi) hbo.2.1.1 ((x.tmod 61)).toNat 0 (by omega)
        omega
      refine r_iload_n (pc' := 73) X 3 dL_earliest_72 rfl rfl rfl ?_
      refine r_icmp_ge (pc' := 76) (tgt := 80) X dL_earliest_73 rfl rfl (by omega) (by omega) (fun h73 => by exfalso; omega) (fun h73 => ?_)
      refine r_iconst (pc' := 77) X dL_earliest_76 rfl ?_
      refine r_goto (tgt := 81) X dL_earliest_77 rfl ?_
      refine w_widen (k' := 6) (n' := 36) (by omega) (by omega) ?_
      refine w_zret X hr (by decide) dL_earliest_81 ?_
      try dsimp only
      exact ⟨rfl, sM10⟩
