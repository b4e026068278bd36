theorem cf_X8_commonDivisor : wCal yX8_commonDivisor cX8_commonDivisor 3 (some .int) 2 := ⟨gw_923, gw_1, by decide, by decide, by rfl⟩
set_option maxRecDepth 100000 in
set_option maxHeartbeats 4000000 in
theorem c_X8_commonDivisor (l : Launch) (G : wG) (M : wM) (a b : Int) (ha : -99 ≤ a ∧ a ≤ 99) (hb : -99 ≤ b ∧ b ≤ 99) (hab : ¬ (a = 0 ∧ b = 0)) : Met l yX8_commonDivisor (gws yX8_commonDivisor cX8_commonDivisor 3 (some .int)) (wrm 0 0 0) (wPc G M [vI a, vI b]) (wQi G (fun z M1 => z = (Int.gcd a b : Int) ∧ M1 = M)) 0 0 (wA G) := by
  refine wMet (lc := [(0, vI a), (1, vI b)]) (by decide) (Nat.le_of_ble_eq_true rfl) rfl ?_
  intro p e s m args below meth c X hr
  have X : wX p s m args meth c G 3 "StateObserver" cX8_commonDivisor := X
  refine r_bipush (pc' := 2) X dX8_commonDivisor_0 rfl rfl ?_
  refine r_istore_n (pc' := 3) (lc' := [(0, vI a), (1, vI b), (2, vI 99)]) X [1, 2, 0] dX8_commonDivisor_2 rfl (by decide) rfl rfl ?_
  have L3 : ∀ (fu : Nat) (g : Nat), g < fu → (1 ≤ g ∧ g ≤ 99) → (∀ d : Nat, g < d → d ≤ 99 → ¬ (a.tmod d = 0 ∧ b.tmod d = 0)) → wV p l e (wrm 0 0 0) s m args below meth c G 3 M 0 0 (MQ below (wQi G (fun z M1 => z = (Int.gcd a b : Int) ∧ M1 = M)) args s 0 0 (wA G)) 3 [(0, vI a), (1, vI b), (2, vI (g : Int))] [] := by
    intro fu
    induction fu with
    | zero => intro g hfu; exact absurd hfu (Nat.not_lt_zero _)
    | succ fu ih3 =>
      intro g hfu3 hg hd
      refine r_iload_n (pc' := 4) X 2 dX8_commonDivisor_3 rfl rfl rfl ?_
      refine r_iconst (pc' := 5) X dX8_commonDivisor_4 rfl ?_
      refine r_icmp_le (pc' := 8) (tgt := 28) X dX8_commonDivisor_5 rfl rfl (by omega) (by omega) (fun h5 => ?_) (fun h5 => ?_)
      · refine r_iconst (pc' := 29) X dX8_commonDivisor_28 rfl ?_
        refine w_iret X hr dX8_commonDivisor_29 ?_
        try dsimp only
        obtain rfl : g = 1 := by omega
        exact ⟨(gcd_at (by omega) (by omega) hab (Nat.le_refl 1) ⟨Int.tmod_one a, Int.tmod_one b⟩ hd).symm, rfl⟩
      · refine r_iload_n (pc' := 9) X 0 dX8_commonDivisor_8 rfl rfl rfl ?_
        refine r_iload_n (pc' := 10) X 2 dX8_commonDivisor_9 rfl rfl rfl ?_
        have q1 := tmod_bd (a := a) (b := (g : Int)) (by omega)
        refine r_irem (pc' := 11) X dX8_commonDivisor_10 (by omega) (by omega) (by omega) rfl ?_
        refine r_if_ne (pc' := 14) (tgt := 22) X dX8_commonDivisor_11 rfl rfl (by omega) (fun h11 => ?_) (fun h11 => ?_)
        · refine r_iinc (pc' := 25) (z' := ((g - 1 : Nat) : Int)) (lc' := [(0, vI a), (1, vI b), (2, vI ((g - 1 : Nat) : Int))]) X 2 [1, 2, 0] dX8_commonDivisor_22 rfl (by omega) (by decide) rfl rfl ?_
          refine r_goto (tgt := 3) X dX8_commonDivisor_25 rfl ?_
          exact ih3 (g - 1) (by omega) (by omega) (fun d h1 h2 h3 => by rcases Nat.lt_or_ge g d with q | q; exact hd d q h2 h3; rw [show d = g by omega] at h3; omega)
        · refine r_iload_n (pc' := 15) X 1 dX8_commonDivisor_14 rfl rfl rfl ?_
          refine r_iload_n (pc' := 16) X 2 dX8_commonDivisor_15 rfl rfl rfl ?_
          have q2 := tmod_bd (a := b) (b := (g : Int)) (by omega)
          refine r_irem (pc' := 17) X dX8_commonDivisor_16 (by omega) (by omega) (by omega) rfl ?_
          refine r_if_ne (pc' := 20) (tgt := 22) X dX8_commonDivisor_17 rfl rfl (by omega) (fun h17 => ?_) (fun h17 => ?_)
          · refine r_iinc (pc' := 25) (z' := ((g - 1 : Nat) : Int)) (lc' := [(0, vI a), (1, vI b), (2, vI ((g - 1 : Nat) : Int))]) X 2 [1, 2, 0] dX8_commonDivisor_22 rfl (by omega) (by decide) rfl rfl ?_
            refine r_goto (tgt := 3) X dX8_commonDivisor_25 rfl ?_
            exact ih3 (g - 1) (by omega) (by omega) (fun d h1 h2 h3 => by rcases Nat.lt_or_ge g d with q | q; exact hd d q h2 h3; rw [show d = g by omega] at h3; omega)
          · refine r_iload_n (pc' := 21) X 2 dX8_commonDivisor_20 rfl rfl rfl ?_
            refine w_iret X hr dX8_commonDivisor_21 ?_
            try dsimp only
            exact ⟨(gcd_at (by omega) (by omega) hab hg.1 ⟨by omega, by omega⟩ hd).symm, rfl⟩
  exact L3 ((99) + 1) 99 (Nat.lt_succ_self _) (by omega) (fun d h1 h2 => absurd h1 (by omega))
theorem cf_X3_putCombination : wCal yX3_putCombination cX3_putCombination 6 none 2 := ⟨gw_920, gw_2, by decide, by decide, by rfl⟩
set_option maxRecDepth 100000 in
set_option maxHeartbeats 4000000 in
theorem c_X3_putCombination (l : Launch) (G : wG) (M : wM) (op N P q : Nat) (hop : op = 19 ∨ op = 20) (hp : PlOk (M op) N P) (hq : if (firstE (M op 7) N 0) = -1 then q < N else q + 1 < N) : Met l yX3_putCombination (gws yX3_putCombination cX3_putCombination 6 none) (wrm 1 0 0) (wPc G M [vR G (op, 0), vI (q : Int), vR G (28, 1)]) (wQv G (fun M1 => (∀ a b, ¬ (a = 28 ∧ b = 1) → M1 a b = M a b) ∧ ∀ i, i < 4 → M1 28 1 i = combF (M op 7) N q i)) 0 0 (wA G) := by
  refine wMet (lc := [(0, vR G (op, 0)), (1, vI (q : Int)), (2, vR G (28, 1))]) (by decide) (Nat.le_of_ble_eq_true rfl) rfl ?_
  intro p e s m args below meth c X hr
  have X : wX p s m args meth c G 6 "StateObserver$Plant" cX3_putCombination := X
  obtain ⟨hN, hN1, hN4, hP, hP1, hP3, hA, hB, hE, hC, hQ⟩ := id hp
  have hfe := firstE_bd (M op 7) N 0
  have hfr := firstE_rng (M op 7) N
  have hqN : q < N := by split at hq <;> omega
  refine r_aload_n (pc' := 1) X 0 dX3_putCombination_0 rfl rfl rfl ?_
  refine w_calli (pc' := 4) (st := []) (w_runV X (c_X3_firstActedOn l G M op N P hop hp) cf_X3_firstActedOn (kP_0 hop) rfl gw_913 gw_914 rfl rfl ⟨Nat.le_of_ble_eq_true rfl, Nat.le_of_ble_eq_true rfl⟩ rfl rfl (Nat.le_of_ble_eq_true rfl) ⟨Nat.le_of_ble_eq_true rfl, Nat.le_of_ble_eq_true rfl⟩ gw_912 dX3_putCombination_1) rfl (fun z1 M1 h1 => ?_)
  obtain rfl := h1.1.symm
  obtain rfl := h1.2.symm
  refine r_istore_n (pc' := 5) (lc' := [(0, vR G (op, 0)), (1, vI (q : Int)), (2, vR G (28, 1)), (3, vI ((firstE (M op 7) N 0)))]) X [1, 2, 3, 0] dX3_putCombination_4 rfl (by decide) rfl rfl ?_
  refine r_iconst (pc' := 6) X dX3_putCombination_5 rfl ?_
  refine r_istore (pc' := 8) (lc' := [(0, vR G (op, 0)), (1, vI (q : Int)), (2, vR G (28, 1)), (3, vI ((firstE (M op 7) N 0))), (4, vI 0)]) X [1, 2, 3, 4, 0] dX3_putCombination_6 (by decide) rfl rfl ?_
  have L8 : ∀ (fu : Nat) (j : Nat) (Ma : wM), 4 - j < fu → (j ≤ 4) → (∀ a b, ¬ (a = 28 ∧ b = 1) → Ma a b = M a b) → (∀ x, x < j → Ma 28 1 x = 0) → wV p l e (wrm 1 0 0) s m args below meth c G 6 Ma 0 0 (MQ below (wQv G (fun M1 => (∀ a b, ¬ (a = 28 ∧ b = 1) → M1 a b = M a b) ∧ ∀ i, i < 4 → M1 28 1 i = combF (M op 7) N q i)) args s 0 0 (wA G)) 8 [(0, vR G (op, 0)), (1, vI (q : Int)), (2, vR G (28, 1)), (3, vI ((firstE (M op 7) N 0))), (4, vI (j : Int))] [] := by
    intro fu
    induction fu with
    | zero => intro j Ma hfu; exact absurd hfu (Nat.not_lt_zero _)
    | succ fu ih8 =>
      intro j Ma hfu8 hj hfm hz
      refine r_iload (pc' := 10) X 4 dX3_putCombination_8 rfl rfl ?_
      refine r_iconst (pc' := 11) X dX3_putCombination_10 rfl ?_
      refine r_icmp_ge (pc' := 14) (tgt := 25) X dX3_putCombination_11 rfl rfl (by omega) (by omega) (fun h11 => ?_) (fun h11 => ?_)
      · refine r_iload_n (pc' := 26) X 3 dX3_putCombination_25 rfl rfl rfl ?_
        refine r_iconst (pc' := 27) X dX3_putCombination_26 rfl ?_
        refine r_icmp_ne (pc' := 30) (tgt := 35) X dX3_putCombination_27 rfl rfl (by omega) (by omega) (fun h27 => ?_) (fun h27 => ?_)
        · obtain ⟨t, het⟩ : ∃ t : Nat, firstE (M op 7) N 0 = (t : Int) := ⟨(firstE (M op 7) N 0).toNat, by omega⟩
          have h7 : Ma op 7 = M op 7 := hfm op 7 (by omega)
          have hq2 : q + 1 < N := by rw [if_neg (by omega)] at hq; exact hq
          have hEt := hE t (by omega)
          have hEa : -99 ≤ Ma op 7 t ∧ Ma op 7 t ≤ 99 := by rw [h7]; exact hEt
          have ht0 : M op 7 t ≠ 0 := by rcases hfe with ⟨h, -⟩ | ⟨x, h, -, -, h2, -⟩; omega; rw [show t = x by omega]; exact h2
          refine r_iload_n (pc' := 36) X 1 dX3_putCombination_35 rfl rfl rfl ?_
          refine r_iload_n (pc' := 37) X 3 dX3_putCombination_36 rfl rfl rfl ?_
          refine r_icmp_ge (pc' := 40) (tgt := 44) X dX3_putCombination_37 rfl rfl (by omega) (by omega) (fun h37 => ?_) (fun h37 => ?_)
          · refine r_iload_n (pc' := 45) X 1 dX3_putCombination_44 rfl rfl rfl ?_
            refine r_iconst (pc' := 46) X dX3_putCombination_45 rfl ?_
            refine r_iadd (pc' := 47) X dX3_putCombination_46 rfl ?_
            refine w_eqI (z' := ((q + 1 : Nat) : Int)) (by omega) ?_
            refine r_istore (pc' := 49) (lc' := [(0, vR G (op, 0)), (1, vI (q : Int)), (2, vR G (28, 1)), (3, vI ((firstE (M op 7) N 0))), (4, vI ((q + 1 : Nat) : Int))]) X [1, 2, 3, 4, 0] dX3_putCombination_47 (by decide) rfl rfl ?_
            refine r_aload_n (pc' := 50) X 0 dX3_putCombination_49 rfl rfl rfl ?_
            refine gf_P_e (pc' := 53) X hop gw_53 dX3_putCombination_50 rfl ?_
            refine r_iload (pc' := 55) X 4 dX3_putCombination_53 rfl rfl ?_
            refine r_iald (i := (q + 1)) (pc' := 56) X (kP_7 hop) (by omega) (by omega) (by decide) dX3_putCombination_55 rfl ?_
            refine r_aload_n (pc' := 57) X 0 dX3_putCombination_56 rfl rfl rfl ?_
            refine gf_P_e (pc' := 60) X hop gw_53 dX3_putCombination_57 rfl ?_
            refine r_iload_n (pc' := 61) X 3 dX3_putCombination_60 rfl rfl rfl ?_
            refine r_iald (i := t) (pc' := 62) X (kP_7 hop) (by omega) (by omega) (by decide) dX3_putCombination_61 rfl ?_
            refine w_calli (pc' := 65) (st := []) (w_runSN X (c_X8_commonDivisor l G Ma (Ma op 7 (q + 1)) (Ma op 7 t) (by rw [h7]; have := hE (q + 1) (by omega); omega) (by rw [h7]; omega) (by rw [h7]; exact fun h => ht0 h.2)) cf_X8_commonDivisor gw_922 rfl rfl ⟨Nat.le_of_ble_eq_true rfl, Nat.le_of_ble_eq_true rfl⟩ rfl rfl (Nat.le_of_ble_eq_true rfl) ⟨Nat.le_of_ble_eq_true rfl, Nat.le_of_ble_eq_true rfl⟩ tn_921 dX3_putCombination_62) rfl (fun z62 M2 h62 => ?_)
            obtain rfl := h62.1.symm
            obtain rfl := h62.2.symm
            have hg1 : 1 ≤ Int.gcd (M op 7 (q + 1)) (M op 7 t) := by
              rcases Nat.eq_zero_or_pos (Int.gcd (M op 7 (q + 1)) (M op 7 t)) with h | h
              · exact absurd (Int.gcd_eq_zero_iff.mp h).2 ht0
              · exact h
            have hg2 : Int.gcd (M op 7 (q + 1)) (M op 7 t) ≤ 99 := Nat.le_trans (Nat.le_of_dvd (by omega) (Int.natAbs_dvd_natAbs.mpr (Int.gcd_dvd_right (a := M op 7 (q + 1)) (b := M op 7 t)))) (by omega)
            have hEs := hE (q + 1) (by omega)
            have hne : (q + 1) ≠ t := by omega
            rw [← h7] at hg1 hg2 hEs
            refine r_istore (pc' := 67) (lc' := [(0, vR G (op, 0)), (1, vI (q : Int)), (2, vR G (28, 1)), (3, vI ((firstE (M op 7) N 0))), (4, vI ((q + 1 : Nat) : Int)), (5, vI ((Int.gcd (Ma op 7 (q + 1)) (Ma op 7 t) : Int)))]) X [1, 2, 3, 4, 5, 0] dX3_putCombination_65 (by decide) rfl rfl ?_
            refine r_aload_n (pc' := 68) X 2 dX3_putCombination_67 rfl rfl rfl ?_
            refine r_iload (pc' := 70) X 4 dX3_putCombination_68 rfl rfl ?_
            refine r_aload_n (pc' := 71) X 0 dX3_putCombination_70 rfl rfl rfl ?_
            refine gf_P_e (pc' := 74) X hop gw_53 dX3_putCombination_71 rfl ?_
            refine r_iload_n (pc' := 75) X 3 dX3_putCombination_74 rfl rfl rfl ?_
            refine r_iald (i := t) (pc' := 76) X (kP_7 hop) (by omega) (by omega) (by decide) dX3_putCombination_75 rfl ?_
            refine w_calli (pc' := 79) (st := [vI ((q + 1 : Nat) : Int), vR G (28, 1)]) (w_runS X (c_J9_abs_0f7a4 l G Ma (Ma op 7 t) (by rw [h7]; omega)) cf_J9_abs_0f7a4 gw_773 rfl rfl ⟨Nat.le_of_ble_eq_true rfl, Nat.le_of_ble_eq_true rfl⟩ rfl rfl (Nat.le_of_ble_eq_true rfl) ⟨Nat.le_of_ble_eq_true rfl, Nat.le_of_ble_eq_true rfl⟩ gw_924 dX3_putCombination_76) rfl (fun z76 M3 h76 => ?_)
            obtain rfl := h76.1.symm
            obtain rfl := h76.2.symm
            refine r_iload (pc' := 81) X 5 dX3_putCombination_79 rfl rfl ?_
            refine w_calli (pc' := 84) (st := [vI ((q + 1 : Nat) : Int), vR G (28, 1)]) (w_runSN X (c_X8_quotient l G Ma (((Ma op 7 t).natAbs : Int)) ((Int.gcd (Ma op 7 (q + 1)) (Ma op 7 t) : Int)) (by rw [h7]; omega) (by omega) (by omega)) cf_X8_quotient gw_926 rfl rfl ⟨Nat.le_of_ble_eq_true rfl, Nat.le_of_ble_eq_true rfl⟩ rfl rfl (Nat.le_of_ble_eq_true rfl) ⟨Nat.le_of_ble_eq_true rfl, Nat.le_of_ble_eq_true rfl⟩ tn_925 dX3_putCombination_81) rfl (fun z81 M4 h81 => ?_)
            obtain rfl := h81.1.symm
            obtain rfl := h81.2.symm
            refine r_iast (i := (q + 1)) (pc' := 85) X k28_1 (by omega) (by omega) (by decide) dX3_putCombination_84 rfl (fun M5 hM5 => ?_)
            have h7b : M5 op 7 = M op 7 := by rw [hM5, wu_ne (by omega)]; exact h7
            have hEb : -99 ≤ M5 op 7 t ∧ M5 op 7 t ≤ 99 := by rw [h7b]; exact hEt
            have hEc : -99 ≤ M5 op 7 (q + 1) ∧ M5 op 7 (q + 1) ≤ 99 := by rw [h7b, ← h7]; exact hEs
            refine r_aload_n (pc' := 86) X 2 dX3_putCombination_85 rfl rfl rfl ?_
            refine r_iload_n (pc' := 87) X 3 dX3_putCombination_86 rfl rfl rfl ?_
            refine r_aload_n (pc' := 88) X 0 dX3_putCombination_87 rfl rfl rfl ?_
            refine gf_P_e (pc' := 91) X hop gw_53 dX3_putCombination_88 rfl ?_
            refine r_iload_n (pc' := 92) X 3 dX3_putCombination_91 rfl rfl rfl ?_
            refine r_iald (i := t) (pc' := 93) X (kP_7 hop) (by omega) (by omega) (by decide) dX3_putCombination_92 rfl ?_
            refine r_if_le (pc' := 96) (tgt := 107) X dX3_putCombination_93 rfl rfl (by omega) (fun h93 => ?_) (fun h93 => ?_)
            · refine r_aload_n (pc' := 108) X 0 dX3_putCombination_107 rfl rfl rfl ?_
              refine gf_P_e (pc' := 111) X hop gw_53 dX3_putCombination_108 rfl ?_
              refine r_iload (pc' := 113) X 4 dX3_putCombination_111 rfl rfl ?_
              refine r_iald (i := (q + 1)) (pc' := 114) X (kP_7 hop) (by omega) (by omega) (by decide) dX3_putCombination_113 rfl ?_
              refine r_iload (pc' := 116) X 5 dX3_putCombination_114 rfl rfl ?_
              refine w_calli (pc' := 119) (st := [vI ((firstE (M op 7) N 0)), vR G (28, 1)]) (w_runSN X (c_X8_quotient l G M5 (M5 op 7 (q + 1)) ((Int.gcd (Ma op 7 (q + 1)) (Ma op 7 t) : Int)) (by omega) (by omega) (by omega)) cf_X8_quotient gw_926 rfl rfl ⟨Nat.le_of_ble_eq_true rfl, Nat.le_of_ble_eq_true rfl⟩ rfl rfl (Nat.le_of_ble_eq_true rfl) ⟨Nat.le_of_ble_eq_true rfl, Nat.le_of_ble_eq_true rfl⟩ tn_925 dX3_putCombination_116) rfl (fun z116 M6 h116 => ?_)
              obtain rfl := h116.1.symm
              obtain rfl := h116.2.symm
              refine r_iast (i := t) (pc' := 120) X k28_1 (by omega) (by omega) (by decide) dX3_putCombination_119 rfl (fun M7 hM7 => ?_)
              refine w_vret X hr dX3_putCombination_120 ?_
              try dsimp only
              have hss : (if (q : Int) < (firstE (M op 7) N 0) then q else q + 1) = q + 1 := by first | exact if_pos (by omega) | exact if_neg (by omega)
              refine ⟨fun a b h => by rw [hM7, wu_ne h, hM5, wu_ne h]; exact hfm a b h, fun i hi => ?_⟩
              unfold combF
              rw [if_neg (by omega), hss, het]
              by_cases c : i = t
              · subst c
                rw [if_pos rfl, hM7]
                unfold wu
                rw [if_pos ⟨rfl, rfl, rfl⟩]
                rw [h7b, h7] at *
                first | rw [if_pos (by omega)] | rw [if_neg (by omega)]
              · rw [if_neg (show ¬ (i : Int) = t by omega), hM7, hM5]
                unfold wu
                rw [if_neg (fun h => c h.2.2)]
                by_cases c2 : i = q + 1
                · rw [if_pos ⟨rfl, rfl, c2⟩, if_pos c2, c2, h7]
                  rfl
                · rw [if_neg (fun h => c2 h.2.2), if_neg c2]
                  exact hz i (by omega)
            · refine r_aload_n (pc' := 97) X 0 dX3_putCombination_96 rfl rfl rfl ?_
              refine gf_P_e (pc' := 100) X hop gw_53 dX3_putCombination_97 rfl ?_
              refine r_iload (pc' := 102) X 4 dX3_putCombination_100 rfl rfl ?_
              refine r_iald (i := (q + 1)) (pc' := 103) X (kP_7 hop) (by omega) (by omega) (by decide) dX3_putCombination_102 rfl ?_
              refine r_ineg (pc' := 104) X dX3_putCombination_103 rfl ?_
              refine r_goto (tgt := 114) X dX3_putCombination_104 rfl ?_
              refine r_iload (pc' := 116) X 5 dX3_putCombination_114 rfl rfl ?_
              refine w_calli (pc' := 119) (st := [vI ((firstE (M op 7) N 0)), vR G (28, 1)]) (w_runSN X (c_X8_quotient l G M5 (-(M5 op 7 (q + 1))) ((Int.gcd (Ma op 7 (q + 1)) (Ma op 7 t) : Int)) (by omega) (by omega) (by omega)) cf_X8_quotient gw_926 rfl rfl ⟨Nat.le_of_ble_eq_true rfl, Nat.le_of_ble_eq_true rfl⟩ rfl rfl (Nat.le_of_ble_eq_true rfl) ⟨Nat.le_of_ble_eq_true rfl, Nat.le_of_ble_eq_true rfl⟩ tn_925 dX3_putCombination_116) rfl (fun z116 M8 h116 => ?_)
              obtain rfl := h116.1.symm
              obtain rfl := h116.2.symm
              refine r_iast (i := t) (pc' := 120) X k28_1 (by omega) (by omega) (by decide) dX3_putCombination_119 rfl (fun M9 hM9 => ?_)
              refine w_vret X hr dX3_putCombination_120 ?_
              try dsimp only
              have hss : (if (q : Int) < (firstE (M op 7) N 0) then q else q + 1) = q + 1 := by first | exact if_pos (by omega) | exact if_neg (by omega)
              refine ⟨fun a b h => by rw [hM9, wu_ne h, hM5, wu_ne h]; exact hfm a b h, fun i hi => ?_⟩
              unfold combF
              rw [if_neg (by omega), hss, het]
              by_cases c : i = t
              · subst c
                rw [if_pos rfl, hM9]
                unfold wu
                rw [if_pos ⟨rfl, rfl, rfl⟩]
                rw [h7b, h7] at *
                first | rw [if_pos (by omega)] | rw [if_neg (by omega)]
              · rw [if_neg (show ¬ (i : Int) = t by omega), hM9, hM5]
                unfold wu
                rw [if_neg (fun h => c h.2.2)]
                by_cases c2 : i = q + 1
                · rw [if_pos ⟨rfl, rfl, c2⟩, if_pos c2, c2, h7]
                  rfl
                · rw [if_neg (fun h => c2 h.2.2), if_neg c2]
                  exact hz i (by omega)
          · refine r_iload_n (pc' := 41) X 1 dX3_putCombination_40 rfl rfl rfl ?_
            refine r_goto (tgt := 47) X dX3_putCombination_41 rfl ?_
            refine r_istore (pc' := 49) (lc' := [(0, vR G (op, 0)), (1, vI (q : Int)), (2, vR G (28, 1)), (3, vI ((firstE (M op 7) N 0))), (4, vI (q : Int))]) X [1, 2, 3, 4, 0] dX3_putCombination_47 (by decide) rfl rfl ?_
            refine r_aload_n (pc' := 50) X 0 dX3_putCombination_49 rfl rfl rfl ?_
            refine gf_P_e (pc' := 53) X hop gw_53 dX3_putCombination_50 rfl ?_
            refine r_iload (pc' := 55) X 4 dX3_putCombination_53 rfl rfl ?_
            refine r_iald (i := q) (pc' := 56) X (kP_7 hop) (by omega) (by omega) (by decide) dX3_putCombination_55 rfl ?_
            refine r_aload_n (pc' := 57) X 0 dX3_putCombination_56 rfl rfl rfl ?_
            refine gf_P_e (pc' := 60) X hop gw_53 dX3_putCombination_57 rfl ?_
            refine r_iload_n (pc' := 61) X 3 dX3_putCombination_60 rfl rfl rfl ?_
            refine r_iald (i := t) (pc' := 62) X (kP_7 hop) (by omega) (by omega) (by decide) dX3_putCombination_61 rfl ?_
            refine w_calli (pc' := 65) (st := []) (w_runSN X (c_X8_commonDivisor l G Ma (Ma op 7 q) (Ma op 7 t) (by rw [h7]; have := hE (q) (by omega); omega) (by rw [h7]; omega) (by rw [h7]; exact fun h => ht0 h.2)) cf_X8_commonDivisor gw_922 rfl rfl ⟨Nat.le_of_ble_eq_true rfl, Nat.le_of_ble_eq_true rfl⟩ rfl rfl (Nat.le_of_ble_eq_true rfl) ⟨Nat.le_of_ble_eq_true rfl, Nat.le_of_ble_eq_true rfl⟩ tn_921 dX3_putCombination_62) rfl (fun z62 M10 h62 => ?_)
            obtain rfl := h62.1.symm
            obtain rfl := h62.2.symm
            have hg1 : 1 ≤ Int.gcd (M op 7 (q)) (M op 7 t) := by
              rcases Nat.eq_zero_or_pos (Int.gcd (M op 7 (q)) (M op 7 t)) with h | h
              · exact absurd (Int.gcd_eq_zero_iff.mp h).2 ht0
              · exact h
            have hg2 : Int.gcd (M op 7 (q)) (M op 7 t) ≤ 99 := Nat.le_trans (Nat.le_of_dvd (by omega) (Int.natAbs_dvd_natAbs.mpr (Int.gcd_dvd_right (a := M op 7 (q)) (b := M op 7 t)))) (by omega)
            have hEs := hE (q) (by omega)
            have hne : (q) ≠ t := by omega
            rw [← h7] at hg1 hg2 hEs
            refine r_istore (pc' := 67) (lc' := [(0, vR G (op, 0)), (1, vI (q : Int)), (2, vR G (28, 1)), (3, vI ((firstE (M op 7) N 0))), (4, vI (q : Int)), (5, vI ((Int.gcd (Ma op 7 q) (Ma op 7 t) : Int)))]) X [1, 2, 3, 4, 5, 0] dX3_putCombination_65 (by decide) rfl rfl ?_
            refine r_aload_n (pc' := 68) X 2 dX3_putCombination_67 rfl rfl rfl ?_
            refine r_iload (pc' := 70) X 4 dX3_putCombination_68 rfl rfl ?_
            refine r_aload_n (pc' := 71) X 0 dX3_putCombination_70 rfl rfl rfl ?_
            refine gf_P_e (pc' := 74) X hop gw_53 dX3_putCombination_71 rfl ?_
            refine r_iload_n (pc' := 75) X 3 dX3_putCombination_74 rfl rfl rfl ?_
            refine r_iald (i := t) (pc' := 76) X (kP_7 hop) (by omega) (by omega) (by decide) dX3_putCombination_75 rfl ?_
            refine w_calli (pc' := 79) (st := [vI (q : Int), vR G (28, 1)]) (w_runS X (c_J9_abs_0f7a4 l G Ma (Ma op 7 t) (by rw [h7]; omega)) cf_J9_abs_0f7a4 gw_773 rfl rfl ⟨Nat.le_of_ble_eq_true rfl, Nat.le_of_ble_eq_true rfl⟩ rfl rfl (Nat.le_of_ble_eq_true rfl) ⟨Nat.le_of_ble_eq_true rfl, Nat.le_of_ble_eq_true rfl⟩ gw_924 dX3_putCombination_76) rfl (fun z76 M11 h76 => ?_)
            obtain rfl := h76.1.symm
            obtain rfl := h76.2.symm
            refine r_iload (pc' := 81) X 5 dX3_putCombination_79 rfl rfl ?_
            refine w_calli (pc' := 84) (st := [vI (q : Int), vR G (28, 1)]) (w_runSN X (c_X8_quotient l G Ma (((Ma op 7 t).natAbs : Int)) ((Int.gcd (Ma op 7 q) (Ma op 7 t) : Int)) (by rw [h7]; omega) (by omega) (by omega)) cf_X8_quotient gw_926 rfl rfl ⟨Nat.le_of_ble_eq_true rfl, Nat.le_of_ble_eq_true rfl⟩ rfl rfl (Nat.le_of_ble_eq_true rfl) ⟨Nat.le_of_ble_eq_true rfl, Nat.le_of_ble_eq_true rfl⟩ tn_925 dX3_putCombination_81) rfl (fun z81 M12 h81 => ?_)
            obtain rfl := h81.1.symm
            obtain rfl := h81.2.symm
            refine r_iast (i := q) (pc' := 85) X k28_1 (by omega) (by omega) (by decide) dX3_putCombination_84 rfl (fun M13 hM13 => ?_)
            have h7b : M13 op 7 = M op 7 := by rw [hM13, wu_ne (by omega)]; exact h7
            have hEb : -99 ≤ M13 op 7 t ∧ M13 op 7 t ≤ 99 := by rw [h7b]; exact hEt
            have hEc : -99 ≤ M13 op 7 (q) ∧ M13 op 7 (q) ≤ 99 := by rw [h7b, ← h7]; exact hEs
            refine r_aload_n (pc' := 86) X 2 dX3_putCombination_85 rfl rfl rfl ?_
            refine r_iload_n (pc' := 87) X 3 dX3_putCombination_86 rfl rfl rfl ?_
            refine r_aload_n (pc' := 88) X 0 dX3_putCombination_87 rfl rfl rfl ?_
            refine gf_P_e (pc' := 91) X hop gw_53 dX3_putCombination_88 rfl ?_
            refine r_iload_n (pc' := 92) X 3 dX3_putCombination_91 rfl rfl rfl ?_
            refine r_iald (i := t) (pc' := 93) X (kP_7 hop) (by omega) (by omega) (by decide) dX3_putCombination_92 rfl ?_
            refine r_if_le (pc' := 96) (tgt := 107) X dX3_putCombination_93 rfl rfl (by omega) (fun h93 => ?_) (fun h93 => ?_)
            · refine r_aload_n (pc' := 108) X 0 dX3_putCombination_107 rfl rfl rfl ?_
              refine gf_P_e (pc' := 111) X hop gw_53 dX3_putCombination_108 rfl ?_
              refine r_iload (pc' := 113) X 4 dX3_putCombination_111 rfl rfl ?_
              refine r_iald (i := q) (pc' := 114) X (kP_7 hop) (by omega) (by omega) (by decide) dX3_putCombination_113 rfl ?_
              refine r_iload (pc' := 116) X 5 dX3_putCombination_114 rfl rfl ?_
              refine w_calli (pc' := 119) (st := [vI ((firstE (M op 7) N 0)), vR G (28, 1)]) (w_runSN X (c_X8_quotient l G M13 (M13 op 7 q) ((Int.gcd (Ma op 7 q) (Ma op 7 t) : Int)) (by omega) (by omega) (by omega)) cf_X8_quotient gw_926 rfl rfl ⟨Nat.le_of_ble_eq_true rfl, Nat.le_of_ble_eq_true rfl⟩ rfl rfl (Nat.le_of_ble_eq_true rfl) ⟨Nat.le_of_ble_eq_true rfl, Nat.le_of_ble_eq_true rfl⟩ tn_925 dX3_putCombination_116) rfl (fun z116 M14 h116 => ?_)
              obtain rfl := h116.1.symm
              obtain rfl := h116.2.symm
              refine r_iast (i := t) (pc' := 120) X k28_1 (by omega) (by omega) (by decide) dX3_putCombination_119 rfl (fun M15 hM15 => ?_)
              refine w_vret X hr dX3_putCombination_120 ?_
              try dsimp only
              have hss : (if (q : Int) < (firstE (M op 7) N 0) then q else q + 1) = q := by first | exact if_pos (by omega) | exact if_neg (by omega)
              refine ⟨fun a b h => by rw [hM15, wu_ne h, hM13, wu_ne h]; exact hfm a b h, fun i hi => ?_⟩
              unfold combF
              rw [if_neg (by omega), hss, het]
              by_cases c : i = t
              · subst c
                rw [if_pos rfl, hM15]
                unfold wu
                rw [if_pos ⟨rfl, rfl, rfl⟩]
                rw [h7b, h7] at *
                first | rw [if_pos (by omega)] | rw [if_neg (by omega)]
              · rw [if_neg (show ¬ (i : Int) = t by omega), hM15, hM13]
                unfold wu
                rw [if_neg (fun h => c h.2.2)]
                by_cases c2 : i = q
                · rw [if_pos ⟨rfl, rfl, c2⟩, if_pos c2, c2, h7]
                  rfl
                · rw [if_neg (fun h => c2 h.2.2), if_neg c2]
                  exact hz i (by omega)
            · refine r_aload_n (pc' := 97) X 0 dX3_putCombination_96 rfl rfl rfl ?_
              refine gf_P_e (pc' := 100) X hop gw_53 dX3_putCombination_97 rfl ?_
              refine r_iload (pc' := 102) X 4 dX3_putCombination_100 rfl rfl ?_
              refine r_iald (i := q) (pc' := 103) X (kP_7 hop) (by omega) (by omega) (by decide) dX3_putCombination_102 rfl ?_
              refine r_ineg (pc' := 104) X dX3_putCombination_103 rfl ?_
              refine r_goto (tgt := 114) X dX3_putCombination_104 rfl ?_
              refine r_iload (pc' := 116) X 5 dX3_putCombination_114 rfl rfl ?_
              refine w_calli (pc' := 119) (st := [vI ((firstE (M op 7) N 0)), vR G (28, 1)]) (w_runSN X (c_X8_quotient l G M13 (-(M13 op 7 q)) ((Int.gcd (Ma op 7 q) (Ma op 7 t) : Int)) (by omega) (by omega) (by omega)) cf_X8_quotient gw_926 rfl rfl ⟨Nat.le_of_ble_eq_true rfl, Nat.le_of_ble_eq_true rfl⟩ rfl rfl (Nat.le_of_ble_eq_true rfl) ⟨Nat.le_of_ble_eq_true rfl, Nat.le_of_ble_eq_true rfl⟩ tn_925 dX3_putCombination_116) rfl (fun z116 M16 h116 => ?_)
              obtain rfl := h116.1.symm
              obtain rfl := h116.2.symm
              refine r_iast (i := t) (pc' := 120) X k28_1 (by omega) (by omega) (by decide) dX3_putCombination_119 rfl (fun M17 hM17 => ?_)
              refine w_vret X hr dX3_putCombination_120 ?_
              try dsimp only
              have hss : (if (q : Int) < (firstE (M op 7) N 0) then q else q + 1) = q := by first | exact if_pos (by omega) | exact if_neg (by omega)
              refine ⟨fun a b h => by rw [hM17, wu_ne h, hM13, wu_ne h]; exact hfm a b h, fun i hi => ?_⟩
              unfold combF
              rw [if_neg (by omega), hss, het]
              by_cases c : i = t
              · subst c
                rw [if_pos rfl, hM17]
                unfold wu
                rw [if_pos ⟨rfl, rfl, rfl⟩]
                rw [h7b, h7] at *
                first | rw [if_pos (by omega)] | rw [if_neg (by omega)]
              · rw [if_neg (show ¬ (i : Int) = t by omega), hM17, hM13]
                unfold wu
                rw [if_neg (fun h => c h.2.2)]
                by_cases c2 : i = q
                · rw [if_pos ⟨rfl, rfl, c2⟩, if_pos c2, c2, h7]
                  rfl
                · rw [if_neg (fun h => c2 h.2.2), if_neg c2]
                  exact hz i (by omega)
        · refine r_aload_n (pc' := 31) X 2 dX3_putCombination_30 rfl rfl rfl ?_
          refine r_iload_n (pc' := 32) X 1 dX3_putCombination_31 rfl rfl rfl ?_
          refine r_iconst (pc' := 33) X dX3_putCombination_32 rfl ?_
          refine r_iast (i := q) (pc' := 34) X k28_1 (by omega) (by omega) (by decide) dX3_putCombination_33 rfl (fun M18 hM18 => ?_)
          refine w_vret X hr dX3_putCombination_34 ?_
          try dsimp only
          rw [if_pos (by omega)] at hq
          refine ⟨fun a b h => by rw [hM18, wu_ne h]; exact hfm a b h, fun i hi => ?_⟩
          unfold combF
          rw [if_pos (by omega), hM18]
          unfold wu
          by_cases c : i = q
          · rw [if_pos ⟨rfl, rfl, c⟩, if_pos c]
          · rw [if_neg (fun h => c h.2.2), if_neg c]
            exact hz i (by omega)
      · refine r_aload_n (pc' := 15) X 2 dX3_putCombination_14 rfl rfl rfl ?_
        refine r_iload (pc' := 17) X 4 dX3_putCombination_15 rfl rfl ?_
        refine r_iconst (pc' := 18) X dX3_putCombination_17 rfl ?_
        refine r_iast (i := j) (pc' := 19) X k28_1 (by omega) (by omega) (by decide) dX3_putCombination_18 rfl (fun M19 hM19 => ?_)
        refine r_iinc (pc' := 22) (z' := ((j + 1 : Nat) : Int)) (lc' := [(0, vR G (op, 0)), (1, vI (q : Int)), (2, vR G (28, 1)), (3, vI ((firstE (M op 7) N 0))), (4, vI ((j + 1 : Nat) : Int))]) X 4 [1, 2, 3, 4, 0] dX3_putCombination_19 rfl (by omega) (by decide) rfl rfl ?_
        refine r_goto (tgt := 8) X dX3_putCombination_22 rfl ?_
        exact ih8 (j + 1) M19 (by omega) (by omega) (fun a b h => by rw [hM19, wu_ne h]; exact hfm a b h) (fun x hx => by rw [hM19]; exact up_s (F := fun _ => 0) hz rfl hx)
  exact L8 ((4 - 0) + 1) 0 M (Nat.lt_succ_self _) (by omega) (fun _ _ _ => rfl) (fun x h => absurd h (Nat.not_lt_zero x))
theorem cf_X7_takeCharacter : wCal yX7_takeCharacter cX7_takeCharacter 3 (some .boolean) 2 := ⟨gw_339, gw_6, by decide, by decide, by rfl⟩
set_option maxRecDepth 100000 in
set_option maxHeartbeats 4000000 in
theorem c_X7_takeCharacter (l : Launch) (G : wG) (M : wM) (a b : Int) (L : Nat) (s0 : pS) (ha : 0 ≤ a ∧ a ≤ 65535) (hb : 0 ≤ b ∧ b ≤ 65535) (ht : TxOk (M 27) L s0) : Met l yX7_takeCharacter (gws yX7_takeCharacter cX7_takeCharacter 3 (some .boolean)) (wrm 0 0 0) (wPc G M [vR G (27, 0), vI a, vI b]) (wQi G (fun z M1 => z = 1 - (pC (M 27 1) L a b s0).2 ∧ M1 = setS M (pC (M 27 1) L a b s0))) 0 0 (wA G) := by
  refine wMet (lc := [(0, vR G (27, 0)), (1, vI a), (2, vI b)]) (by decide) (Nat.le_of_ble_eq_true rfl) rfl ?_
  intro p e s m args below meth c X hr
  have X : wX p s m args meth c G 3 "StateObserver$SystemText" cX7_takeCharacter := X
  obtain ⟨hL, hL2, e4, e5, hpk, hch⟩ := id ht
  obtain ⟨hp1, hp2⟩ := hpk
  have hcp : s0.1 < 200 → _ := hch s0.1
  refine r_aload_n (pc' := 1) X 0 dX7_takeCharacter_0 rfl rfl rfl ?_
  refine r_aload_n (pc' := 2) X 0 dX7_takeCharacter_1 rfl rfl rfl ?_
  refine gf_27_wrong (pc' := 5) X gw_224 dX7_takeCharacter_2 rfl ?_
  refine r_if_ne (pc' := 8) (tgt := 45) X dX7_takeCharacter_5 rfl rfl (by omega) (fun h5 => ?_) (fun h5 => ?_)
  · refine r_iconst (pc' := 46) X dX7_takeCharacter_45 rfl ?_
    refine r_goto (tgt := 50) X dX7_takeCharacter_46 rfl ?_
    refine pf_27_wrong (pc' := 53) X (by omega) gw_224 dX7_takeCharacter_50 rfl (fun M1 hM1 => ?_)
    refine r_aload_n (pc' := 54) X 0 dX7_takeCharacter_53 rfl rfl rfl ?_
    refine gf_27_wrong (pc' := 57) X gw_224 dX7_takeCharacter_54 rfl ?_
    refine w_eqI (z' := 1) (by rw [hM1]; unfold wu; simp) ?_
    refine r_if_ne (pc' := 60) (tgt := 70) X dX7_takeCharacter_57 rfl rfl (by omega) (fun h57 => ?_) (fun h57 => absurd h57 (by decide))
    refine r_aload_n (pc' := 71) X 0 dX7_takeCharacter_70 rfl rfl rfl ?_
    refine gf_27_wrong (pc' := 74) X gw_224 dX7_takeCharacter_71 rfl ?_
    refine w_eqI (z' := 1) (by rw [hM1]; unfold wu; simp) ?_
    refine r_if_ne (pc' := 77) (tgt := 81) X dX7_takeCharacter_74 rfl rfl (by omega) (fun h74 => ?_) (fun h74 => absurd h74 (by decide))
    refine r_iconst (pc' := 82) X dX7_takeCharacter_81 rfl ?_
    refine w_zret X hr (by decide) dX7_takeCharacter_82 ?_
    try dsimp only
    have e : pC (M 27 1) L a b s0 = (s0.1, 1) := if_neg (by omega)
    rw [e, hM1]
    exact ⟨rfl, (setS_w e4).symm⟩
  · refine r_aload_n (pc' := 9) X 0 dX7_takeCharacter_8 rfl rfl rfl ?_
    refine gf_27_position (pc' := 12) X gw_223 dX7_takeCharacter_9 rfl ?_
    refine r_aload_n (pc' := 13) X 0 dX7_takeCharacter_12 rfl rfl rfl ?_
    refine gf_27_length (pc' := 16) X gw_217 dX7_takeCharacter_13 rfl ?_
    refine r_icmp_ge (pc' := 19) (tgt := 45) X dX7_takeCharacter_16 rfl rfl (by omega) (by omega) (fun h16 => ?_) (fun h16 => ?_)
    · refine r_iconst (pc' := 46) X dX7_takeCharacter_45 rfl ?_
      refine r_goto (tgt := 50) X dX7_takeCharacter_46 rfl ?_
      refine pf_27_wrong (pc' := 53) X (by omega) gw_224 dX7_takeCharacter_50 rfl (fun M2 hM2 => ?_)
      refine r_aload_n (pc' := 54) X 0 dX7_takeCharacter_53 rfl rfl rfl ?_
      refine gf_27_wrong (pc' := 57) X gw_224 dX7_takeCharacter_54 rfl ?_
      refine w_eqI (z' := 1) (by rw [hM2]; unfold wu; simp) ?_
      refine r_if_ne (pc' := 60) (tgt := 70) X dX7_takeCharacter_57 rfl rfl (by omega) (fun h57 => ?_) (fun h57 => absurd h57 (by decide))
      refine r_aload_n (pc' := 71) X 0 dX7_takeCharacter_70 rfl rfl rfl ?_
      refine gf_27_wrong (pc' := 74) X gw_224 dX7_takeCharacter_71 rfl ?_
      refine w_eqI (z' := 1) (by rw [hM2]; unfold wu; simp) ?_
      refine r_if_ne (pc' := 77) (tgt := 81) X dX7_takeCharacter_74 rfl rfl (by omega) (fun h74 => ?_) (fun h74 => absurd h74 (by decide))
      refine r_iconst (pc' := 82) X dX7_takeCharacter_81 rfl ?_
      refine w_zret X hr (by decide) dX7_takeCharacter_82 ?_
      try dsimp only
      have e : pC (M 27 1) L a b s0 = (s0.1, 1) := if_neg (by omega)
      rw [e, hM2]
      exact ⟨rfl, (setS_w e4).symm⟩
    · refine r_aload_n (pc' := 20) X 0 dX7_takeCharacter_19 rfl rfl rfl ?_
      refine gf_27_characters (pc' := 23) X gw_216 dX7_takeCharacter_20 rfl ?_
      refine r_aload_n (pc' := 24) X 0 dX7_takeCharacter_23 rfl rfl rfl ?_
      refine gf_27_position (pc' := 27) X gw_223 dX7_takeCharacter_24 rfl ?_
      refine r_cald (i := s0.1) (pc' := 28) X k27_1 e4 (by omega) (by decide) dX7_takeCharacter_27 rfl ?_
      refine r_iload_n (pc' := 29) X 1 dX7_takeCharacter_28 rfl rfl rfl ?_
      refine r_icmp_lt (pc' := 32) (tgt := 45) X dX7_takeCharacter_29 rfl rfl (by omega) (by omega) (fun h29 => ?_) (fun h29 => ?_)
      · refine r_iconst (pc' := 46) X dX7_takeCharacter_45 rfl ?_
        refine r_goto (tgt := 50) X dX7_takeCharacter_46 rfl ?_
        refine pf_27_wrong (pc' := 53) X (by omega) gw_224 dX7_takeCharacter_50 rfl (fun M3 hM3 => ?_)
        refine r_aload_n (pc' := 54) X 0 dX7_takeCharacter_53 rfl rfl rfl ?_
        refine gf_27_wrong (pc' := 57) X gw_224 dX7_takeCharacter_54 rfl ?_
        refine w_eqI (z' := 1) (by rw [hM3]; unfold wu; simp) ?_
        refine r_if_ne (pc' := 60) (tgt := 70) X dX7_takeCharacter_57 rfl rfl (by omega) (fun h57 => ?_) (fun h57 => absurd h57 (by decide))
        refine r_aload_n (pc' := 71) X 0 dX7_takeCharacter_70 rfl rfl rfl ?_
        refine gf_27_wrong (pc' := 74) X gw_224 dX7_takeCharacter_71 rfl ?_
        refine w_eqI (z' := 1) (by rw [hM3]; unfold wu; simp) ?_
        refine r_if_ne (pc' := 77) (tgt := 81) X dX7_takeCharacter_74 rfl rfl (by omega) (fun h74 => ?_) (fun h74 => absurd h74 (by decide))
        refine r_iconst (pc' := 82) X dX7_takeCharacter_81 rfl ?_
        refine w_zret X hr (by decide) dX7_takeCharacter_82 ?_
        try dsimp only
        have e : pC (M 27 1) L a b s0 = (s0.1, 1) := if_neg (by omega)
        rw [e, hM3]
        exact ⟨rfl, (setS_w e4).symm⟩
      · refine r_aload_n (pc' := 33) X 0 dX7_takeCharacter_32 rfl rfl rfl ?_
        refine gf_27_characters (pc' := 36) X gw_216 dX7_takeCharacter_33 rfl ?_
        refine r_aload_n (pc' := 37) X 0 dX7_takeCharacter_36 rfl rfl rfl ?_
        refine gf_27_position (pc' := 40) X gw_223 dX7_takeCharacter_37 rfl ?_
        refine r_cald (i := s0.1) (pc' := 41) X k27_1 e4 (by omega) (by decide) dX7_takeCharacter_40 rfl ?_
        refine r_iload_n (pc' := 42) X 2 dX7_takeCharacter_41 rfl rfl rfl ?_
        refine r_icmp_le (pc' := 45) (tgt := 49) X dX7_takeCharacter_42 rfl rfl (by omega) (by omega) (fun h42 => ?_) (fun h42 => ?_)
        · refine r_iconst (pc' := 50) X dX7_takeCharacter_49 rfl ?_
          refine pf_27_wrong (pc' := 53) X (by omega) gw_224 dX7_takeCharacter_50 rfl (fun M4 hM4 => ?_)
          refine r_aload_n (pc' := 54) X 0 dX7_takeCharacter_53 rfl rfl rfl ?_
          refine gf_27_wrong (pc' := 57) X gw_224 dX7_takeCharacter_54 rfl ?_
          refine w_eqI (z' := 0) (by rw [hM4]; unfold wu; simp) ?_
          refine r_if_ne (pc' := 60) (tgt := 70) X dX7_takeCharacter_57 rfl rfl (by omega) (fun h57 => absurd h57 (by decide)) (fun h57 => ?_)
          refine r_aload_n (pc' := 61) X 0 dX7_takeCharacter_60 rfl rfl rfl ?_
          refine r_dup (pc' := 62) X dX7_takeCharacter_61 rfl rfl ?_
          refine gf_27_position (pc' := 65) X gw_223 dX7_takeCharacter_62 rfl ?_
          refine w_eqI (z' := (s0.1 : Int)) (by rw [hM4]; unfold wu; simp; exact e4) ?_
          refine r_iconst (pc' := 66) X dX7_takeCharacter_65 rfl ?_
          refine r_iadd (pc' := 67) X dX7_takeCharacter_66 rfl ?_
          refine pf_27_position (pc' := 70) X gw_223 dX7_takeCharacter_67 rfl (fun M5 hM5 => ?_)
          refine r_aload_n (pc' := 71) X 0 dX7_takeCharacter_70 rfl rfl rfl ?_
          refine gf_27_wrong (pc' := 74) X gw_224 dX7_takeCharacter_71 rfl ?_
          refine w_eqI (z' := 0) (by rw [hM5, hM4]; unfold wu; simp) ?_
          refine r_if_ne (pc' := 77) (tgt := 81) X dX7_takeCharacter_74 rfl rfl (by omega) (fun h74 => absurd h74 (by decide)) (fun h74 => ?_)
          refine r_iconst (pc' := 78) X dX7_takeCharacter_77 rfl ?_
          refine r_goto (tgt := 82) X dX7_takeCharacter_78 rfl ?_
          refine w_zret X hr (by decide) dX7_takeCharacter_82 ?_
          try dsimp only
          have e : pC (M 27 1) L a b s0 = (s0.1 + 1, 0) := if_pos (by omega)
          rw [e, hM5, hM4]
          exact ⟨rfl, rfl⟩
        · refine r_iconst (pc' := 46) X dX7_takeCharacter_45 rfl ?_
          refine r_goto (tgt := 50) X dX7_takeCharacter_46 rfl ?_
          refine pf_27_wrong (pc' := 53) X (by omega) gw_224 dX7_takeCharacter_50 rfl (fun M6 hM6 => ?_)
          refine r_aload_n (pc' := 54) X 0 dX7_takeCharacter_53 rfl rfl rfl ?_
          refine gf_27_wrong (pc' := 57) X gw_224 dX7_takeCharacter_54 rfl ?_
          refine w_eqI (z' := 1) (by rw [hM6]; unfold wu; simp) ?_
          refine r_if_ne (pc' := 60) (tgt := 70) X dX7_takeCharacter_57 rfl rfl (by omega) (fun h57 => ?_) (fun h57 => absurd h57 (by decide))
          refine r_aload_n (pc' := 71) X 0 dX7_takeCharacter_70 rfl rfl rfl ?_
          refine gf_27_wrong (pc' := 74) X gw_224 dX7_takeCharacter_71 rfl ?_
          refine w_eqI (z' := 1) (by rw [hM6]; unfold wu; simp) ?_
          refine r_if_ne (pc' := 77) (tgt := 81) X dX7_takeCharacter_74 rfl rfl (by omega) (fun h74 => ?_) (fun h74 => absurd h74 (by decide))
          refine r_iconst (pc' := 82) X dX7_takeCharacter_81 rfl ?_
          refine w_zret X hr (by decide) dX7_takeCharacter_82 ?_
          try dsimp only
          have e : pC (M 27 1) L a b s0 = (s0.1, 1) := if_neg (by omega)
          rw [e, hM6]
          exact ⟨rfl, (setS_w e4).symm⟩
theorem cf_X7_takeDigit : wCal yX7_takeDigit cX7_takeDigit 3 (some .int) 2 := ⟨gw_343, gw_6, by decide, by decide, by rfl⟩
set_option maxRecDepth 100000 in
set_option maxHeartbeats 4000000 in
theorem c_X7_takeDigit (l : Launch) (G : wG) (M : wM) (a b : Int) (L : Nat) (s0 : pS) (ha : -48 ≤ a ∧ a ≤ 100) (hb : -48 ≤ b ∧ b ≤ 100) (ht : TxOk (M 27) L s0) : Met l yX7_takeDigit (gws yX7_takeDigit cX7_takeDigit 3 (some .int)) (wrm 1 0 0) (wPc G M [vR G (27, 0), vI a, vI b]) (wQi G (fun z M1 => z = (pD (M 27 1) L a b s0).1 ∧ M1 = setS M (pD (M 27 1) L a b s0).2)) 0 0 (wA G) := by
  refine wMet (lc := [(0, vR G (27, 0)), (1, vI a), (2, vI b)]) (by decide) (Nat.le_of_ble_eq_true rfl) rfl ?_
  intro p e s m args below meth c X hr
  have X : wX p s m args meth c G 3 "StateObserver$SystemText" cX7_takeDigit := X
  obtain ⟨hL, hL2, e4, e5, hpk, hch⟩ := id ht
  obtain ⟨hp1, hp2⟩ := hpk
  refine r_aload_n (pc' := 1) X 0 dX7_takeDigit_0 rfl rfl rfl ?_
  refine r_bipush (pc' := 3) X dX7_takeDigit_1 rfl rfl ?_
  refine r_iload_n (pc' := 4) X 1 dX7_takeDigit_3 rfl rfl rfl ?_
  refine r_iadd (pc' := 5) X dX7_takeDigit_4 rfl ?_
  refine r_i2c (pc' := 6) X dX7_takeDigit_5 (by omega) rfl ?_
  refine r_bipush (pc' := 8) X dX7_takeDigit_6 rfl rfl ?_
  refine r_iload_n (pc' := 9) X 2 dX7_takeDigit_8 rfl rfl rfl ?_
  refine r_iadd (pc' := 10) X dX7_takeDigit_9 rfl ?_
  refine r_i2c (pc' := 11) X dX7_takeDigit_10 (by omega) rfl ?_
  refine w_calli (pc' := 14) (st := []) (w_runV X (c_X7_takeCharacter l G M (48 + a) (48 + b) L s0 (by first | assumption | omega) (by first | assumption | omega) ht) cf_X7_takeCharacter k27_0 rfl gw_338 gp_1 rfl rfl ⟨Nat.le_of_ble_eq_true rfl, Nat.le_of_ble_eq_true rfl⟩ rfl rfl (Nat.le_of_ble_eq_true rfl) ⟨Nat.le_of_ble_eq_true rfl, Nat.le_of_ble_eq_true rfl⟩ gw_336 dX7_takeDigit_11) rfl (fun z11 M1 h11 => ?_)
  have hok := pC_ok (ch := M 27 1) (L := L) (a := 48 + a) (b := 48 + b) (s := s0) ⟨hp1, hp2⟩
  obtain ⟨hok1, hok2⟩ := hok
  refine r_if_eq (pc' := 17) (tgt := 34) X dX7_takeDigit_14 rfl rfl (by omega) (fun h14 => ?_) (fun h14 => ?_)
  · refine r_iconst (pc' := 35) X dX7_takeDigit_34 rfl ?_
    refine w_iret X hr dX7_takeDigit_35 ?_
    try dsimp only
    refine ⟨?_, h11.2⟩
    unfold pD
    first
      | (rw [if_pos (by omega), h11.2, setS_1])
      | (rw [if_neg (by omega)])
  · have hz0 : (pC (M 27 1) L (48 + a) (48 + b) s0).2 = 0 := by omega
    have hpc := pC_0 hz0
    have hpp : M1 27 0 4 = ((s0.1 + 1 : Nat) : Int) := by rw [h11.2]; unfold setS wu; simp; omega
    refine r_aload_n (pc' := 18) X 0 dX7_takeDigit_17 rfl rfl rfl ?_
    refine gf_27_characters (pc' := 21) X gw_216 dX7_takeDigit_18 rfl ?_
    refine r_aload_n (pc' := 22) X 0 dX7_takeDigit_21 rfl rfl rfl ?_
    refine gf_27_position (pc' := 25) X gw_223 dX7_takeDigit_22 rfl ?_
    refine r_iconst (pc' := 26) X dX7_takeDigit_25 rfl ?_
    refine r_isub (pc' := 27) X dX7_takeDigit_26 rfl ?_
    refine r_cald (i := s0.1) (pc' := 28) X k27_1 (by omega) (by omega) (by decide) dX7_takeDigit_27 rfl ?_
    refine r_bipush (pc' := 30) X dX7_takeDigit_28 rfl rfl ?_
    refine r_isub (pc' := 31) X dX7_takeDigit_30 rfl ?_
    refine r_goto (tgt := 35) X dX7_takeDigit_31 rfl ?_
    refine w_iret X hr dX7_takeDigit_35 ?_
    try dsimp only
    refine ⟨?_, h11.2⟩
    unfold pD
    first
      | (rw [if_pos (by omega), h11.2, setS_1])
      | (rw [if_neg (by omega)])
theorem cf_X7_takeTwoDigits : wCal yX7_takeTwoDigits cX7_takeTwoDigits 4 (some .int) 1 := ⟨gw_347, gw_6, by decide, by decide, by rfl⟩
set_option maxRecDepth 100000 in
set_option maxHeartbeats 4000000 in
theorem c_X7_takeTwoDigits (l : Launch) (G : wG) (M : wM) (a : Int) (L : Nat) (s0 : pS) (ha : 0 ≤ a ∧ a ≤ 9) (ht : TxOk (M 27) L s0) : Met l yX7_takeTwoDigits (gws yX7_takeTwoDigits cX7_takeTwoDigits 4 (some .int)) (wrm 2 0 0) (wPc G M [vR G (27, 0), vI a]) (wQi G (fun z M1 => z = (pT (M 27 1) L a s0).1 ∧ M1 = setS M (pT (M 27 1) L a s0).2)) 0 0 (wA G) := by
  refine wMet (lc := [(0, vR G (27, 0)), (1, vI a)]) (by decide) (Nat.le_of_ble_eq_true rfl) rfl ?_
  intro p e s m args below meth c X hr
  have X : wX p s m args meth c G 4 "StateObserver$SystemText" cX7_takeTwoDigits := X
  obtain ⟨hL, hL2, e4, e5, hpk, hch⟩ := id ht
  obtain ⟨f0, hf0⟩ : ∃ x, x = (if (pD (M 27 1) L 0 9 s0).1 = 0 then a else 0) := ⟨_, rfl⟩
  have hd1 := pD_bd (ch := M 27 1) (L := L) (a := 0) (b := 9) (s := s0) (by decide) (by decide)
  have hf1 : 0 ≤ f0 ∧ f0 ≤ 9 := by rw [hf0]; split <;> omega
  have hd2 := pD_bd (ch := M 27 1) (L := L) (a := f0) (b := 9) (s := (pD (M 27 1) L 0 9 s0).2) (by omega) (by decide)
  refine r_aload_n (pc' := 1) X 0 dX7_takeTwoDigits_0 rfl rfl rfl ?_
  refine r_iconst (pc' := 2) X dX7_takeTwoDigits_1 rfl ?_
  refine r_bipush (pc' := 4) X dX7_takeTwoDigits_2 rfl rfl ?_
  refine w_calli (pc' := 7) (st := []) (w_runV X (c_X7_takeDigit l G M 0 9 L s0 (by first | assumption | omega) (by first | assumption | omega) ht) cf_X7_takeDigit k27_0 rfl gw_342 gp_2 rfl rfl ⟨Nat.le_of_ble_eq_true rfl, Nat.le_of_ble_eq_true rfl⟩ rfl rfl (Nat.le_of_ble_eq_true rfl) ⟨Nat.le_of_ble_eq_true rfl, Nat.le_of_ble_eq_true rfl⟩ gw_340 dX7_takeTwoDigits_4) rfl (fun z4 M1 h4 => ?_)
  have ht1 : TxOk (M1 27) L (pD (M 27 1) L 0 9 s0).2 := by rw [h4.2]; exact setS_ok ht (pD_ok hpk)
  have hc1 : M1 27 1 = M 27 1 := by rw [h4.2, setS_1]
  refine r_istore_n (pc' := 8) (lc' := [(0, vR G (27, 0)), (1, vI a), (2, vI z4)]) X [1, 2, 0] dX7_takeTwoDigits_7 rfl (by decide) rfl rfl ?_
  refine r_aload_n (pc' := 9) X 0 dX7_takeTwoDigits_8 rfl rfl rfl ?_
  refine r_iload_n (pc' := 10) X 2 dX7_takeTwoDigits_9 rfl rfl rfl ?_
  refine r_if_ne (pc' := 13) (tgt := 17) X dX7_takeTwoDigits_10 rfl rfl (by omega) (fun h10 => ?_) (fun h10 => ?_)
  · refine r_iconst (pc' := 18) X dX7_takeTwoDigits_17 rfl ?_
    refine w_eqI (z' := f0) (by rw [hf0]; first | rw [if_pos (by omega)] | rw [if_neg (by omega)]) ?_
    refine r_bipush (pc' := 20) X dX7_takeTwoDigits_18 rfl rfl ?_
    refine w_calli (pc' := 23) (st := []) (w_runV X (c_X7_takeDigit l G M1 f0 9 L ((pD (M 27 1) L 0 9 s0).2) (by first | assumption | omega) (by first | assumption | omega) ht1) cf_X7_takeDigit k27_0 rfl gw_342 gp_2 rfl rfl ⟨Nat.le_of_ble_eq_true rfl, Nat.le_of_ble_eq_true rfl⟩ rfl rfl (Nat.le_of_ble_eq_true rfl) ⟨Nat.le_of_ble_eq_true rfl, Nat.le_of_ble_eq_true rfl⟩ gw_340 dX7_takeTwoDigits_20) rfl (fun z20 M2 h20 => ?_)
    rw [hc1, h4.2, setS_setS] at h20
    refine r_istore_n (pc' := 24) (lc' := [(0, vR G (27, 0)), (1, vI a), (2, vI z4), (3, vI z20)]) X [1, 2, 3, 0] dX7_takeTwoDigits_23 rfl (by decide) rfl rfl ?_
    refine r_bipush (pc' := 26) X dX7_takeTwoDigits_24 rfl rfl ?_
    refine r_iload_n (pc' := 27) X 2 dX7_takeTwoDigits_26 rfl rfl rfl ?_
    refine r_imul (pc' := 28) X dX7_takeTwoDigits_27 rfl ?_
    refine r_iload_n (pc' := 29) X 3 dX7_takeTwoDigits_28 rfl rfl rfl ?_
    refine r_iadd (pc' := 30) X dX7_takeTwoDigits_29 rfl ?_
    refine w_iret X hr dX7_takeTwoDigits_30 ?_
    try dsimp only
    refine ⟨?_, by rw [h20.2, hf0]; rfl⟩
    unfold pT
    rw [← hf0]
    dsimp only
    omega
  · refine r_iload_n (pc' := 14) X 1 dX7_takeTwoDigits_13 rfl rfl rfl ?_
    refine r_goto (tgt := 18) X dX7_takeTwoDigits_14 rfl ?_
    refine w_eqI (z' := f0) (by rw [hf0]; first | rw [if_pos (by omega)] | rw [if_neg (by omega)]) ?_
    refine r_bipush (pc' := 20) X dX7_takeTwoDigits_18 rfl rfl ?_
    refine w_calli (pc' := 23) (st := []) (w_runV X (c_X7_takeDigit l G M1 f0 9 L ((pD (M 27 1) L 0 9 s0).2) (by first | assumption | omega) (by first | assumption | omega) ht1) cf_X7_takeDigit k27_0 rfl gw_342 gp_2 rfl rfl ⟨Nat.le_of_ble_eq_true rfl, Nat.le_of_ble_eq_true rfl⟩ rfl rfl (Nat.le_of_ble_eq_true rfl) ⟨Nat.le_of_ble_eq_true rfl, Nat.le_of_ble_eq_true rfl⟩ gw_340 dX7_takeTwoDigits_20) rfl (fun z20 M3 h20 => ?_)
    rw [hc1, h4.2, setS_setS] at h20
    refine r_istore_n (pc' := 24) (lc' := [(0, vR G (27, 0)), (1, vI a), (2, vI z4), (3, vI z20)]) X [1, 2, 3, 0] dX7_takeTwoDigits_23 rfl (by decide) rfl rfl ?_
    refine r_bipush (pc' := 26) X dX7_takeTwoDigits_24 rfl rfl ?_
    refine r_iload_n (pc' := 27) X 2 dX7_takeTwoDigits_26 rfl rfl rfl ?_
    refine r_imul (pc' := 28) X dX7_takeTwoDigits_27 rfl ?_
    refine r_iload_n (pc' := 29) X 3 dX7_takeTwoDigits_28 rfl rfl rfl ?_
    refine r_iadd (pc' := 30) X dX7_takeTwoDigits_29 rfl ?_
    refine w_iret X hr dX7_takeTwoDigits_30 ?_
    try dsimp only
    refine ⟨?_, by rw [h20.2, hf0]; rfl⟩
    unfold pT
    rw [← hf0]
    dsimp only
    omega
theorem cf_X7_takeNumber : wCal yX7_takeNumber cX7_takeNumber 3 (some .int) 0 := ⟨gw_355, gw_6, by decide, by decide, by rfl⟩
set_option maxRecDepth 100000 in
set_option maxHeartbeats 4000000 in
theorem c_X7_takeNumber (l : Launch) (G : wG) (M : wM) (L : Nat) (s0 : pS) (ht : TxOk (M 27) L s0) : Met l yX7_takeNumber (gws yX7_takeNumber cX7_takeNumber 3 (some .int)) (wrm 3 0 0) (wPc G M [vR G (27, 0)]) (wQi G (fun z M1 => z = (pN (M 27 1) L s0).1 ∧ M1 = setS M (pN (M 27 1) L s0).2)) 0 0 (wA G) := by
  refine wMet (lc := [(0, vR G (27, 0))]) (by decide) (Nat.le_of_ble_eq_true rfl) rfl ?_
  intro p e s m args below meth c X hr
  have X : wX p s m args meth c G 3 "StateObserver$SystemText" cX7_takeNumber := X
  obtain ⟨hL, hL2, e4, e5, hpk, hch⟩ := id ht
  obtain ⟨hp1, hp2⟩ := id hpk
  have hcp : s0.1 < 200 → _ := hch s0.1
  obtain ⟨sg, hsg⟩ : ∃ x, x = (pZ (M 27 1) L s0) := ⟨_, rfl⟩
  have hd2 := pT_bd (ch := M 27 1) (L := L) (a := 0) (s := pC (M 27 1) L sg sg s0) (by decide)
  refine r_aload_n (pc' := 1) X 0 dX7_takeNumber_0 rfl rfl rfl ?_
  refine gf_27_position (pc' := 4) X gw_223 dX7_takeNumber_1 rfl ?_
  refine r_aload_n (pc' := 5) X 0 dX7_takeNumber_4 rfl rfl rfl ?_
  refine gf_27_length (pc' := 8) X gw_217 dX7_takeNumber_5 rfl ?_
  refine r_icmp_ge (pc' := 11) (tgt := 29) X dX7_takeNumber_8 rfl rfl (by omega) (by omega) (fun h8 => ?_) (fun h8 => ?_)
  · refine r_iconst (pc' := 30) X dX7_takeNumber_29 rfl ?_
    refine r_istore_n (pc' := 31) (lc' := [(0, vR G (27, 0)), (1, vI 0)]) X [1, 0] dX7_takeNumber_30 rfl (by decide) rfl rfl ?_
    have hsv : sg = 43 := by rw [hsg]; unfold pZ; first | rw [if_pos (by omega)] | rw [if_neg (by omega)]
    refine r_aload_n (pc' := 32) X 0 dX7_takeNumber_31 rfl rfl rfl ?_
    refine r_iload_n (pc' := 33) X 1 dX7_takeNumber_32 rfl rfl rfl ?_
    refine r_if_eq (pc' := 36) (tgt := 41) X dX7_takeNumber_33 rfl rfl (by omega) (fun h33 => ?_) (fun h33 => absurd h33 (by decide))
    refine r_bipush (pc' := 43) X dX7_takeNumber_41 rfl rfl ?_
    refine r_iload_n (pc' := 44) X 1 dX7_takeNumber_43 rfl rfl rfl ?_
    refine r_if_eq (pc' := 47) (tgt := 52) X dX7_takeNumber_44 rfl rfl (by omega) (fun h44 => ?_) (fun h44 => absurd h44 (by decide))
    refine r_bipush (pc' := 54) X dX7_takeNumber_52 rfl rfl ?_
    refine w_calli (pc' := 57) (st := []) (w_runV X (c_X7_takeCharacter l G M 43 43 L s0 (by first | assumption | omega) (by first | assumption | omega) ht) cf_X7_takeCharacter k27_0 rfl gw_338 gp_1 rfl rfl ⟨Nat.le_of_ble_eq_true rfl, Nat.le_of_ble_eq_true rfl⟩ rfl rfl (Nat.le_of_ble_eq_true rfl) ⟨Nat.le_of_ble_eq_true rfl, Nat.le_of_ble_eq_true rfl⟩ gw_336 dX7_takeNumber_54) rfl (fun z54 M1 h54 => ?_)
    rw [← hsv] at h54
    have ht1 : TxOk (M1 27) L (pC (M 27 1) L sg sg s0) := by rw [h54.2]; exact setS_ok ht (pC_ok hpk)
    have hc1 : M1 27 1 = M 27 1 := by rw [h54.2, setS_1]
    refine r_pop (pc' := 58) X dX7_takeNumber_57 rfl rfl ?_
    refine r_aload_n (pc' := 59) X 0 dX7_takeNumber_58 rfl rfl rfl ?_
    refine r_iconst (pc' := 60) X dX7_takeNumber_59 rfl ?_
    refine w_calli (pc' := 63) (st := []) (w_runV X (c_X7_takeTwoDigits l G M1 0 L (pC (M 27 1) L sg sg s0) (by first | assumption | omega) ht1) cf_X7_takeTwoDigits k27_0 rfl gw_346 gp_3 rfl rfl ⟨Nat.le_of_ble_eq_true rfl, Nat.le_of_ble_eq_true rfl⟩ rfl rfl (Nat.le_of_ble_eq_true rfl) ⟨Nat.le_of_ble_eq_true rfl, Nat.le_of_ble_eq_true rfl⟩ gw_344 dX7_takeNumber_60) rfl (fun z60 M2 h60 => ?_)
    rw [hc1, h54.2, setS_setS] at h60
    refine r_istore_n (pc' := 64) (lc' := [(0, vR G (27, 0)), (1, vI 0), (2, vI z60)]) X [1, 2, 0] dX7_takeNumber_63 rfl (by decide) rfl rfl ?_
    refine r_iload_n (pc' := 65) X 1 dX7_takeNumber_64 rfl rfl rfl ?_
    refine r_if_eq (pc' := 68) (tgt := 73) X dX7_takeNumber_65 rfl rfl (by omega) (fun h65 => ?_) (fun h65 => absurd h65 (by decide))
    refine r_iload_n (pc' := 74) X 2 dX7_takeNumber_73 rfl rfl rfl ?_
    refine w_iret X hr dX7_takeNumber_74 ?_
    try dsimp only
    refine ⟨?_, by rw [h60.2, hsg]; rfl⟩
    unfold pN
    rw [← hsg]
    dsimp only
    first | rw [if_pos (by omega)] | rw [if_neg (by omega)]
    omega
  · refine r_aload_n (pc' := 12) X 0 dX7_takeNumber_11 rfl rfl rfl ?_
    refine gf_27_characters (pc' := 15) X gw_216 dX7_takeNumber_12 rfl ?_
    refine r_aload_n (pc' := 16) X 0 dX7_takeNumber_15 rfl rfl rfl ?_
    refine gf_27_position (pc' := 19) X gw_223 dX7_takeNumber_16 rfl ?_
    refine r_cald (i := s0.1) (pc' := 20) X k27_1 e4 (by omega) (by decide) dX7_takeNumber_19 rfl ?_
    refine r_bipush (pc' := 22) X dX7_takeNumber_20 rfl rfl ?_
    refine r_icmp_ne (pc' := 25) (tgt := 29) X dX7_takeNumber_22 rfl rfl (by omega) (by omega) (fun h22 => ?_) (fun h22 => ?_)
    · refine r_iconst (pc' := 30) X dX7_takeNumber_29 rfl ?_
      refine r_istore_n (pc' := 31) (lc' := [(0, vR G (27, 0)), (1, vI 0)]) X [1, 0] dX7_takeNumber_30 rfl (by decide) rfl rfl ?_
      have hsv : sg = 43 := by rw [hsg]; unfold pZ; first | rw [if_pos (by omega)] | rw [if_neg (by omega)]
      refine r_aload_n (pc' := 32) X 0 dX7_takeNumber_31 rfl rfl rfl ?_
      refine r_iload_n (pc' := 33) X 1 dX7_takeNumber_32 rfl rfl rfl ?_
      refine r_if_eq (pc' := 36) (tgt := 41) X dX7_takeNumber_33 rfl rfl (by omega) (fun h33 => ?_) (fun h33 => absurd h33 (by decide))
      refine r_bipush (pc' := 43) X dX7_takeNumber_41 rfl rfl ?_
      refine r_iload_n (pc' := 44) X 1 dX7_takeNumber_43 rfl rfl rfl ?_
      refine r_if_eq (pc' := 47) (tgt := 52) X dX7_takeNumber_44 rfl rfl (by omega) (fun h44 => ?_) (fun h44 => absurd h44 (by decide))
      refine r_bipush (pc' := 54) X dX7_takeNumber_52 rfl rfl ?_
      refine w_calli (pc' := 57) (st := []) (w_runV X (c_X7_takeCharacter l G M 43 43 L s0 (by first | assumption | omega) (by first | assumption | omega) ht) cf_X7_takeCharacter k27_0 rfl gw_338 gp_1 rfl rfl ⟨Nat.le_of_ble_eq_true rfl, Nat.le_of_ble_eq_true rfl⟩ rfl rfl (Nat.le_of_ble_eq_true rfl) ⟨Nat.le_of_ble_eq_true rfl, Nat.le_of_ble_eq_true rfl⟩ gw_336 dX7_takeNumber_54) rfl (fun z54 M3 h54 => ?_)
      rw [← hsv] at h54
      have ht1 : TxOk (M3 27) L (pC (M 27 1) L sg sg s0) := by rw [h54.2]; exact setS_ok ht (pC_ok hpk)
      have hc1 : M3 27 1 = M 27 1 := by rw [h54.2, setS_1]
      refine r_pop (pc' := 58) X dX7_takeNumber_57 rfl rfl ?_
      refine r_aload_n (pc' := 59) X 0 dX7_takeNumber_58 rfl rfl rfl ?_
      refine r_iconst (pc' := 60) X dX7_takeNumber_59 rfl ?_
      refine w_calli (pc' := 63) (st := []) (w_runV X (c_X7_takeTwoDigits l G M3 0 L (pC (M 27 1) L sg sg s0) (by first | assumption | omega) ht1) cf_X7_takeTwoDigits k27_0 rfl gw_346 gp_3 rfl rfl ⟨Nat.le_of_ble_eq_true rfl, Nat.le_of_ble_eq_true rfl⟩ rfl rfl (Nat.le_of_ble_eq_true rfl) ⟨Nat.le_of_ble_eq_true rfl, Nat.le_of_ble_eq_true rfl⟩ gw_344 dX7_takeNumber_60) rfl (fun z60 M4 h60 => ?_)
      rw [hc1, h54.2, setS_setS] at h60
      refine r_istore_n (pc' := 64) (lc' := [(0, vR G (27, 0)), (1, vI 0), (2, vI z60)]) X [1, 2, 0] dX7_takeNumber_63 rfl (by decide) rfl rfl ?_
      refine r_iload_n (pc' := 65) X 1 dX7_takeNumber_64 rfl rfl rfl ?_
      refine r_if_eq (pc' := 68) (tgt := 73) X dX7_takeNumber_65 rfl rfl (by omega) (fun h65 => ?_) (fun h65 => absurd h65 (by decide))
      refine r_iload_n (pc' := 74) X 2 dX7_takeNumber_73 rfl rfl rfl ?_
      refine w_iret X hr dX7_takeNumber_74 ?_
      try dsimp only
      refine ⟨?_, by rw [h60.2, hsg]; rfl⟩
      unfold pN
      rw [← hsg]
      dsimp only
      first | rw [if_pos (by omega)] | rw [if_neg (by omega)]
      omega
    · refine r_iconst (pc' := 26) X dX7_takeNumber_25 rfl ?_
      refine r_goto (tgt := 30) X dX7_takeNumber_26 rfl ?_
      refine r_istore_n (pc' := 31) (lc' := [(0, vR G (27, 0)), (1, vI 1)]) X [1, 0] dX7_takeNumber_30 rfl (by decide) rfl rfl ?_
      have hsv : sg = 45 := by rw [hsg]; unfold pZ; first | rw [if_pos (by omega)] | rw [if_neg (by omega)]
      refine r_aload_n (pc' := 32) X 0 dX7_takeNumber_31 rfl rfl rfl ?_
      refine r_iload_n (pc' := 33) X 1 dX7_takeNumber_32 rfl rfl rfl ?_
      refine r_if_eq (pc' := 36) (tgt := 41) X dX7_takeNumber_33 rfl rfl (by omega) (fun h33 => absurd h33 (by decide)) (fun h33 => ?_)
      refine r_bipush (pc' := 38) X dX7_takeNumber_36 rfl rfl ?_
      refine r_goto (tgt := 43) X dX7_takeNumber_38 rfl ?_
      refine r_iload_n (pc' := 44) X 1 dX7_takeNumber_43 rfl rfl rfl ?_
      refine r_if_eq (pc' := 47) (tgt := 52) X dX7_takeNumber_44 rfl rfl (by omega) (fun h44 => absurd h44 (by decide)) (fun h44 => ?_)
      refine r_bipush (pc' := 49) X dX7_takeNumber_47 rfl rfl ?_
      refine r_goto (tgt := 54) X dX7_takeNumber_49 rfl ?_
      refine w_calli (pc' := 57) (st := []) (w_runV X (c_X7_takeCharacter l G M 45 45 L s0 (by first | assumption | omega) (by first | assumption | omega) ht) cf_X7_takeCharacter k27_0 rfl gw_338 gp_1 rfl rfl ⟨Nat.le_of_ble_eq_true rfl, Nat.le_of_ble_eq_true rfl⟩ rfl rfl (Nat.le_of_ble_eq_true rfl) ⟨Nat.le_of_ble_eq_true rfl, Nat.le_of_ble_eq_true rfl⟩ gw_336 dX7_takeNumber_54) rfl (fun z54 M5 h54 => ?_)
      rw [← hsv] at h54
      have ht1 : TxOk (M5 27) L (pC (M 27 1) L sg sg s0) := by rw [h54.2]; exact setS_ok ht (pC_ok hpk)
      have hc1 : M5 27 1 = M 27 1 := by rw [h54.2, setS_1]
      refine r_pop (pc' := 58) X dX7_takeNumber_57 rfl rfl ?_
      refine r_aload_n (pc' := 59) X 0 dX7_takeNumber_58 rfl rfl rfl ?_
      refine r_iconst (pc' := 60) X dX7_takeNumber_59 rfl ?_
      refine w_calli (pc' := 63) (st := []) (w_runV X (c_X7_takeTwoDigits l G M5 0 L (pC (M 27 1) L sg sg s0) (by first | assumption | omega) ht1) cf_X7_takeTwoDigits k27_0 rfl gw_346 gp_3 rfl rfl ⟨Nat.le_of_ble_eq_true rfl, Nat.le_of_ble_eq_true rfl⟩ rfl rfl (Nat.le_of_ble_eq_true rfl) ⟨Nat.le_of_ble_eq_true rfl, Nat.le_of_ble_eq_true rfl⟩ gw_344 dX7_takeNumber_60) rfl (fun z60 M6 h60 => ?_)
      rw [hc1, h54.2, setS_setS] at h60
      refine r_istore_n (pc' := 64) (lc' := [(0, vR G (27, 0)), (1, vI 1), (2, vI z60)]) X [1, 2, 0] dX7_takeNumber_63 rfl (by decide) rfl rfl ?_
      refine r_iload_n (pc' := 65) X 1 dX7_takeNumber_64 rfl rfl rfl ?_
      refine r_if_eq (pc' := 68) (tgt := 73) X dX7_takeNumber_65 rfl rfl (by omega) (fun h65 => absurd h65 (by decide)) (fun h65 => ?_)
      refine r_iload_n (pc' := 69) X 2 dX7_takeNumber_68 rfl rfl rfl ?_
      refine r_ineg (pc' := 70) X dX7_takeNumber_69 rfl ?_
      refine r_goto (tgt := 74) X dX7_takeNumber_70 rfl ?_
      refine w_iret X hr dX7_takeNumber_74 ?_
      try dsimp only
      refine ⟨?_, by rw [h60.2, hsg]; rfl⟩
      unfold pN
      rw [← hsg]
      dsimp only
      first | rw [if_pos (by omega)] | rw [if_neg (by omega)]
      omega
