theorem cf_X8_unknown : wCal yX8_unknown cX8_unknown 4 (some .int) 1 := ⟨gw_539, gw_1, by decide, by decide, by rfl⟩
set_option maxRecDepth 100000 in
set_option maxHeartbeats 4000000 in
theorem c_X8_unknown (l : Launch) (G : wG) (M : wM) (hfl : l.stackTraces = false) (N P : Nat) (T : Int) (hck : COk M N P T) (hT6 : T ≤ 1000000) (b : Int) (hb : b = 0 ∨ b = 1) : vx_Met l yX8_unknown (gws yX8_unknown cX8_unknown 4 (some .int)) (wrm 6 1 6) (wPc G M [vR G (28, 0), vI b]) (wQi G (fun z M1 => M 0 0 9 ≠ 0 ∧ expl N (M 19) (M 0) z ∧ (-(M 0 0 11) ≤ z ∧ z ≤ M 0 0 11) ∧ (∀ d, -(M 0 0 11) ≤ d → d ≤ M 0 0 11 → expl N (M 19) (M 0) d → if b = 1 then d ≤ z else z ≤ d) ∧ M1 = M)) (wQx G (fun E M1 => E = "java/lang/IllegalStateException" ∧ (M 0 0 9 = 0 ∨ ∀ d, -(M 0 0 11) ≤ d → d ≤ M 0 0 11 → ¬ expl N (M 19) (M 0) d) ∧ ScrEq M M1)) 1 6 (wA G) := by
  refine wMetX (lc := [(0, vR G (28, 0)), (1, vI b)]) (by decide) (Nat.le_of_ble_eq_true rfl) rfl ?_
  intro p e s m args below meth c X hr hex
  have X : wX p s m args meth c G 4 "StateObserver" cX8_unknown := X
  obtain ⟨hp, hm, hbx⟩ := id hck
  obtain ⟨hN, hN1, hN4, hP, hP1, hP3, hA, hB, hE, hC, hQ⟩ := id hp
  obtain ⟨hT, hL, hU, hS, hG, hY, hAg, hHo, hBo, hTi, hLi, hLb, hLl, hLh⟩ := id hm
  refine r_aload_n (pc' := 1) X 0 dX8_unknown_0 rfl rfl rfl ?_
  refine gf_28_now (pc' := 4) X gw_297 dX8_unknown_1 rfl ?_
  refine gf_M_time (pc' := 7) X (by decide) gw_126 dX8_unknown_4 rfl ?_
  refine r_if_ne (pc' := 10) (tgt := 21) X dX8_unknown_7 rfl rfl (by omega) (fun h7 => ?_) (fun h7 => ?_)
  · refine r_aload_n (pc' := 22) X 0 dX8_unknown_21 rfl rfl rfl ?_
    refine gf_28_now (pc' := 25) X gw_297 dX8_unknown_22 rfl ?_
    refine gf_M_lastBound (pc' := 28) X (by decide) gw_132 dX8_unknown_25 rfl ?_
    refine w_eqI (z' := (M 0 0 11 - ((0 : Nat) : Int))) (by omega) ?_
    refine r_istore_n (pc' := 29) (lc' := [(0, vR G (28, 0)), (1, vI b), (2, vI (M 0 0 11 - ((0 : Nat) : Int)))]) X [1, 2, 0] dX8_unknown_28 rfl (by decide) rfl rfl ?_
    have L29 : ∀ (fu : Nat) (q : Nat), (2 * M 0 0 11 + 1 - (q : Int)).toNat < fu → ((q : Int) ≤ 2 * M 0 0 11 + 1) → (∀ x : Nat, x < q → ¬ expl N (M 19) (M 0) (if b = 1 then M 0 0 11 - (x : Int) else -(M 0 0 11 - (x : Int)))) → wV p l e (wrm 6 1 6) s m args below meth c G 4 M 0 0 (vx_MQ below (wQi G (fun z M1 => M 0 0 9 ≠ 0 ∧ expl N (M 19) (M 0) z ∧ (-(M 0 0 11) ≤ z ∧ z ≤ M 0 0 11) ∧ (∀ d, -(M 0 0 11) ≤ d → d ≤ M 0 0 11 → expl N (M 19) (M 0) d → if b = 1 then d ≤ z else z ≤ d) ∧ M1 = M)) (wQx G (fun E M1 => E = "java/lang/IllegalStateException" ∧ (M 0 0 9 = 0 ∨ ∀ d, -(M 0 0 11) ≤ d → d ≤ M 0 0 11 → ¬ expl N (M 19) (M 0) d) ∧ ScrEq M M1)) args s 1 6 (wA G)) 29 [(0, vR G (28, 0)), (1, vI b), (2, vI (M 0 0 11 - (q : Int)))] [] := by
      intro fu
      induction fu with
      | zero => intro q hfu; exact absurd hfu (Nat.not_lt_zero _)
      | succ fu ih29 =>
        intro q hfu29 hq hno
        refine r_iload_n (pc' := 30) X 2 dX8_unknown_29 rfl rfl rfl ?_
        refine r_aload_n (pc' := 31) X 0 dX8_unknown_30 rfl rfl rfl ?_
        refine gf_28_now (pc' := 34) X gw_297 dX8_unknown_31 rfl ?_
        refine gf_M_lastBound (pc' := 37) X (by decide) gw_132 dX8_unknown_34 rfl ?_
        refine r_ineg (pc' := 38) X dX8_unknown_37 rfl ?_
        refine r_icmp_lt (pc' := 41) (tgt := 75) X dX8_unknown_38 rfl rfl (by omega) (by omega) (fun h38 => ?_) (fun h38 => ?_)
        · refine r_thSW X hfl hex gw_474 ts_547 dX8_unknown_75 dX8_unknown_78 dX8_unknown_79 dX8_unknown_82 dX8_unknown_85 (by decide) (by decide) (by decide) (by decide) ?_
          try dsimp only
          refine ⟨rfl, Or.inr fun d h1 h2 h3 => ?_, ScrEq.rfl⟩
          by_cases hb1 : b = 1
          · refine hno (M 0 0 11 - d).toNat (by omega) ?_
            rw [if_pos hb1, show M 0 0 11 - ((M 0 0 11 - d).toNat : Int) = d by omega]
            exact h3
          · refine hno (M 0 0 11 + d).toNat (by omega) ?_
            rw [if_neg hb1, show -(M 0 0 11 - ((M 0 0 11 + d).toNat : Int)) = d by omega]
            exact h3
        · refine r_iload_n (pc' := 42) X 1 dX8_unknown_41 rfl rfl rfl ?_
          refine r_if_eq (pc' := 45) (tgt := 49) X dX8_unknown_42 rfl rfl (by omega) (fun h42 => ?_) (fun h42 => ?_)
          · refine r_iload_n (pc' := 50) X 2 dX8_unknown_49 rfl rfl rfl ?_
            refine r_ineg (pc' := 51) X dX8_unknown_50 rfl ?_
            refine r_istore_n (pc' := 52) (lc' := [(0, vR G (28, 0)), (1, vI b), (2, vI (M 0 0 11 - (q : Int))), (3, vI (-(M 0 0 11 - (q : Int))))]) X [1, 2, 3, 0] dX8_unknown_51 rfl (by decide) rfl rfl ?_
            refine r_aload_n (pc' := 53) X 0 dX8_unknown_52 rfl rfl rfl ?_
            refine gf_28_plant (pc' := 56) X gw_296 dX8_unknown_53 rfl ?_
            refine r_iload_n (pc' := 57) X 3 dX8_unknown_56 rfl rfl rfl ?_
            refine r_aload_n (pc' := 58) X 0 dX8_unknown_57 rfl rfl rfl ?_
            refine gf_28_now (pc' := 61) X gw_297 dX8_unknown_58 rfl ?_
            refine w_calli (pc' := 64) (st := []) (w_runV X (c_X3_explains l G M 19 0 N P (-(M 0 0 11 - (q : Int))) T (by decide) (by decide) (by omega) hp hm (by first | assumption | omega)) cf_X3_explains (kP_0 (by decide)) rfl gw_542 gw_543 rfl rfl ⟨Nat.le_of_ble_eq_true rfl, Nat.le_of_ble_eq_true rfl⟩ rfl rfl (Nat.le_of_ble_eq_true rfl) ⟨Nat.le_of_ble_eq_true rfl, Nat.le_of_ble_eq_true rfl⟩ gw_541 dX8_unknown_61) rfl (fun z61 M1 h61 => ?_)
            have hz61 := h61.1
            have hex := h61.2.1
            obtain rfl := h61.2.2.symm
            have hcd : (if b = 1 then M 0 0 11 - (q : Int) else -(M 0 0 11 - (q : Int))) = (-(M 0 0 11 - (q : Int))) := by first | rw [if_pos (by omega)] | rw [if_neg (by omega)]
            have hnq : z61 = 0 → ¬ expl N (M 19) (M 0) (if b = 1 then M 0 0 11 - (q : Int) else -(M 0 0 11 - (q : Int))) := fun w1 w2 => by rw [hcd] at w2; have := hex.mpr w2; omega
            refine r_if_eq (pc' := 67) (tgt := 69) X dX8_unknown_64 rfl rfl (by omega) (fun h64 => ?_) (fun h64 => ?_)
            · refine r_iinc (pc' := 72) (z' := (M 0 0 11 - ((q + 1 : Nat) : Int))) (lc' := [(0, vR G (28, 0)), (1, vI b), (2, vI (M 0 0 11 - ((q + 1 : Nat) : Int))), (3, vI (-(M 0 0 11 - (q : Int))))]) X 2 [1, 2, 0, 3] dX8_unknown_69 rfl (by omega) (by decide) rfl rfl ?_
              refine r_goto (tgt := 29) X dX8_unknown_72 rfl ?_
              refine w_sub (lc' := [(0, vR G (28, 0)), (1, vI b), (2, vI (M 0 0 11 - ((q + 1 : Nat) : Int)))]) [0, 1, 2] rfl ?_
              exact ih29 (q + 1) (by omega) (by omega) (fun x hx => by rcases Nat.lt_or_ge x q with w | w; exact hno x w; rw [show x = q by omega]; exact hnq (by omega))
            · refine r_iload_n (pc' := 68) X 3 dX8_unknown_67 rfl rfl rfl ?_
              refine w_x (by decide) (by decide) ?_
              refine w_iret X hr dX8_unknown_68 ?_
              try dsimp only
              refine ⟨by omega, hex.mp (by omega), by omega, fun d h1 h2 h3 => ?_, rfl⟩
              by_cases hb1 : b = 1
              · rw [if_pos hb1]
                rcases Int.lt_or_le (M 0 0 11 - (q : Int)) d with w | w
                · exfalso
                  refine hno (M 0 0 11 - d).toNat (by omega) ?_
                  rw [if_pos hb1, show M 0 0 11 - ((M 0 0 11 - d).toNat : Int) = d by omega]
                  exact h3
                · omega
              · rw [if_neg hb1]
                rcases Int.lt_or_le d (-(M 0 0 11 - (q : Int))) with w | w
                · exfalso
                  refine hno (M 0 0 11 + d).toNat (by omega) ?_
                  rw [if_neg hb1, show -(M 0 0 11 - ((M 0 0 11 + d).toNat : Int)) = d by omega]
                  exact h3
                · omega
          · refine r_iload_n (pc' := 46) X 2 dX8_unknown_45 rfl rfl rfl ?_
            refine r_goto (tgt := 51) X dX8_unknown_46 rfl ?_
            refine r_istore_n (pc' := 52) (lc' := [(0, vR G (28, 0)), (1, vI b), (2, vI (M 0 0 11 - (q : Int))), (3, vI (M 0 0 11 - (q : Int)))]) X [1, 2, 3, 0] dX8_unknown_51 rfl (by decide) rfl rfl ?_
            refine r_aload_n (pc' := 53) X 0 dX8_unknown_52 rfl rfl rfl ?_
            refine gf_28_plant (pc' := 56) X gw_296 dX8_unknown_53 rfl ?_
            refine r_iload_n (pc' := 57) X 3 dX8_unknown_56 rfl rfl rfl ?_
            refine r_aload_n (pc' := 58) X 0 dX8_unknown_57 rfl rfl rfl ?_
            refine gf_28_now (pc' := 61) X gw_297 dX8_unknown_58 rfl ?_
            refine w_calli (pc' := 64) (st := []) (w_runV X (c_X3_explains l G M 19 0 N P (M 0 0 11 - (q : Int)) T (by decide) (by decide) (by omega) hp hm (by first | assumption | omega)) cf_X3_explains (kP_0 (by decide)) rfl gw_542 gw_543 rfl rfl ⟨Nat.le_of_ble_eq_true rfl, Nat.le_of_ble_eq_true rfl⟩ rfl rfl (Nat.le_of_ble_eq_true rfl) ⟨Nat.le_of_ble_eq_true rfl, Nat.le_of_ble_eq_true rfl⟩ gw_541 dX8_unknown_61) rfl (fun z61 M2 h61 => ?_)
            have hz61 := h61.1
            have hex := h61.2.1
            obtain rfl := h61.2.2.symm
            have hcd : (if b = 1 then M 0 0 11 - (q : Int) else -(M 0 0 11 - (q : Int))) = (M 0 0 11 - (q : Int)) := by first | rw [if_pos (by omega)] | rw [if_neg (by omega)]
            have hnq : z61 = 0 → ¬ expl N (M 19) (M 0) (if b = 1 then M 0 0 11 - (q : Int) else -(M 0 0 11 - (q : Int))) := fun w1 w2 => by rw [hcd] at w2; have := hex.mpr w2; omega
            refine r_if_eq (pc' := 67) (tgt := 69) X dX8_unknown_64 rfl rfl (by omega) (fun h64 => ?_) (fun h64 => ?_)
            · refine r_iinc (pc' := 72) (z' := (M 0 0 11 - ((q + 1 : Nat) : Int))) (lc' := [(0, vR G (28, 0)), (1, vI b), (2, vI (M 0 0 11 - ((q + 1 : Nat) : Int))), (3, vI (M 0 0 11 - (q : Int)))]) X 2 [1, 2, 0, 3] dX8_unknown_69 rfl (by omega) (by decide) rfl rfl ?_
              refine r_goto (tgt := 29) X dX8_unknown_72 rfl ?_
              refine w_sub (lc' := [(0, vR G (28, 0)), (1, vI b), (2, vI (M 0 0 11 - ((q + 1 : Nat) : Int)))]) [0, 1, 2] rfl ?_
              exact ih29 (q + 1) (by omega) (by omega) (fun x hx => by rcases Nat.lt_or_ge x q with w | w; exact hno x w; rw [show x = q by omega]; exact hnq (by omega))
            · refine r_iload_n (pc' := 68) X 3 dX8_unknown_67 rfl rfl rfl ?_
              refine w_x (by decide) (by decide) ?_
              refine w_iret X hr dX8_unknown_68 ?_
              try dsimp only
              refine ⟨by omega, hex.mp (by omega), by omega, fun d h1 h2 h3 => ?_, rfl⟩
              by_cases hb1 : b = 1
              · rw [if_pos hb1]
                rcases Int.lt_or_le (M 0 0 11 - (q : Int)) d with w | w
                · exfalso
                  refine hno (M 0 0 11 - d).toNat (by omega) ?_
                  rw [if_pos hb1, show M 0 0 11 - ((M 0 0 11 - d).toNat : Int) = d by omega]
                  exact h3
                · omega
              · rw [if_neg hb1]
                rcases Int.lt_or_le d (-(M 0 0 11 - (q : Int))) with w | w
                · exfalso
                  refine hno (M 0 0 11 + d).toNat (by omega) ?_
                  rw [if_neg hb1, show -(M 0 0 11 - ((M 0 0 11 + d).toNat : Int)) = d by omega]
                  exact h3
                · omega
    exact L29 (((2 * M 0 0 11 + 1 - (0 : Int)).toNat) + 1) 0 (Nat.lt_succ_self _) (by omega) (fun x h => absurd h (Nat.not_lt_zero x))
  · refine r_thSW X hfl hex gw_474 ts_540 dX8_unknown_10 dX8_unknown_13 dX8_unknown_14 dX8_unknown_17 dX8_unknown_20 (by decide) (by decide) (by decide) (by decide) ?_
    try dsimp only
    exact ⟨rfl, Or.inl (by omega), ScrEq.rfl⟩
theorem cf_X8_rankAfter : wCal yX8_rankAfter cX8_rankAfter 2 (some .int) 1 := ⟨gw_642, gw_1, by decide, by decide, by rfl⟩
set_option maxRecDepth 100000 in
set_option maxHeartbeats 4000000 in
theorem c_X8_rankAfter (l : Launch) (G : wG) (M : wM) (hfl : l.stackTraces = false) (N P : Nat) (T : Int) (hck : COk M N P T) (hT6 : T ≤ 1000000) (n : Int) (hn : rI n) : vx_Met l yX8_rankAfter (gws yX8_rankAfter cX8_rankAfter 2 (some .int)) (wrm 6 1 6) (wPc G M [vR G (28, 0), vI n]) (wQi G (fun z M1 => (1 ≤ n ∧ n ≤ 8) ∧ (∃ k' : Nat, z = (k' : Int) ∧ k' ≤ N ∧ RankOf N (Sp N (Gp N P (M 19) n.toNat)) k') ∧ ScrEq M M1)) (wQx G (fun E M1 => ((E = "java/lang/IllegalArgumentException" ∧ ¬ (1 ≤ n ∧ n ≤ 8))) ∧ ScrEq M M1)) 1 6 (wA G) := by
  refine wMetX (lc := [(0, vR G (28, 0)), (1, vI n)]) (by decide) (Nat.le_of_ble_eq_true rfl) rfl ?_
  intro p e s m args below meth c X hr hex
  have X : wX p s m args meth c G 2 "StateObserver" cX8_rankAfter := X
  obtain ⟨hp, hm, hbx⟩ := id hck
  obtain ⟨hN, hN1, hN4, hP, hP1, hP3, hA, hB, hE, hC, hQ⟩ := id hp
  obtain ⟨hT, hL, hU, hS, hG, hY, hAg, hHo, hBo, hTi, hLi, hLb, hLl, hLh⟩ := id hm
  refine r_iload_n (pc' := 1) X 1 dX8_rankAfter_0 rfl rfl rfl ?_
  refine r_iconst (pc' := 2) X dX8_rankAfter_1 rfl ?_
  refine r_icmp_lt (pc' := 5) (tgt := 11) X dX8_rankAfter_2 rfl rfl (by omega) (by omega) (fun h2 => ?_) (fun h2 => ?_)
  · refine r_thAW X hfl hex gw_458 ts_643 dX8_rankAfter_11 dX8_rankAfter_14 dX8_rankAfter_15 dX8_rankAfter_18 dX8_rankAfter_21 (by decide) (by decide) (by decide) (by decide) ?_
    try dsimp only
    exact ⟨⟨rfl, by omega⟩, ScrEq.rfl⟩
  · refine r_iload_n (pc' := 6) X 1 dX8_rankAfter_5 rfl rfl rfl ?_
    refine r_bipush (pc' := 8) X dX8_rankAfter_6 rfl rfl ?_
    refine r_icmp_le (pc' := 11) (tgt := 22) X dX8_rankAfter_8 rfl rfl (by omega) (by omega) (fun h8 => ?_) (fun h8 => ?_)
    · refine r_aload_n (pc' := 23) X 0 dX8_rankAfter_22 rfl rfl rfl ?_
      refine gf_28_ranks (pc' := 26) X gw_303 dX8_rankAfter_23 rfl ?_
      refine r_aload_n (pc' := 27) X 0 dX8_rankAfter_26 rfl rfl rfl ?_
      refine gf_28_plant (pc' := 30) X gw_296 dX8_rankAfter_27 rfl ?_
      refine r_iload_n (pc' := 31) X 1 dX8_rankAfter_30 rfl rfl rfl ?_
      refine w_eqI (z' := ((n.toNat : Nat) : Int)) (by omega) ?_
      refine w_calli (pc' := 34) (st := []) (w_runV X (c_X4_ofPowers l G M 19 N P n.toNat (by decide) hp (by omega)) cf_X4_ofPowers k22_0 rfl gw_645 gw_646 rfl rfl ⟨Nat.le_of_ble_eq_true rfl, Nat.le_of_ble_eq_true rfl⟩ rfl rfl (Nat.le_of_ble_eq_true rfl) ⟨Nat.le_of_ble_eq_true rfl, Nat.le_of_ble_eq_true rfl⟩ gw_644 dX8_rankAfter_31) rfl (fun z31 M1 h31 => ?_)
      obtain ⟨k', hk1, hk2, hk3, hk4⟩ := h31
      refine w_x (by decide) (by decide) ?_
      refine w_iret X hr dX8_rankAfter_34 ?_
      try dsimp only
      exact ⟨by omega, ⟨k', hk1, hk2, hk3⟩, fun a _ _ h22 h23 _ _ => funext fun b => hk4 a b h22 h23⟩
    · refine r_thAW X hfl hex gw_458 ts_643 dX8_rankAfter_11 dX8_rankAfter_14 dX8_rankAfter_15 dX8_rankAfter_18 dX8_rankAfter_21 (by decide) (by decide) (by decide) (by decide) ?_
      try dsimp only
      exact ⟨⟨rfl, by omega⟩, ScrEq.rfl⟩
theorem cf_X8_hiddenDimension : wCal yX8_hiddenDimension cX8_hiddenDimension 2 (some .int) 1 := ⟨gw_882, gw_1, by decide, by decide, by rfl⟩
set_option maxRecDepth 100000 in
set_option maxHeartbeats 4000000 in
theorem c_X8_hiddenDimension (l : Launch) (G : wG) (M : wM) (hfl : l.stackTraces = false) (N P : Nat) (T : Int) (hck : COk M N P T) (hT6 : T ≤ 1000000) (n : Int) (hn : rI n) : vx_Met l yX8_hiddenDimension (gws yX8_hiddenDimension cX8_hiddenDimension 2 (some .int)) (wrm 6 1 6) (wPc G M [vR G (28, 0), vI n]) (wQi G (fun z M1 => (0 ≤ n ∧ n ≤ 8) ∧ (∃ k' : Nat, z = (N : Int) - (k' : Int) ∧ k' ≤ N ∧ RankOf N (Vis N P (M 19) n.toNat) k') ∧ ScrEq M M1)) (wQx G (fun E M1 => ((E = "java/lang/IllegalArgumentException" ∧ ¬ (0 ≤ n ∧ n ≤ 8))) ∧ ScrEq M M1)) 1 6 (wA G) := by
  refine wMetX (lc := [(0, vR G (28, 0)), (1, vI n)]) (by decide) (Nat.le_of_ble_eq_true rfl) rfl ?_
  intro p e s m args below meth c X hr hex
  have X : wX p s m args meth c G 2 "StateObserver" cX8_hiddenDimension := X
  obtain ⟨hp, hm, hbx⟩ := id hck
  obtain ⟨hN, hN1, hN4, hP, hP1, hP3, hA, hB, hE, hC, hQ⟩ := id hp
  obtain ⟨hT, hL, hU, hS, hG, hY, hAg, hHo, hBo, hTi, hLi, hLb, hLl, hLh⟩ := id hm
  refine r_iload_n (pc' := 1) X 1 dX8_hiddenDimension_0 rfl rfl rfl ?_
  refine r_if_lt (pc' := 4) (tgt := 10) X dX8_hiddenDimension_1 rfl rfl (by omega) (fun h1 => ?_) (fun h1 => ?_)
  · refine r_thAW X hfl hex gw_458 ts_883 dX8_hiddenDimension_10 dX8_hiddenDimension_13 dX8_hiddenDimension_14 dX8_hiddenDimension_17 dX8_hiddenDimension_20 (by decide) (by decide) (by decide) (by decide) ?_
    try dsimp only
    exact ⟨⟨rfl, by omega⟩, ScrEq.rfl⟩
  · refine r_iload_n (pc' := 5) X 1 dX8_hiddenDimension_4 rfl rfl rfl ?_
    refine r_bipush (pc' := 7) X dX8_hiddenDimension_5 rfl rfl ?_
    refine r_icmp_le (pc' := 10) (tgt := 21) X dX8_hiddenDimension_7 rfl rfl (by omega) (by omega) (fun h7 => ?_) (fun h7 => ?_)
    · refine r_aload_n (pc' := 22) X 0 dX8_hiddenDimension_21 rfl rfl rfl ?_
      refine gf_28_plant (pc' := 25) X gw_296 dX8_hiddenDimension_22 rfl ?_
      refine gf_P_n (pc' := 28) X (by decide) gw_38 dX8_hiddenDimension_25 rfl ?_
      refine w_eqI (z' := (N : Int)) hN ?_
      refine r_aload_n (pc' := 29) X 0 dX8_hiddenDimension_28 rfl rfl rfl ?_
      refine gf_28_ranks (pc' := 32) X gw_303 dX8_hiddenDimension_29 rfl ?_
      refine r_aload_n (pc' := 33) X 0 dX8_hiddenDimension_32 rfl rfl rfl ?_
      refine gf_28_plant (pc' := 36) X gw_296 dX8_hiddenDimension_33 rfl ?_
      refine r_iload_n (pc' := 37) X 1 dX8_hiddenDimension_36 rfl rfl rfl ?_
      refine w_eqI (z' := ((n.toNat : Nat) : Int)) (by omega) ?_
      refine w_calli (pc' := 40) (st := [vI (N : Int)]) (w_runV X (c_X4_ofVisible l G M 19 N P n.toNat (by decide) hp (by omega)) cf_X4_ofVisible k22_0 rfl gw_885 gw_886 rfl rfl ⟨Nat.le_of_ble_eq_true rfl, Nat.le_of_ble_eq_true rfl⟩ rfl rfl (Nat.le_of_ble_eq_true rfl) ⟨Nat.le_of_ble_eq_true rfl, Nat.le_of_ble_eq_true rfl⟩ gw_884 dX8_hiddenDimension_37) rfl (fun z37 M1 h37 => ?_)
      obtain ⟨k', hk1, hk2, hk3, hk4⟩ := h37
      refine r_isub (pc' := 41) X dX8_hiddenDimension_40 rfl ?_
      refine w_x (by decide) (by decide) ?_
      refine w_iret X hr dX8_hiddenDimension_41 ?_
      try dsimp only
      exact ⟨by omega, ⟨k', by rw [hk1], hk2, hk3⟩, fun a _ _ h22 h23 h24 _ => funext fun b => hk4 a b h22 h23 h24⟩
    · refine r_thAW X hfl hex gw_458 ts_883 dX8_hiddenDimension_10 dX8_hiddenDimension_13 dX8_hiddenDimension_14 dX8_hiddenDimension_17 dX8_hiddenDimension_20 (by decide) (by decide) (by decide) (by decide) ?_
      try dsimp only
      exact ⟨⟨rfl, by omega⟩, ScrEq.rfl⟩
theorem cf_X8_observabilityIndex : wCal yX8_observabilityIndex cX8_observabilityIndex 2 (some .int) 0 := ⟨gw_999, gw_1, by decide, by decide, by rfl⟩
set_option maxRecDepth 100000 in
set_option maxHeartbeats 4000000 in
theorem c_X8_observabilityIndex (l : Launch) (G : wG) (M : wM) (N P : Nat) (T : Int) (hck : COk M N P T) (hT6 : T ≤ 1000000) : Met l yX8_observabilityIndex (gws yX8_observabilityIndex cX8_observabilityIndex 2 (some .int)) (wrm 4 0 0) (wPc G M [vR G (28, 0)]) (wQi G (fun z M1 => ((∃ j : Nat, 1 ≤ j ∧ j ≤ N ∧ z = (j : Int) ∧ RankOf N (Sp N (Gp N P (M 19) j)) N ∧ ∀ s, 1 ≤ s → s < j → ¬ RankOf N (Sp N (Gp N P (M 19) s)) N) ∨ (z = -9 ∧ ∀ s, 1 ≤ s → s ≤ N → ¬ RankOf N (Sp N (Gp N P (M 19) s)) N)) ∧ ScrEq M M1)) 0 0 (wA G) := by
  refine wMet (lc := [(0, vR G (28, 0))]) (by decide) (Nat.le_of_ble_eq_true rfl) rfl ?_
  intro p e s m args below meth c X hr
  have X : wX p s m args meth c G 2 "StateObserver" cX8_observabilityIndex := X
  obtain ⟨hp, hm, hbx⟩ := id hck
  obtain ⟨hN, hN1, hN4, hP, hP1, hP3, hA, hB, hE, hC, hQ⟩ := id hp
  obtain ⟨hT, hL, hU, hS, hG, hY, hAg, hHo, hBo, hTi, hLi, hLb, hLl, hLh⟩ := id hm
  refine r_iconst (pc' := 1) X dX8_observabilityIndex_0 rfl ?_
  refine r_istore_n (pc' := 2) (lc' := [(0, vR G (28, 0)), (1, vI 1)]) X [1, 0] dX8_observabilityIndex_1 rfl (by decide) rfl rfl ?_
  have L2 : ∀ (fu : Nat) (j : Nat) (Ma : wM), N + 1 - j < fu → (1 ≤ j ∧ j ≤ N + 1) → (∀ a, a ≠ 22 → a ≠ 23 → Ma a = M a) → (∀ s, 1 ≤ s → s < j → ¬ RankOf N (Sp N (Gp N P (M 19) s)) N) → wV p l e (wrm 4 0 0) s m args below meth c G 2 Ma 0 0 (MQ below (wQi G (fun z M1 => ((∃ j : Nat, 1 ≤ j ∧ j ≤ N ∧ z = (j : Int) ∧ RankOf N (Sp N (Gp N P (M 19) j)) N ∧ ∀ s, 1 ≤ s → s < j → ¬ RankOf N (Sp N (Gp N P (M 19) s)) N) ∨ (z = -9 ∧ ∀ s, 1 ≤ s → s ≤ N → ¬ RankOf N (Sp N (Gp N P (M 19) s)) N)) ∧ ScrEq M M1)) args s 0 0 (wA G)) 2 [(0, vR G (28, 0)), (1, vI (j : Int))] [] := by
    intro fu
    induction fu with
    | zero => intro j Ma hfu; exact absurd hfu (Nat.not_lt_zero _)
    | succ fu ih2 =>
      intro j Ma hfu2 hj hfr hno
      have e19 := hfr 19 (by decide) (by decide)
      have eN : Ma 19 0 0 = N := by rw [e19]; exact hN
      refine r_iload_n (pc' := 3) X 1 dX8_observabilityIndex_2 rfl rfl rfl ?_
      refine r_aload_n (pc' := 4) X 0 dX8_observabilityIndex_3 rfl rfl rfl ?_
      refine gf_28_plant (pc' := 7) X gw_296 dX8_observabilityIndex_4 rfl ?_
      refine gf_P_n (pc' := 10) X (by decide) gw_38 dX8_observabilityIndex_7 rfl ?_
      refine r_icmp_gt (pc' := 13) (tgt := 43) X dX8_observabilityIndex_10 rfl rfl (by omega) (by omega) (fun h10 => ?_) (fun h10 => ?_)
      · refine r_bipush (pc' := 45) X dX8_observabilityIndex_43 rfl rfl ?_
        refine w_iret X hr dX8_observabilityIndex_45 ?_
        try dsimp only
        exact ⟨Or.inr ⟨rfl, fun s h1 h2 => hno s h1 (by omega)⟩, fun a _ _ h22 h23 _ _ => hfr a h22 h23⟩
      · refine r_aload_n (pc' := 14) X 0 dX8_observabilityIndex_13 rfl rfl rfl ?_
        refine gf_28_ranks (pc' := 17) X gw_303 dX8_observabilityIndex_14 rfl ?_
        refine r_aload_n (pc' := 18) X 0 dX8_observabilityIndex_17 rfl rfl rfl ?_
        refine gf_28_plant (pc' := 21) X gw_296 dX8_observabilityIndex_18 rfl ?_
        refine r_iload_n (pc' := 22) X 1 dX8_observabilityIndex_21 rfl rfl rfl ?_
        refine w_calli (pc' := 25) (st := []) (w_runV X (c_X4_ofPowers l G Ma 19 N P j (by decide) (by rw [e19]; exact hp) (by omega)) cf_X4_ofPowers k22_0 rfl gw_645 gw_646 rfl rfl ⟨Nat.le_of_ble_eq_true rfl, Nat.le_of_ble_eq_true rfl⟩ rfl rfl (Nat.le_of_ble_eq_true rfl) ⟨Nat.le_of_ble_eq_true rfl, Nat.le_of_ble_eq_true rfl⟩ gw_644 dX8_observabilityIndex_22) rfl (fun z22 M1 h22 => ?_)
        obtain ⟨k', hk1, hk2, hk3, hk4⟩ := h22
        rw [e19] at hk3
        have hfr2 : ∀ a, a ≠ 22 → a ≠ 23 → M1 a = M a := fun a h1 h2 => by rw [show M1 a = Ma a from funext fun b => hk4 a b h1 h2]; exact hfr a h1 h2
        have eN2 : M1 19 0 0 = N := by rw [hfr2 19 (by decide) (by decide)]; exact hN
        refine r_aload_n (pc' := 26) X 0 dX8_observabilityIndex_25 rfl rfl rfl ?_
        refine gf_28_plant (pc' := 29) X gw_296 dX8_observabilityIndex_26 rfl ?_
        refine gf_P_n (pc' := 32) X (by decide) gw_38 dX8_observabilityIndex_29 rfl ?_
        refine r_icmp_ne (pc' := 35) (tgt := 37) X dX8_observabilityIndex_32 rfl rfl (by omega) (by omega) (fun h32 => ?_) (fun h32 => ?_)
        · refine r_iinc (pc' := 40) (z' := ((j + 1 : Nat) : Int)) (lc' := [(0, vR G (28, 0)), (1, vI ((j + 1 : Nat) : Int))]) X 1 [1, 0] dX8_observabilityIndex_37 rfl (by omega) (by decide) rfl rfl ?_
          refine r_goto (tgt := 2) X dX8_observabilityIndex_40 rfl ?_
          exact ih2 (j + 1) M1 (by omega) (by omega) hfr2 (fun s h1 h2 => by rcases Nat.lt_or_ge s j with q | q; exact hno s h1 q; rw [show s = j by omega]; intro hr2; have := RankOf.unique hk3 hr2; omega)
        · refine r_iload_n (pc' := 36) X 1 dX8_observabilityIndex_35 rfl rfl rfl ?_
          refine w_iret X hr dX8_observabilityIndex_36 ?_
          try dsimp only
          refine ⟨Or.inl ⟨j, by omega, by omega, rfl, ?_, hno⟩, fun a _ _ h22 h23 _ _ => hfr2 a h22 h23⟩
          rw [show k' = N by omega] at hk3
          exact hk3
  exact L2 ((N + 1 - 1) + 1) 1 M (Nat.lt_succ_self _) (by omega) (fun _ _ _ => rfl) (fun s h1 h2 => absurd h1 (by omega))
theorem cf_X8_touched : wCal yX8_touched cX8_touched 3 (some .int) 0 := ⟨gw_991, gw_1, by decide, by decide, by rfl⟩
set_option maxRecDepth 100000 in
set_option maxHeartbeats 4000000 in
theorem c_X8_touched (l : Launch) (G : wG) (M : wM) (N P : Nat) (T : Int) (hck : COk M N P T) (hT6 : T ≤ 1000000) : Met l yX8_touched (gws yX8_touched cX8_touched 3 (some .int)) (wrm 1 0 0) (wPc G M [vR G (28, 0)]) (wQi G (fun z M1 => z = tch N (M 19) P ∧ M1 = M)) 0 0 (wA G) := by
  refine wMet (lc := [(0, vR G (28, 0))]) (by decide) (Nat.le_of_ble_eq_true rfl) rfl ?_
  intro p e s m args below meth c X hr
  have X : wX p s m args meth c G 3 "StateObserver" cX8_touched := X
  obtain ⟨hp, hm, hbx⟩ := id hck
  obtain ⟨hN, hN1, hN4, hP, hP1, hP3, hA, hB, hE, hC, hQ⟩ := id hp
  obtain ⟨hT, hL, hU, hS, hG, hY, hAg, hHo, hBo, hTi, hLi, hLb, hLl, hLh⟩ := id hm
  refine r_iconst (pc' := 1) X dX8_touched_0 rfl ?_
  refine r_istore_n (pc' := 2) (lc' := [(0, vR G (28, 0)), (1, vI 0)]) X [1, 0] dX8_touched_1 rfl (by decide) rfl rfl ?_
  refine r_iconst (pc' := 3) X dX8_touched_2 rfl ?_
  refine r_istore_n (pc' := 4) (lc' := [(0, vR G (28, 0)), (1, vI 0), (2, vI 0)]) X [1, 2, 0] dX8_touched_3 rfl (by decide) rfl rfl ?_
  have L4 : ∀ (fu : Nat) (k : Nat) (sm : Int), P - k < fu → (k ≤ P) → (sm = tch N (M 19) k) → wV p l e (wrm 1 0 0) s m args below meth c G 3 M 0 0 (MQ below (wQi G (fun z M1 => z = tch N (M 19) P ∧ M1 = M)) args s 0 0 (wA G)) 4 [(0, vR G (28, 0)), (1, vI sm), (2, vI (k : Int))] [] := by
    intro fu
    induction fu with
    | zero => intro k sm hfu; exact absurd hfu (Nat.not_lt_zero _)
    | succ fu ih4 =>
      intro k sm hfu4 hk hsm
      refine r_iload_n (pc' := 5) X 2 dX8_touched_4 rfl rfl rfl ?_
      refine r_aload_n (pc' := 6) X 0 dX8_touched_5 rfl rfl rfl ?_
      refine gf_28_plant (pc' := 9) X gw_296 dX8_touched_6 rfl ?_
      refine gf_P_p (pc' := 12) X (by decide) gw_43 dX8_touched_9 rfl ?_
      refine r_icmp_ge (pc' := 15) (tgt := 55) X dX8_touched_12 rfl rfl (by omega) (by omega) (fun h12 => ?_) (fun h12 => ?_)
      · refine r_iload_n (pc' := 56) X 1 dX8_touched_55 rfl rfl rfl ?_
        refine w_iret X hr dX8_touched_56 ?_
        try dsimp only
        rw [hsm, show k = P by omega]
        exact ⟨rfl, rfl⟩
      · refine r_aload_n (pc' := 16) X 0 dX8_touched_15 rfl rfl rfl ?_
        refine gf_28_plant (pc' := 19) X gw_296 dX8_touched_16 rfl ?_
        refine r_aload_n (pc' := 20) X 0 dX8_touched_19 rfl rfl rfl ?_
        refine gf_28_plant (pc' := 23) X gw_296 dX8_touched_20 rfl ?_
        refine gf_P_c (pc' := 26) X (by decide) gw_62 dX8_touched_23 rfl ?_
        refine r_iload_n (pc' := 27) X 2 dX8_touched_26 rfl rfl rfl ?_
        refine r_aald (i := k) (x := (19, (9 + k))) (pc' := 28) X (kP_8 (by decide)) (by decide) (by omega) (by omega) (by decide) rfl dX8_touched_27 rfl ?_
        refine r_aload_n (pc' := 29) X 0 dX8_touched_28 rfl rfl rfl ?_
        refine gf_28_plant (pc' := 32) X gw_296 dX8_touched_29 rfl ?_
        refine gf_P_e (pc' := 35) X (by decide) gw_57 dX8_touched_32 rfl ?_
        refine w_callj (pc' := 38) (st := []) (w_runV X (c_X3_sum l G M 19 19 (9 + k) 19 7 N (by decide) (kP_c (by decide) (by omega)) (kP_7 (by decide)) hN hN4 (fun j hj => by have := hC k j (by omega) hj; omega) (fun j hj => by have := hE j hj; omega)) cf_X3_sum (kP_0 (by decide)) rfl gw_715 gw_716 rfl rfl ⟨Nat.le_of_ble_eq_true rfl, Nat.le_of_ble_eq_true rfl⟩ rfl rfl (Nat.le_of_ble_eq_true rfl) ⟨Nat.le_of_ble_eq_true rfl, Nat.le_of_ble_eq_true rfl⟩ gw_992 dX8_touched_35) rfl (fun z35 M1 h35 => ?_)
        obtain rfl := h35.1.symm
        obtain rfl := h35.2.symm
        have hdb := dot_bd (A := 99) (B := 99) (by decide) (by decide) (n := N) (f := M 19 (9 + k)) (g := M 19 7) (fun j hj => hC k j (by omega) hj) hE
        refine r_lconst (pc' := 39) (z := 0) X dX8_touched_38 rfl rfl ?_
        refine r_lcmp (pc' := 40) X dX8_touched_39 (by omega) (by omega) rfl (fun z39 z39r z39l z39e z39g => ?_)
        refine r_if_eq (pc' := 43) (tgt := 49) X dX8_touched_40 rfl rfl (by omega) (fun h40 => ?_) (fun h40 => ?_)
        · refine r_iinc (pc' := 52) (z' := ((k + 1 : Nat) : Int)) (lc' := [(0, vR G (28, 0)), (1, vI sm), (2, vI ((k + 1 : Nat) : Int))]) X 2 [1, 2, 0] dX8_touched_49 rfl (by omega) (by decide) rfl rfl ?_
          refine r_goto (tgt := 4) X dX8_touched_52 rfl ?_
          exact ih4 (k + 1) sm (by omega) (by omega) (by rw [hsm]; show _ = (if dot N (M 19 (9 + k)) (M 19 7) = 0 then _ else _); first | rw [if_pos (by omega)] | rw [if_neg (by omega)])
        · refine r_iload_n (pc' := 44) X 1 dX8_touched_43 rfl rfl rfl ?_
          refine r_iconst (pc' := 45) X dX8_touched_44 rfl ?_
          refine r_iload_n (pc' := 46) X 2 dX8_touched_45 rfl rfl rfl ?_
          refine r_ishl (pc' := 47) X dX8_touched_46 rfl ?_
          refine r_ior (pc' := 48) X dX8_touched_47 rfl ?_
          refine r_istore_n (pc' := 49) (lc' := [(0, vR G (28, 0)), (1, vI (orI sm (shlI 1 (k : Int)))), (2, vI (k : Int))]) X [1, 0, 2] dX8_touched_48 rfl (by decide) rfl rfl ?_
          refine r_iinc (pc' := 52) (z' := ((k + 1 : Nat) : Int)) (lc' := [(0, vR G (28, 0)), (1, vI (orI sm (shlI 1 (k : Int)))), (2, vI ((k + 1 : Nat) : Int))]) X 2 [1, 2, 0] dX8_touched_49 rfl (by omega) (by decide) rfl rfl ?_
          refine r_goto (tgt := 4) X dX8_touched_52 rfl ?_
          exact ih4 (k + 1) (orI sm (shlI 1 (k : Int))) (by omega) (by omega) (by rw [hsm]; show _ = (if dot N (M 19 (9 + k)) (M 19 7) = 0 then _ else _); first | rw [if_pos (by omega)] | rw [if_neg (by omega)])
  exact L4 ((P - 0) + 1) 0 0 (Nat.lt_succ_self _) (by omega) rfl
theorem cf_X8_free : wCal yX8_free cX8_free 3 (some .int) 2 := ⟨gw_907, gw_1, by decide, by decide, by rfl⟩
set_option maxRecDepth 100000 in
set_option maxHeartbeats 4000000 in
theorem c_X8_free (l : Launch) (G : wG) (M : wM) (hfl : l.stackTraces = false) (N P : Nat) (T : Int) (hck : COk M N P T) (hT6 : T ≤ 1000000) (q j : Int) (hq : rI q) (hj : rI j) : vx_Met l yX8_free (gws yX8_free cX8_free 3 (some .int)) (wrm 6 1 6) (wPc G M [vR G (28, 0), vI q, vI j]) (wQi G (fun z M1 => ((0 ≤ j ∧ j < N) ∧ (0 ≤ q ∧ q < combs (M 19 7) N)) ∧ z = combF (M 19 7) N q.toNat j.toNat ∧ ScrEq M M1)) (wQx G (fun E M1 => ((E = "java/lang/IndexOutOfBoundsException" ∧ ¬ ((0 ≤ j ∧ j < N) ∧ (0 ≤ q ∧ q < combs (M 19 7) N)))) ∧ ScrEq M M1)) 1 6 (wA G) := by
  refine wMetX (lc := [(0, vR G (28, 0)), (1, vI q), (2, vI j)]) (by decide) (Nat.le_of_ble_eq_true rfl) rfl ?_
  intro p e s m args below meth c X hr hex
  have X : wX p s m args meth c G 3 "StateObserver" cX8_free := X
  obtain ⟨hp, hm, hbx⟩ := id hck
  obtain ⟨hN, hN1, hN4, hP, hP1, hP3, hA, hB, hE, hC, hQ⟩ := id hp
  obtain ⟨hT, hL, hU, hS, hG, hY, hAg, hHo, hBo, hTi, hLi, hLb, hLl, hLh⟩ := id hm
  refine r_aload_n (pc' := 1) X 0 dX8_free_0 rfl rfl rfl ?_
  refine r_iload_n (pc' := 2) X 2 dX8_free_1 rfl rfl rfl ?_
  refine w_calli (pc' := 5) (st := []) (w_runV X (c_X8_isState l G M N P T hck (by first | assumption | omega) j (by first | assumption | omega)) cf_X8_isState k28_0 rfl gw_628 gp_10 rfl rfl ⟨Nat.le_of_ble_eq_true rfl, Nat.le_of_ble_eq_true rfl⟩ rfl rfl (Nat.le_of_ble_eq_true rfl) ⟨Nat.le_of_ble_eq_true rfl, Nat.le_of_ble_eq_true rfl⟩ gw_626 dX8_free_2) rfl (fun z2 M1 h2 => ?_)
  have hz2 := h2.1
  obtain rfl := h2.2.symm
  have hi2 : z2 = 0 ∨ z2 = 1 := by rw [hz2]; split <;> omega
  have hq2 : z2 = 1 ↔ (0 ≤ j ∧ j < N) := by rw [hz2]; split <;> omega
  refine r_if_eq (pc' := 8) (tgt := 23) X dX8_free_5 rfl rfl (by omega) (fun h5 => ?_) (fun h5 => ?_)
  · refine r_thXW X hfl hex gw_390 ts_916 dX8_free_23 dX8_free_26 dX8_free_27 dX8_free_30 dX8_free_33 (by decide) (by decide) (by decide) (by decide) ?_
    try dsimp only
    exact ⟨⟨rfl, by omega⟩, ScrEq.rfl⟩
  · refine r_iload_n (pc' := 9) X 1 dX8_free_8 rfl rfl rfl ?_
    refine r_if_lt (pc' := 12) (tgt := 23) X dX8_free_9 rfl rfl (by omega) (fun h9 => ?_) (fun h9 => ?_)
    · refine r_thXW X hfl hex gw_390 ts_916 dX8_free_23 dX8_free_26 dX8_free_27 dX8_free_30 dX8_free_33 (by decide) (by decide) (by decide) (by decide) ?_
      try dsimp only
      exact ⟨⟨rfl, by omega⟩, ScrEq.rfl⟩
    · refine r_iload_n (pc' := 13) X 1 dX8_free_12 rfl rfl rfl ?_
      refine r_aload_n (pc' := 14) X 0 dX8_free_13 rfl rfl rfl ?_
      refine gf_28_plant (pc' := 17) X gw_296 dX8_free_14 rfl ?_
      refine w_calli (pc' := 20) (st := [vI q]) (w_runV X (c_X3_combinations l G M 19 N P (by decide) hp) cf_X3_combinations (kP_0 (by decide)) rfl gw_909 gw_910 rfl rfl ⟨Nat.le_of_ble_eq_true rfl, Nat.le_of_ble_eq_true rfl⟩ rfl rfl (Nat.le_of_ble_eq_true rfl) ⟨Nat.le_of_ble_eq_true rfl, Nat.le_of_ble_eq_true rfl⟩ gw_908 dX8_free_17) rfl (fun z17 M2 h17 => ?_)
      have hz17 := h17.1
      obtain rfl := h17.2.symm
      have hcbs : combs (M 19 7) N = z17 := by rw [hz17]; rfl
      have hqq : 0 ≤ q → q < z17 → (if firstE (M 19 7) N 0 = -1 then q.toNat < N else q.toNat + 1 < N) := fun w1 w2 => by rw [hz17] at w2; split at w2 <;> rename_i w3; rw [if_pos w3]; omega; rw [if_neg w3]; omega
      have hcr : 0 ≤ z17 ∧ z17 ≤ 4 := by rw [hz17]; split <;> omega
      refine r_icmp_lt (pc' := 23) (tgt := 34) X dX8_free_20 rfl rfl (by omega) (by omega) (fun h20 => ?_) (fun h20 => ?_)
      · refine r_aload_n (pc' := 35) X 0 dX8_free_34 rfl rfl rfl ?_
        refine gf_28_plant (pc' := 38) X gw_296 dX8_free_35 rfl ?_
        refine r_iload_n (pc' := 39) X 1 dX8_free_38 rfl rfl rfl ?_
        refine w_eqI (z' := ((q.toNat : Nat) : Int)) (by omega) ?_
        refine r_aload_n (pc' := 40) X 0 dX8_free_39 rfl rfl rfl ?_
        refine gf_28_row (pc' := 43) X gw_304 dX8_free_40 rfl ?_
        refine w_callv (pc' := 46) (st := []) (w_runV X (c_X3_putCombination l G M 19 N P q.toNat (by decide) hp (hqq (by omega) (by omega))) cf_X3_putCombination (kP_0 (by decide)) rfl gw_918 gw_919 rfl rfl ⟨Nat.le_of_ble_eq_true rfl, Nat.le_of_ble_eq_true rfl⟩ rfl rfl (Nat.le_of_ble_eq_true rfl) ⟨Nat.le_of_ble_eq_true rfl, Nat.le_of_ble_eq_true rfl⟩ gw_917 dX8_free_43) rfl (fun M3 h43 => ?_)
        have eo : ∀ a, a ≠ 28 → M3 a = M a := fun a ha => funext fun b => h43.1 a b (by omega)
        refine r_aload_n (pc' := 47) X 0 dX8_free_46 rfl rfl rfl ?_
        refine gf_28_row (pc' := 50) X gw_304 dX8_free_47 rfl ?_
        refine r_iload_n (pc' := 51) X 2 dX8_free_50 rfl rfl rfl ?_
        refine r_iald (i := j.toNat) (pc' := 52) X k28_1 (by omega) (by omega) (by decide) dX8_free_51 rfl ?_
        refine w_x (by decide) (by decide) ?_
        refine w_iret X hr dX8_free_52 ?_
        try dsimp only
        exact ⟨by omega, h43.2 j.toNat (by omega), fun a _ _ _ _ _ h28 => eo a h28⟩
      · refine r_thXW X hfl hex gw_390 ts_916 dX8_free_23 dX8_free_26 dX8_free_27 dX8_free_30 dX8_free_33 (by decide) (by decide) (by decide) (by decide) ?_
        try dsimp only
        exact ⟨⟨rfl, by omega⟩, ScrEq.rfl⟩
theorem cf_X8_freeRange : wCal yX8_freeRange cX8_freeRange 3 (some .int) 2 := ⟨gw_934, gw_1, by decide, by decide, by rfl⟩
set_option maxRecDepth 100000 in
set_option maxHeartbeats 4000000 in
theorem c_X8_freeRange (l : Launch) (G : wG) (M : wM) (hfl : l.stackTraces = false) (N P : Nat) (T : Int) (hck : COk M N P T) (hT6 : T ≤ 1000000) (q b : Int) (hq : rI q) (hb : b = 0 ∨ b = 1) : vx_Met l yX8_freeRange (gws yX8_freeRange cX8_freeRange 3 (some .int)) (wrm 6 1 6) (wPc G M [vR G (28, 0), vI q, vI b]) (wQi G (fun z M1 => (0 ≤ q ∧ q < combs (M 19 7) N) ∧ z = ext N (combF (M 19 7) N q.toNat) (M 0 2) (M 0 3) (-1) b ∧ ScrEq M M1)) (wQx G (fun E M1 => ((E = "java/lang/IndexOutOfBoundsException" ∧ ¬ (0 ≤ q ∧ q < combs (M 19 7) N))) ∧ ScrEq M M1)) 1 6 (wA G) := by
  refine wMetX (lc := [(0, vR G (28, 0)), (1, vI q), (2, vI b)]) (by decide) (Nat.le_of_ble_eq_true rfl) rfl ?_
  intro p e s m args below meth c X hr hex
  have X : wX p s m args meth c G 3 "StateObserver" cX8_freeRange := X
  obtain ⟨hp, hm, hbx⟩ := id hck
  obtain ⟨hN, hN1, hN4, hP, hP1, hP3, hA, hB, hE, hC, hQ⟩ := id hp
  obtain ⟨hT, hL, hU, hS, hG, hY, hAg, hHo, hBo, hTi, hLi, hLb, hLl, hLh⟩ := id hm
  refine r_iload_n (pc' := 1) X 1 dX8_freeRange_0 rfl rfl rfl ?_
  refine r_if_lt (pc' := 4) (tgt := 15) X dX8_freeRange_1 rfl rfl (by omega) (fun h1 => ?_) (fun h1 => ?_)
  · refine r_thXW X hfl hex gw_390 ts_935 dX8_freeRange_15 dX8_freeRange_18 dX8_freeRange_19 dX8_freeRange_22 dX8_freeRange_25 (by decide) (by decide) (by decide) (by decide) ?_
    try dsimp only
    exact ⟨⟨rfl, by omega⟩, ScrEq.rfl⟩
  · refine r_iload_n (pc' := 5) X 1 dX8_freeRange_4 rfl rfl rfl ?_
    refine r_aload_n (pc' := 6) X 0 dX8_freeRange_5 rfl rfl rfl ?_
    refine gf_28_plant (pc' := 9) X gw_296 dX8_freeRange_6 rfl ?_
    refine w_calli (pc' := 12) (st := [vI q]) (w_runV X (c_X3_combinations l G M 19 N P (by decide) hp) cf_X3_combinations (kP_0 (by decide)) rfl gw_909 gw_910 rfl rfl ⟨Nat.le_of_ble_eq_true rfl, Nat.le_of_ble_eq_true rfl⟩ rfl rfl (Nat.le_of_ble_eq_true rfl) ⟨Nat.le_of_ble_eq_true rfl, Nat.le_of_ble_eq_true rfl⟩ gw_908 dX8_freeRange_9) rfl (fun z9 M1 h9 => ?_)
    have hz9 := h9.1
    obtain rfl := h9.2.symm
    have hcbs : combs (M 19 7) N = z9 := by rw [hz9]; rfl
    have hqq : 0 ≤ q → q < z9 → (if firstE (M 19 7) N 0 = -1 then q.toNat < N else q.toNat + 1 < N) := fun w1 w2 => by rw [hz9] at w2; split at w2 <;> rename_i w3; rw [if_pos w3]; omega; rw [if_neg w3]; omega
    have hcr : 0 ≤ z9 ∧ z9 ≤ 4 := by rw [hz9]; split <;> omega
    refine r_icmp_lt (pc' := 15) (tgt := 26) X dX8_freeRange_12 rfl rfl (by omega) (by omega) (fun h12 => ?_) (fun h12 => ?_)
    · refine r_aload_n (pc' := 27) X 0 dX8_freeRange_26 rfl rfl rfl ?_
      refine gf_28_plant (pc' := 30) X gw_296 dX8_freeRange_27 rfl ?_
      refine r_iload_n (pc' := 31) X 1 dX8_freeRange_30 rfl rfl rfl ?_
      refine w_eqI (z' := ((q.toNat : Nat) : Int)) (by omega) ?_
      refine r_aload_n (pc' := 32) X 0 dX8_freeRange_31 rfl rfl rfl ?_
      refine gf_28_row (pc' := 35) X gw_304 dX8_freeRange_32 rfl ?_
      refine w_callv (pc' := 38) (st := []) (w_runV X (c_X3_putCombination l G M 19 N P q.toNat (by decide) hp (hqq (by omega) (by omega))) cf_X3_putCombination (kP_0 (by decide)) rfl gw_918 gw_919 rfl rfl ⟨Nat.le_of_ble_eq_true rfl, Nat.le_of_ble_eq_true rfl⟩ rfl rfl (Nat.le_of_ble_eq_true rfl) ⟨Nat.le_of_ble_eq_true rfl, Nat.le_of_ble_eq_true rfl⟩ gw_917 dX8_freeRange_35) rfl (fun M2 h35 => ?_)
      have eo : ∀ a, a ≠ 28 → M2 a = M a := fun a ha => funext fun b => h35.1 a b (by omega)
      refine r_aload_n (pc' := 39) X 0 dX8_freeRange_38 rfl rfl rfl ?_
      refine gf_28_plant (pc' := 42) X gw_296 dX8_freeRange_39 rfl ?_
      refine r_aload_n (pc' := 43) X 0 dX8_freeRange_42 rfl rfl rfl ?_
      refine gf_28_row (pc' := 46) X gw_304 dX8_freeRange_43 rfl ?_
      refine r_aload_n (pc' := 47) X 0 dX8_freeRange_46 rfl rfl rfl ?_
      refine gf_28_now (pc' := 50) X gw_297 dX8_freeRange_47 rfl ?_
      refine r_iconst (pc' := 51) X dX8_freeRange_50 rfl ?_
      refine r_iload_n (pc' := 52) X 2 dX8_freeRange_51 rfl rfl rfl ?_
      refine w_callj (pc' := 55) (st := []) (w_runV X (c_X3_extreme l G M2 19 28 1 0 N (-1) b (by decide) (by decide) k28_1 (by rw [eo 19 (by decide)]; exact hN) hN4 (by first | assumption | omega) (by first | assumption | omega) (fun j hj => by rw [h35.2 j (by omega)]; have := combF_bd hN4 hE (hqq (by omega) (by omega)) hj; omega) (fun j hj => by rw [eo 0 (by decide)]; have := hL j hj; omega) (fun j hj => by rw [eo 0 (by decide)]; have := hU j hj; omega)) cf_X3_extreme (kP_0 (by decide)) rfl gw_491 gw_492 rfl rfl ⟨Nat.le_of_ble_eq_true rfl, Nat.le_of_ble_eq_true rfl⟩ rfl rfl (Nat.le_of_ble_eq_true rfl) ⟨Nat.le_of_ble_eq_true rfl, Nat.le_of_ble_eq_true rfl⟩ gw_490 dX8_freeRange_52) rfl (fun z52 M3 h52 => ?_)
      obtain rfl := h52.1.symm
      obtain rfl := h52.2.symm
      refine r_l2i (pc' := 56) X dX8_freeRange_55 rfl ?_
      refine w_x (by decide) (by decide) ?_
      refine w_iret X hr dX8_freeRange_56 ?_
      try dsimp only
      refine ⟨by omega, ?_, fun a _ _ _ _ _ h28 => eo a h28⟩
      rw [eo 0 (by decide)]
      exact ext_congr (fun j hj => h35.2 j (by omega)) (fun _ _ => rfl) (fun _ _ => rfl)
    · refine r_thXW X hfl hex gw_390 ts_935 dX8_freeRange_15 dX8_freeRange_18 dX8_freeRange_19 dX8_freeRange_22 dX8_freeRange_25 (by decide) (by decide) (by decide) (by decide) ?_
      try dsimp only
      exact ⟨⟨rfl, by omega⟩, ScrEq.rfl⟩
