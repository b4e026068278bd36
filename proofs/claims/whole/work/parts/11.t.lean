theorem cf_J9_floorDiv_f86c9 : wCal yJ9_floorDiv_f86c9 cJ9_floorDiv_f86c9 6 (some .long) 2 := ⟨gw_642, gw_16, by decide, by decide, by rfl⟩
set_option maxRecDepth 100000 in
set_option maxHeartbeats 4000000 in
theorem c_J9_floorDiv_f86c9 (l : Launch) (G : wG) (M : wM) (a b : Int) (ha : -4611686018427387904 ≤ a ∧ a ≤ 4611686018427387904) (hb : rJ b) (hb0 : b ≠ 0) : Met l yJ9_floorDiv_f86c9 (gws yJ9_floorDiv_f86c9 cJ9_floorDiv_f86c9 6 (some .long)) (wrm 0 0 0) (wPc G M [vJ a, vJ b]) (wQj G (fun z M1 => z = a.fdiv b ∧ M1 = M)) 0 0 (wA G) := by
  refine wMetF (lc := [(0, vJ a), (2, vJ b)]) (by decide +kernel) (Nat.le_of_ble_eq_true rfl) rfl ?_
  intro p e s m args below meth c X hr
  have X : wX p s m args meth c G 6 "java/lang/Math" cJ9_floorDiv_f86c9 := X
  have hq0 := q_tdiv (a := a) (b := b) hb0
  have hq1 := fdiv_of (q := a.tdiv b) hb0 rfl
  refine r_lload_n (pc' := 1) X 0 dJ9_floorDiv_f86c9_0 rfl rfl rfl ?_
  refine r_lload_n (pc' := 2) X 1 dJ9_floorDiv_f86c9_1 rfl rfl rfl ?_
  refine r_ldiv (pc' := 3) X dJ9_floorDiv_f86c9_2 (by omega) (by omega) (by omega) rfl ?_
  refine r_lstore (pc' := 5) (lc' := [(0, vJ a), (2, vJ b), (4, vJ (a.tdiv b))]) X [1, 2, 0] dJ9_floorDiv_f86c9_3 (by decide) rfl rfl ?_
  refine r_lload_n (pc' := 6) X 0 dJ9_floorDiv_f86c9_5 rfl rfl rfl ?_
  refine r_lload_n (pc' := 7) X 1 dJ9_floorDiv_f86c9_6 rfl rfl rfl ?_
  refine r_lxor (pc' := 8) X dJ9_floorDiv_f86c9_7 (by omega) (by omega) rfl (fun z7 z7r z7x => ?_)
  refine r_lconst (pc' := 9) (z := 0) X dJ9_floorDiv_f86c9_8 rfl rfl ?_
  refine r_lcmp (pc' := 10) X dJ9_floorDiv_f86c9_9 (by omega) (by omega) rfl (fun z9 z9r z9l z9e z9g => ?_)
  refine r_if_ge (pc' := 13) (tgt := 27) X dJ9_floorDiv_f86c9_10 rfl rfl (by omega) (fun h10 => ?_) (fun h10 => ?_)
  · refine r_lload (pc' := 29) X 2 dJ9_floorDiv_f86c9_27 rfl rfl ?_
    refine w_lret X hr dJ9_floorDiv_f86c9_29 ?_
    try dsimp only
    refine ⟨?_, rfl⟩
    rw [hq1, if_neg (by omega)]
  · refine r_lload (pc' := 15) X 2 dJ9_floorDiv_f86c9_13 rfl rfl ?_
    refine r_lload_n (pc' := 16) X 1 dJ9_floorDiv_f86c9_15 rfl rfl rfl ?_
    refine r_lmul (pc' := 17) X dJ9_floorDiv_f86c9_16 rfl ?_
    refine r_lload_n (pc' := 18) X 0 dJ9_floorDiv_f86c9_17 rfl rfl rfl ?_
    refine r_lcmp (pc' := 19) X dJ9_floorDiv_f86c9_18 (by omega) (by omega) rfl (fun z18 z18r z18l z18e z18g => ?_)
    refine r_if_eq (pc' := 22) (tgt := 27) X dJ9_floorDiv_f86c9_19 rfl rfl (by omega) (fun h19 => ?_) (fun h19 => ?_)
    · refine r_lload (pc' := 29) X 2 dJ9_floorDiv_f86c9_27 rfl rfl ?_
      refine w_lret X hr dJ9_floorDiv_f86c9_29 ?_
      try dsimp only
      refine ⟨?_, rfl⟩
      rw [hq1, if_neg (by omega)]
    · refine r_lload (pc' := 24) X 2 dJ9_floorDiv_f86c9_22 rfl rfl ?_
      refine r_lconst (pc' := 25) (z := 1) X dJ9_floorDiv_f86c9_24 rfl rfl ?_
      refine r_lsub (pc' := 26) X dJ9_floorDiv_f86c9_25 rfl ?_
      refine w_lret X hr dJ9_floorDiv_f86c9_26 ?_
      try dsimp only
      refine ⟨?_, rfl⟩
      rw [hq1, if_pos (by omega)]
