theorem cf_L_down : wCal yL_down cL_down 4 (some .long) 2 := ⟨gw_982, gw_0, by decide, by decide, by rfl⟩
set_option maxRecDepth 100000 in
set_option maxHeartbeats 4000000 in
theorem c_L_down (l : Launch) (G : wG) (M : wM) (v w : Int) (hv : -4611686018427387904 ≤ v ∧ v ≤ 4611686018427387904) (hw : 1 ≤ w ∧ w ≤ 1000000) : Met l yL_down (gws yL_down cL_down 4 (some .long)) (wrm 0 0 0) (wPc G M [vJ v, vJ w]) (wQj G (fun z M1 => z = v.fdiv w ∧ M1 = M)) 0 0 (wA G) := by
  refine wMet (lc := [(0, vJ v), (2, vJ w)]) (by decide) (Nat.le_of_ble_eq_true rfl) rfl ?_
  intro p e s m args below meth c X hr
  have X : wX p s m args meth c G 4 "StateObserverLaw" cL_down := X
  have hq0 := q_tdiv (a := v) (b := w) (by omega)
  have hq1 := fdiv_of (a := v) (b := w) (q := v.tdiv w) (by omega) rfl
  have hq2 := tmod_bd (a := v) (b := w) (by omega)
  have hq3 := Int.tmod_add_tdiv_mul v w
  refine r_lload_n (pc' := 1) X 0 dL_down_0 rfl rfl rfl ?_
  refine r_lload_n (pc' := 2) X 1 dL_down_1 rfl rfl rfl ?_
  refine r_lrem (pc' := 3) X dL_down_2 (by omega) (by omega) (by omega) rfl ?_
  refine r_lconst (pc' := 4) (z := 0) X dL_down_3 rfl rfl ?_
  refine r_lcmp (pc' := 5) X dL_down_4 (by omega) (by omega) rfl (fun z4 z4r z4l z4e z4g => ?_)
  refine r_if_ge (pc' := 8) (tgt := 16) X dL_down_5 rfl rfl (by omega) (fun h5 => ?_) (fun h5 => ?_)
  · refine r_lload_n (pc' := 17) X 0 dL_down_16 rfl rfl rfl ?_
    refine r_lload_n (pc' := 18) X 1 dL_down_17 rfl rfl rfl ?_
    refine r_ldiv (pc' := 19) X dL_down_18 (by omega) (by omega) (by omega) rfl ?_
    refine w_lret X hr dL_down_19 ?_
    try dsimp only
    refine ⟨?_, rfl⟩
    rw [hq1, if_neg (by omega)]
  · refine r_lload_n (pc' := 9) X 0 dL_down_8 rfl rfl rfl ?_
    refine r_lload_n (pc' := 10) X 1 dL_down_9 rfl rfl rfl ?_
    refine r_ldiv (pc' := 11) X dL_down_10 (by omega) (by omega) (by omega) rfl ?_
    refine r_lconst (pc' := 12) (z := 1) X dL_down_11 rfl rfl ?_
    refine r_lsub (pc' := 13) X dL_down_12 rfl ?_
    refine r_goto (tgt := 19) X dL_down_13 rfl ?_
    refine w_lret X hr dL_down_19 ?_
    try dsimp only
    refine ⟨?_, rfl⟩
    rw [hq1, if_pos (by omega)]
