theorem cf_X9_isState : wCal yX9_isState cX9_isState 2 (some .boolean) 1 := ⟨gw_1157, gw_10, by decide, by decide, by rfl⟩
set_option maxRecDepth 100000 in
set_option maxHeartbeats 4000000 in
theorem c_X9_isState (l : Launch) (G : wG) (M : wM) (N P : Nat) (pv : Nat → Nat → Int) (hp : PlOk pv N P) (hq : PEq N P pv (M 29)) (i : Int) (hi : rI i) : Met l yX9_isState (gws yX9_isState cX9_isState 2 (some .boolean)) (wrm 1 0 0) (wPc G M [vR G (29, 0), vI i]) (wQi G (fun z M1 => z = (if 0 ≤ i ∧ i < N then 1 else 0) ∧ M1 = M)) 0 0 (wA G) := by
  refine wMet (lc := [(0, vR G (29, 0)), (1, vI i)]) (by decide) (Nat.le_of_ble_eq_true rfl) rfl ?_
  intro p e s m args below meth c X hr
  have X : wX p s m args meth c G 2 "StateObserverModel" cX9_isState := X
  obtain ⟨hN, hN1, hN4, hP, hP1, hP3, hA, hB, hE, hC, hQ⟩ := id hp
  obtain ⟨qN, qP, qA, qB, qE, qC, qQ⟩ := id hq
  refine r_iload_n (pc' := 1) X 1 dX9_isState_0 rfl rfl rfl ?_
  refine r_i2l (pc' := 2) X dX9_isState_1 (by omega) rfl ?_
  refine r_lconst (pc' := 3) (z := 0) X dX9_isState_2 rfl rfl ?_
  refine r_aload_n (pc' := 4) X 0 dX9_isState_3 rfl rfl rfl ?_
  refine gf_29_states (pc' := 7) X gw_972 dX9_isState_4 rfl ?_
  refine r_iconst (pc' := 8) X dX9_isState_7 rfl ?_
  refine r_isub (pc' := 9) X dX9_isState_8 rfl ?_
  refine r_i2l (pc' := 10) X dX9_isState_9 (by omega) rfl ?_
  refine w_calli (pc' := 13) (st := []) (w_runS X (c_X9_in l G M i 0 ((M 29 0 5) - 1) (by first | assumption | omega) (by first | assumption | omega) (by first | assumption | omega)) cf_X9_in gw_1083 rfl rfl ⟨Nat.le_of_ble_eq_true rfl, Nat.le_of_ble_eq_true rfl⟩ rfl rfl (Nat.le_of_ble_eq_true rfl) ⟨Nat.le_of_ble_eq_true rfl, Nat.le_of_ble_eq_true rfl⟩ gw_1082 dX9_isState_10) rfl (fun z10 M1 h10 => ?_)
  have hz10 := h10.1
  obtain rfl := h10.2.symm
  have hi10 : z10 = 0 ∨ z10 = 1 := by rw [hz10]; split <;> omega
  have hq10 : z10 = 1 ↔ (0 ≤ i ∧ i ≤ ((M 29 0 5) - 1)) := by rw [hz10]; split <;> omega
  refine w_zret X hr (by omega) dX9_isState_13 ?_
  try dsimp only
  refine ⟨?_, rfl⟩
  rw [hz10]
  split <;> split <;> omega
theorem cf_X9_isOutput : wCal yX9_isOutput cX9_isOutput 2 (some .boolean) 1 := ⟨gw_1153, gw_10, by decide, by decide, by rfl⟩
set_option maxRecDepth 100000 in
set_option maxHeartbeats 4000000 in
theorem c_X9_isOutput (l : Launch) (G : wG) (M : wM) (N P : Nat) (pv : Nat → Nat → Int) (hp : PlOk pv N P) (hq : PEq N P pv (M 29)) (i : Int) (hi : rI i) : Met l yX9_isOutput (gws yX9_isOutput cX9_isOutput 2 (some .boolean)) (wrm 1 0 0) (wPc G M [vR G (29, 0), vI i]) (wQi G (fun z M1 => z = (if 0 ≤ i ∧ i < P then 1 else 0) ∧ M1 = M)) 0 0 (wA G) := by
  refine wMet (lc := [(0, vR G (29, 0)), (1, vI i)]) (by decide) (Nat.le_of_ble_eq_true rfl) rfl ?_
  intro p e s m args below meth c X hr
  have X : wX p s m args meth c G 2 "StateObserverModel" cX9_isOutput := X
  obtain ⟨hN, hN1, hN4, hP, hP1, hP3, hA, hB, hE, hC, hQ⟩ := id hp
  obtain ⟨qN, qP, qA, qB, qE, qC, qQ⟩ := id hq
  refine r_iload_n (pc' := 1) X 1 dX9_isOutput_0 rfl rfl rfl ?_
  refine r_i2l (pc' := 2) X dX9_isOutput_1 (by omega) rfl ?_
  refine r_lconst (pc' := 3) (z := 0) X dX9_isOutput_2 rfl rfl ?_
  refine r_aload_n (pc' := 4) X 0 dX9_isOutput_3 rfl rfl rfl ?_
  refine gf_29_outputs (pc' := 7) X gw_973 dX9_isOutput_4 rfl ?_
  refine r_iconst (pc' := 8) X dX9_isOutput_7 rfl ?_
  refine r_isub (pc' := 9) X dX9_isOutput_8 rfl ?_
  refine r_i2l (pc' := 10) X dX9_isOutput_9 (by omega) rfl ?_
  refine w_calli (pc' := 13) (st := []) (w_runS X (c_X9_in l G M i 0 ((M 29 0 6) - 1) (by first | assumption | omega) (by first | assumption | omega) (by first | assumption | omega)) cf_X9_in gw_1083 rfl rfl ⟨Nat.le_of_ble_eq_true rfl, Nat.le_of_ble_eq_true rfl⟩ rfl rfl (Nat.le_of_ble_eq_true rfl) ⟨Nat.le_of_ble_eq_true rfl, Nat.le_of_ble_eq_true rfl⟩ gw_1082 dX9_isOutput_10) rfl (fun z10 M1 h10 => ?_)
  have hz10 := h10.1
  obtain rfl := h10.2.symm
  have hi10 : z10 = 0 ∨ z10 = 1 := by rw [hz10]; split <;> omega
  have hq10 : z10 = 1 ↔ (0 ≤ i ∧ i ≤ ((M 29 0 6) - 1)) := by rw [hz10]; split <;> omega
  refine w_zret X hr (by omega) dX9_isOutput_13 ?_
  try dsimp only
  refine ⟨?_, rfl⟩
  rw [hz10]
  split <;> split <;> omega
theorem cf_X9_end : wCal yX9_end cX9_end 11 (some .long) 5 := ⟨gw_1170, gw_10, by decide, by decide, by rfl⟩
set_option maxRecDepth 100000 in
set_option maxHeartbeats 4000000 in
theorem c_X9_end (l : Launch) (G : wG) (M : wM) (N P : Nat) (pv : Nat → Nat → Int) (hp : PlOk pv N P) (hq : PEq N P pv (M 29)) (jr fj fa nf : Nat) (but gr : Int) (f : Nat → Int) (hrw : wkd 29 jr = some (.inr (0, 48, wNr))) (hkf : wkd 29 fj = some (.inr (0, nf, wNr))) (hfa : fa + N ≤ nf) (hnf : nf ≤ 48) (hbut : rI but) (hgr : gr = 0 ∨ gr = 1) (hF : ∀ i, i < N → M 29 fj (fa + i) = f i) (hFr : ∀ i, i < N → -99 ≤ f i ∧ f i ≤ 99) (lo hi : Nat → Int) (hlo : ∀ i, i < N → M 29 jr (4 + i) = lo i) (hhi : ∀ i, i < N → M 29 jr (8 + i) = hi i) (hLr : ∀ i, i < N → -1000000 ≤ lo i ∧ lo i ≤ 1000000) (hUr : ∀ i, i < N → -1000000 ≤ hi i ∧ hi i ≤ 1000000) : Met l yX9_end (gws yX9_end cX9_end 11 (some .long)) (wrm 0 0 0) (wPc G M [vR G (29, 0), vR G (29, jr), vR G (29, fj), vI (fa : Int), vI but, vI gr]) (wQj G (fun z M1 => z = ext N f lo hi but gr ∧ M1 = M)) 0 0 (wA G) := by
  refine wMet (lc := [(0, vR G (29, 0)), (1, vR G (29, jr)), (2, vR G (29, fj)), (3, vI (fa : Int)), (4, vI but), (5, vI gr)]) (by decide) (Nat.le_of_ble_eq_true rfl) rfl ?_
  intro p e s m args below meth c X hr
  have X : wX p s m args meth c G 11 "StateObserverModel" cX9_end := X
  obtain ⟨hN, hN1, hN4, hP, hP1, hP3, hA, hB, hE, hC, hQ⟩ := id hp
  obtain ⟨qN, qP, qA, qB, qE, qC, qQ⟩ := id hq
  refine r_lconst (pc' := 1) (z := 0) X dX9_end_0 rfl rfl ?_
  refine r_lstore (pc' := 3) (lc' := [(0, vR G (29, 0)), (1, vR G (29, jr)), (2, vR G (29, fj)), (3, vI (fa : Int)), (4, vI but), (5, vI gr), (6, vJ 0)]) X [1, 2, 3, 4, 5, 6, 0] dX9_end_1 (by decide) rfl rfl ?_
  refine r_iconst (pc' := 4) X dX9_end_3 rfl ?_
  refine r_istore (pc' := 6) (lc' := [(0, vR G (29, 0)), (1, vR G (29, jr)), (2, vR G (29, fj)), (3, vI (fa : Int)), (4, vI but), (5, vI gr), (6, vJ 0), (8, vI 0)]) X [1, 2, 3, 4, 5, 6, 7, 0] dX9_end_4 (by decide) rfl rfl ?_
  have L6 : ∀ (fu : Nat) (i : Nat) (t : Int), N - i < fu → (i ≤ N) → (t = ext i f lo hi but gr) → wV p l e (wrm 0 0 0) s m args below meth c G 11 M 0 0 (MQ below (wQj G (fun z M1 => z = ext N f lo hi but gr ∧ M1 = M)) args s 0 0 (wA G)) 6 [(0, vR G (29, 0)), (1, vR G (29, jr)), (2, vR G (29, fj)), (3, vI (fa : Int)), (4, vI but), (5, vI gr), (6, vJ t), (8, vI (i : Int))] [] := by
    intro fu
    induction fu with
    | zero => intro i t hfu; exact absurd hfu (Nat.not_lt_zero _)
    | succ fu ih6 =>
      intro i t hfu6 hi0 ht
      refine r_iload (pc' := 8) X 7 dX9_end_6 rfl rfl ?_
      refine r_aload_n (pc' := 9) X 0 dX9_end_8 rfl rfl rfl ?_
      refine gf_29_states (pc' := 12) X gw_972 dX9_end_9 rfl ?_
      refine r_icmp_ge (pc' := 15) (tgt := 81) X dX9_end_12 rfl rfl (by omega) (by omega) (fun h12 => ?_) (fun h12 => ?_)
      · refine r_lload (pc' := 83) X 6 dX9_end_81 rfl rfl ?_
        refine w_lret X hr dX9_end_83 ?_
        try dsimp only
        have ei : i = N := by omega
        subst ei
        exact ⟨ht, rfl⟩
      · have hFi := hF i (by omega)
        have hFri := hFr i (by omega)
        have hli := hlo i (by omega)
        have hui := hhi i (by omega)
        have hlri := hLr i (by omega)
        have huri := hUr i (by omega)
        refine r_iload (pc' := 17) X 7 dX9_end_15 rfl rfl ?_
        refine r_iload (pc' := 19) X 4 dX9_end_17 rfl rfl ?_
        refine r_icmp_ne (pc' := 22) (tgt := 26) X dX9_end_19 rfl rfl (by omega) (by omega) (fun h19 => ?_) (fun h19 => ?_)
        · refine r_aload_n (pc' := 27) X 2 dX9_end_26 rfl rfl rfl ?_
          refine r_iload_n (pc' := 28) X 3 dX9_end_27 rfl rfl rfl ?_
          refine r_iload (pc' := 30) X 7 dX9_end_28 rfl rfl ?_
          refine r_iadd (pc' := 31) X dX9_end_30 rfl ?_
          refine r_iald (i := (fa + i)) (pc' := 32) X hkf (by omega) (by omega) (by omega) dX9_end_31 rfl ?_
          refine r_i2l (pc' := 33) X dX9_end_32 (by omega) rfl ?_
          refine r_lstore (pc' := 35) (lc' := [(0, vR G (29, 0)), (1, vR G (29, jr)), (2, vR G (29, fj)), (3, vI (fa : Int)), (4, vI but), (5, vI gr), (6, vJ t), (8, vI (i : Int)), (9, vJ (M 29 fj (fa + i)))]) X [1, 2, 3, 4, 5, 6, 7, 8, 0] dX9_end_33 (by decide) rfl rfl ?_
          refine r_lload (pc' := 37) X 6 dX9_end_35 rfl rfl ?_
          refine r_lload (pc' := 39) X 8 dX9_end_37 rfl rfl ?_
          refine r_aload_n (pc' := 40) X 1 dX9_end_39 rfl rfl rfl ?_
          refine r_lload (pc' := 42) X 8 dX9_end_40 rfl rfl ?_
          refine r_lconst (pc' := 43) (z := 0) X dX9_end_42 rfl rfl ?_
          refine r_lcmp (pc' := 44) X dX9_end_43 (by omega) (by omega) rfl (fun z43 z43r z43l z43e z43g => ?_)
          refine r_if_le (pc' := 47) (tgt := 51) X dX9_end_44 rfl rfl (by omega) (fun h44 => ?_) (fun h44 => ?_)
          · refine r_iconst (pc' := 52) X dX9_end_51 rfl ?_
            refine r_iload (pc' := 54) X 5 dX9_end_52 rfl rfl ?_
            refine r_icmp_ne (pc' := 57) (tgt := 65) X dX9_end_54 rfl rfl (by omega) (by omega) (fun h54 => ?_) (fun h54 => ?_)
            · refine r_iconst (pc' := 66) X dX9_end_65 rfl ?_
              refine r_iload (pc' := 68) X 7 dX9_end_66 rfl rfl ?_
              refine r_iadd (pc' := 69) X dX9_end_68 rfl ?_
              refine r_iald (i := (4 + i)) (pc' := 70) X hrw (by omega) (by omega) (by decide) dX9_end_69 rfl ?_
              refine r_i2l (pc' := 71) X dX9_end_70 (by omega) rfl ?_
              refine r_lmul (pc' := 72) X dX9_end_71 rfl ?_
              refine r_ladd (pc' := 73) X dX9_end_72 rfl ?_
              refine r_lstore (pc' := 75) (lc' := [(0, vR G (29, 0)), (1, vR G (29, jr)), (2, vR G (29, fj)), (3, vI (fa : Int)), (4, vI but), (5, vI gr), (6, vJ (t + ((M 29 fj (fa + i)) * (M 29 jr (4 + i))))), (8, vI (i : Int)), (9, vJ (M 29 fj (fa + i)))]) X [1, 2, 3, 4, 5, 6, 0, 7, 8] dX9_end_73 (by decide) rfl rfl ?_
              refine r_iinc (pc' := 78) (z' := ((i + 1 : Nat) : Int)) (lc' := [(0, vR G (29, 0)), (1, vR G (29, jr)), (2, vR G (29, fj)), (3, vI (fa : Int)), (4, vI but), (5, vI gr), (6, vJ (t + ((M 29 fj (fa + i)) * (M 29 jr (4 + i))))), (8, vI ((i + 1 : Nat) : Int)), (9, vJ (M 29 fj (fa + i)))]) X 7 [1, 2, 3, 4, 5, 6, 7, 0, 8] dX9_end_75 rfl (by omega) (by decide) rfl rfl ?_
              refine r_goto (tgt := 6) X dX9_end_78 rfl ?_
              refine w_sub (lc' := [(0, vR G (29, 0)), (1, vR G (29, jr)), (2, vR G (29, fj)), (3, vI (fa : Int)), (4, vI but), (5, vI gr), (6, vJ (t + ((M 29 fj (fa + i)) * (M 29 jr (4 + i))))), (8, vI ((i + 1 : Nat) : Int))]) [0, 1, 2, 3, 4, 5, 6, 7] rfl ?_
              exact ih6 (i + 1) (t + ((M 29 fj (fa + i)) * (M 29 jr (4 + i)))) (by omega) (by omega) (by first | (rw [ht, ext_but (n := i) (f := f) (lo := lo) (hi := hi) (but := but) (gr := gr) (by omega)]; omega) | (rw [ht, ext_hi (n := i) (f := f) (lo := lo) (hi := hi) (but := but) (gr := gr) (by omega) (by omega), hFi, hui]) | (rw [ht, ext_lo (n := i) (f := f) (lo := lo) (hi := hi) (but := but) (gr := gr) (by omega) (by omega), hFi, hli]))
            · refine r_bipush (pc' := 59) X dX9_end_57 rfl rfl ?_
              refine r_iload (pc' := 61) X 7 dX9_end_59 rfl rfl ?_
              refine r_iadd (pc' := 62) X dX9_end_61 rfl ?_
              refine r_goto (tgt := 69) X dX9_end_62 rfl ?_
              refine r_iald (i := (8 + i)) (pc' := 70) X hrw (by omega) (by omega) (by decide) dX9_end_69 rfl ?_
              refine r_i2l (pc' := 71) X dX9_end_70 (by omega) rfl ?_
              refine r_lmul (pc' := 72) X dX9_end_71 rfl ?_
              refine r_ladd (pc' := 73) X dX9_end_72 rfl ?_
              refine r_lstore (pc' := 75) (lc' := [(0, vR G (29, 0)), (1, vR G (29, jr)), (2, vR G (29, fj)), (3, vI (fa : Int)), (4, vI but), (5, vI gr), (6, vJ (t + ((M 29 fj (fa + i)) * (M 29 jr (8 + i))))), (8, vI (i : Int)), (9, vJ (M 29 fj (fa + i)))]) X [1, 2, 3, 4, 5, 6, 0, 7, 8] dX9_end_73 (by decide) rfl rfl ?_
              refine r_iinc (pc' := 78) (z' := ((i + 1 : Nat) : Int)) (lc' := [(0, vR G (29, 0)), (1, vR G (29, jr)), (2, vR G (29, fj)), (3, vI (fa : Int)), (4, vI but), (5, vI gr), (6, vJ (t + ((M 29 fj (fa + i)) * (M 29 jr (8 + i))))), (8, vI ((i + 1 : Nat) : Int)), (9, vJ (M 29 fj (fa + i)))]) X 7 [1, 2, 3, 4, 5, 6, 7, 0, 8] dX9_end_75 rfl (by omega) (by decide) rfl rfl ?_
              refine r_goto (tgt := 6) X dX9_end_78 rfl ?_
              refine w_sub (lc' := [(0, vR G (29, 0)), (1, vR G (29, jr)), (2, vR G (29, fj)), (3, vI (fa : Int)), (4, vI but), (5, vI gr), (6, vJ (t + ((M 29 fj (fa + i)) * (M 29 jr (8 + i))))), (8, vI ((i + 1 : Nat) : Int))]) [0, 1, 2, 3, 4, 5, 6, 7] rfl ?_
              exact ih6 (i + 1) (t + ((M 29 fj (fa + i)) * (M 29 jr (8 + i)))) (by omega) (by omega) (by first | (rw [ht, ext_but (n := i) (f := f) (lo := lo) (hi := hi) (but := but) (gr := gr) (by omega)]; omega) | (rw [ht, ext_hi (n := i) (f := f) (lo := lo) (hi := hi) (but := but) (gr := gr) (by omega) (by omega), hFi, hui]) | (rw [ht, ext_lo (n := i) (f := f) (lo := lo) (hi := hi) (but := but) (gr := gr) (by omega) (by omega), hFi, hli]))
          · refine r_iconst (pc' := 48) X dX9_end_47 rfl ?_
            refine r_goto (tgt := 52) X dX9_end_48 rfl ?_
            refine r_iload (pc' := 54) X 5 dX9_end_52 rfl rfl ?_
            refine r_icmp_ne (pc' := 57) (tgt := 65) X dX9_end_54 rfl rfl (by omega) (by omega) (fun h54 => ?_) (fun h54 => ?_)
            · refine r_iconst (pc' := 66) X dX9_end_65 rfl ?_
              refine r_iload (pc' := 68) X 7 dX9_end_66 rfl rfl ?_
              refine r_iadd (pc' := 69) X dX9_end_68 rfl ?_
              refine r_iald (i := (4 + i)) (pc' := 70) X hrw (by omega) (by omega) (by decide) dX9_end_69 rfl ?_
              refine r_i2l (pc' := 71) X dX9_end_70 (by omega) rfl ?_
              refine r_lmul (pc' := 72) X dX9_end_71 rfl ?_
              refine r_ladd (pc' := 73) X dX9_end_72 rfl ?_
              refine r_lstore (pc' := 75) (lc' := [(0, vR G (29, 0)), (1, vR G (29, jr)), (2, vR G (29, fj)), (3, vI (fa : Int)), (4, vI but), (5, vI gr), (6, vJ (t + ((M 29 fj (fa + i)) * (M 29 jr (4 + i))))), (8, vI (i : Int)), (9, vJ (M 29 fj (fa + i)))]) X [1, 2, 3, 4, 5, 6, 0, 7, 8] dX9_end_73 (by decide) rfl rfl ?_
              refine r_iinc (pc' := 78) (z' := ((i + 1 : Nat) : Int)) (lc' := [(0, vR G (29, 0)), (1, vR G (29, jr)), (2, vR G (29, fj)), (3, vI (fa : Int)), (4, vI but), (5, vI gr), (6, vJ (t + ((M 29 fj (fa + i)) * (M 29 jr (4 + i))))), (8, vI ((i + 1 : Nat) : Int)), (9, vJ (M 29 fj (fa + i)))]) X 7 [1, 2, 3, 4, 5, 6, 7, 0, 8] dX9_end_75 rfl (by omega) (by decide) rfl rfl ?_
              refine r_goto (tgt := 6) X dX9_end_78 rfl ?_
              refine w_sub (lc' := [(0, vR G (29, 0)), (1, vR G (29, jr)), (2, vR G (29, fj)), (3, vI (fa : Int)), (4, vI but), (5, vI gr), (6, vJ (t + ((M 29 fj (fa + i)) * (M 29 jr (4 + i))))), (8, vI ((i + 1 : Nat) : Int))]) [0, 1, 2, 3, 4, 5, 6, 7] rfl ?_
              exact ih6 (i + 1) (t + ((M 29 fj (fa + i)) * (M 29 jr (4 + i)))) (by omega) (by omega) (by first | (rw [ht, ext_but (n := i) (f := f) (lo := lo) (hi := hi) (but := but) (gr := gr) (by omega)]; omega) | (rw [ht, ext_hi (n := i) (f := f) (lo := lo) (hi := hi) (but := but) (gr := gr) (by omega) (by omega), hFi, hui]) | (rw [ht, ext_lo (n := i) (f := f) (lo := lo) (hi := hi) (but := but) (gr := gr) (by omega) (by omega), hFi, hli]))
            · refine r_bipush (pc' := 59) X dX9_end_57 rfl rfl ?_
              refine r_iload (pc' := 61) X 7 dX9_end_59 rfl rfl ?_
              refine r_iadd (pc' := 62) X dX9_end_61 rfl ?_
              refine r_goto (tgt := 69) X dX9_end_62 rfl ?_
              refine r_iald (i := (8 + i)) (pc' := 70) X hrw (by omega) (by omega) (by decide) dX9_end_69 rfl ?_
              refine r_i2l (pc' := 71) X dX9_end_70 (by omega) rfl ?_
              refine r_lmul (pc' := 72) X dX9_end_71 rfl ?_
              refine r_ladd (pc' := 73) X dX9_end_72 rfl ?_
              refine r_lstore (pc' := 75) (lc' := [(0, vR G (29, 0)), (1, vR G (29, jr)), (2, vR G (29, fj)), (3, vI (fa : Int)), (4, vI but), (5, vI gr), (6, vJ (t + ((M 29 fj (fa + i)) * (M 29 jr (8 + i))))), (8, vI (i : Int)), (9, vJ (M 29 fj (fa + i)))]) X [1, 2, 3, 4, 5, 6, 0, 7, 8] dX9_end_73 (by decide) rfl rfl ?_
              refine r_iinc (pc' := 78) (z' := ((i + 1 : Nat) : Int)) (lc' := [(0, vR G (29, 0)), (1, vR G (29, jr)), (2, vR G (29, fj)), (3, vI (fa : Int)), (4, vI but), (5, vI gr), (6, vJ (t + ((M 29 fj (fa + i)) * (M 29 jr (8 + i))))), (8, vI ((i + 1 : Nat) : Int)), (9, vJ (M 29 fj (fa + i)))]) X 7 [1, 2, 3, 4, 5, 6, 7, 0, 8] dX9_end_75 rfl (by omega) (by decide) rfl rfl ?_
              refine r_goto (tgt := 6) X dX9_end_78 rfl ?_
              refine w_sub (lc' := [(0, vR G (29, 0)), (1, vR G (29, jr)), (2, vR G (29, fj)), (3, vI (fa : Int)), (4, vI but), (5, vI gr), (6, vJ (t + ((M 29 fj (fa + i)) * (M 29 jr (8 + i))))), (8, vI ((i + 1 : Nat) : Int))]) [0, 1, 2, 3, 4, 5, 6, 7] rfl ?_
              exact ih6 (i + 1) (t + ((M 29 fj (fa + i)) * (M 29 jr (8 + i)))) (by omega) (by omega) (by first | (rw [ht, ext_but (n := i) (f := f) (lo := lo) (hi := hi) (but := but) (gr := gr) (by omega)]; omega) | (rw [ht, ext_hi (n := i) (f := f) (lo := lo) (hi := hi) (but := but) (gr := gr) (by omega) (by omega), hFi, hui]) | (rw [ht, ext_lo (n := i) (f := f) (lo := lo) (hi := hi) (but := but) (gr := gr) (by omega) (by omega), hFi, hli]))
        · refine r_lconst (pc' := 23) (z := 0) X dX9_end_22 rfl rfl ?_
          refine r_goto (tgt := 33) X dX9_end_23 rfl ?_
          refine r_lstore (pc' := 35) (lc' := [(0, vR G (29, 0)), (1, vR G (29, jr)), (2, vR G (29, fj)), (3, vI (fa : Int)), (4, vI but), (5, vI gr), (6, vJ t), (8, vI (i : Int)), (9, vJ 0)]) X [1, 2, 3, 4, 5, 6, 7, 8, 0] dX9_end_33 (by decide) rfl rfl ?_
          refine r_lload (pc' := 37) X 6 dX9_end_35 rfl rfl ?_
          refine r_lload (pc' := 39) X 8 dX9_end_37 rfl rfl ?_
          refine r_aload_n (pc' := 40) X 1 dX9_end_39 rfl rfl rfl ?_
          refine r_lload (pc' := 42) X 8 dX9_end_40 rfl rfl ?_
          refine r_lconst (pc' := 43) (z := 0) X dX9_end_42 rfl rfl ?_
          refine r_lcmp (pc' := 44) X dX9_end_43 (by omega) (by omega) rfl (fun z43 z43r z43l z43e z43g => ?_)
          refine r_if_le (pc' := 47) (tgt := 51) X dX9_end_44 rfl rfl (by omega) (fun h44 => ?_) (fun h44 => ?_)
          · refine r_iconst (pc' := 52) X dX9_end_51 rfl ?_
            refine r_iload (pc' := 54) X 5 dX9_end_52 rfl rfl ?_
            refine r_icmp_ne (pc' := 57) (tgt := 65) X dX9_end_54 rfl rfl (by omega) (by omega) (fun h54 => ?_) (fun h54 => ?_)
            · refine r_iconst (pc' := 66) X dX9_end_65 rfl ?_
              refine r_iload (pc' := 68) X 7 dX9_end_66 rfl rfl ?_
              refine r_iadd (pc' := 69) X dX9_end_68 rfl ?_
              refine r_iald (i := (4 + i)) (pc' := 70) X hrw (by omega) (by omega) (by decide) dX9_end_69 rfl ?_
              refine r_i2l (pc' := 71) X dX9_end_70 (by omega) rfl ?_
              refine r_lmul (pc' := 72) X dX9_end_71 rfl ?_
              refine r_ladd (pc' := 73) X dX9_end_72 rfl ?_
              refine r_lstore (pc' := 75) (lc' := [(0, vR G (29, 0)), (1, vR G (29, jr)), (2, vR G (29, fj)), (3, vI (fa : Int)), (4, vI but), (5, vI gr), (6, vJ (t + (0 * (M 29 jr (4 + i))))), (8, vI (i : Int)), (9, vJ 0)]) X [1, 2, 3, 4, 5, 6, 0, 7, 8] dX9_end_73 (by decide) rfl rfl ?_
              refine r_iinc (pc' := 78) (z' := ((i + 1 : Nat) : Int)) (lc' := [(0, vR G (29, 0)), (1, vR G (29, jr)), (2, vR G (29, fj)), (3, vI (fa : Int)), (4, vI but), (5, vI gr), (6, vJ (t + (0 * (M 29 jr (4 + i))))), (8, vI ((i + 1 : Nat) : Int)), (9, vJ 0)]) X 7 [1, 2, 3, 4, 5, 6, 7, 0, 8] dX9_end_75 rfl (by omega) (by decide) rfl rfl ?_
              refine r_goto (tgt := 6) X dX9_end_78 rfl ?_
              refine w_sub (lc' := [(0, vR G (29, 0)), (1, vR G (29, jr)), (2, vR G (29, fj)), (3, vI (fa : Int)), (4, vI but), (5, vI gr), (6, vJ (t + (0 * (M 29 jr (4 + i))))), (8, vI ((i + 1 : Nat) : Int))]) [0, 1, 2, 3, 4, 5, 6, 7] rfl ?_
              exact ih6 (i + 1) (t + (0 * (M 29 jr (4 + i)))) (by omega) (by omega) (by first | (rw [ht, ext_but (n := i) (f := f) (lo := lo) (hi := hi) (but := but) (gr := gr) (by omega)]; omega) | (rw [ht, ext_hi (n := i) (f := f) (lo := lo) (hi := hi) (but := but) (gr := gr) (by omega) (by omega), hFi, hui]) | (rw [ht, ext_lo (n := i) (f := f) (lo := lo) (hi := hi) (but := but) (gr := gr) (by omega) (by omega), hFi, hli]))
            · refine r_bipush (pc' := 59) X dX9_end_57 rfl rfl ?_
              refine r_iload (pc' := 61) X 7 dX9_end_59 rfl rfl ?_
              refine r_iadd (pc' := 62) X dX9_end_61 rfl ?_
              refine r_goto (tgt := 69) X dX9_end_62 rfl ?_
              refine r_iald (i := (8 + i)) (pc' := 70) X hrw (by omega) (by omega) (by decide) dX9_end_69 rfl ?_
              refine r_i2l (pc' := 71) X dX9_end_70 (by omega) rfl ?_
              refine r_lmul (pc' := 72) X dX9_end_71 rfl ?_
              refine r_ladd (pc' := 73) X dX9_end_72 rfl ?_
              refine r_lstore (pc' := 75) (lc' := [(0, vR G (29, 0)), (1, vR G (29, jr)), (2, vR G (29, fj)), (3, vI (fa : Int)), (4, vI but), (5, vI gr), (6, vJ (t + (0 * (M 29 jr (8 + i))))), (8, vI (i : Int)), (9, vJ 0)]) X [1, 2, 3, 4, 5, 6, 0, 7, 8] dX9_end_73 (by decide) rfl rfl ?_
              refine r_iinc (pc' := 78) (z' := ((i + 1 : Nat) : Int)) (lc' := [(0, vR G (29, 0)), (1, vR G (29, jr)), (2, vR G (29, fj)), (3, vI (fa : Int)), (4, vI but), (5, vI gr), (6, vJ (t + (0 * (M 29 jr (8 + i))))), (8, vI ((i + 1 : Nat) : Int)), (9, vJ 0)]) X 7 [1, 2, 3, 4, 5, 6, 7, 0, 8] dX9_end_75 rfl (by omega) (by decide) rfl rfl ?_
              refine r_goto (tgt := 6) X dX9_end_78 rfl ?_
              refine w_sub (lc' := [(0, vR G (29, 0)), (1, vR G (29, jr)), (2, vR G (29, fj)), (3, vI (fa : Int)), (4, vI but), (5, vI gr), (6, vJ (t + (0 * (M 29 jr (8 + i))))), (8, vI ((i + 1 : Nat) : Int))]) [0, 1, 2, 3, 4, 5, 6, 7] rfl ?_
              exact ih6 (i + 1) (t + (0 * (M 29 jr (8 + i)))) (by omega) (by omega) (by first | (rw [ht, ext_but (n := i) (f := f) (lo := lo) (hi := hi) (but := but) (gr := gr) (by omega)]; omega) | (rw [ht, ext_hi (n := i) (f := f) (lo := lo) (hi := hi) (but := but) (gr := gr) (by omega) (by omega), hFi, hui]) | (rw [ht, ext_lo (n := i) (f := f) (lo := lo) (hi := hi) (but := but) (gr := gr) (by omega) (by omega), hFi, hli]))
          · refine r_iconst (pc' := 48) X dX9_end_47 rfl ?_
            refine r_goto (tgt := 52) X dX9_end_48 rfl ?_
            refine r_iload (pc' := 54) X 5 dX9_end_52 rfl rfl ?_
            refine r_icmp_ne (pc' := 57) (tgt := 65) X dX9_end_54 rfl rfl (by omega) (by omega) (fun h54 => ?_) (fun h54 => ?_)
            · refine r_iconst (pc' := 66) X dX9_end_65 rfl ?_
              refine r_iload (pc' := 68) X 7 dX9_end_66 rfl rfl ?_
              refine r_iadd (pc' := 69) X dX9_end_68 rfl ?_
              refine r_iald (i := (4 + i)) (pc' := 70) X hrw (by omega) (by omega) (by decide) dX9_end_69 rfl ?_
              refine r_i2l (pc' := 71) X dX9_end_70 (by omega) rfl ?_
              refine r_lmul (pc' := 72) X dX9_end_71 rfl ?_
              refine r_ladd (pc' := 73) X dX9_end_72 rfl ?_
              refine r_lstore (pc' := 75) (lc' := [(0, vR G (29, 0)), (1, vR G (29, jr)), (2, vR G (29, fj)), (3, vI (fa : Int)), (4, vI but), (5, vI gr), (6, vJ (t + (0 * (M 29 jr (4 + i))))), (8, vI (i : Int)), (9, vJ 0)]) X [1, 2, 3, 4, 5, 6, 0, 7, 8] dX9_end_73 (by decide) rfl rfl ?_
              refine r_iinc (pc' := 78) (z' := ((i + 1 : Nat) : Int)) (lc' := [(0, vR G (29, 0)), (1, vR G (29, jr)), (2, vR G (29, fj)), (3, vI (fa : Int)), (4, vI but), (5, vI gr), (6, vJ (t + (0 * (M 29 jr (4 + i))))), (8, vI ((i + 1 : Nat) : Int)), (9, vJ 0)]) X 7 [1, 2, 3, 4, 5, 6, 7, 0, 8] dX9_end_75 rfl (by omega) (by decide) rfl rfl ?_
              refine r_goto (tgt := 6) X dX9_end_78 rfl ?_
              refine w_sub (lc' := [(0, vR G (29, 0)), (1, vR G (29, jr)), (2, vR G (29, fj)), (3, vI (fa : Int)), (4, vI but), (5, vI gr), (6, vJ (t + (0 * (M 29 jr (4 + i))))), (8, vI ((i + 1 : Nat) : Int))]) [0, 1, 2, 3, 4, 5, 6, 7] rfl ?_
              exact ih6 (i + 1) (t + (0 * (M 29 jr (4 + i)))) (by omega) (by omega) (by first | (rw [ht, ext_but (n := i) (f := f) (lo := lo) (hi := hi) (but := but) (gr := gr) (by omega)]; omega) | (rw [ht, ext_hi (n := i) (f := f) (lo := lo) (hi := hi) (but := but) (gr := gr) (by omega) (by omega), hFi, hui]) | (rw [ht, ext_lo (n := i) (f := f) (lo := lo) (hi := hi) (but := but) (gr := gr) (by omega) (by omega), hFi, hli]))
            · refine r_bipush (pc' := 59) X dX9_end_57 rfl rfl ?_
              refine r_iload (pc' := 61) X 7 dX9_end_59 rfl rfl ?_
              refine r_iadd (pc' := 62) X dX9_end_61 rfl ?_
              refine r_goto (tgt := 69) X dX9_end_62 rfl ?_
              refine r_iald (i := (8 + i)) (pc' := 70) X hrw (by omega) (by omega) (by decide) dX9_end_69 rfl ?_
              refine r_i2l (pc' := 71) X dX9_end_70 (by omega) rfl ?_
              refine r_lmul (pc' := 72) X dX9_end_71 rfl ?_
              refine r_ladd (pc' := 73) X dX9_end_72 rfl ?_
              refine r_lstore (pc' := 75) (lc' := [(0, vR G (29, 0)), (1, vR G (29, jr)), (2, vR G (29, fj)), (3, vI (fa : Int)), (4, vI but), (5, vI gr), (6, vJ (t + (0 * (M 29 jr (8 + i))))), (8, vI (i : Int)), (9, vJ 0)]) X [1, 2, 3, 4, 5, 6, 0, 7, 8] dX9_end_73 (by decide) rfl rfl ?_
              refine r_iinc (pc' := 78) (z' := ((i + 1 : Nat) : Int)) (lc' := [(0, vR G (29, 0)), (1, vR G (29, jr)), (2, vR G (29, fj)), (3, vI (fa : Int)), (4, vI but), (5, vI gr), (6, vJ (t + (0 * (M 29 jr (8 + i))))), (8, vI ((i + 1 : Nat) : Int)), (9, vJ 0)]) X 7 [1, 2, 3, 4, 5, 6, 7, 0, 8] dX9_end_75 rfl (by omega) (by decide) rfl rfl ?_
              refine r_goto (tgt := 6) X dX9_end_78 rfl ?_
              refine w_sub (lc' := [(0, vR G (29, 0)), (1, vR G (29, jr)), (2, vR G (29, fj)), (3, vI (fa : Int)), (4, vI but), (5, vI gr), (6, vJ (t + (0 * (M 29 jr (8 + i))))), (8, vI ((i + 1 : Nat) : Int))]) [0, 1, 2, 3, 4, 5, 6, 7] rfl ?_
              exact ih6 (i + 1) (t + (0 * (M 29 jr (8 + i)))) (by omega) (by omega) (by first | (rw [ht, ext_but (n := i) (f := f) (lo := lo) (hi := hi) (but := but) (gr := gr) (by omega)]; omega) | (rw [ht, ext_hi (n := i) (f := f) (lo := lo) (hi := hi) (but := but) (gr := gr) (by omega) (by omega), hFi, hui]) | (rw [ht, ext_lo (n := i) (f := f) (lo := lo) (hi := hi) (but := but) (gr := gr) (by omega) (by omega), hFi, hli]))
  exact L6 ((N - 0) + 1) 0 0 (Nat.lt_succ_self _) (by omega) rfl
theorem cf_X9_widths : wCal yX9_widths cX9_widths 4 (some .int) 1 := ⟨gw_1181, gw_10, by decide, by decide, by rfl⟩
set_option maxRecDepth 100000 in
set_option maxHeartbeats 4000000 in
theorem c_X9_widths (l : Launch) (G : wG) (M : wM) (N P : Nat) (pv : Nat → Nat → Int) (hp : PlOk pv N P) (hq : PEq N P pv (M 29)) (jr : Nat) (hrw : wkd 29 jr = some (.inr (0, 48, wNr))) (lo hi : Nat → Int) (hlo : ∀ i, i < N → M 29 jr (4 + i) = lo i) (hhi : ∀ i, i < N → M 29 jr (8 + i) = hi i) (hLr : ∀ i, i < N → -1000000 ≤ lo i ∧ lo i ≤ 1000000) (hUr : ∀ i, i < N → -1000000 ≤ hi i ∧ hi i ≤ 1000000) : Met l yX9_widths (gws yX9_widths cX9_widths 4 (some .int)) (wrm 0 0 0) (wPc G M [vR G (29, 0), vR G (29, jr)]) (wQi G (fun z M1 => z = wid N lo hi ∧ M1 = M)) 0 0 (wA G) := by
  refine wMet (lc := [(0, vR G (29, 0)), (1, vR G (29, jr))]) (by decide) (Nat.le_of_ble_eq_true rfl) rfl ?_
  intro p e s m args below meth c X hr
  have X : wX p s m args meth c G 4 "StateObserverModel" cX9_widths := X
  obtain ⟨hN, hN1, hN4, hP, hP1, hP3, hA, hB, hE, hC, hQ⟩ := id hp
  obtain ⟨qN, qP, qA, qB, qE, qC, qQ⟩ := id hq
  refine r_iconst (pc' := 1) X dX9_widths_0 rfl ?_
  refine r_istore_n (pc' := 2) (lc' := [(0, vR G (29, 0)), (1, vR G (29, jr)), (2, vI 0)]) X [1, 2, 0] dX9_widths_1 rfl (by decide) rfl rfl ?_
  refine r_iconst (pc' := 3) X dX9_widths_2 rfl ?_
  refine r_istore_n (pc' := 4) (lc' := [(0, vR G (29, 0)), (1, vR G (29, jr)), (2, vI 0), (3, vI 0)]) X [1, 2, 3, 0] dX9_widths_3 rfl (by decide) rfl rfl ?_
  have L4 : ∀ (fu : Nat) (i : Nat) (t : Int), N - i < fu → (i ≤ N) → (t = wid i lo hi) → wV p l e (wrm 0 0 0) s m args below meth c G 4 M 0 0 (MQ below (wQi G (fun z M1 => z = wid N lo hi ∧ M1 = M)) args s 0 0 (wA G)) 4 [(0, vR G (29, 0)), (1, vR G (29, jr)), (2, vI t), (3, vI (i : Int))] [] := by
    intro fu
    induction fu with
    | zero => intro i t hfu; exact absurd hfu (Nat.not_lt_zero _)
    | succ fu ih4 =>
      intro i t hfu4 hi0 ht
      refine r_iload_n (pc' := 5) X 3 dX9_widths_4 rfl rfl rfl ?_
      refine r_aload_n (pc' := 6) X 0 dX9_widths_5 rfl rfl rfl ?_
      refine gf_29_states (pc' := 9) X gw_972 dX9_widths_6 rfl ?_
      refine r_icmp_ge (pc' := 12) (tgt := 33) X dX9_widths_9 rfl rfl (by omega) (by omega) (fun h9 => ?_) (fun h9 => ?_)
      · refine r_iload_n (pc' := 34) X 2 dX9_widths_33 rfl rfl rfl ?_
        refine w_iret X hr dX9_widths_34 ?_
        try dsimp only
        have ei : i = N := by omega
        subst ei
        exact ⟨ht, rfl⟩
      · refine r_iload_n (pc' := 13) X 2 dX9_widths_12 rfl rfl rfl ?_
        refine r_aload_n (pc' := 14) X 1 dX9_widths_13 rfl rfl rfl ?_
        refine r_bipush (pc' := 16) X dX9_widths_14 rfl rfl ?_
        refine r_iload_n (pc' := 17) X 3 dX9_widths_16 rfl rfl rfl ?_
        refine r_iadd (pc' := 18) X dX9_widths_17 rfl ?_
        refine r_iald (i := (8 + i)) (pc' := 19) X hrw (by omega) (by omega) (by decide) dX9_widths_18 rfl ?_
        refine r_aload_n (pc' := 20) X 1 dX9_widths_19 rfl rfl rfl ?_
        refine r_iconst (pc' := 21) X dX9_widths_20 rfl ?_
        refine r_iload_n (pc' := 22) X 3 dX9_widths_21 rfl rfl rfl ?_
        refine r_iadd (pc' := 23) X dX9_widths_22 rfl ?_
        refine r_iald (i := (4 + i)) (pc' := 24) X hrw (by omega) (by omega) (by decide) dX9_widths_23 rfl ?_
        refine r_isub (pc' := 25) X dX9_widths_24 rfl ?_
        refine r_iadd (pc' := 26) X dX9_widths_25 rfl ?_
        refine r_istore_n (pc' := 27) (lc' := [(0, vR G (29, 0)), (1, vR G (29, jr)), (2, vI (t + ((M 29 jr (8 + i)) - (M 29 jr (4 + i))))), (3, vI (i : Int))]) X [1, 2, 0, 3] dX9_widths_26 rfl (by decide) rfl rfl ?_
        refine r_iinc (pc' := 30) (z' := ((i + 1 : Nat) : Int)) (lc' := [(0, vR G (29, 0)), (1, vR G (29, jr)), (2, vI (t + ((M 29 jr (8 + i)) - (M 29 jr (4 + i))))), (3, vI ((i + 1 : Nat) : Int))]) X 3 [1, 2, 3, 0] dX9_widths_27 rfl (by omega) (by decide) rfl rfl ?_
        refine r_goto (tgt := 4) X dX9_widths_30 rfl ?_
        exact ih4 (i + 1) (t + ((M 29 jr (8 + i)) - (M 29 jr (4 + i)))) (by omega) (by omega) (by rw [ht, hhi i (by omega), hlo i (by omega)]; rfl)
  exact L4 ((N - 0) + 1) 0 0 (Nat.lt_succ_self _) (by omega) rfl
theorem cf_X9_seenBy : wCal yX9_seenBy cX9_seenBy 7 (some .long) 3 := ⟨gw_1193, gw_10, by decide, by decide, by rfl⟩
set_option maxRecDepth 100000 in
set_option maxHeartbeats 4000000 in
theorem c_X9_seenBy (l : Launch) (G : wG) (M : wM) (N P : Nat) (pv : Nat → Nat → Int) (hp : PlOk pv N P) (hq : PEq N P pv (M 29)) (jr fr k : Nat) (hrw : wkd 29 jr = some (.inr (0, 48, wNr))) (hfr : fr + N ≤ 48) (hk : k < P) (x : Nat → Int) (hx : ∀ i, i < N → M 29 jr (fr + i) = x i) (hxr : ∀ i, i < N → -16000000 ≤ x i ∧ x i ≤ 16000000) : Met l yX9_seenBy (gws yX9_seenBy cX9_seenBy 7 (some .long)) (wrm 0 0 0) (wPc G M [vR G (29, 0), vR G (29, jr), vI (fr : Int), vI (k : Int)]) (wQj G (fun z M1 => z = dot N (pv (9 + k)) x ∧ M1 = M)) 0 0 (wA G) := by
  refine wMet (lc := [(0, vR G (29, 0)), (1, vR G (29, jr)), (2, vI (fr : Int)), (3, vI (k : Int))]) (by decide) (Nat.le_of_ble_eq_true rfl) rfl ?_
  intro p e s m args below meth c X hr
  have X : wX p s m args meth c G 7 "StateObserverModel" cX9_seenBy := X
  obtain ⟨hN, hN1, hN4, hP, hP1, hP3, hA, hB, hE, hC, hQ⟩ := id hp
  obtain ⟨qN, qP, qA, qB, qE, qC, qQ⟩ := id hq
  refine r_lconst (pc' := 1) (z := 0) X dX9_seenBy_0 rfl rfl ?_
  refine r_lstore (pc' := 3) (lc' := [(0, vR G (29, 0)), (1, vR G (29, jr)), (2, vI (fr : Int)), (3, vI (k : Int)), (4, vJ 0)]) X [1, 2, 3, 4, 0] dX9_seenBy_1 (by decide) rfl rfl ?_
  refine r_iconst (pc' := 4) X dX9_seenBy_3 rfl ?_
  refine r_istore (pc' := 6) (lc' := [(0, vR G (29, 0)), (1, vR G (29, jr)), (2, vI (fr : Int)), (3, vI (k : Int)), (4, vJ 0), (6, vI 0)]) X [1, 2, 3, 4, 5, 0] dX9_seenBy_4 (by decide) rfl rfl ?_
  have L6 : ∀ (fu : Nat) (i : Nat) (t : Int), N - i < fu → (i ≤ N) → (t = dot i (pv (9 + k)) x) → wV p l e (wrm 0 0 0) s m args below meth c G 7 M 0 0 (MQ below (wQj G (fun z M1 => z = dot N (pv (9 + k)) x ∧ M1 = M)) args s 0 0 (wA G)) 6 [(0, vR G (29, 0)), (1, vR G (29, jr)), (2, vI (fr : Int)), (3, vI (k : Int)), (4, vJ t), (6, vI (i : Int))] [] := by
    intro fu
    induction fu with
    | zero => intro i t hfu; exact absurd hfu (Nat.not_lt_zero _)
    | succ fu ih6 =>
      intro i t hfu6 hi0 ht
      refine r_iload (pc' := 8) X 5 dX9_seenBy_6 rfl rfl ?_
      refine r_aload_n (pc' := 9) X 0 dX9_seenBy_8 rfl rfl rfl ?_
      refine gf_29_states (pc' := 12) X gw_972 dX9_seenBy_9 rfl ?_
      refine r_icmp_ge (pc' := 15) (tgt := 46) X dX9_seenBy_12 rfl rfl (by omega) (by omega) (fun h12 => ?_) (fun h12 => ?_)
      · refine r_lload (pc' := 48) X 4 dX9_seenBy_46 rfl rfl ?_
        refine w_lret X hr dX9_seenBy_48 ?_
        try dsimp only
        have ei : i = N := by omega
        subst ei
        exact ⟨ht, rfl⟩
      · have hci := qC k i hk (by omega)
        have hcr := hC k i hk (by omega)
        have hxi := hx i (by omega)
        have hxri := hxr i (by omega)
        refine r_lload (pc' := 17) X 4 dX9_seenBy_15 rfl rfl ?_
        refine r_aload_n (pc' := 18) X 0 dX9_seenBy_17 rfl rfl rfl ?_
        refine gf_29_view (pc' := 21) X gw_977 dX9_seenBy_18 rfl ?_
        refine r_iconst (pc' := 22) X dX9_seenBy_21 rfl ?_
        refine r_iload_n (pc' := 23) X 3 dX9_seenBy_22 rfl rfl rfl ?_
        refine r_imul (pc' := 24) X dX9_seenBy_23 rfl ?_
        refine r_iload (pc' := 26) X 5 dX9_seenBy_24 rfl rfl ?_
        refine r_iadd (pc' := 27) X dX9_seenBy_26 rfl ?_
        refine r_iald (i := (4 * k + i)) (pc' := 28) X k29_5 (by omega) (by omega) (by decide) dX9_seenBy_27 rfl ?_
        refine r_i2l (pc' := 29) X dX9_seenBy_28 (by omega) rfl ?_
        refine r_aload_n (pc' := 30) X 1 dX9_seenBy_29 rfl rfl rfl ?_
        refine r_iload_n (pc' := 31) X 2 dX9_seenBy_30 rfl rfl rfl ?_
        refine r_iload (pc' := 33) X 5 dX9_seenBy_31 rfl rfl ?_
        refine r_iadd (pc' := 34) X dX9_seenBy_33 rfl ?_
        refine r_iald (i := (fr + i)) (pc' := 35) X hrw (by omega) (by omega) (by decide) dX9_seenBy_34 rfl ?_
        refine r_i2l (pc' := 36) X dX9_seenBy_35 (by omega) rfl ?_
        refine r_lmul (pc' := 37) X dX9_seenBy_36 rfl ?_
        refine r_ladd (pc' := 38) X dX9_seenBy_37 rfl ?_
        refine r_lstore (pc' := 40) (lc' := [(0, vR G (29, 0)), (1, vR G (29, jr)), (2, vI (fr : Int)), (3, vI (k : Int)), (4, vJ (t + ((M 29 5 (4 * k + i)) * (M 29 jr (fr + i))))), (6, vI (i : Int))]) X [1, 2, 3, 4, 0, 5] dX9_seenBy_38 (by decide) rfl rfl ?_
        refine r_iinc (pc' := 43) (z' := ((i + 1 : Nat) : Int)) (lc' := [(0, vR G (29, 0)), (1, vR G (29, jr)), (2, vI (fr : Int)), (3, vI (k : Int)), (4, vJ (t + ((M 29 5 (4 * k + i)) * (M 29 jr (fr + i))))), (6, vI ((i + 1 : Nat) : Int))]) X 5 [1, 2, 3, 4, 5, 0] dX9_seenBy_40 rfl (by omega) (by decide) rfl rfl ?_
        refine r_goto (tgt := 6) X dX9_seenBy_43 rfl ?_
        exact ih6 (i + 1) (t + ((M 29 5 (4 * k + i)) * (M 29 jr (fr + i)))) (by omega) (by omega) (by rw [ht, hci, hxi]; rfl)
  exact L6 ((N - 0) + 1) 0 0 (Nat.lt_succ_self _) (by omega) rfl
theorem cf_X9_fits : wCal yX9_fits cX9_fits 5 (some .boolean) 2 := ⟨gw_1189, gw_10, by decide, by decide, by rfl⟩
set_option maxRecDepth 100000 in
set_option maxHeartbeats 4000000 in
theorem c_X9_fits (l : Launch) (G : wG) (M : wM) (N P : Nat) (pv : Nat → Nat → Int) (hp : PlOk pv N P) (hq : PEq N P pv (M 29)) (jr fr : Nat) (hrw : wkd 29 jr = some (.inr (0, 48, wNr))) (hfr : fr + N ≤ 48) (x : Nat → Int) (hx : ∀ i, i < N → M 29 jr (fr + i) = x i) (hxr : ∀ i, i < N → rI (x i)) (lo hi : Nat → Int) (hlo : ∀ i, i < N → M 29 jr (4 + i) = lo i) (hhi : ∀ i, i < N → M 29 jr (8 + i) = hi i) (hLr : ∀ i, i < N → -1000000 ≤ lo i ∧ lo i ≤ 1000000) (hUr : ∀ i, i < N → -1000000 ≤ hi i ∧ hi i ≤ 1000000) (y age : Nat → Int) (hy : ∀ k, k < P → M 29 jr (31 + k) = y k) (hage : ∀ k, k < P → M 29 jr (34 + k) = age k) (hyr : ∀ k, k < P → -400000000 ≤ y k ∧ y k ≤ 400000000) (hagr : ∀ k, k < P → -1 ≤ age k ∧ age k ≤ 2000000) : Met l yX9_fits (gws yX9_fits cX9_fits 5 (some .boolean)) (wrm 1 0 0) (wPc G M [vR G (29, 0), vR G (29, jr), vI (fr : Int)]) (wQi G (fun z M1 => (z = 0 ∨ z = 1) ∧ (z = 1 ↔ (∀ i, i < N → lo i ≤ x i ∧ x i ≤ hi i) ∧ meets N P pv x y age) ∧ M1 = M)) 0 0 (wA G) := by
  refine wMet (lc := [(0, vR G (29, 0)), (1, vR G (29, jr)), (2, vI (fr : Int))]) (by decide) (Nat.le_of_ble_eq_true rfl) rfl ?_
  intro p e s m args below meth c X hr
  have X : wX p s m args meth c G 5 "StateObserverModel" cX9_fits := X
  obtain ⟨hN, hN1, hN4, hP, hP1, hP3, hA, hB, hE, hC, hQ⟩ := id hp
  obtain ⟨qN, qP, qA, qB, qE, qC, qQ⟩ := id hq
  refine r_iconst (pc' := 1) X dX9_fits_0 rfl ?_
  refine r_istore_n (pc' := 2) (lc' := [(0, vR G (29, 0)), (1, vR G (29, jr)), (2, vI (fr : Int)), (3, vI 1)]) X [1, 2, 3, 0] dX9_fits_1 rfl (by decide) rfl rfl ?_
  refine r_iconst (pc' := 3) X dX9_fits_2 rfl ?_
  refine r_istore (pc' := 5) (lc' := [(0, vR G (29, 0)), (1, vR G (29, jr)), (2, vI (fr : Int)), (3, vI 1), (4, vI 0)]) X [1, 2, 3, 4, 0] dX9_fits_3 (by decide) rfl rfl ?_
  have L5 : ∀ (fu : Nat) (i : Nat) (cf : Int), N - i < fu → (i ≤ N) → (cf = 0 ∨ cf = 1) → (cf = 1 ↔ ∀ j, j < i → lo j ≤ x j ∧ x j ≤ hi j) → wV p l e (wrm 1 0 0) s m args below meth c G 5 M 0 0 (MQ below (wQi G (fun z M1 => (z = 0 ∨ z = 1) ∧ (z = 1 ↔ (∀ i, i < N → lo i ≤ x i ∧ x i ≤ hi i) ∧ meets N P pv x y age) ∧ M1 = M)) args s 0 0 (wA G)) 5 [(0, vR G (29, 0)), (1, vR G (29, jr)), (2, vI (fr : Int)), (3, vI cf), (4, vI (i : Int))] [] := by
    intro fu
    induction fu with
    | zero => intro i cf hfu; exact absurd hfu (Nat.not_lt_zero _)
    | succ fu ih5 =>
      intro i cf hfu5 hi0 hc hc1
      refine r_iload (pc' := 7) X 4 dX9_fits_5 rfl rfl ?_
      refine r_aload_n (pc' := 8) X 0 dX9_fits_7 rfl rfl rfl ?_
      refine gf_29_states (pc' := 11) X gw_972 dX9_fits_8 rfl ?_
      refine r_icmp_ge (pc' := 14) (tgt := 58) X dX9_fits_11 rfl rfl (by omega) (by omega) (fun h11 => ?_) (fun h11 => ?_)
      · refine r_iconst (pc' := 59) X dX9_fits_58 rfl ?_
        refine r_istore (pc' := 61) (lc' := [(0, vR G (29, 0)), (1, vR G (29, jr)), (2, vI (fr : Int)), (3, vI cf), (4, vI 0)]) X [1, 2, 3, 4, 0] dX9_fits_59 (by decide) rfl rfl ?_
        have L61 : ∀ (fu : Nat) (k : Nat) (c2 : Int), P - k < fu → (k ≤ P) → (c2 = 0 ∨ c2 = 1) → (c2 = 1 ↔ (∀ i, i < N → lo i ≤ x i ∧ x i ≤ hi i) ∧ ∀ q, q < k → age q = 0 → (dot N (pv (9 + q)) x).fdiv (pv 12 q) = y q) → wV p l e (wrm 1 0 0) s m args below meth c G 5 M 0 0 (MQ below (wQi G (fun z M1 => (z = 0 ∨ z = 1) ∧ (z = 1 ↔ (∀ i, i < N → lo i ≤ x i ∧ x i ≤ hi i) ∧ meets N P pv x y age) ∧ M1 = M)) args s 0 0 (wA G)) 61 [(0, vR G (29, 0)), (1, vR G (29, jr)), (2, vI (fr : Int)), (3, vI c2), (4, vI (k : Int))] [] := by
          intro fu
          induction fu with
          | zero => intro k c2 hfu; exact absurd hfu (Nat.not_lt_zero _)
          | succ fu ih61 =>
            intro k c2 hfu61 hk0 hd hd1
            refine r_iload (pc' := 63) X 4 dX9_fits_61 rfl rfl ?_
            refine r_aload_n (pc' := 64) X 0 dX9_fits_63 rfl rfl rfl ?_
            refine gf_29_outputs (pc' := 67) X gw_973 dX9_fits_64 rfl ?_
            refine r_icmp_ge (pc' := 70) (tgt := 127) X dX9_fits_67 rfl rfl (by omega) (by omega) (fun h67 => ?_) (fun h67 => ?_)
            · refine r_iload_n (pc' := 128) X 3 dX9_fits_127 rfl rfl rfl ?_
              refine w_zret X hr (by omega) dX9_fits_128 ?_
              try dsimp only
              refine ⟨hd, ⟨fun w => ?_, fun w => hd1.mpr ⟨w.1, fun q hq ha => w.2 q (by omega) ha⟩⟩, rfl⟩
              have w2 := hd1.mp w
              exact ⟨w2.1, fun q hq ha => w2.2 q (by omega) ha⟩
            · refine r_iload_n (pc' := 71) X 3 dX9_fits_70 rfl rfl rfl ?_
              refine r_if_eq (pc' := 74) (tgt := 127) X dX9_fits_71 rfl rfl (by omega) (fun h71 => ?_) (fun h71 => ?_)
              · refine r_iload_n (pc' := 128) X 3 dX9_fits_127 rfl rfl rfl ?_
                refine w_zret X hr (by omega) dX9_fits_128 ?_
                try dsimp only
                refine ⟨hd, ⟨fun w => ?_, fun w => hd1.mpr ⟨w.1, fun q hq ha => w.2 q (by omega) ha⟩⟩, rfl⟩
                have w2 := hd1.mp w
                exact ⟨w2.1, fun q hq ha => w2.2 q (by omega) ha⟩
              · obtain ⟨hin, hd2⟩ := hd1.mp (by omega)
                have hak := hage k (by omega)
                have hakr := hagr k (by omega)
                have hyk := hy k (by omega)
                have hykr := hyr k (by omega)
                have hqk := qQ k (by omega)
                have hqkr := hQ k (by omega)
                have hxb : ∀ i, i < N → -1000000 ≤ x i ∧ x i ≤ 1000000 := fun i hi => by have a := hin i hi; have b := hLr i hi; have c := hUr i hi; omega
                have hdb := dot_bd (A := 99) (B := 1000000) (by decide) (by decide) (n := N) (f := pv (9 + k)) (g := x) (fun i hi => hC k i (by omega) hi) hxb
                have hfd := fdiv_small (a := dot N (pv (9 + k)) x) (b := pv 12 k) (B := 400000000) (by omega) (by omega) (by decide)
                refine r_aload_n (pc' := 75) X 1 dX9_fits_74 rfl rfl rfl ?_
                refine r_bipush (pc' := 77) X dX9_fits_75 rfl rfl ?_
                refine r_iload (pc' := 79) X 4 dX9_fits_77 rfl rfl ?_
                refine r_iadd (pc' := 80) X dX9_fits_79 rfl ?_
                refine r_iald (i := (34 + k)) (pc' := 81) X hrw (by omega) (by omega) (by decide) dX9_fits_80 rfl ?_
                refine r_if_ne (pc' := 84) (tgt := 115) X dX9_fits_81 rfl rfl (by omega) (fun h81 => ?_) (fun h81 => ?_)
                · refine r_iconst (pc' := 116) X dX9_fits_115 rfl ?_
                  refine r_goto (tgt := 120) X dX9_fits_116 rfl ?_
                  refine r_istore_n (pc' := 121) (lc' := [(0, vR G (29, 0)), (1, vR G (29, jr)), (2, vI (fr : Int)), (3, vI 1), (4, vI (k : Int))]) X [1, 2, 3, 0, 4] dX9_fits_120 rfl (by decide) rfl rfl ?_
                  refine r_iinc (pc' := 124) (z' := ((k + 1 : Nat) : Int)) (lc' := [(0, vR G (29, 0)), (1, vR G (29, jr)), (2, vI (fr : Int)), (3, vI 1), (4, vI ((k + 1 : Nat) : Int))]) X 4 [1, 2, 3, 4, 0] dX9_fits_121 rfl (by omega) (by decide) rfl rfl ?_
                  refine r_goto (tgt := 61) X dX9_fits_124 rfl ?_
                  exact ih61 (k + 1) 1 (by omega) (by omega) (by first | exact Or.inl rfl | exact Or.inr rfl) (by first | exact ⟨fun _ => ⟨hin, fun q hq ha => by rcases Nat.lt_or_ge q k with w | w; exact hd2 q w ha; rw [show q = k by omega] at ha ⊢; omega⟩, fun _ => rfl⟩ | exact ⟨fun w => absurd w (by decide), fun w => by exfalso; have := w.2 k (by omega) (by omega); omega⟩)
                · refine r_aload_n (pc' := 85) X 0 dX9_fits_84 rfl rfl rfl ?_
                  refine r_aload_n (pc' := 86) X 1 dX9_fits_85 rfl rfl rfl ?_
                  refine r_iload_n (pc' := 87) X 2 dX9_fits_86 rfl rfl rfl ?_
                  refine r_iload (pc' := 89) X 4 dX9_fits_87 rfl rfl ?_
                  refine w_callj (pc' := 92) (st := []) (w_runV X (c_X9_seenBy l G M N P pv (by first | assumption | omega) (by first | assumption | omega) jr fr k hrw (by first | assumption | omega) (by first | assumption | omega) x (by first | assumption | omega) (fun i hi => by have := hxb i hi; omega)) cf_X9_seenBy k29_0 rfl gw_1192 gp_40 rfl rfl ⟨Nat.le_of_ble_eq_true rfl, Nat.le_of_ble_eq_true rfl⟩ rfl rfl (Nat.le_of_ble_eq_true rfl) ⟨Nat.le_of_ble_eq_true rfl, Nat.le_of_ble_eq_true rfl⟩ gw_1190 dX9_fits_89) rfl (fun z89 M1 h89 => ?_)
                  obtain rfl := h89.1.symm
                  obtain rfl := h89.2.symm
                  refine r_aload_n (pc' := 93) X 0 dX9_fits_92 rfl rfl rfl ?_
                  refine gf_29_quantum (pc' := 96) X gw_978 dX9_fits_93 rfl ?_
                  refine r_iload (pc' := 98) X 4 dX9_fits_96 rfl rfl ?_
                  refine r_iald (i := k) (pc' := 99) X k29_6 (by omega) (by omega) (by decide) dX9_fits_98 rfl ?_
                  refine r_i2l (pc' := 100) X dX9_fits_99 (by omega) rfl ?_
                  refine w_callj (pc' := 103) (st := []) (w_runS X (c_X9_down l G M ((dot N (pv (9 + k)) x)) (M 29 6 k) (by first | assumption | omega) (by first | assumption | omega)) cf_X9_down gw_1172 rfl rfl ⟨Nat.le_of_ble_eq_true rfl, Nat.le_of_ble_eq_true rfl⟩ rfl rfl (Nat.le_of_ble_eq_true rfl) ⟨Nat.le_of_ble_eq_true rfl, Nat.le_of_ble_eq_true rfl⟩ gw_1171 dX9_fits_100) rfl (fun z100 M2 h100 => ?_)
                  have hz100 := h100.1
                  obtain rfl := h100.2.symm
                  rw [hqk] at hz100
                  refine r_aload_n (pc' := 104) X 1 dX9_fits_103 rfl rfl rfl ?_
                  refine r_bipush (pc' := 106) X dX9_fits_104 rfl rfl ?_
                  refine r_iload (pc' := 108) X 4 dX9_fits_106 rfl rfl ?_
                  refine r_iadd (pc' := 109) X dX9_fits_108 rfl ?_
                  refine r_iald (i := (31 + k)) (pc' := 110) X hrw (by omega) (by omega) (by decide) dX9_fits_109 rfl ?_
                  refine r_i2l (pc' := 111) X dX9_fits_110 (by omega) rfl ?_
                  refine r_lcmp (pc' := 112) X dX9_fits_111 (by omega) (by omega) rfl (fun z111 z111r z111l z111e z111g => ?_)
                  refine r_if_ne (pc' := 115) (tgt := 119) X dX9_fits_112 rfl rfl (by omega) (fun h112 => ?_) (fun h112 => ?_)
                  · refine r_iconst (pc' := 120) X dX9_fits_119 rfl ?_
                    refine r_istore_n (pc' := 121) (lc' := [(0, vR G (29, 0)), (1, vR G (29, jr)), (2, vI (fr : Int)), (3, vI 0), (4, vI (k : Int))]) X [1, 2, 3, 0, 4] dX9_fits_120 rfl (by decide) rfl rfl ?_
                    refine r_iinc (pc' := 124) (z' := ((k + 1 : Nat) : Int)) (lc' := [(0, vR G (29, 0)), (1, vR G (29, jr)), (2, vI (fr : Int)), (3, vI 0), (4, vI ((k + 1 : Nat) : Int))]) X 4 [1, 2, 3, 4, 0] dX9_fits_121 rfl (by omega) (by decide) rfl rfl ?_
                    refine r_goto (tgt := 61) X dX9_fits_124 rfl ?_
                    exact ih61 (k + 1) 0 (by omega) (by omega) (by first | exact Or.inl rfl | exact Or.inr rfl) (by first | exact ⟨fun _ => ⟨hin, fun q hq ha => by rcases Nat.lt_or_ge q k with w | w; exact hd2 q w ha; rw [show q = k by omega] at ha ⊢; omega⟩, fun _ => rfl⟩ | exact ⟨fun w => absurd w (by decide), fun w => by exfalso; have := w.2 k (by omega) (by omega); omega⟩)
                  · refine r_iconst (pc' := 116) X dX9_fits_115 rfl ?_
                    refine r_goto (tgt := 120) X dX9_fits_116 rfl ?_
                    refine r_istore_n (pc' := 121) (lc' := [(0, vR G (29, 0)), (1, vR G (29, jr)), (2, vI (fr : Int)), (3, vI 1), (4, vI (k : Int))]) X [1, 2, 3, 0, 4] dX9_fits_120 rfl (by decide) rfl rfl ?_
                    refine r_iinc (pc' := 124) (z' := ((k + 1 : Nat) : Int)) (lc' := [(0, vR G (29, 0)), (1, vR G (29, jr)), (2, vI (fr : Int)), (3, vI 1), (4, vI ((k + 1 : Nat) : Int))]) X 4 [1, 2, 3, 4, 0] dX9_fits_121 rfl (by omega) (by decide) rfl rfl ?_
                    refine r_goto (tgt := 61) X dX9_fits_124 rfl ?_
                    exact ih61 (k + 1) 1 (by omega) (by omega) (by first | exact Or.inl rfl | exact Or.inr rfl) (by first | exact ⟨fun _ => ⟨hin, fun q hq ha => by rcases Nat.lt_or_ge q k with w | w; exact hd2 q w ha; rw [show q = k by omega] at ha ⊢; omega⟩, fun _ => rfl⟩ | exact ⟨fun w => absurd w (by decide), fun w => by exfalso; have := w.2 k (by omega) (by omega); omega⟩)
        exact L61 ((P - 0) + 1) 0 cf (Nat.lt_succ_self _) (by omega) hc ⟨fun w => ⟨fun j hj => hc1.mp w j (by omega), fun q h => absurd h (Nat.not_lt_zero q)⟩, fun w => hc1.mpr (fun j hj => w.1 j (by omega))⟩
      · have hxi := hx i (by omega)
        have hxri := hxr i (by omega)
        have hli := hlo i (by omega)
        have hui := hhi i (by omega)
        have hlri := hLr i (by omega)
        have huri := hUr i (by omega)
        refine r_iload_n (pc' := 15) X 3 dX9_fits_14 rfl rfl rfl ?_
        refine r_if_eq (pc' := 18) (tgt := 50) X dX9_fits_15 rfl rfl (by omega) (fun h15 => ?_) (fun h15 => ?_)
        · refine r_iconst (pc' := 51) X dX9_fits_50 rfl ?_
          refine r_istore_n (pc' := 52) (lc' := [(0, vR G (29, 0)), (1, vR G (29, jr)), (2, vI (fr : Int)), (3, vI 0), (4, vI (i : Int))]) X [1, 2, 3, 0, 4] dX9_fits_51 rfl (by decide) rfl rfl ?_
          refine r_iinc (pc' := 55) (z' := ((i + 1 : Nat) : Int)) (lc' := [(0, vR G (29, 0)), (1, vR G (29, jr)), (2, vI (fr : Int)), (3, vI 0), (4, vI ((i + 1 : Nat) : Int))]) X 4 [1, 2, 3, 4, 0] dX9_fits_52 rfl (by omega) (by decide) rfl rfl ?_
          refine r_goto (tgt := 5) X dX9_fits_55 rfl ?_
          exact ih5 (i + 1) 0 (by omega) (by omega) (by first | exact Or.inl rfl | exact Or.inr rfl) (by first | exact ⟨fun _ j hj => by rcases Nat.lt_or_ge j i with q | q; exact hc1.mp (by omega) j q; rw [show j = i by omega]; omega, fun _ => rfl⟩ | exact ⟨fun w => absurd w (by decide), fun w => by exfalso; have := hc1.mpr (fun j hj => w j (by omega)); have := w i (by omega); omega⟩)
        · refine r_aload_n (pc' := 19) X 1 dX9_fits_18 rfl rfl rfl ?_
          refine r_iload_n (pc' := 20) X 2 dX9_fits_19 rfl rfl rfl ?_
          refine r_iload (pc' := 22) X 4 dX9_fits_20 rfl rfl ?_
          refine r_iadd (pc' := 23) X dX9_fits_22 rfl ?_
          refine r_iald (i := (fr + i)) (pc' := 24) X hrw (by omega) (by omega) (by decide) dX9_fits_23 rfl ?_
          refine r_i2l (pc' := 25) X dX9_fits_24 (by omega) rfl ?_
          refine r_aload_n (pc' := 26) X 1 dX9_fits_25 rfl rfl rfl ?_
          refine r_iconst (pc' := 27) X dX9_fits_26 rfl ?_
          refine r_iload (pc' := 29) X 4 dX9_fits_27 rfl rfl ?_
          refine r_iadd (pc' := 30) X dX9_fits_29 rfl ?_
          refine r_iald (i := (4 + i)) (pc' := 31) X hrw (by omega) (by omega) (by decide) dX9_fits_30 rfl ?_
          refine r_i2l (pc' := 32) X dX9_fits_31 (by omega) rfl ?_
          refine r_aload_n (pc' := 33) X 1 dX9_fits_32 rfl rfl rfl ?_
          refine r_bipush (pc' := 35) X dX9_fits_33 rfl rfl ?_
          refine r_iload (pc' := 37) X 4 dX9_fits_35 rfl rfl ?_
          refine r_iadd (pc' := 38) X dX9_fits_37 rfl ?_
          refine r_iald (i := (8 + i)) (pc' := 39) X hrw (by omega) (by omega) (by decide) dX9_fits_38 rfl ?_
          refine r_i2l (pc' := 40) X dX9_fits_39 (by omega) rfl ?_
          refine w_calli (pc' := 43) (st := []) (w_runS X (c_X9_in l G M (M 29 jr (fr + i)) (M 29 jr (4 + i)) (M 29 jr (8 + i)) (by first | assumption | omega) (by first | assumption | omega) (by first | assumption | omega)) cf_X9_in gw_1083 rfl rfl ⟨Nat.le_of_ble_eq_true rfl, Nat.le_of_ble_eq_true rfl⟩ rfl rfl (Nat.le_of_ble_eq_true rfl) ⟨Nat.le_of_ble_eq_true rfl, Nat.le_of_ble_eq_true rfl⟩ gw_1082 dX9_fits_40) rfl (fun z40 M3 h40 => ?_)
          have hz40 := h40.1
          obtain rfl := h40.2.symm
          have hi40 : z40 = 0 ∨ z40 = 1 := by rw [hz40]; split <;> omega
          have hq40 : z40 = 1 ↔ ((M 29 jr (4 + i)) ≤ (M 29 jr (fr + i)) ∧ (M 29 jr (fr + i)) ≤ (M 29 jr (8 + i))) := by rw [hz40]; split <;> omega
          refine r_if_eq (pc' := 46) (tgt := 50) X dX9_fits_43 rfl rfl (by omega) (fun h43 => ?_) (fun h43 => ?_)
          · refine r_iconst (pc' := 51) X dX9_fits_50 rfl ?_
            refine r_istore_n (pc' := 52) (lc' := [(0, vR G (29, 0)), (1, vR G (29, jr)), (2, vI (fr : Int)), (3, vI 0), (4, vI (i : Int))]) X [1, 2, 3, 0, 4] dX9_fits_51 rfl (by decide) rfl rfl ?_
            refine r_iinc (pc' := 55) (z' := ((i + 1 : Nat) : Int)) (lc' := [(0, vR G (29, 0)), (1, vR G (29, jr)), (2, vI (fr : Int)), (3, vI 0), (4, vI ((i + 1 : Nat) : Int))]) X 4 [1, 2, 3, 4, 0] dX9_fits_52 rfl (by omega) (by decide) rfl rfl ?_
            refine r_goto (tgt := 5) X dX9_fits_55 rfl ?_
            exact ih5 (i + 1) 0 (by omega) (by omega) (by first | exact Or.inl rfl | exact Or.inr rfl) (by first | exact ⟨fun _ j hj => by rcases Nat.lt_or_ge j i with q | q; exact hc1.mp (by omega) j q; rw [show j = i by omega]; omega, fun _ => rfl⟩ | exact ⟨fun w => absurd w (by decide), fun w => by exfalso; have := hc1.mpr (fun j hj => w j (by omega)); have := w i (by omega); omega⟩)
          · refine r_iconst (pc' := 47) X dX9_fits_46 rfl ?_
            refine r_goto (tgt := 51) X dX9_fits_47 rfl ?_
            refine r_istore_n (pc' := 52) (lc' := [(0, vR G (29, 0)), (1, vR G (29, jr)), (2, vI (fr : Int)), (3, vI 1), (4, vI (i : Int))]) X [1, 2, 3, 0, 4] dX9_fits_51 rfl (by decide) rfl rfl ?_
            refine r_iinc (pc' := 55) (z' := ((i + 1 : Nat) : Int)) (lc' := [(0, vR G (29, 0)), (1, vR G (29, jr)), (2, vI (fr : Int)), (3, vI 1), (4, vI ((i + 1 : Nat) : Int))]) X 4 [1, 2, 3, 4, 0] dX9_fits_52 rfl (by omega) (by decide) rfl rfl ?_
            refine r_goto (tgt := 5) X dX9_fits_55 rfl ?_
            exact ih5 (i + 1) 1 (by omega) (by omega) (by first | exact Or.inl rfl | exact Or.inr rfl) (by first | exact ⟨fun _ j hj => by rcases Nat.lt_or_ge j i with q | q; exact hc1.mp (by omega) j q; rw [show j = i by omega]; omega, fun _ => rfl⟩ | exact ⟨fun w => absurd w (by decide), fun w => by exfalso; have := hc1.mpr (fun j hj => w j (by omega)); have := w i (by omega); omega⟩)
  exact L5 ((N - 0) + 1) 0 1 (Nat.lt_succ_self _) (by omega) (Or.inr rfl) ⟨fun _ j h => absurd h (Nat.not_lt_zero j), fun _ => rfl⟩
