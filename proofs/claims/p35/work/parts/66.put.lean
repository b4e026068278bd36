/-! characters and numbers put into both -/
theorem cf_L_put : wCal yL_put cL_put 3 (some .boolean) 3 := ⟨gw_583, gw_0, by decide, by decide, by rfl⟩
set_option maxRecDepth 100000 in
set_option maxHeartbeats 4000000 in
theorem c_L_put (l : Launch) (G1 G2 : wG) (M W : wM) (hfl : l.stackTraces = false) (L : Nat) (hL2 : L < 200) (x : Int) (hx : 0 ≤ x ∧ x ≤ 255) (hB1 : TxB (M 27) L) (hB2 : TxB (W 27) L) : Met l yL_put (gws yL_put cL_put 3 (some .boolean)) (wrm 8 2 12) (dPc G1 G2 M W [vR G1 (28, 0), vR G2 (28, 0), vI x]) (dQi G1 G2 (fun z M1 W1 => z = 1 ∧ M1 = apM M L x ∧ W1 = apM W L x)) 2 12 (dA G1 G2) := by
  refine dMet (lc := [(0, vR G1 (28, 0)), (1, vR G2 (28, 0)), (2, vI x)]) (by decide) (Nat.le_of_ble_eq_true rfl) rfl ?_
  intro p e s m args below meth c X hL hr
  have X : wX p s m args meth c (gA G1 (dA G1 G2)) 3 "StateObserverLaw" cL_put := X
  have X2 := X.other hL (fun q h => h)
  refine e_aload_n (pc' := 1) X 0 dL_put_0 rfl rfl rfl ?_
  refine e_iload_n (pc' := 2) X 2 dL_put_1 rfl rfl rfl ?_
  refine e_call1 (pc' := 5) (st := []) hL (fun q h => h) (e_runSH X (fun q h => (fun q h => h) q (Or.inl h)) hL.1 (c_L_tryAppend l G1 M hfl L x hB1 (by first | omega | assumption | decide)) cf_L_tryAppend gw_585 rfl rfl ⟨Nat.le_of_ble_eq_true rfl, Nat.le_of_ble_eq_true rfl⟩ rfl rfl (Nat.le_of_ble_eq_true rfl) ⟨by show _ ≤ 2; omega, by show _ ≤ 12; omega⟩ gw_584 dL_put_2) rfl (fun z2 M1 h2 => ?_)
  rcases h2 with h2 | h2 | h2
  rotate_left 1
  · exfalso
    have hd := h2.2.1; clear h2; omega
  · exfalso
    have hd := h2.2.1; clear h2; omega
  obtain ⟨-, -, hz2, hm2⟩ := h2
  refine e_if_le (pc' := 8) (tgt := 20) X dL_put_5 rfl rfl (by omega) (fun h5 => by exfalso; omega) (fun h5 => ?_)
  refine e_aload_n (pc' := 9) X 1 dL_put_8 rfl rfl rfl ?_
  refine e_iload_n (pc' := 10) X 2 dL_put_9 rfl rfl rfl ?_
  refine e_call2 (pc' := 13) (st := []) hL (fun q h => h) (e_runSH X2 (fun q h => (fun q h => h) q (Or.inr h)) hL.2.1 (c_L_tryAppend l G2 W hfl L x hB2 (by first | omega | assumption | decide)) cf_L_tryAppend gw_585 rfl rfl ⟨Nat.le_of_ble_eq_true rfl, Nat.le_of_ble_eq_true rfl⟩ rfl rfl (Nat.le_of_ble_eq_true rfl) ⟨by show _ ≤ 2; omega, by show _ ≤ 12; omega⟩ gw_584 dL_put_10) rfl (fun z10 W2 h10 => ?_)
  rcases h10 with h10 | h10 | h10
  rotate_left 1
  · exfalso
    have hd := h10.2.1; clear h10; omega
  · exfalso
    have hd := h10.2.1; clear h10; omega
  obtain ⟨-, -, hz10, hm10⟩ := h10
  refine e_if_le (pc' := 16) (tgt := 20) X dL_put_13 rfl rfl (by omega) (fun h13 => by exfalso; omega) (fun h13 => ?_)
  refine e_iconst (pc' := 17) X dL_put_16 rfl ?_
  refine e_goto (tgt := 21) X dL_put_17 rfl ?_
  refine e_widen (k' := 2) (n' := 12) (by omega) (by omega) ?_
  refine e_zret X hr (by decide) dL_put_21 ?_
  try dsimp only
  exact ⟨rfl, hm2, hm10⟩
theorem cf_L_signed : wCal yL_signed cL_signed 4 (some .boolean) 3 := ⟨gw_599, gw_0, by decide, by decide, by rfl⟩
set_option maxRecDepth 100000 in
set_option maxHeartbeats 4000000 in
theorem c_L_signed (l : Launch) (G1 G2 : wG) (M W : wM) (hfl : l.stackTraces = false) (L : Nat) (hL2 : L + 2 < 200) (v : Int) (hv : -99 ≤ v ∧ v ≤ 99) (hB1 : TxB (M 27) L) (hB2 : TxB (W 27) L) : Met l yL_signed (gws yL_signed cL_signed 4 (some .boolean)) (wrm 9 6 36) (dPc G1 G2 M W [vR G1 (28, 0), vR G2 (28, 0), vI v]) (dQi G1 G2 (fun z M1 W1 => z = 1 ∧ M1 = ap3 M L v ∧ W1 = ap3 W L v)) 6 36 (dA G1 G2) := by
  refine dMet (lc := [(0, vR G1 (28, 0)), (1, vR G2 (28, 0)), (2, vI v)]) (by decide) (Nat.le_of_ble_eq_true rfl) rfl ?_
  intro p e s m args below meth c X hL hr
  have X : wX p s m args meth c (gA G1 (dA G1 G2)) 4 "StateObserverLaw" cL_signed := X
  have X2 := X.other hL (fun q h => h)
  refine e_iload_n (pc' := 1) X 2 dL_signed_0 rfl rfl rfl ?_
  refine e_if_ge (pc' := 4) (tgt := 9) X dL_signed_1 rfl rfl (by omega) (fun h1 => ?_) (fun h1 => ?_)
  · refine e_iload_n (pc' := 10) X 2 dL_signed_9 rfl rfl rfl ?_
    refine e_istore_n (pc' := 11) (lc' := [(0, vR G1 (28, 0)), (1, vR G2 (28, 0)), (2, vI v), (3, vI v)]) X [1, 2, 3, 0] dL_signed_10 rfl (by decide) rfl rfl ?_
    have d10 := tdn (a := v) (b := 10) (by omega) (by decide)
    have m10 := tmn (a := v) (b := 10) (by omega) (by decide)
    refine e_aload_n (pc' := 12) X 0 dL_signed_11 rfl rfl rfl ?_
    refine e_aload_n (pc' := 13) X 1 dL_signed_12 rfl rfl rfl ?_
    refine e_iload_n (pc' := 14) X 2 dL_signed_13 rfl rfl rfl ?_
    refine e_if_ge (pc' := 17) (tgt := 22) X dL_signed_14 rfl rfl (by omega) (fun h14 => ?_) (fun h14 => by exfalso; omega)
    refine e_bipush (pc' := 24) X dL_signed_22 rfl rfl ?_
    refine e_callD (pc' := 27) (st := []) (fun q h => h) (e_runD X hL (fun q h => h) (c_L_put l G1 G2 M W hfl L (by omega) 43 (by first | omega | assumption | decide) hB1 hB2) cf_L_put gw_582 rfl rfl ⟨Nat.le_of_ble_eq_true rfl, Nat.le_of_ble_eq_true rfl⟩ rfl rfl (Nat.le_of_ble_eq_true rfl) ⟨by show _ ≤ 6; omega, by show _ ≤ 36; omega⟩ gw_581 dL_signed_24) rfl (fun z24 M1 W2 h24 => ?_)
    obtain ⟨hz24, hm24, hw24⟩ := h24
    have ta24 : TxB (M1 27) (L + 1) := by rw [hm24]; exact apM_tx hB1 (by omega) (by omega)
    have tb24 : TxB (W2 27) (L + 1) := by rw [hw24]; exact apM_tx hB2 (by omega) (by omega)
    refine e_if_eq (pc' := 30) (tgt := 64) X dL_signed_27 rfl rfl (by omega) (fun h27 => by exfalso; omega) (fun h27 => ?_)
    refine e_aload_n (pc' := 31) X 0 dL_signed_30 rfl rfl rfl ?_
    refine e_aload_n (pc' := 32) X 1 dL_signed_31 rfl rfl rfl ?_
    refine e_bipush (pc' := 34) X dL_signed_32 rfl rfl ?_
    refine e_iload_n (pc' := 35) X 3 dL_signed_34 rfl rfl rfl ?_
    refine e_bipush (pc' := 37) X dL_signed_35 rfl rfl ?_
    refine e_idiv (pc' := 38) X dL_signed_37 (by omega) (by omega) (by omega) rfl ?_
    refine e_iadd (pc' := 39) X dL_signed_38 rfl ?_
    refine e_callD (pc' := 42) (st := []) (fun q h => h) (e_runD X hL (fun q h => h) (c_L_put l G1 G2 M1 W2 hfl (L + 1) (by omega) (48 + (v.tdiv 10)) (by first | omega | assumption | decide) ta24 tb24) cf_L_put gw_582 rfl rfl ⟨Nat.le_of_ble_eq_true rfl, Nat.le_of_ble_eq_true rfl⟩ rfl rfl (Nat.le_of_ble_eq_true rfl) ⟨by show _ ≤ 6; omega, by show _ ≤ 36; omega⟩ gw_581 dL_signed_39) rfl (fun z39 M3 W4 h39 => ?_)
    obtain ⟨hz39, hm39, hw39⟩ := h39
    have ta39 : TxB (M3 27) (L + 1 + 1) := by rw [hm39]; exact apM_tx ta24 (by omega) (by omega)
    have tb39 : TxB (W4 27) (L + 1 + 1) := by rw [hw39]; exact apM_tx tb24 (by omega) (by omega)
    refine e_if_eq (pc' := 45) (tgt := 64) X dL_signed_42 rfl rfl (by omega) (fun h42 => by exfalso; omega) (fun h42 => ?_)
    refine e_aload_n (pc' := 46) X 0 dL_signed_45 rfl rfl rfl ?_
    refine e_aload_n (pc' := 47) X 1 dL_signed_46 rfl rfl rfl ?_
    refine e_bipush (pc' := 49) X dL_signed_47 rfl rfl ?_
    refine e_iload_n (pc' := 50) X 3 dL_signed_49 rfl rfl rfl ?_
    refine e_bipush (pc' := 52) X dL_signed_50 rfl rfl ?_
    refine e_irem (pc' := 53) X dL_signed_52 (by omega) (by omega) (by omega) rfl ?_
    refine e_iadd (pc' := 54) X dL_signed_53 rfl ?_
    refine e_callD (pc' := 57) (st := []) (fun q h => h) (e_runD X hL (fun q h => h) (c_L_put l G1 G2 M3 W4 hfl (L + 1 + 1) (by omega) (48 + (v.tmod 10)) (by first | omega | assumption | decide) ta39 tb39) cf_L_put gw_582 rfl rfl ⟨Nat.le_of_ble_eq_true rfl, Nat.le_of_ble_eq_true rfl⟩ rfl rfl (Nat.le_of_ble_eq_true rfl) ⟨by show _ ≤ 6; omega, by show _ ≤ 36; omega⟩ gw_581 dL_signed_54) rfl (fun z54 M5 W6 h54 => ?_)
    obtain ⟨hz54, hm54, hw54⟩ := h54
    have ta54 : TxB (M5 27) (L + 1 + 1 + 1) := by rw [hm54]; exact apM_tx ta39 (by omega) (by omega)
    have tb54 : TxB (W6 27) (L + 1 + 1 + 1) := by rw [hw54]; exact apM_tx tb39 (by omega) (by omega)
    refine e_if_eq (pc' := 60) (tgt := 64) X dL_signed_57 rfl rfl (by omega) (fun h57 => by exfalso; omega) (fun h57 => ?_)
    refine e_iconst (pc' := 61) X dL_signed_60 rfl ?_
    refine e_goto (tgt := 65) X dL_signed_61 rfl ?_
    refine e_widen (k' := 6) (n' := 36) (by omega) (by omega) ?_
    refine e_zret X hr (by decide) dL_signed_65 ?_
    try dsimp only
    have e1 : absI v = v := if_neg (by omega)
    have e2 : sgc v = 43 := if_neg (by omega)
    refine ⟨rfl, ?_, ?_⟩
    · rw [hm54, hm39, hm24]; unfold ap3; rw [e1, e2]
    · rw [hw54, hw39, hw24]; unfold ap3; rw [e1, e2]
  · refine e_iload_n (pc' := 5) X 2 dL_signed_4 rfl rfl rfl ?_
    refine e_ineg (pc' := 6) X dL_signed_5 rfl ?_
    refine e_goto (tgt := 10) X dL_signed_6 rfl ?_
    refine e_istore_n (pc' := 11) (lc' := [(0, vR G1 (28, 0)), (1, vR G2 (28, 0)), (2, vI v), (3, vI (-v))]) X [1, 2, 3, 0] dL_signed_10 rfl (by decide) rfl rfl ?_
    have d10 := tdn (a := (-v)) (b := 10) (by omega) (by decide)
    have m10 := tmn (a := (-v)) (b := 10) (by omega) (by decide)
    refine e_aload_n (pc' := 12) X 0 dL_signed_11 rfl rfl rfl ?_
    refine e_aload_n (pc' := 13) X 1 dL_signed_12 rfl rfl rfl ?_
    refine e_iload_n (pc' := 14) X 2 dL_signed_13 rfl rfl rfl ?_
    refine e_if_ge (pc' := 17) (tgt := 22) X dL_signed_14 rfl rfl (by omega) (fun h14 => by exfalso; omega) (fun h14 => ?_)
    refine e_bipush (pc' := 19) X dL_signed_17 rfl rfl ?_
    refine e_goto (tgt := 24) X dL_signed_19 rfl ?_
    refine e_callD (pc' := 27) (st := []) (fun q h => h) (e_runD X hL (fun q h => h) (c_L_put l G1 G2 M W hfl L (by omega) 45 (by first | omega | assumption | decide) hB1 hB2) cf_L_put gw_582 rfl rfl ⟨Nat.le_of_ble_eq_true rfl, Nat.le_of_ble_eq_true rfl⟩ rfl rfl (Nat.le_of_ble_eq_true rfl) ⟨by show _ ≤ 6; omega, by show _ ≤ 36; omega⟩ gw_581 dL_signed_24) rfl (fun z24 M7 W8 h24 => ?_)
    obtain ⟨hz24, hm24, hw24⟩ := h24
    have ta24 : TxB (M7 27) (L + 1) := by rw [hm24]; exact apM_tx hB1 (by omega) (by omega)
    have tb24 : TxB (W8 27) (L + 1) := by rw [hw24]; exact apM_tx hB2 (by omega) (by omega)
    refine e_if_eq (pc' := 30) (tgt := 64) X dL_signed_27 rfl rfl (by omega) (fun h27 => by exfalso; omega) (fun h27 => ?_)
    refine e_aload_n (pc' := 31) X 0 dL_signed_30 rfl rfl rfl ?_
    refine e_aload_n (pc' := 32) X 1 dL_signed_31 rfl rfl rfl ?_
    refine e_bipush (pc' := 34) X dL_signed_32 rfl rfl ?_
    refine e_iload_n (pc' := 35) X 3 dL_signed_34 rfl rfl rfl ?_
    refine e_bipush (pc' := 37) X dL_signed_35 rfl rfl ?_
    refine e_idiv (pc' := 38) X dL_signed_37 (by omega) (by omega) (by omega) rfl ?_
    refine e_iadd (pc' := 39) X dL_signed_38 rfl ?_
    refine e_callD (pc' := 42) (st := []) (fun q h => h) (e_runD X hL (fun q h => h) (c_L_put l G1 G2 M7 W8 hfl (L + 1) (by omega) (48 + ((-v).tdiv 10)) (by first | omega | assumption | decide) ta24 tb24) cf_L_put gw_582 rfl rfl ⟨Nat.le_of_ble_eq_true rfl, Nat.le_of_ble_eq_true rfl⟩ rfl rfl (Nat.le_of_ble_eq_true rfl) ⟨by show _ ≤ 6; omega, by show _ ≤ 36; omega⟩ gw_581 dL_signed_39) rfl (fun z39 M9 W10 h39 => ?_)
    obtain ⟨hz39, hm39, hw39⟩ := h39
    have ta39 : TxB (M9 27) (L + 1 + 1) := by rw [hm39]; exact apM_tx ta24 (by omega) (by omega)
    have tb39 : TxB (W10 27) (L + 1 + 1) := by rw [hw39]; exact apM_tx tb24 (by omega) (by omega)
    refine e_if_eq (pc' := 45) (tgt := 64) X dL_signed_42 rfl rfl (by omega) (fun h42 => by exfalso; omega) (fun h42 => ?_)
    refine e_aload_n (pc' := 46) X 0 dL_signed_45 rfl rfl rfl ?_
    refine e_aload_n (pc' := 47) X 1 dL_signed_46 rfl rfl rfl ?_
    refine e_bipush (pc' := 49) X dL_signed_47 rfl rfl ?_
    refine e_iload_n (pc' := 50) X 3 dL_signed_49 rfl rfl rfl ?_
    refine e_bipush (pc' := 52) X dL_signed_50 rfl rfl ?_
    refine e_irem (pc' := 53) X dL_signed_52 (by omega) (by omega) (by omega) rfl ?_
    refine e_iadd (pc' := 54) X dL_signed_53 rfl ?_
    refine e_callD (pc' := 57) (st := []) (fun q h => h) (e_runD X hL (fun q h => h) (c_L_put l G1 G2 M9 W10 hfl (L + 1 + 1) (by omega) (48 + ((-v).tmod 10)) (by first | omega | assumption | decide) ta39 tb39) cf_L_put gw_582 rfl rfl ⟨Nat.le_of_ble_eq_true rfl, Nat.le_of_ble_eq_true rfl⟩ rfl rfl (Nat.le_of_ble_eq_true rfl) ⟨by show _ ≤ 6; omega, by show _ ≤ 36; omega⟩ gw_581 dL_signed_54) rfl (fun z54 M11 W12 h54 => ?_)
    obtain ⟨hz54, hm54, hw54⟩ := h54
    have ta54 : TxB (M11 27) (L + 1 + 1 + 1) := by rw [hm54]; exact apM_tx ta39 (by omega) (by omega)
    have tb54 : TxB (W12 27) (L + 1 + 1 + 1) := by rw [hw54]; exact apM_tx tb39 (by omega) (by omega)
    refine e_if_eq (pc' := 60) (tgt := 64) X dL_signed_57 rfl rfl (by omega) (fun h57 => by exfalso; omega) (fun h57 => ?_)
    refine e_iconst (pc' := 61) X dL_signed_60 rfl ?_
    refine e_goto (tgt := 65) X dL_signed_61 rfl ?_
    refine e_widen (k' := 6) (n' := 36) (by omega) (by omega) ?_
    refine e_zret X hr (by decide) dL_signed_65 ?_
    try dsimp only
    have e1 : absI v = (-v) := if_pos (by omega)
    have e2 : sgc v = 45 := if_pos (by omega)
    refine ⟨rfl, ?_, ?_⟩
    · rw [hm54, hm39, hm24]; unfold ap3; rw [e1, e2]
    · rw [hw54, hw39, hw24]; unfold ap3; rw [e1, e2]
