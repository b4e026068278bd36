theorem cf_X9_step : wCal yX9_step cX9_step 3 (some .int) 2 := ⟨gw_1205, gw_10, by decide, by decide, by rfl⟩
set_option maxRecDepth 100000 in
set_option maxHeartbeats 4000000 in
theorem c_X9_step (l : Launch) (G : wG) (M : wM) (N P : Nat) (pv : Nat → Nat → Int) (hp : PlOk pv N P) (hq : PEq N P pv (M 29)) (w : Nat → Nat → Int) (T : Int) (hm : MoOk w N P T) (hT6 : T ≤ 1000000) (hv : REq N P w (M 29 13)) (hbx : BoxOk N (w 2) (w 3)) (ct : Nat) (hct : M 29 0 24 = (ct : Int)) (hct14 : ct ≤ 14) (u d : Int) (hu : rI u) (hd : rI d) : Met l yX9_step (gws yX9_step cX9_step 3 (some .int)) (wrm 3 0 0) (wPc G M [vR G (29, 0), vI u, vI d]) (wQi G (fun z M1 => (M1 29 0 0 = 0 ∧ RNoted M M1 ct ∧ ((-99 ≤ u ∧ u ≤ 99) ∧ -(w 0 8) ≤ d ∧ d ≤ w 0 8) ∧ z = w 0 9 + 1 ∧ REq N P (stepF N P pv w u d) (M1 29 13)) ∨ (M1 29 0 0 = 1 ∧ RScr M M1 ∧ ¬ ((-99 ≤ u ∧ u ≤ 99) ∧ -(w 0 8) ≤ d ∧ d ≤ w 0 8)))) 0 0 (wA G) := by
  refine wMet (lc := [(0, vR G (29, 0)), (1, vI u), (2, vI d)]) (by decide) (Nat.le_of_ble_eq_true rfl) rfl ?_
  intro p e s m args below meth c X hr
  have X : wX p s m args meth c G 3 "StateObserverModel" cX9_step := X
  obtain ⟨hN, hN1, hN4, hP, hP1, hP3, hA, hB, hE, hC, hQ⟩ := id hp
  obtain ⟨qN, qP, qA, qB, qE, qC, qQ⟩ := id hq
  obtain ⟨hT, hL, hU, hS, hG, hY, hAg, hHo, hBo, hTi, hLi, hLb, hLl, hLh⟩ := id hm
  obtain ⟨v1, v2, v3, v28, v29, v30, v38, v39, v37⟩ := id hv
  refine r_aload_n (pc' := 1) X 0 dX9_step_0 rfl rfl rfl ?_
  refine r_iload_n (pc' := 2) X 1 dX9_step_1 rfl rfl rfl ?_
  refine r_i2l (pc' := 3) X dX9_step_2 (by omega) rfl ?_
  refine r_ldc2 (pc' := 6) (z := (-99)) X gw_1206 dX9_step_3 rfl rfl ?_
  refine r_ldc2 (pc' := 9) (z := 99) X gw_1207 dX9_step_6 rfl rfl ?_
  refine w_calli (pc' := 12) (st := [vR G (29, 0)]) (w_runS X (c_X9_in l G M u (-99) 99 (by first | assumption | omega) (by first | assumption | omega) (by first | assumption | omega)) cf_X9_in gw_1083 rfl rfl ⟨Nat.le_of_ble_eq_true rfl, Nat.le_of_ble_eq_true rfl⟩ rfl rfl (Nat.le_of_ble_eq_true rfl) ⟨Nat.le_of_ble_eq_true rfl, Nat.le_of_ble_eq_true rfl⟩ gw_1082 dX9_step_9) rfl (fun z9 M1 h9 => ?_)
  have hz9 := h9.1
  obtain rfl := h9.2.symm
  have hi9 : z9 = 0 ∨ z9 = 1 := by rw [hz9]; split <;> omega
  have hq9 : z9 = 1 ↔ ((-99) ≤ u ∧ u ≤ 99) := by rw [hz9]; split <;> omega
  refine r_if_eq (pc' := 15) (tgt := 44) X dX9_step_12 rfl rfl (by omega) (fun h12 => ?_) (fun h12 => ?_)
  · refine r_iconst (pc' := 45) X dX9_step_44 rfl ?_
    refine w_calli (pc' := 48) (st := []) (w_runV X (c_X9_refused l G M 1 (by first | assumption | omega)) cf_X9_refused k29_0 rfl gw_1087 gp_25 rfl rfl ⟨Nat.le_of_ble_eq_true rfl, Nat.le_of_ble_eq_true rfl⟩ rfl rfl (Nat.le_of_ble_eq_true rfl) ⟨Nat.le_of_ble_eq_true rfl, Nat.le_of_ble_eq_true rfl⟩ gw_1085 dX9_step_45) rfl (fun z45 M2 h45 => ?_)
    have hz45 : z45 = 1 := by rw [h45.1]; rfl
    have ew45 : ∀ a b x, ¬ (a = 29 ∧ b = 0 ∧ x = 0) → M2 a b x = M a b x := fun a b x q => by rw [h45.2]; unfold wu; rw [if_neg q]
    have er45 : M2 29 0 0 = 1 := by rw [h45.2]; unfold wu; rw [if_pos ⟨rfl, rfl, rfl⟩]
    have sc45 : RScr M M2 := fun a b x q => ew45 a b x (by omega)
    have qq45 : PEq N P pv (M2 29) := hq.keep (fun b x q => ew45 29 b x (by omega))
    refine r_if_eq (pc' := 51) (tgt := 53) X dX9_step_48 rfl rfl (by omega) (fun h48 => by exfalso; omega) (fun h48 => ?_)
    refine r_iconst (pc' := 52) X dX9_step_51 rfl ?_
    refine w_iret X hr dX9_step_52 ?_
    try dsimp only
    exact (Or.inr ⟨er45, sc45, by omega⟩)
  · refine r_iload_n (pc' := 16) X 2 dX9_step_15 rfl rfl rfl ?_
    refine r_i2l (pc' := 17) X dX9_step_16 (by omega) rfl ?_
    refine r_aload_n (pc' := 18) X 0 dX9_step_17 rfl rfl rfl ?_
    refine gf_29_now (pc' := 21) X gw_987 dX9_step_18 rfl ?_
    refine r_bipush (pc' := 23) X dX9_step_21 rfl rfl ?_
    refine r_iald (i := 29) (pc' := 24) X k29_13 (by omega) (by omega) (by decide) dX9_step_23 rfl ?_
    refine r_ineg (pc' := 25) X dX9_step_24 rfl ?_
    refine r_i2l (pc' := 26) X dX9_step_25 (by omega) rfl ?_
    refine r_aload_n (pc' := 27) X 0 dX9_step_26 rfl rfl rfl ?_
    refine gf_29_now (pc' := 30) X gw_987 dX9_step_27 rfl ?_
    refine r_bipush (pc' := 32) X dX9_step_30 rfl rfl ?_
    refine r_iald (i := 29) (pc' := 33) X k29_13 (by omega) (by omega) (by decide) dX9_step_32 rfl ?_
    refine r_i2l (pc' := 34) X dX9_step_33 (by omega) rfl ?_
    refine w_calli (pc' := 37) (st := [vR G (29, 0)]) (w_runS X (c_X9_in l G M d (-(M 29 13 29)) (M 29 13 29) (by first | assumption | omega) (by first | assumption | omega) (by first | assumption | omega)) cf_X9_in gw_1083 rfl rfl ⟨Nat.le_of_ble_eq_true rfl, Nat.le_of_ble_eq_true rfl⟩ rfl rfl (Nat.le_of_ble_eq_true rfl) ⟨Nat.le_of_ble_eq_true rfl, Nat.le_of_ble_eq_true rfl⟩ gw_1082 dX9_step_34) rfl (fun z34 M3 h34 => ?_)
    have hz34 := h34.1
    obtain rfl := h34.2.symm
    have hi34 : z34 = 0 ∨ z34 = 1 := by rw [hz34]; split <;> omega
    have hq34 : z34 = 1 ↔ ((-(M 29 13 29)) ≤ d ∧ d ≤ (M 29 13 29)) := by rw [hz34]; split <;> omega
    refine r_if_eq (pc' := 40) (tgt := 44) X dX9_step_37 rfl rfl (by omega) (fun h37 => ?_) (fun h37 => ?_)
    · refine r_iconst (pc' := 45) X dX9_step_44 rfl ?_
      refine w_calli (pc' := 48) (st := []) (w_runV X (c_X9_refused l G M 1 (by first | assumption | omega)) cf_X9_refused k29_0 rfl gw_1087 gp_25 rfl rfl ⟨Nat.le_of_ble_eq_true rfl, Nat.le_of_ble_eq_true rfl⟩ rfl rfl (Nat.le_of_ble_eq_true rfl) ⟨Nat.le_of_ble_eq_true rfl, Nat.le_of_ble_eq_true rfl⟩ gw_1085 dX9_step_45) rfl (fun z45 M4 h45 => ?_)
      have hz45 : z45 = 1 := by rw [h45.1]; rfl
      have ew45 : ∀ a b x, ¬ (a = 29 ∧ b = 0 ∧ x = 0) → M4 a b x = M a b x := fun a b x q => by rw [h45.2]; unfold wu; rw [if_neg q]
      have er45 : M4 29 0 0 = 1 := by rw [h45.2]; unfold wu; rw [if_pos ⟨rfl, rfl, rfl⟩]
      have sc45 : RScr M M4 := fun a b x q => ew45 a b x (by omega)
      have qq45 : PEq N P pv (M4 29) := hq.keep (fun b x q => ew45 29 b x (by omega))
      refine r_if_eq (pc' := 51) (tgt := 53) X dX9_step_48 rfl rfl (by omega) (fun h48 => by exfalso; omega) (fun h48 => ?_)
      refine r_iconst (pc' := 52) X dX9_step_51 rfl ?_
      refine w_iret X hr dX9_step_52 ?_
      try dsimp only
      exact (Or.inr ⟨er45, sc45, by omega⟩)
    · refine r_iconst (pc' := 41) X dX9_step_40 rfl ?_
      refine r_goto (tgt := 45) X dX9_step_41 rfl ?_
      refine w_calli (pc' := 48) (st := []) (w_runV X (c_X9_refused l G M 0 (by first | assumption | omega)) cf_X9_refused k29_0 rfl gw_1087 gp_25 rfl rfl ⟨Nat.le_of_ble_eq_true rfl, Nat.le_of_ble_eq_true rfl⟩ rfl rfl (Nat.le_of_ble_eq_true rfl) ⟨Nat.le_of_ble_eq_true rfl, Nat.le_of_ble_eq_true rfl⟩ gw_1085 dX9_step_45) rfl (fun z45 M5 h45 => ?_)
      have hz45 : z45 = 0 := by rw [h45.1]; rfl
      have ew45 : ∀ a b x, ¬ (a = 29 ∧ b = 0 ∧ x = 0) → M5 a b x = M a b x := fun a b x q => by rw [h45.2]; unfold wu; rw [if_neg q]
      have er45 : M5 29 0 0 = 0 := by rw [h45.2]; unfold wu; rw [if_pos ⟨rfl, rfl, rfl⟩]
      have sc45 : RScr M M5 := fun a b x q => ew45 a b x (by omega)
      have qq45 : PEq N P pv (M5 29) := hq.keep (fun b x q => ew45 29 b x (by omega))
      refine r_if_eq (pc' := 51) (tgt := 53) X dX9_step_48 rfl rfl (by omega) (fun h48 => ?_) (fun h48 => by exfalso; omega)
      refine r_aload_n (pc' := 54) X 0 dX9_step_53 rfl rfl rfl ?_
      refine w_callv (pc' := 57) (st := []) (w_runV X (c_X9_note l G M5 ct (by rw [ew45 29 0 24 (by omega)]; exact hct) (by first | assumption | omega)) cf_X9_note k29_0 rfl gw_1200 gp_42 rfl rfl ⟨Nat.le_of_ble_eq_true rfl, Nat.le_of_ble_eq_true rfl⟩ rfl rfl (Nat.le_of_ble_eq_true rfl) ⟨Nat.le_of_ble_eq_true rfl, Nat.le_of_ble_eq_true rfl⟩ gw_1198 dX9_step_54) rfl (fun M6 h54 => ?_)
      have kn : ∀ a b x, ¬ (a = 29 ∧ ((b = 0 ∧ (x = 0 ∨ x = 24)) ∨ b = 16)) → M6 a b x = M a b x := fun a b x q => by rw [h54.2 a b x (by omega), ew45 a b x (by omega)]
      have qn : PEq N P pv (M6 29) := hq.keep (fun b x q => kn 29 b x (by omega))
      have rn : RNoted M M6 ct := h54.1.pre ew45
      have zn : M6 29 0 0 = 0 := by rw [h54.2 29 0 0 (by omega)]; exact er45
      have n13 : M6 29 13 = M 29 13 := funext fun x => kn 29 13 x (by omega)
      have vn : REq N P w (M6 29 13) := by rw [n13]; exact hv
      refine r_aload_n (pc' := 58) X 0 dX9_step_57 rfl rfl rfl ?_
      refine r_aload_n (pc' := 59) X 0 dX9_step_58 rfl rfl rfl ?_
      refine gf_29_now (pc' := 62) X gw_987 dX9_step_59 rfl ?_
      refine r_iload_n (pc' := 63) X 1 dX9_step_62 rfl rfl rfl ?_
      refine r_iload_n (pc' := 64) X 2 dX9_step_63 rfl rfl rfl ?_
      refine w_callv (pc' := 67) (st := []) (w_runV X (c_X9_stepOn l G M6 N P pv (by first | assumption | omega) qn 13 k29_13 (by omega) w T hm (by first | assumption | omega) vn hbx u (by omega) d (by omega)) cf_X9_stepOn k29_0 rfl gw_1210 gp_43 rfl rfl ⟨Nat.le_of_ble_eq_true rfl, Nat.le_of_ble_eq_true rfl⟩ rfl rfl (Nat.le_of_ble_eq_true rfl) ⟨Nat.le_of_ble_eq_true rfl, Nat.le_of_ble_eq_true rfl⟩ gw_1208 dX9_step_64) rfl (fun M7 h64 => ?_)
      refine r_aload_n (pc' := 68) X 0 dX9_step_67 rfl rfl rfl ?_
      refine gf_29_now (pc' := 71) X gw_987 dX9_step_68 rfl ?_
      refine r_bipush (pc' := 73) X dX9_step_71 rfl rfl ?_
      refine r_iald (i := 30) (pc' := 74) X k29_13 (by omega) (by omega) (by decide) dX9_step_73 rfl ?_
      refine w_iret X hr dX9_step_74 ?_
      try dsimp only
      have v9 : M7 29 13 30 = stepF N P pv w u d 0 9 := h64.1.2.2.2.2.2.1
      refine Or.inl ⟨by rw [h64.2 29 0 0 (by omega)]; exact zn, rn.post (fun a b x q => h64.2 a b x (by omega)), by omega, by rw [v9]; exact sF_9, h64.1⟩
theorem cf_X9_read : wCal yX9_read cX9_read 2 (some .int) 1 := ⟨gw_1233, gw_10, by decide, by decide, by rfl⟩
set_option maxRecDepth 100000 in
set_option maxHeartbeats 4000000 in
theorem c_X9_read (l : Launch) (G : wG) (M : wM) (N P : Nat) (pv : Nat → Nat → Int) (hp : PlOk pv N P) (hq : PEq N P pv (M 29)) (w : Nat → Nat → Int) (T : Int) (hm : MoOk w N P T) (hT6 : T ≤ 1000000) (hv : REq N P w (M 29 13)) (hbx : BoxOk N (w 2) (w 3)) (ct : Nat) (hct : M 29 0 24 = (ct : Int)) (hct14 : ct ≤ 14) (i : Int) (hi : rI i) : Met l yX9_read (gws yX9_read cX9_read 2 (some .int)) (wrm 5 0 0) (wPc G M [vR G (29, 0), vI i]) (wQi G (fun z M1 => (M1 29 0 0 = 0 ∧ RNoted M M1 ct ∧ (0 ≤ i ∧ i < P) ∧ z = obsY N pv w i.toNat i.toNat ∧ REq N P (obsV N P pv w i.toNat) (M1 29 13)) ∨ (M1 29 0 0 = 1 ∧ RScr M M1 ∧ ¬ (0 ≤ i ∧ i < P)))) 0 0 (wA G) := by
  refine wMet (lc := [(0, vR G (29, 0)), (1, vI i)]) (by decide) (Nat.le_of_ble_eq_true rfl) rfl ?_
  intro p e s m args below meth c X hr
  have X : wX p s m args meth c G 2 "StateObserverModel" cX9_read := X
  obtain ⟨hN, hN1, hN4, hP, hP1, hP3, hA, hB, hE, hC, hQ⟩ := id hp
  obtain ⟨qN, qP, qA, qB, qE, qC, qQ⟩ := id hq
  obtain ⟨hT, hL, hU, hS, hG, hY, hAg, hHo, hBo, hTi, hLi, hLb, hLl, hLh⟩ := id hm
  obtain ⟨v1, v2, v3, v28, v29, v30, v38, v39, v37⟩ := id hv
  refine r_aload_n (pc' := 1) X 0 dX9_read_0 rfl rfl rfl ?_
  refine r_aload_n (pc' := 2) X 0 dX9_read_1 rfl rfl rfl ?_
  refine r_iload_n (pc' := 3) X 1 dX9_read_2 rfl rfl rfl ?_
  refine w_calli (pc' := 6) (st := [vR G (29, 0)]) (w_runV X (c_X9_isOutput l G M N P pv (by first | assumption | omega) (by first | assumption | omega) i (by first | assumption | omega)) cf_X9_isOutput k29_0 rfl gw_1152 gp_35 rfl rfl ⟨Nat.le_of_ble_eq_true rfl, Nat.le_of_ble_eq_true rfl⟩ rfl rfl (Nat.le_of_ble_eq_true rfl) ⟨Nat.le_of_ble_eq_true rfl, Nat.le_of_ble_eq_true rfl⟩ gw_1150 dX9_read_3) rfl (fun z3 M1 h3 => ?_)
  have hz3 := h3.1
  obtain rfl := h3.2.symm
  have hi3 : z3 = 0 ∨ z3 = 1 := by rw [hz3]; split <;> omega
  have hq3 : z3 = 1 ↔ (0 ≤ i ∧ i < P) := by rw [hz3]; split <;> omega
  refine r_if_eq (pc' := 9) (tgt := 13) X dX9_read_6 rfl rfl (by omega) (fun h6 => ?_) (fun h6 => ?_)
  · refine r_iconst (pc' := 14) X dX9_read_13 rfl ?_
    refine w_calli (pc' := 17) (st := []) (w_runV X (c_X9_refused l G M 1 (by first | assumption | omega)) cf_X9_refused k29_0 rfl gw_1087 gp_25 rfl rfl ⟨Nat.le_of_ble_eq_true rfl, Nat.le_of_ble_eq_true rfl⟩ rfl rfl (Nat.le_of_ble_eq_true rfl) ⟨Nat.le_of_ble_eq_true rfl, Nat.le_of_ble_eq_true rfl⟩ gw_1085 dX9_read_14) rfl (fun z14 M2 h14 => ?_)
    have hz14 : z14 = 1 := by rw [h14.1]; rfl
    have ew14 : ∀ a b x, ¬ (a = 29 ∧ b = 0 ∧ x = 0) → M2 a b x = M a b x := fun a b x q => by rw [h14.2]; unfold wu; rw [if_neg q]
    have er14 : M2 29 0 0 = 1 := by rw [h14.2]; unfold wu; rw [if_pos ⟨rfl, rfl, rfl⟩]
    have sc14 : RScr M M2 := fun a b x q => ew14 a b x (by omega)
    have qq14 : PEq N P pv (M2 29) := hq.keep (fun b x q => ew14 29 b x (by omega))
    refine r_if_eq (pc' := 20) (tgt := 22) X dX9_read_17 rfl rfl (by omega) (fun h17 => by exfalso; omega) (fun h17 => ?_)
    refine r_iconst (pc' := 21) X dX9_read_20 rfl ?_
    refine w_iret X hr dX9_read_21 ?_
    try dsimp only
    exact (Or.inr ⟨er14, sc14, by omega⟩)
  · refine r_iconst (pc' := 10) X dX9_read_9 rfl ?_
    refine r_goto (tgt := 14) X dX9_read_10 rfl ?_
    refine w_calli (pc' := 17) (st := []) (w_runV X (c_X9_refused l G M 0 (by first | assumption | omega)) cf_X9_refused k29_0 rfl gw_1087 gp_25 rfl rfl ⟨Nat.le_of_ble_eq_true rfl, Nat.le_of_ble_eq_true rfl⟩ rfl rfl (Nat.le_of_ble_eq_true rfl) ⟨Nat.le_of_ble_eq_true rfl, Nat.le_of_ble_eq_true rfl⟩ gw_1085 dX9_read_14) rfl (fun z14 M3 h14 => ?_)
    have hz14 : z14 = 0 := by rw [h14.1]; rfl
    have ew14 : ∀ a b x, ¬ (a = 29 ∧ b = 0 ∧ x = 0) → M3 a b x = M a b x := fun a b x q => by rw [h14.2]; unfold wu; rw [if_neg q]
    have er14 : M3 29 0 0 = 0 := by rw [h14.2]; unfold wu; rw [if_pos ⟨rfl, rfl, rfl⟩]
    have sc14 : RScr M M3 := fun a b x q => ew14 a b x (by omega)
    have qq14 : PEq N P pv (M3 29) := hq.keep (fun b x q => ew14 29 b x (by omega))
    refine r_if_eq (pc' := 20) (tgt := 22) X dX9_read_17 rfl rfl (by omega) (fun h17 => ?_) (fun h17 => by exfalso; omega)
    refine r_aload_n (pc' := 23) X 0 dX9_read_22 rfl rfl rfl ?_
    refine w_callv (pc' := 26) (st := []) (w_runV X (c_X9_note l G M3 ct (by rw [ew14 29 0 24 (by omega)]; exact hct) (by first | assumption | omega)) cf_X9_note k29_0 rfl gw_1200 gp_42 rfl rfl ⟨Nat.le_of_ble_eq_true rfl, Nat.le_of_ble_eq_true rfl⟩ rfl rfl (Nat.le_of_ble_eq_true rfl) ⟨Nat.le_of_ble_eq_true rfl, Nat.le_of_ble_eq_true rfl⟩ gw_1198 dX9_read_23) rfl (fun M4 h23 => ?_)
    have kn : ∀ a b x, ¬ (a = 29 ∧ ((b = 0 ∧ (x = 0 ∨ x = 24)) ∨ b = 16)) → M4 a b x = M a b x := fun a b x q => by rw [h23.2 a b x (by omega), ew14 a b x (by omega)]
    have qn : PEq N P pv (M4 29) := hq.keep (fun b x q => kn 29 b x (by omega))
    have rn : RNoted M M4 ct := h23.1.pre ew14
    have zn : M4 29 0 0 = 0 := by rw [h23.2 29 0 0 (by omega)]; exact er14
    have n13 : M4 29 13 = M 29 13 := funext fun x => kn 29 13 x (by omega)
    have vn : REq N P w (M4 29 13) := by rw [n13]; exact hv
    refine r_aload_n (pc' := 27) X 0 dX9_read_26 rfl rfl rfl ?_
    refine r_aload_n (pc' := 28) X 0 dX9_read_27 rfl rfl rfl ?_
    refine gf_29_now (pc' := 31) X gw_987 dX9_read_28 rfl ?_
    refine r_iload_n (pc' := 32) X 1 dX9_read_31 rfl rfl rfl ?_
    refine w_eqI (z' := ((i.toNat : Nat) : Int)) (by omega) ?_
    refine w_callv (pc' := 35) (st := []) (w_runV X (c_X9_readOn l G M4 N P pv (by first | assumption | omega) qn 13 i.toNat k29_13 (by omega) w T hm (by first | assumption | omega) vn hbx (by first | assumption | omega)) cf_X9_readOn k29_0 rfl gw_1236 gp_46 rfl rfl ⟨Nat.le_of_ble_eq_true rfl, Nat.le_of_ble_eq_true rfl⟩ rfl rfl (Nat.le_of_ble_eq_true rfl) ⟨Nat.le_of_ble_eq_true rfl, Nat.le_of_ble_eq_true rfl⟩ gw_1234 dX9_read_32) rfl (fun M5 h32 => ?_)
    refine r_aload_n (pc' := 36) X 0 dX9_read_35 rfl rfl rfl ?_
    refine gf_29_now (pc' := 39) X gw_987 dX9_read_36 rfl ?_
    refine r_bipush (pc' := 41) X dX9_read_39 rfl rfl ?_
    refine r_iload_n (pc' := 42) X 1 dX9_read_41 rfl rfl rfl ?_
    refine r_iadd (pc' := 43) X dX9_read_42 rfl ?_
    refine r_iald (i := (31 + i.toNat)) (pc' := 44) X k29_13 (by omega) (by omega) (by decide) dX9_read_43 rfl ?_
    refine w_iret X hr dX9_read_44 ?_
    try dsimp only
    refine Or.inl ⟨by rw [h32.2 29 0 0 (by omega)]; exact zn, rn.post (fun a b x q => h32.2 a b x (by omega)), by omega, ?_, h32.1⟩
    exact (h32.1.2.2.1 i.toNat (by omega)).1
theorem cf_X9_setHold : wCal yX9_setHold cX9_setHold 2 (some .int) 1 := ⟨gw_1265, gw_10, by decide, by decide, by rfl⟩
set_option maxRecDepth 100000 in
set_option maxHeartbeats 4000000 in
theorem c_X9_setHold (l : Launch) (G : wG) (M : wM) (N P : Nat) (pv : Nat → Nat → Int) (hp : PlOk pv N P) (hq : PEq N P pv (M 29)) (w : Nat → Nat → Int) (T : Int) (hm : MoOk w N P T) (hT6 : T ≤ 1000000) (hv : REq N P w (M 29 13)) (ct : Nat) (hct : M 29 0 24 = (ct : Int)) (hct14 : ct ≤ 14) (v : Int) (hv0 : rI v) : Met l yX9_setHold (gws yX9_setHold cX9_setHold 2 (some .int)) (wrm 3 0 0) (wPc G M [vR G (29, 0), vI v]) (wQi G (fun z M1 => (M1 29 0 0 = 0 ∧ RNoted M M1 ct ∧ (0 ≤ v ∧ v ≤ 9) ∧ z = w 0 7 ∧ REq N P (setV w 0 7 v) (M1 29 13)) ∨ (M1 29 0 0 = 1 ∧ RScr M M1 ∧ ¬ (0 ≤ v ∧ v ≤ 9)))) 0 0 (wA G) := by
  refine wMet (lc := [(0, vR G (29, 0)), (1, vI v)]) (by decide) (Nat.le_of_ble_eq_true rfl) rfl ?_
  intro p e s m args below meth c X hr
  have X : wX p s m args meth c G 2 "StateObserverModel" cX9_setHold := X
  obtain ⟨hN, hN1, hN4, hP, hP1, hP3, hA, hB, hE, hC, hQ⟩ := id hp
  obtain ⟨qN, qP, qA, qB, qE, qC, qQ⟩ := id hq
  obtain ⟨hT, hL, hU, hS, hG, hY, hAg, hHo, hBo, hTi, hLi, hLb, hLl, hLh⟩ := id hm
  obtain ⟨v1, v2, v3, v28, v29, v30, v38, v39, v37⟩ := id hv
  refine r_aload_n (pc' := 1) X 0 dX9_setHold_0 rfl rfl rfl ?_
  refine r_iload_n (pc' := 2) X 1 dX9_setHold_1 rfl rfl rfl ?_
  refine r_i2l (pc' := 3) X dX9_setHold_2 (by omega) rfl ?_
  refine r_lconst (pc' := 4) (z := 0) X dX9_setHold_3 rfl rfl ?_
  refine r_ldc2 (pc' := 7) (z := 9) X gw_1266 dX9_setHold_4 rfl rfl ?_
  refine w_calli (pc' := 10) (st := [vR G (29, 0)]) (w_runS X (c_X9_in l G M v 0 9 (by first | assumption | omega) (by first | assumption | omega) (by first | assumption | omega)) cf_X9_in gw_1083 rfl rfl ⟨Nat.le_of_ble_eq_true rfl, Nat.le_of_ble_eq_true rfl⟩ rfl rfl (Nat.le_of_ble_eq_true rfl) ⟨Nat.le_of_ble_eq_true rfl, Nat.le_of_ble_eq_true rfl⟩ gw_1082 dX9_setHold_7) rfl (fun z7 M1 h7 => ?_)
  have hz7 := h7.1
  obtain rfl := h7.2.symm
  have hi7 : z7 = 0 ∨ z7 = 1 := by rw [hz7]; split <;> omega
  have hq7 : z7 = 1 ↔ (0 ≤ v ∧ v ≤ 9) := by rw [hz7]; split <;> omega
  refine r_if_eq (pc' := 13) (tgt := 17) X dX9_setHold_10 rfl rfl (by omega) (fun h10 => ?_) (fun h10 => ?_)
  · refine r_iconst (pc' := 18) X dX9_setHold_17 rfl ?_
    refine w_calli (pc' := 21) (st := []) (w_runV X (c_X9_refused l G M 1 (by first | assumption | omega)) cf_X9_refused k29_0 rfl gw_1087 gp_25 rfl rfl ⟨Nat.le_of_ble_eq_true rfl, Nat.le_of_ble_eq_true rfl⟩ rfl rfl (Nat.le_of_ble_eq_true rfl) ⟨Nat.le_of_ble_eq_true rfl, Nat.le_of_ble_eq_true rfl⟩ gw_1085 dX9_setHold_18) rfl (fun z18 M2 h18 => ?_)
    have hz18 : z18 = 1 := by rw [h18.1]; rfl
    have ew18 : ∀ a b x, ¬ (a = 29 ∧ b = 0 ∧ x = 0) → M2 a b x = M a b x := fun a b x q => by rw [h18.2]; unfold wu; rw [if_neg q]
    have er18 : M2 29 0 0 = 1 := by rw [h18.2]; unfold wu; rw [if_pos ⟨rfl, rfl, rfl⟩]
    have sc18 : RScr M M2 := fun a b x q => ew18 a b x (by omega)
    have qq18 : PEq N P pv (M2 29) := hq.keep (fun b x q => ew18 29 b x (by omega))
    refine r_if_eq (pc' := 24) (tgt := 28) X dX9_setHold_21 rfl rfl (by omega) (fun h21 => by exfalso; omega) (fun h21 => ?_)
    refine r_iconst (pc' := 25) X dX9_setHold_24 rfl ?_
    refine r_goto (tgt := 35) X dX9_setHold_25 rfl ?_
    refine w_iret X hr dX9_setHold_35 ?_
    try dsimp only
    exact (Or.inr ⟨er18, sc18, by omega⟩)
  · refine r_iconst (pc' := 14) X dX9_setHold_13 rfl ?_
    refine r_goto (tgt := 18) X dX9_setHold_14 rfl ?_
    refine w_calli (pc' := 21) (st := []) (w_runV X (c_X9_refused l G M 0 (by first | assumption | omega)) cf_X9_refused k29_0 rfl gw_1087 gp_25 rfl rfl ⟨Nat.le_of_ble_eq_true rfl, Nat.le_of_ble_eq_true rfl⟩ rfl rfl (Nat.le_of_ble_eq_true rfl) ⟨Nat.le_of_ble_eq_true rfl, Nat.le_of_ble_eq_true rfl⟩ gw_1085 dX9_setHold_18) rfl (fun z18 M3 h18 => ?_)
    have hz18 : z18 = 0 := by rw [h18.1]; rfl
    have ew18 : ∀ a b x, ¬ (a = 29 ∧ b = 0 ∧ x = 0) → M3 a b x = M a b x := fun a b x q => by rw [h18.2]; unfold wu; rw [if_neg q]
    have er18 : M3 29 0 0 = 0 := by rw [h18.2]; unfold wu; rw [if_pos ⟨rfl, rfl, rfl⟩]
    have sc18 : RScr M M3 := fun a b x q => ew18 a b x (by omega)
    have qq18 : PEq N P pv (M3 29) := hq.keep (fun b x q => ew18 29 b x (by omega))
    refine r_if_eq (pc' := 24) (tgt := 28) X dX9_setHold_21 rfl rfl (by omega) (fun h21 => ?_) (fun h21 => by exfalso; omega)
    refine r_aload_n (pc' := 29) X 0 dX9_setHold_28 rfl rfl rfl ?_
    refine r_bipush (pc' := 31) X dX9_setHold_29 rfl rfl ?_
    refine r_iload_n (pc' := 32) X 1 dX9_setHold_31 rfl rfl rfl ?_
    refine w_calli (pc' := 35) (st := []) (w_runV X (c_X9_change l G M3 ct (by rw [ew18 29 0 24 (by omega)]; exact hct) (by first | assumption | omega) 28 v (by first | assumption | omega) (by first | assumption | omega)) cf_X9_change k29_0 rfl gw_1196 gp_41 rfl rfl ⟨Nat.le_of_ble_eq_true rfl, Nat.le_of_ble_eq_true rfl⟩ rfl rfl (Nat.le_of_ble_eq_true rfl) ⟨Nat.le_of_ble_eq_true rfl, Nat.le_of_ble_eq_true rfl⟩ gw_1194 dX9_setHold_32) rfl (fun z32 M4 h32 => ?_)
    refine w_iret X hr dX9_setHold_35 ?_
    try dsimp only
    have n13 : M3 29 13 = M 29 13 := funext fun x => ew18 29 13 x (by omega)
    have zz := h32.1
    have ru := h32.2.1
    rw [n13] at zz ru
    refine Or.inl ⟨by rw [h32.2.2.2]; exact er18, (h32.2.2.1).pre ew18, by omega, by rw [zz]; exact v28, by rw [ru]; exact hv.hold hN4 hP3 (by omega)⟩
theorem cf_X9_setBound : wCal yX9_setBound cX9_setBound 2 (some .int) 1 := ⟨gw_1270, gw_10, by decide, by decide, by rfl⟩
set_option maxRecDepth 100000 in
set_option maxHeartbeats 4000000 in
theorem c_X9_setBound (l : Launch) (G : wG) (M : wM) (N P : Nat) (pv : Nat → Nat → Int) (hp : PlOk pv N P) (hq : PEq N P pv (M 29)) (w : Nat → Nat → Int) (T : Int) (hm : MoOk w N P T) (hT6 : T ≤ 1000000) (hv : REq N P w (M 29 13)) (ct : Nat) (hct : M 29 0 24 = (ct : Int)) (hct14 : ct ≤ 14) (v : Int) (hv0 : rI v) : Met l yX9_setBound (gws yX9_setBound cX9_setBound 2 (some .int)) (wrm 3 0 0) (wPc G M [vR G (29, 0), vI v]) (wQi G (fun z M1 => (M1 29 0 0 = 0 ∧ RNoted M M1 ct ∧ (0 ≤ v ∧ v ≤ 99) ∧ z = w 0 8 ∧ REq N P (setV w 0 8 v) (M1 29 13)) ∨ (M1 29 0 0 = 1 ∧ RScr M M1 ∧ ¬ (0 ≤ v ∧ v ≤ 99)))) 0 0 (wA G) := by
  refine wMet (lc := [(0, vR G (29, 0)), (1, vI v)]) (by decide) (Nat.le_of_ble_eq_true rfl) rfl ?_
  intro p e s m args below meth c X hr
  have X : wX p s m args meth c G 2 "StateObserverModel" cX9_setBound := X
  obtain ⟨hN, hN1, hN4, hP, hP1, hP3, hA, hB, hE, hC, hQ⟩ := id hp
  obtain ⟨qN, qP, qA, qB, qE, qC, qQ⟩ := id hq
  obtain ⟨hT, hL, hU, hS, hG, hY, hAg, hHo, hBo, hTi, hLi, hLb, hLl, hLh⟩ := id hm
  obtain ⟨v1, v2, v3, v28, v29, v30, v38, v39, v37⟩ := id hv
  refine r_aload_n (pc' := 1) X 0 dX9_setBound_0 rfl rfl rfl ?_
  refine r_iload_n (pc' := 2) X 1 dX9_setBound_1 rfl rfl rfl ?_
  refine r_i2l (pc' := 3) X dX9_setBound_2 (by omega) rfl ?_
  refine r_lconst (pc' := 4) (z := 0) X dX9_setBound_3 rfl rfl ?_
  refine r_ldc2 (pc' := 7) (z := 99) X gw_1207 dX9_setBound_4 rfl rfl ?_
  refine w_calli (pc' := 10) (st := [vR G (29, 0)]) (w_runS X (c_X9_in l G M v 0 99 (by first | assumption | omega) (by first | assumption | omega) (by first | assumption | omega)) cf_X9_in gw_1083 rfl rfl ⟨Nat.le_of_ble_eq_true rfl, Nat.le_of_ble_eq_true rfl⟩ rfl rfl (Nat.le_of_ble_eq_true rfl) ⟨Nat.le_of_ble_eq_true rfl, Nat.le_of_ble_eq_true rfl⟩ gw_1082 dX9_setBound_7) rfl (fun z7 M1 h7 => ?_)
  have hz7 := h7.1
  obtain rfl := h7.2.symm
  have hi7 : z7 = 0 ∨ z7 = 1 := by rw [hz7]; split <;> omega
  have hq7 : z7 = 1 ↔ (0 ≤ v ∧ v ≤ 99) := by rw [hz7]; split <;> omega
  refine r_if_eq (pc' := 13) (tgt := 17) X dX9_setBound_10 rfl rfl (by omega) (fun h10 => ?_) (fun h10 => ?_)
  · refine r_iconst (pc' := 18) X dX9_setBound_17 rfl ?_
    refine w_calli (pc' := 21) (st := []) (w_runV X (c_X9_refused l G M 1 (by first | assumption | omega)) cf_X9_refused k29_0 rfl gw_1087 gp_25 rfl rfl ⟨Nat.le_of_ble_eq_true rfl, Nat.le_of_ble_eq_true rfl⟩ rfl rfl (Nat.le_of_ble_eq_true rfl) ⟨Nat.le_of_ble_eq_true rfl, Nat.le_of_ble_eq_true rfl⟩ gw_1085 dX9_setBound_18) rfl (fun z18 M2 h18 => ?_)
    have hz18 : z18 = 1 := by rw [h18.1]; rfl
    have ew18 : ∀ a b x, ¬ (a = 29 ∧ b = 0 ∧ x = 0) → M2 a b x = M a b x := fun a b x q => by rw [h18.2]; unfold wu; rw [if_neg q]
    have er18 : M2 29 0 0 = 1 := by rw [h18.2]; unfold wu; rw [if_pos ⟨rfl, rfl, rfl⟩]
    have sc18 : RScr M M2 := fun a b x q => ew18 a b x (by omega)
    have qq18 : PEq N P pv (M2 29) := hq.keep (fun b x q => ew18 29 b x (by omega))
    refine r_if_eq (pc' := 24) (tgt := 28) X dX9_setBound_21 rfl rfl (by omega) (fun h21 => by exfalso; omega) (fun h21 => ?_)
    refine r_iconst (pc' := 25) X dX9_setBound_24 rfl ?_
    refine r_goto (tgt := 35) X dX9_setBound_25 rfl ?_
    refine w_iret X hr dX9_setBound_35 ?_
    try dsimp only
    exact (Or.inr ⟨er18, sc18, by omega⟩)
  · refine r_iconst (pc' := 14) X dX9_setBound_13 rfl ?_
    refine r_goto (tgt := 18) X dX9_setBound_14 rfl ?_
    refine w_calli (pc' := 21) (st := []) (w_runV X (c_X9_refused l G M 0 (by first | assumption | omega)) cf_X9_refused k29_0 rfl gw_1087 gp_25 rfl rfl ⟨Nat.le_of_ble_eq_true rfl, Nat.le_of_ble_eq_true rfl⟩ rfl rfl (Nat.le_of_ble_eq_true rfl) ⟨Nat.le_of_ble_eq_true rfl, Nat.le_of_ble_eq_true rfl⟩ gw_1085 dX9_setBound_18) rfl (fun z18 M3 h18 => ?_)
    have hz18 : z18 = 0 := by rw [h18.1]; rfl
    have ew18 : ∀ a b x, ¬ (a = 29 ∧ b = 0 ∧ x = 0) → M3 a b x = M a b x := fun a b x q => by rw [h18.2]; unfold wu; rw [if_neg q]
    have er18 : M3 29 0 0 = 0 := by rw [h18.2]; unfold wu; rw [if_pos ⟨rfl, rfl, rfl⟩]
    have sc18 : RScr M M3 := fun a b x q => ew18 a b x (by omega)
    have qq18 : PEq N P pv (M3 29) := hq.keep (fun b x q => ew18 29 b x (by omega))
    refine r_if_eq (pc' := 24) (tgt := 28) X dX9_setBound_21 rfl rfl (by omega) (fun h21 => ?_) (fun h21 => by exfalso; omega)
    refine r_aload_n (pc' := 29) X 0 dX9_setBound_28 rfl rfl rfl ?_
    refine r_bipush (pc' := 31) X dX9_setBound_29 rfl rfl ?_
    refine r_iload_n (pc' := 32) X 1 dX9_setBound_31 rfl rfl rfl ?_
    refine w_calli (pc' := 35) (st := []) (w_runV X (c_X9_change l G M3 ct (by rw [ew18 29 0 24 (by omega)]; exact hct) (by first | assumption | omega) 29 v (by first | assumption | omega) (by first | assumption | omega)) cf_X9_change k29_0 rfl gw_1196 gp_41 rfl rfl ⟨Nat.le_of_ble_eq_true rfl, Nat.le_of_ble_eq_true rfl⟩ rfl rfl (Nat.le_of_ble_eq_true rfl) ⟨Nat.le_of_ble_eq_true rfl, Nat.le_of_ble_eq_true rfl⟩ gw_1194 dX9_setBound_32) rfl (fun z32 M4 h32 => ?_)
    refine w_iret X hr dX9_setBound_35 ?_
    try dsimp only
    have n13 : M3 29 13 = M 29 13 := funext fun x => ew18 29 13 x (by omega)
    have zz := h32.1
    have ru := h32.2.1
    rw [n13] at zz ru
    refine Or.inl ⟨by rw [h32.2.2.2]; exact er18, (h32.2.2.1).pre ew18, by omega, by rw [zz]; exact v29, by rw [ru]; exact hv.hold hN4 hP3 (by omega)⟩
theorem cf_X9_setGain : wCal yX9_setGain cX9_setGain 4 (some .int) 3 := ⟨gw_1261, gw_10, by decide, by decide, by rfl⟩
set_option maxRecDepth 100000 in
set_option maxHeartbeats 4000000 in
theorem c_X9_setGain (l : Launch) (G : wG) (M : wM) (N P : Nat) (pv : Nat → Nat → Int) (hp : PlOk pv N P) (hq : PEq N P pv (M 29)) (w : Nat → Nat → Int) (T : Int) (hm : MoOk w N P T) (hT6 : T ≤ 1000000) (hv : REq N P w (M 29 13)) (ct : Nat) (hct : M 29 0 24 = (ct : Int)) (hct14 : ct ≤ 14) (i k v : Int) (hi : rI i) (hk : rI k) (hv0 : rI v) : Met l yX9_setGain (gws yX9_setGain cX9_setGain 4 (some .int)) (wrm 3 0 0) (wPc G M [vR G (29, 0), vI i, vI k, vI v]) (wQi G (fun z M1 => (M1 29 0 0 = 0 ∧ RNoted M M1 ct ∧ (((0 ≤ i ∧ i < N) ∧ 0 ≤ k ∧ k < P) ∧ -99 ≤ v ∧ v ≤ 99) ∧ z = w (6 + i.toNat) k.toNat ∧ REq N P (setV w (6 + i.toNat) k.toNat v) (M1 29 13)) ∨ (M1 29 0 0 = 1 ∧ RScr M M1 ∧ ¬ ((0 ≤ i ∧ i < N) ∧ 0 ≤ k ∧ k < P)) ∨ (M1 29 0 0 = 2 ∧ RScr M M1 ∧ ((0 ≤ i ∧ i < N) ∧ 0 ≤ k ∧ k < P) ∧ ¬ (-99 ≤ v ∧ v ≤ 99)))) 0 0 (wA G) := by
  refine wMet (lc := [(0, vR G (29, 0)), (1, vI i), (2, vI k), (3, vI v)]) (by decide) (Nat.le_of_ble_eq_true rfl) rfl ?_
  intro p e s m args below meth c X hr
  have X : wX p s m args meth c G 4 "StateObserverModel" cX9_setGain := X
  obtain ⟨hN, hN1, hN4, hP, hP1, hP3, hA, hB, hE, hC, hQ⟩ := id hp
  obtain ⟨qN, qP, qA, qB, qE, qC, qQ⟩ := id hq
  obtain ⟨hT, hL, hU, hS, hG, hY, hAg, hHo, hBo, hTi, hLi, hLb, hLl, hLh⟩ := id hm
  obtain ⟨v1, v2, v3, v28, v29, v30, v38, v39, v37⟩ := id hv
  refine r_aload_n (pc' := 1) X 0 dX9_setGain_0 rfl rfl rfl ?_
  refine r_aload_n (pc' := 2) X 0 dX9_setGain_1 rfl rfl rfl ?_
  refine r_iload_n (pc' := 3) X 1 dX9_setGain_2 rfl rfl rfl ?_
  refine w_calli (pc' := 6) (st := [vR G (29, 0)]) (w_runV X (c_X9_isState l G M N P pv (by first | assumption | omega) (by first | assumption | omega) i (by first | assumption | omega)) cf_X9_isState k29_0 rfl gw_1156 gp_36 rfl rfl ⟨Nat.le_of_ble_eq_true rfl, Nat.le_of_ble_eq_true rfl⟩ rfl rfl (Nat.le_of_ble_eq_true rfl) ⟨Nat.le_of_ble_eq_true rfl, Nat.le_of_ble_eq_true rfl⟩ gw_1154 dX9_setGain_3) rfl (fun z3 M1 h3 => ?_)
  have hz3 := h3.1
  obtain rfl := h3.2.symm
  have hi3 : z3 = 0 ∨ z3 = 1 := by rw [hz3]; split <;> omega
  have hq3 : z3 = 1 ↔ (0 ≤ i ∧ i < N) := by rw [hz3]; split <;> omega
  refine r_if_eq (pc' := 9) (tgt := 17) X dX9_setGain_6 rfl rfl (by omega) (fun h6 => ?_) (fun h6 => ?_)
  · refine r_iconst (pc' := 18) X dX9_setGain_17 rfl ?_
    refine r_goto (tgt := 40) X dX9_setGain_18 rfl ?_
    refine w_calli (pc' := 43) (st := []) (w_runV X (c_X9_refused l G M 1 (by first | assumption | omega)) cf_X9_refused k29_0 rfl gw_1087 gp_25 rfl rfl ⟨Nat.le_of_ble_eq_true rfl, Nat.le_of_ble_eq_true rfl⟩ rfl rfl (Nat.le_of_ble_eq_true rfl) ⟨Nat.le_of_ble_eq_true rfl, Nat.le_of_ble_eq_true rfl⟩ gw_1085 dX9_setGain_40) rfl (fun z40 M2 h40 => ?_)
    have hz40 : z40 = 1 := by rw [h40.1]; rfl
    have ew40 : ∀ a b x, ¬ (a = 29 ∧ b = 0 ∧ x = 0) → M2 a b x = M a b x := fun a b x q => by rw [h40.2]; unfold wu; rw [if_neg q]
    have er40 : M2 29 0 0 = 1 := by rw [h40.2]; unfold wu; rw [if_pos ⟨rfl, rfl, rfl⟩]
    have sc40 : RScr M M2 := fun a b x q => ew40 a b x (by omega)
    have qq40 : PEq N P pv (M2 29) := hq.keep (fun b x q => ew40 29 b x (by omega))
    refine r_if_eq (pc' := 46) (tgt := 48) X dX9_setGain_43 rfl rfl (by omega) (fun h43 => by exfalso; omega) (fun h43 => ?_)
    refine r_iconst (pc' := 47) X dX9_setGain_46 rfl ?_
    refine w_iret X hr dX9_setGain_47 ?_
    try dsimp only
    exact (Or.inr (Or.inl ⟨er40, sc40, by omega⟩))
  · refine r_aload_n (pc' := 10) X 0 dX9_setGain_9 rfl rfl rfl ?_
    refine r_iload_n (pc' := 11) X 2 dX9_setGain_10 rfl rfl rfl ?_
    refine w_calli (pc' := 14) (st := [vR G (29, 0)]) (w_runV X (c_X9_isOutput l G M N P pv (by first | assumption | omega) (by first | assumption | omega) k (by first | assumption | omega)) cf_X9_isOutput k29_0 rfl gw_1152 gp_35 rfl rfl ⟨Nat.le_of_ble_eq_true rfl, Nat.le_of_ble_eq_true rfl⟩ rfl rfl (Nat.le_of_ble_eq_true rfl) ⟨Nat.le_of_ble_eq_true rfl, Nat.le_of_ble_eq_true rfl⟩ gw_1150 dX9_setGain_11) rfl (fun z11 M3 h11 => ?_)
    have hz11 := h11.1
    obtain rfl := h11.2.symm
    have hi11 : z11 = 0 ∨ z11 = 1 := by rw [hz11]; split <;> omega
    have hq11 : z11 = 1 ↔ (0 ≤ k ∧ k < P) := by rw [hz11]; split <;> omega
    refine r_if_ne (pc' := 17) (tgt := 21) X dX9_setGain_14 rfl rfl (by omega) (fun h14 => ?_) (fun h14 => ?_)
    · refine r_iload_n (pc' := 22) X 3 dX9_setGain_21 rfl rfl rfl ?_
      refine r_i2l (pc' := 23) X dX9_setGain_22 (by omega) rfl ?_
      refine r_ldc2 (pc' := 26) (z := (-99)) X gw_1206 dX9_setGain_23 rfl rfl ?_
      refine r_ldc2 (pc' := 29) (z := 99) X gw_1207 dX9_setGain_26 rfl rfl ?_
      refine w_calli (pc' := 32) (st := [vR G (29, 0)]) (w_runS X (c_X9_in l G M v (-99) 99 (by first | assumption | omega) (by first | assumption | omega) (by first | assumption | omega)) cf_X9_in gw_1083 rfl rfl ⟨Nat.le_of_ble_eq_true rfl, Nat.le_of_ble_eq_true rfl⟩ rfl rfl (Nat.le_of_ble_eq_true rfl) ⟨Nat.le_of_ble_eq_true rfl, Nat.le_of_ble_eq_true rfl⟩ gw_1082 dX9_setGain_29) rfl (fun z29 M4 h29 => ?_)
      have hz29 := h29.1
      obtain rfl := h29.2.symm
      have hi29 : z29 = 0 ∨ z29 = 1 := by rw [hz29]; split <;> omega
      have hq29 : z29 = 1 ↔ ((-99) ≤ v ∧ v ≤ 99) := by rw [hz29]; split <;> omega
      refine r_if_ne (pc' := 35) (tgt := 39) X dX9_setGain_32 rfl rfl (by omega) (fun h32 => ?_) (fun h32 => ?_)
      · refine r_iconst (pc' := 40) X dX9_setGain_39 rfl ?_
        refine w_calli (pc' := 43) (st := []) (w_runV X (c_X9_refused l G M 0 (by first | assumption | omega)) cf_X9_refused k29_0 rfl gw_1087 gp_25 rfl rfl ⟨Nat.le_of_ble_eq_true rfl, Nat.le_of_ble_eq_true rfl⟩ rfl rfl (Nat.le_of_ble_eq_true rfl) ⟨Nat.le_of_ble_eq_true rfl, Nat.le_of_ble_eq_true rfl⟩ gw_1085 dX9_setGain_40) rfl (fun z40 M5 h40 => ?_)
        have hz40 : z40 = 0 := by rw [h40.1]; rfl
        have ew40 : ∀ a b x, ¬ (a = 29 ∧ b = 0 ∧ x = 0) → M5 a b x = M a b x := fun a b x q => by rw [h40.2]; unfold wu; rw [if_neg q]
        have er40 : M5 29 0 0 = 0 := by rw [h40.2]; unfold wu; rw [if_pos ⟨rfl, rfl, rfl⟩]
        have sc40 : RScr M M5 := fun a b x q => ew40 a b x (by omega)
        have qq40 : PEq N P pv (M5 29) := hq.keep (fun b x q => ew40 29 b x (by omega))
        refine r_if_eq (pc' := 46) (tgt := 48) X dX9_setGain_43 rfl rfl (by omega) (fun h43 => ?_) (fun h43 => by exfalso; omega)
        refine r_aload_n (pc' := 49) X 0 dX9_setGain_48 rfl rfl rfl ?_
        refine r_bipush (pc' := 51) X dX9_setGain_49 rfl rfl ?_
        refine r_iconst (pc' := 52) X dX9_setGain_51 rfl ?_
        refine r_iload_n (pc' := 53) X 1 dX9_setGain_52 rfl rfl rfl ?_
        refine r_imul (pc' := 54) X dX9_setGain_53 rfl ?_
        refine r_iadd (pc' := 55) X dX9_setGain_54 rfl ?_
        refine r_iload_n (pc' := 56) X 2 dX9_setGain_55 rfl rfl rfl ?_
        refine r_iadd (pc' := 57) X dX9_setGain_56 rfl ?_
        refine w_eqI (z' := ((16 + 3 * i.toNat + k.toNat : Nat) : Int)) (by omega) ?_
        refine r_iload_n (pc' := 58) X 3 dX9_setGain_57 rfl rfl rfl ?_
        refine w_calli (pc' := 61) (st := []) (w_runV X (c_X9_change l G M5 ct (by rw [ew40 29 0 24 (by omega)]; exact hct) (by first | assumption | omega) (16 + 3 * i.toNat + k.toNat) v (by omega) (by first | assumption | omega)) cf_X9_change k29_0 rfl gw_1196 gp_41 rfl rfl ⟨Nat.le_of_ble_eq_true rfl, Nat.le_of_ble_eq_true rfl⟩ rfl rfl (Nat.le_of_ble_eq_true rfl) ⟨Nat.le_of_ble_eq_true rfl, Nat.le_of_ble_eq_true rfl⟩ gw_1194 dX9_setGain_58) rfl (fun z58 M6 h58 => ?_)
        refine w_iret X hr dX9_setGain_61 ?_
        try dsimp only
        have n13 : M5 29 13 = M 29 13 := funext fun x => ew40 29 13 x (by omega)
        have zz := h58.1
        have ru := h58.2.1
        rw [n13] at zz ru
        refine Or.inl ⟨by rw [h58.2.2.2]; exact er40, (h58.2.2.1).pre ew40, by omega, by rw [zz]; exact v2 _ _ (by omega) (by omega), by rw [ru]; exact hv.gain hN4 hP3 (by omega) (by omega)⟩
      · refine r_iconst (pc' := 36) X dX9_setGain_35 rfl ?_
        refine r_goto (tgt := 40) X dX9_setGain_36 rfl ?_
        refine w_calli (pc' := 43) (st := []) (w_runV X (c_X9_refused l G M 2 (by first | assumption | omega)) cf_X9_refused k29_0 rfl gw_1087 gp_25 rfl rfl ⟨Nat.le_of_ble_eq_true rfl, Nat.le_of_ble_eq_true rfl⟩ rfl rfl (Nat.le_of_ble_eq_true rfl) ⟨Nat.le_of_ble_eq_true rfl, Nat.le_of_ble_eq_true rfl⟩ gw_1085 dX9_setGain_40) rfl (fun z40 M7 h40 => ?_)
        have hz40 : z40 = 1 := by rw [h40.1]; rfl
        have ew40 : ∀ a b x, ¬ (a = 29 ∧ b = 0 ∧ x = 0) → M7 a b x = M a b x := fun a b x q => by rw [h40.2]; unfold wu; rw [if_neg q]
        have er40 : M7 29 0 0 = 2 := by rw [h40.2]; unfold wu; rw [if_pos ⟨rfl, rfl, rfl⟩]
        have sc40 : RScr M M7 := fun a b x q => ew40 a b x (by omega)
        have qq40 : PEq N P pv (M7 29) := hq.keep (fun b x q => ew40 29 b x (by omega))
        refine r_if_eq (pc' := 46) (tgt := 48) X dX9_setGain_43 rfl rfl (by omega) (fun h43 => by exfalso; omega) (fun h43 => ?_)
        refine r_iconst (pc' := 47) X dX9_setGain_46 rfl ?_
        refine w_iret X hr dX9_setGain_47 ?_
        try dsimp only
        exact (Or.inr (Or.inr ⟨er40, sc40, by omega⟩))
    · refine r_iconst (pc' := 18) X dX9_setGain_17 rfl ?_
      refine r_goto (tgt := 40) X dX9_setGain_18 rfl ?_
      refine w_calli (pc' := 43) (st := []) (w_runV X (c_X9_refused l G M 1 (by first | assumption | omega)) cf_X9_refused k29_0 rfl gw_1087 gp_25 rfl rfl ⟨Nat.le_of_ble_eq_true rfl, Nat.le_of_ble_eq_true rfl⟩ rfl rfl (Nat.le_of_ble_eq_true rfl) ⟨Nat.le_of_ble_eq_true rfl, Nat.le_of_ble_eq_true rfl⟩ gw_1085 dX9_setGain_40) rfl (fun z40 M8 h40 => ?_)
      have hz40 : z40 = 1 := by rw [h40.1]; rfl
      have ew40 : ∀ a b x, ¬ (a = 29 ∧ b = 0 ∧ x = 0) → M8 a b x = M a b x := fun a b x q => by rw [h40.2]; unfold wu; rw [if_neg q]
      have er40 : M8 29 0 0 = 1 := by rw [h40.2]; unfold wu; rw [if_pos ⟨rfl, rfl, rfl⟩]
      have sc40 : RScr M M8 := fun a b x q => ew40 a b x (by omega)
      have qq40 : PEq N P pv (M8 29) := hq.keep (fun b x q => ew40 29 b x (by omega))
      refine r_if_eq (pc' := 46) (tgt := 48) X dX9_setGain_43 rfl rfl (by omega) (fun h43 => by exfalso; omega) (fun h43 => ?_)
      refine r_iconst (pc' := 47) X dX9_setGain_46 rfl ?_
      refine w_iret X hr dX9_setGain_47 ?_
      try dsimp only
      exact (Or.inr (Or.inl ⟨er40, sc40, by omega⟩))
theorem cf_X9_place : wCal yX9_place cX9_place 3 (some .int) 2 := ⟨gw_1185, gw_10, by decide, by decide, by rfl⟩
set_option maxRecDepth 100000 in
set_option maxHeartbeats 4000000 in
theorem c_X9_place (l : Launch) (G : wG) (M : wM) (N P : Nat) (pv : Nat → Nat → Int) (hp : PlOk pv N P) (hq : PEq N P pv (M 29)) (w : Nat → Nat → Int) (T : Int) (hm : MoOk w N P T) (hT6 : T ≤ 1000000) (hv : REq N P w (M 29 13)) (htr : TrOk w N P pv) (ct : Nat) (hct : M 29 0 24 = (ct : Int)) (hct14 : ct ≤ 14) (i v : Int) (hi : rI i) (hv0 : rI v) : Met l yX9_place (gws yX9_place cX9_place 3 (some .int)) (wrm 3 0 0) (wPc G M [vR G (29, 0), vI i, vI v]) (wQi G (fun z M1 => (M1 29 0 0 = 0 ∧ RNoted M M1 ct ∧ (0 ≤ i ∧ i < N) ∧ ((w 2 i.toNat ≤ v ∧ v ≤ w 3 i.toNat) ∧ meets N P pv (up1 (w 1) i.toNat v) (w 10) (w 11)) ∧ z = w 1 i.toNat ∧ REq N P (setV w 1 i.toNat v) (M1 29 13)) ∨ (M1 29 0 0 = 1 ∧ RScr M M1 ∧ ¬ (0 ≤ i ∧ i < N)) ∨ (M1 29 0 0 = 2 ∧ RScr M M1 ∧ (0 ≤ i ∧ i < N) ∧ ¬ ((w 2 i.toNat ≤ v ∧ v ≤ w 3 i.toNat) ∧ meets N P pv (up1 (w 1) i.toNat v) (w 10) (w 11))))) 0 0 (wA G) := by
  refine wMet (lc := [(0, vR G (29, 0)), (1, vI i), (2, vI v)]) (by decide) (Nat.le_of_ble_eq_true rfl) rfl ?_
  intro p e s m args below meth c X hr
  have X : wX p s m args meth c G 3 "StateObserverModel" cX9_place := X
  obtain ⟨hN, hN1, hN4, hP, hP1, hP3, hA, hB, hE, hC, hQ⟩ := id hp
  obtain ⟨qN, qP, qA, qB, qE, qC, qQ⟩ := id hq
  obtain ⟨hT, hL, hU, hS, hG, hY, hAg, hHo, hBo, hTi, hLi, hLb, hLl, hLh⟩ := id hm
  obtain ⟨v1, v2, v3, v28, v29, v30, v38, v39, v37⟩ := id hv
  refine r_aload_n (pc' := 1) X 0 dX9_place_0 rfl rfl rfl ?_
  refine r_aload_n (pc' := 2) X 0 dX9_place_1 rfl rfl rfl ?_
  refine r_iload_n (pc' := 3) X 1 dX9_place_2 rfl rfl rfl ?_
  refine w_calli (pc' := 6) (st := [vR G (29, 0)]) (w_runV X (c_X9_isState l G M N P pv (by first | assumption | omega) (by first | assumption | omega) i (by first | assumption | omega)) cf_X9_isState k29_0 rfl gw_1156 gp_36 rfl rfl ⟨Nat.le_of_ble_eq_true rfl, Nat.le_of_ble_eq_true rfl⟩ rfl rfl (Nat.le_of_ble_eq_true rfl) ⟨Nat.le_of_ble_eq_true rfl, Nat.le_of_ble_eq_true rfl⟩ gw_1154 dX9_place_3) rfl (fun z3 M1 h3 => ?_)
  have hz3 := h3.1
  obtain rfl := h3.2.symm
  have hi3 : z3 = 0 ∨ z3 = 1 := by rw [hz3]; split <;> omega
  have hq3 : z3 = 1 ↔ (0 ≤ i ∧ i < N) := by rw [hz3]; split <;> omega
  refine r_if_eq (pc' := 9) (tgt := 13) X dX9_place_6 rfl rfl (by omega) (fun h6 => ?_) (fun h6 => ?_)
  · refine r_iconst (pc' := 14) X dX9_place_13 rfl ?_
    refine w_calli (pc' := 17) (st := []) (w_runV X (c_X9_refused l G M 1 (by first | assumption | omega)) cf_X9_refused k29_0 rfl gw_1087 gp_25 rfl rfl ⟨Nat.le_of_ble_eq_true rfl, Nat.le_of_ble_eq_true rfl⟩ rfl rfl (Nat.le_of_ble_eq_true rfl) ⟨Nat.le_of_ble_eq_true rfl, Nat.le_of_ble_eq_true rfl⟩ gw_1085 dX9_place_14) rfl (fun z14 M2 h14 => ?_)
    have hz14 : z14 = 1 := by rw [h14.1]; rfl
    have ew14 : ∀ a b x, ¬ (a = 29 ∧ b = 0 ∧ x = 0) → M2 a b x = M a b x := fun a b x q => by rw [h14.2]; unfold wu; rw [if_neg q]
    have er14 : M2 29 0 0 = 1 := by rw [h14.2]; unfold wu; rw [if_pos ⟨rfl, rfl, rfl⟩]
    have sc14 : RScr M M2 := fun a b x q => ew14 a b x (by omega)
    have qq14 : PEq N P pv (M2 29) := hq.keep (fun b x q => ew14 29 b x (by omega))
    refine r_if_eq (pc' := 20) (tgt := 22) X dX9_place_17 rfl rfl (by omega) (fun h17 => by exfalso; omega) (fun h17 => ?_)
    refine r_iconst (pc' := 21) X dX9_place_20 rfl ?_
    refine w_iret X hr dX9_place_21 ?_
    try dsimp only
    exact (Or.inr (Or.inl ⟨er14, sc14, by omega⟩))
  · refine r_iconst (pc' := 10) X dX9_place_9 rfl ?_
    refine r_goto (tgt := 14) X dX9_place_10 rfl ?_
    refine w_calli (pc' := 17) (st := []) (w_runV X (c_X9_refused l G M 0 (by first | assumption | omega)) cf_X9_refused k29_0 rfl gw_1087 gp_25 rfl rfl ⟨Nat.le_of_ble_eq_true rfl, Nat.le_of_ble_eq_true rfl⟩ rfl rfl (Nat.le_of_ble_eq_true rfl) ⟨Nat.le_of_ble_eq_true rfl, Nat.le_of_ble_eq_true rfl⟩ gw_1085 dX9_place_14) rfl (fun z14 M3 h14 => ?_)
    have hz14 : z14 = 0 := by rw [h14.1]; rfl
    have ew14 : ∀ a b x, ¬ (a = 29 ∧ b = 0 ∧ x = 0) → M3 a b x = M a b x := fun a b x q => by rw [h14.2]; unfold wu; rw [if_neg q]
    have er14 : M3 29 0 0 = 0 := by rw [h14.2]; unfold wu; rw [if_pos ⟨rfl, rfl, rfl⟩]
    have sc14 : RScr M M3 := fun a b x q => ew14 a b x (by omega)
    have qq14 : PEq N P pv (M3 29) := hq.keep (fun b x q => ew14 29 b x (by omega))
    refine r_if_eq (pc' := 20) (tgt := 22) X dX9_place_17 rfl rfl (by omega) (fun h17 => ?_) (fun h17 => by exfalso; omega)
    refine r_aload_n (pc' := 23) X 0 dX9_place_22 rfl rfl rfl ?_
    refine gf_29_now (pc' := 26) X gw_987 dX9_place_23 rfl ?_
    refine r_iconst (pc' := 27) X dX9_place_26 rfl ?_
    refine r_aload_n (pc' := 28) X 0 dX9_place_27 rfl rfl rfl ?_
    refine gf_29_trial (pc' := 31) X gw_988 dX9_place_28 rfl ?_
    refine r_iconst (pc' := 32) X dX9_place_31 rfl ?_
    refine r_bipush (pc' := 34) X dX9_place_32 rfl rfl ?_
    refine w_callv (pc' := 37) (st := []) (w_runS X (c_X9_copy l G M3 29 13 0 29 14 0 48 48 48 k29_13 k29_14 (by first | assumption | omega) (by first | assumption | omega) (by first | assumption | omega) (by first | assumption | omega) (by first | assumption | omega)) cf_X9_copy gw_1138 rfl rfl ⟨Nat.le_of_ble_eq_true rfl, Nat.le_of_ble_eq_true rfl⟩ rfl rfl (Nat.le_of_ble_eq_true rfl) ⟨Nat.le_of_ble_eq_true rfl, Nat.le_of_ble_eq_true rfl⟩ gw_1137 dX9_place_34) rfl (fun M4 h34 => ?_)
    have e34 : ∀ a b x, ¬ (a = 29 ∧ (b = 14 ∨ (b = 0 ∧ x = 0))) → M4 a b x = M a b x := fun a b x q => by rw [h34.1 a b (by omega), ew14 a b x (by omega)]
    have t34 : ∀ x, x < 48 → M4 29 14 x = M 29 13 x := fun x hx => by have q := h34.2.1 x hx; rw [Nat.zero_add] at q; rw [q, ew14 29 13 x (by omega)]
    refine r_aload_n (pc' := 38) X 0 dX9_place_37 rfl rfl rfl ?_
    refine gf_29_trial (pc' := 41) X gw_988 dX9_place_38 rfl ?_
    refine r_iconst (pc' := 42) X dX9_place_41 rfl ?_
    refine r_iload_n (pc' := 43) X 1 dX9_place_42 rfl rfl rfl ?_
    refine r_iadd (pc' := 44) X dX9_place_43 rfl ?_
    refine r_iload_n (pc' := 45) X 2 dX9_place_44 rfl rfl rfl ?_
    refine r_iast (i := i.toNat) (pc' := 46) X k29_14 (by omega) (by omega) (by decide) dX9_place_45 rfl (fun M5 hM5 => ?_)
    have et : ∀ a b x, ¬ (a = 29 ∧ (b = 14 ∨ (b = 0 ∧ x = 0))) → M5 a b x = M a b x := fun a b x q => by rw [hM5, wu_ne (by omega)]; exact e34 a b x q
    have qt : PEq N P pv (M5 29) := hq.keep (fun b x q => et 29 b x (by omega))
    have st : ∀ x, 4 ≤ x → x < 48 → M5 29 14 x = M 29 13 x := fun x h1 h2 => by rw [hM5]; unfold wu; rw [if_neg (by omega)]; exact t34 x h2
    have hxt : ∀ j, j < N → M5 29 14 (0 + j) = up1 (w 1) i.toNat v j := fun j hj => by
      rw [Nat.zero_add, hM5]; unfold wu up1
      by_cases c1 : j = i.toNat
      · rw [if_pos ⟨rfl, rfl, c1⟩, if_pos c1]
      · rw [if_neg (by omega), if_neg c1, t34 j (by omega)]; exact (v1 j hj).1
    refine r_aload_n (pc' := 47) X 0 dX9_place_46 rfl rfl rfl ?_
    refine r_aload_n (pc' := 48) X 0 dX9_place_47 rfl rfl rfl ?_
    refine r_aload_n (pc' := 49) X 0 dX9_place_48 rfl rfl rfl ?_
    refine gf_29_trial (pc' := 52) X gw_988 dX9_place_49 rfl ?_
    refine r_iconst (pc' := 53) X dX9_place_52 rfl ?_
    refine w_calli (pc' := 56) (st := [vR G (29, 0)]) (w_runV X (c_X9_fits l G M5 N P pv (by first | assumption | omega) qt 14 0 k29_14 (by first | assumption | omega) (up1 (w 1) i.toNat v) hxt (fun j hj => by unfold up1; have := hT j hj; split <;> omega) (w 2) (w 3) (fun j hj => by rw [st _ (by omega) (by omega)]; exact (v1 j hj).2.1) (fun j hj => by rw [st _ (by omega) (by omega)]; exact (v1 j hj).2.2.1) hL hU (w 10) (w 11) (fun k hk => by rw [st _ (by omega) (by omega)]; exact (v3 k hk).1) (fun k hk => by rw [st _ (by omega) (by omega)]; exact (v3 k hk).2) hY (fun k hk => by have := hAg k hk; omega)) cf_X9_fits k29_0 rfl gw_1188 gp_39 rfl rfl ⟨Nat.le_of_ble_eq_true rfl, Nat.le_of_ble_eq_true rfl⟩ rfl rfl (Nat.le_of_ble_eq_true rfl) ⟨Nat.le_of_ble_eq_true rfl, Nat.le_of_ble_eq_true rfl⟩ gw_1186 dX9_place_53) rfl (fun z53 M6 h53 => ?_)
    have hz53 := h53.1
    have hzf := h53.2.1
    obtain rfl := h53.2.2.symm
    have hpc : z53 = 1 ↔ ((w 2 i.toNat ≤ v ∧ v ≤ w 3 i.toNat) ∧ meets N P pv (up1 (w 1) i.toNat v) (w 10) (w 11)) := by
      rw [hzf]
      refine ⟨fun q => ⟨?_, q.2⟩, fun q => ⟨fun j hj => ?_, q.2⟩⟩
      · have := q.1 i.toNat (by omega)
        unfold up1 at this
        rw [if_pos rfl] at this
        exact this
      · unfold up1
        by_cases c1 : j = i.toNat
        · rw [if_pos c1, c1]; exact q.1
        · rw [if_neg c1]; exact htr.1 j hj
    refine r_if_eq (pc' := 59) (tgt := 63) X dX9_place_56 rfl rfl (by omega) (fun h56 => ?_) (fun h56 => ?_)
    · refine r_iconst (pc' := 64) X dX9_place_63 rfl ?_
      refine w_calli (pc' := 67) (st := []) (w_runV X (c_X9_refused l G M5 2 (by first | assumption | omega)) cf_X9_refused k29_0 rfl gw_1087 gp_25 rfl rfl ⟨Nat.le_of_ble_eq_true rfl, Nat.le_of_ble_eq_true rfl⟩ rfl rfl (Nat.le_of_ble_eq_true rfl) ⟨Nat.le_of_ble_eq_true rfl, Nat.le_of_ble_eq_true rfl⟩ gw_1085 dX9_place_64) rfl (fun z64 M7 h64 => ?_)
      have hz64 : z64 = 1 := by rw [h64.1]; rfl
      have ew64 : ∀ a b x, ¬ (a = 29 ∧ b = 0 ∧ x = 0) → M7 a b x = M5 a b x := fun a b x q => by rw [h64.2]; unfold wu; rw [if_neg q]
      have er64 : M7 29 0 0 = 2 := by rw [h64.2]; unfold wu; rw [if_pos ⟨rfl, rfl, rfl⟩]
      have sc64 : RScr M5 M7 := fun a b x q => ew64 a b x (by omega)
      have qq64 : PEq N P pv (M7 29) := qt.keep (fun b x q => ew64 29 b x (by omega))
      refine r_if_eq (pc' := 70) (tgt := 74) X dX9_place_67 rfl rfl (by omega) (fun h67 => by exfalso; omega) (fun h67 => ?_)
      refine r_iconst (pc' := 71) X dX9_place_70 rfl ?_
      refine r_goto (tgt := 82) X dX9_place_71 rfl ?_
      refine w_iret X hr dX9_place_82 ?_
      try dsimp only
      refine Or.inr (Or.inr ⟨er64, fun a b x q => by rw [ew64 a b x (by omega), et a b x (by omega)], by omega, fun q => ?_⟩)
      have := hpc.mpr q
      omega
    · refine r_iconst (pc' := 60) X dX9_place_59 rfl ?_
      refine r_goto (tgt := 64) X dX9_place_60 rfl ?_
      refine w_calli (pc' := 67) (st := []) (w_runV X (c_X9_refused l G M5 0 (by first | assumption | omega)) cf_X9_refused k29_0 rfl gw_1087 gp_25 rfl rfl ⟨Nat.le_of_ble_eq_true rfl, Nat.le_of_ble_eq_true rfl⟩ rfl rfl (Nat.le_of_ble_eq_true rfl) ⟨Nat.le_of_ble_eq_true rfl, Nat.le_of_ble_eq_true rfl⟩ gw_1085 dX9_place_64) rfl (fun z64 M8 h64 => ?_)
      have hz64 : z64 = 0 := by rw [h64.1]; rfl
      have ew64 : ∀ a b x, ¬ (a = 29 ∧ b = 0 ∧ x = 0) → M8 a b x = M5 a b x := fun a b x q => by rw [h64.2]; unfold wu; rw [if_neg q]
      have er64 : M8 29 0 0 = 0 := by rw [h64.2]; unfold wu; rw [if_pos ⟨rfl, rfl, rfl⟩]
      have sc64 : RScr M5 M8 := fun a b x q => ew64 a b x (by omega)
      have qq64 : PEq N P pv (M8 29) := qt.keep (fun b x q => ew64 29 b x (by omega))
      refine r_if_eq (pc' := 70) (tgt := 74) X dX9_place_67 rfl rfl (by omega) (fun h67 => ?_) (fun h67 => by exfalso; omega)
      refine r_aload_n (pc' := 75) X 0 dX9_place_74 rfl rfl rfl ?_
      refine r_iconst (pc' := 76) X dX9_place_75 rfl ?_
      refine r_iload_n (pc' := 77) X 1 dX9_place_76 rfl rfl rfl ?_
      refine r_iadd (pc' := 78) X dX9_place_77 rfl ?_
      refine w_eqI (z' := ((i.toNat : Nat) : Int)) (by omega) ?_
      refine r_iload_n (pc' := 79) X 2 dX9_place_78 rfl rfl rfl ?_
      refine w_calli (pc' := 82) (st := []) (w_runV X (c_X9_change l G M8 ct (by rw [ew64 29 0 24 (by omega), et 29 0 24 (by omega)]; exact hct) (by first | assumption | omega) i.toNat v (by omega) (by first | assumption | omega)) cf_X9_change k29_0 rfl gw_1196 gp_41 rfl rfl ⟨Nat.le_of_ble_eq_true rfl, Nat.le_of_ble_eq_true rfl⟩ rfl rfl (Nat.le_of_ble_eq_true rfl) ⟨Nat.le_of_ble_eq_true rfl, Nat.le_of_ble_eq_true rfl⟩ gw_1194 dX9_place_79) rfl (fun z79 M9 h79 => ?_)
      refine w_iret X hr dX9_place_82 ?_
      try dsimp only
      have n13 : M8 29 13 = M 29 13 := funext fun x => by rw [ew64 29 13 x (by omega), et 29 13 x (by omega)]
      have zz := h79.1
      have ru := h79.2.1
      rw [n13] at zz ru
      refine Or.inl ⟨by rw [h79.2.2.2]; exact er64, ⟨h79.2.2.1.1, fun t x ht hx => ?_, fun a b x q => by rw [h79.2.2.1.2.2 a b x q, ew64 a b x (by omega), et a b x (by omega)]⟩, by omega, hpc.mp (by omega), by rw [zz]; exact (v1 _ (by omega)).1, by rw [ru]; exact hv.truth hN4 (by omega)⟩
      rw [h79.2.2.1.2.1 t x ht hx, n13, ew64 29 16 _ (by omega), et 29 16 _ (by omega)]
theorem cf_X9_isOut : wCal yX9_isOut cX9_isOut 3 (some .boolean) 2 := ⟨gw_1257, gw_10, by decide, by decide, by rfl⟩
set_option maxRecDepth 100000 in
set_option maxHeartbeats 4000000 in
theorem c_X9_isOut (l : Launch) (G : wG) (M : wM) (N P : Nat) (pv : Nat → Nat → Int) (hp : PlOk pv N P) (hq : PEq N P pv (M 29)) (w : Nat → Nat → Int) (T : Int) (hm : MoOk w N P T) (hT6 : T ≤ 1000000) (hv : REq N P w (M 29 13)) (hbx : BoxOk N (w 2) (w 3)) (i : Int) (at0 : Nat) (x : Int) (hi : 0 ≤ i ∧ i < N) (h48 : at0 < 48) (hx : M 29 13 at0 = x) (hxr : -1000000 ≤ x ∧ x ≤ 1000000) : Met l yX9_isOut (gws yX9_isOut cX9_isOut 3 (some .boolean)) (wrm 4 0 0) (wPc G M [vR G (29, 0), vI i, vI (at0 : Int)]) (wQi G (fun z M1 => z = (if (tight N P pv (w 10) (w 11) 100 (up1 (w 2) i.toNat x) (up1 (w 3) i.toNat x)).1 = 2 then 1 else 0) ∧ ∀ a b y, ¬ (a = 29 ∧ b = 15) → M1 a b y = M a b y)) 0 0 (wA G) := by
  refine wMet (lc := [(0, vR G (29, 0)), (1, vI i), (2, vI (at0 : Int))]) (by decide) (Nat.le_of_ble_eq_true rfl) rfl ?_
  intro p e s m args below meth c X hr
  have X : wX p s m args meth c G 3 "StateObserverModel" cX9_isOut := X
  obtain ⟨hN, hN1, hN4, hP, hP1, hP3, hA, hB, hE, hC, hQ⟩ := id hp
  obtain ⟨qN, qP, qA, qB, qE, qC, qQ⟩ := id hq
  obtain ⟨hT, hL, hU, hS, hG, hY, hAg, hHo, hBo, hTi, hLi, hLb, hLl, hLh⟩ := id hm
  obtain ⟨v1, v2, v3, v28, v29, v30, v38, v39, v37⟩ := id hv
  refine r_aload_n (pc' := 1) X 0 dX9_isOut_0 rfl rfl rfl ?_
  refine gf_29_now (pc' := 4) X gw_987 dX9_isOut_1 rfl ?_
  refine r_iconst (pc' := 5) X dX9_isOut_4 rfl ?_
  refine r_aload_n (pc' := 6) X 0 dX9_isOut_5 rfl rfl rfl ?_
  refine gf_29_other (pc' := 9) X gw_989 dX9_isOut_6 rfl ?_
  refine r_iconst (pc' := 10) X dX9_isOut_9 rfl ?_
  refine r_bipush (pc' := 12) X dX9_isOut_10 rfl rfl ?_
  refine w_callv (pc' := 15) (st := []) (w_runS X (c_X9_copy l G M 29 13 0 29 15 0 48 48 48 k29_13 k29_15 (by first | assumption | omega) (by first | assumption | omega) (by first | assumption | omega) (by first | assumption | omega) (by first | assumption | omega)) cf_X9_copy gw_1138 rfl rfl ⟨Nat.le_of_ble_eq_true rfl, Nat.le_of_ble_eq_true rfl⟩ rfl rfl (Nat.le_of_ble_eq_true rfl) ⟨Nat.le_of_ble_eq_true rfl, Nat.le_of_ble_eq_true rfl⟩ gw_1137 dX9_isOut_12) rfl (fun M1 h12 => ?_)
  have e12 : ∀ a b y, ¬ (a = 29 ∧ b = 15) → M1 a b y = M a b y := fun a b y q => congrFun (h12.1 a b (by omega)) y
  have t12 : ∀ y, y < 48 → M1 29 15 y = M 29 13 y := fun y hy => by have q := h12.2.1 y hy; rw [Nat.zero_add] at q; exact q
  refine r_aload_n (pc' := 16) X 0 dX9_isOut_15 rfl rfl rfl ?_
  refine gf_29_other (pc' := 19) X gw_989 dX9_isOut_16 rfl ?_
  refine r_iconst (pc' := 20) X dX9_isOut_19 rfl ?_
  refine r_iload_n (pc' := 21) X 1 dX9_isOut_20 rfl rfl rfl ?_
  refine r_iadd (pc' := 22) X dX9_isOut_21 rfl ?_
  refine r_aload_n (pc' := 23) X 0 dX9_isOut_22 rfl rfl rfl ?_
  refine gf_29_now (pc' := 26) X gw_987 dX9_isOut_23 rfl ?_
  refine r_iload_n (pc' := 27) X 2 dX9_isOut_26 rfl rfl rfl ?_
  refine r_iald (i := at0) (pc' := 28) X k29_13 (by omega) (by omega) (by decide) dX9_isOut_27 rfl ?_
  refine r_iast (i := (4 + i.toNat)) (pc' := 29) X k29_15 (by omega) (by omega) (by decide) dX9_isOut_28 rfl (fun M2 hM2 => ?_)
  refine r_aload_n (pc' := 30) X 0 dX9_isOut_29 rfl rfl rfl ?_
  refine gf_29_other (pc' := 33) X gw_989 dX9_isOut_30 rfl ?_
  refine r_bipush (pc' := 35) X dX9_isOut_33 rfl rfl ?_
  refine r_iload_n (pc' := 36) X 1 dX9_isOut_35 rfl rfl rfl ?_
  refine r_iadd (pc' := 37) X dX9_isOut_36 rfl ?_
  refine r_aload_n (pc' := 38) X 0 dX9_isOut_37 rfl rfl rfl ?_
  refine gf_29_now (pc' := 41) X gw_987 dX9_isOut_38 rfl ?_
  refine r_iload_n (pc' := 42) X 2 dX9_isOut_41 rfl rfl rfl ?_
  refine r_iald (i := at0) (pc' := 43) X k29_13 (by omega) (by omega) (by decide) dX9_isOut_42 rfl ?_
  refine r_iast (i := (8 + i.toNat)) (pc' := 44) X k29_15 (by omega) (by omega) (by decide) dX9_isOut_43 rfl (fun M3 hM3 => ?_)
  have et : ∀ a b y, ¬ (a = 29 ∧ b = 15) → M3 a b y = M a b y := fun a b y q => by rw [hM3, wu_ne (by omega), hM2, wu_ne (by omega)]; exact e12 a b y q
  have ex : M2 29 13 at0 = x := by rw [hM2, wu_ne (by omega), e12 29 13 at0 (by omega)]; exact hx
  have ex0 : M1 29 13 at0 = x := by rw [e12 29 13 at0 (by omega)]; exact hx
  have qt : PEq N P pv (M3 29) := hq.keep (fun b y q => et 29 b y (by omega))
  have st : ∀ y, 12 ≤ y → y < 48 → M3 29 15 y = M 29 13 y := fun y h1 h2 => by rw [hM3]; unfold wu; rw [if_neg (by omega), hM2]; unfold wu; rw [if_neg (by omega)]; exact t12 y h2
  have hlo4 : ∀ j, j < N → M3 29 15 (4 + j) = up1 (w 2) i.toNat x j := fun j hj => by
    rw [hM3]; unfold wu up1; rw [if_neg (by omega), hM2]; unfold wu
    by_cases c1 : j = i.toNat
    · rw [if_pos ⟨rfl, rfl, by omega⟩, if_pos c1]; exact ex0
    · rw [if_neg (by omega), if_neg c1, t12 _ (by omega)]; exact (v1 j hj).2.1
  have hhi4 : ∀ j, j < N → M3 29 15 (8 + j) = up1 (w 3) i.toNat x j := fun j hj => by
    rw [hM3]; unfold wu up1
    by_cases c1 : j = i.toNat
    · rw [if_pos ⟨rfl, rfl, by omega⟩, if_pos c1]; exact ex
    · rw [if_neg (by omega), if_neg c1, hM2]; unfold wu; rw [if_neg (by omega), t12 _ (by omega)]; exact (v1 j hj).2.2.1
  refine r_aload_n (pc' := 45) X 0 dX9_isOut_44 rfl rfl rfl ?_
  refine r_aload_n (pc' := 46) X 0 dX9_isOut_45 rfl rfl rfl ?_
  refine gf_29_other (pc' := 49) X gw_989 dX9_isOut_46 rfl ?_
  refine w_calli (pc' := 52) (st := []) (w_runV X (c_X9_tighten l G M3 N P pv (by first | assumption | omega) qt 15 k29_15 (by first | assumption | omega) (up1 (w 2) i.toNat x) (up1 (w 3) i.toNat x) hlo4 hhi4 (fun j hj => by unfold up1; have := hL j hj; split <;> omega) (fun j hj => by unfold up1; have := hU j hj; split <;> omega) (fun j hj => by unfold up1; have := hbx j hj; split <;> omega) (w 10) (w 11) (fun k hk => by rw [st _ (by omega) (by omega)]; exact (v3 k hk).1) (fun k hk => by rw [st _ (by omega) (by omega)]; exact (v3 k hk).2) hY (fun k hk => by have := hAg k hk; omega)) cf_X9_tighten k29_0 rfl gw_1240 gp_47 rfl rfl ⟨Nat.le_of_ble_eq_true rfl, Nat.le_of_ble_eq_true rfl⟩ rfl rfl (Nat.le_of_ble_eq_true rfl) ⟨Nat.le_of_ble_eq_true rfl, Nat.le_of_ble_eq_true rfl⟩ gw_1238 dX9_isOut_49) rfl (fun z49 M4 h49 => ?_)
  refine r_if_ne (pc' := 55) (tgt := 59) X dX9_isOut_52 rfl rfl (by omega) (fun h52 => ?_) (fun h52 => ?_)
  · refine r_iconst (pc' := 60) X dX9_isOut_59 rfl ?_
    refine w_zret X hr (by decide) dX9_isOut_60 ?_
    try dsimp only
    have hz := h49.1
    refine ⟨?_, fun a b y q => by rw [h49.2.2 a b y (by omega)]; exact et a b y q⟩
    split at hz <;> rename_i c1 <;> first | (exfalso; omega) | (rw [if_pos c1]) | (rw [if_neg c1])
  · refine r_iconst (pc' := 56) X dX9_isOut_55 rfl ?_
    refine r_goto (tgt := 60) X dX9_isOut_56 rfl ?_
    refine w_zret X hr (by decide) dX9_isOut_60 ?_
    try dsimp only
    have hz := h49.1
    refine ⟨?_, fun a b y q => by rw [h49.2.2 a b y (by omega)]; exact et a b y q⟩
    split at hz <;> rename_i c1 <;> first | (exfalso; omega) | (rw [if_pos c1]) | (rw [if_neg c1])
