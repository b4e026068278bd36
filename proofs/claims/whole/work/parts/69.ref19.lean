theorem cf_X9_thrown : wCal yX9_thrown cX9_thrown 1 (some .int) 0 := ⟨gw_1076, gw_10, by decide, by decide, by rfl⟩
set_option maxRecDepth 100000 in
set_option maxHeartbeats 4000000 in
theorem c_X9_thrown (l : Launch) (G : wG) (M : wM)  : Met l yX9_thrown (gws yX9_thrown cX9_thrown 1 (some .int)) (wrm 0 0 0) (wPc G M [vR G (29, 0)]) (wQi G (fun z M1 => z = M 29 0 0 ∧ M1 = M)) 0 0 (wA G) := by
  refine wMet (lc := [(0, vR G (29, 0))]) (by decide) (Nat.le_of_ble_eq_true rfl) rfl ?_
  intro p e s m args below meth c X hr
  have X : wX p s m args meth c G 1 "StateObserverModel" cX9_thrown := X
  refine r_aload_n (pc' := 1) X 0 dX9_thrown_0 rfl rfl rfl ?_
  refine gf_29_refusal (pc' := 4) X gw_967 dX9_thrown_1 rfl ?_
  refine w_iret X hr dX9_thrown_4 ?_
  try dsimp only
  exact ⟨rfl, rfl⟩
theorem cf_X9_append : wCal yX9_append cX9_append 2 (some .int) 1 := ⟨gw_1080, gw_10, by decide, by decide, by rfl⟩
set_option maxRecDepth 100000 in
set_option maxHeartbeats 4000000 in
theorem c_X9_append (l : Launch) (G : wG) (M : wM) (L : Nat) (hB : RxB (M 29) L) (c0 : Int) (hc0 : rI c0) : Met l yX9_append (gws yX9_append cX9_append 2 (some .int)) (wrm 1 0 0) (wPc G M [vR G (29, 0), vI c0]) (wQi G (fun z M1 => (M1 29 0 0 = 0 ∧ (∀ a b x, ¬ (a = 29 ∧ (b = 1 ∨ (b = 0 ∧ (x = 0 ∨ x = 2)))) → M1 a b x = M a b x) ∧ (0 ≤ c0 ∧ c0 ≤ 255) ∧ L < 200 ∧ z = L + 1 ∧ RxB (M1 29) (L + 1) ∧ M1 29 1 = up1 (M 29 1) L c0) ∨ (M1 29 0 0 = 1 ∧ RScr M M1 ∧ ¬ (0 ≤ c0 ∧ c0 ≤ 255)) ∨ (M1 29 0 0 = 2 ∧ RScr M M1 ∧ (0 ≤ c0 ∧ c0 ≤ 255) ∧ ¬ L < 200))) 0 0 (wA G) := by
  refine wMet (lc := [(0, vR G (29, 0)), (1, vI c0)]) (by decide) (Nat.le_of_ble_eq_true rfl) rfl ?_
  intro p e s m args below meth c X hr
  have X : wX p s m args meth c G 2 "StateObserverModel" cX9_append := X
  obtain ⟨hL, hL2, hch⟩ := id hB
  refine r_aload_n (pc' := 1) X 0 dX9_append_0 rfl rfl rfl ?_
  refine r_iload_n (pc' := 2) X 1 dX9_append_1 rfl rfl rfl ?_
  refine r_i2l (pc' := 3) X dX9_append_2 (by omega) rfl ?_
  refine r_lconst (pc' := 4) (z := 0) X dX9_append_3 rfl rfl ?_
  refine r_ldc2 (pc' := 7) (z := 255) X gw_1081 dX9_append_4 rfl rfl ?_
  refine w_calli (pc' := 10) (st := [vR G (29, 0)]) (w_runS X (c_X9_in l G M c0 0 255 (by first | assumption | omega) (by first | assumption | omega) (by first | assumption | omega)) cf_X9_in gw_1083 rfl rfl ⟨Nat.le_of_ble_eq_true rfl, Nat.le_of_ble_eq_true rfl⟩ rfl rfl (Nat.le_of_ble_eq_true rfl) ⟨Nat.le_of_ble_eq_true rfl, Nat.le_of_ble_eq_true rfl⟩ gw_1082 dX9_append_7) rfl (fun z7 M1 h7 => ?_)
  have hz7 := h7.1
  obtain rfl := h7.2.symm
  have hi7 : z7 = 0 ∨ z7 = 1 := by rw [hz7]; split <;> omega
  have hq7 : z7 = 1 ↔ (0 ≤ c0 ∧ c0 ≤ 255) := by rw [hz7]; split <;> omega
  refine r_if_ne (pc' := 13) (tgt := 17) X dX9_append_10 rfl rfl (by omega) (fun h10 => ?_) (fun h10 => ?_)
  · refine r_aload_n (pc' := 18) X 0 dX9_append_17 rfl rfl rfl ?_
    refine gf_29_textSize (pc' := 21) X gw_969 dX9_append_18 rfl ?_
    refine r_sipush (pc' := 24) X dX9_append_21 rfl rfl ?_
    refine r_icmp_ne (pc' := 27) (tgt := 31) X dX9_append_24 rfl rfl (by omega) (by omega) (fun h24 => ?_) (fun h24 => ?_)
    · refine r_iconst (pc' := 32) X dX9_append_31 rfl ?_
      refine w_calli (pc' := 35) (st := []) (w_runV X (c_X9_refused l G M 0 (by first | assumption | omega)) cf_X9_refused k29_0 rfl gw_1087 gp_25 rfl rfl ⟨Nat.le_of_ble_eq_true rfl, Nat.le_of_ble_eq_true rfl⟩ rfl rfl (Nat.le_of_ble_eq_true rfl) ⟨Nat.le_of_ble_eq_true rfl, Nat.le_of_ble_eq_true rfl⟩ gw_1085 dX9_append_32) rfl (fun z32 M2 h32 => ?_)
      have hz32 : z32 = 0 := by rw [h32.1]; rfl
      have ew32 : ∀ a b x, ¬ (a = 29 ∧ b = 0 ∧ x = 0) → M2 a b x = M a b x := fun a b x q => by rw [h32.2]; unfold wu; rw [if_neg q]
      have er32 : M2 29 0 0 = 0 := by rw [h32.2]; unfold wu; rw [if_pos ⟨rfl, rfl, rfl⟩]
      have sc32 : RScr M M2 := fun a b x q => ew32 a b x (by omega)
      refine r_if_eq (pc' := 38) (tgt := 40) X dX9_append_35 rfl rfl (by omega) (fun h35 => ?_) (fun h35 => by exfalso; omega)
      refine r_aload_n (pc' := 41) X 0 dX9_append_40 rfl rfl rfl ?_
      refine gf_29_text (pc' := 44) X gw_968 dX9_append_41 rfl ?_
      refine r_aload_n (pc' := 45) X 0 dX9_append_44 rfl rfl rfl ?_
      refine gf_29_textSize (pc' := 48) X gw_969 dX9_append_45 rfl ?_
      refine w_eqI (z' := (L : Int)) (by rw [ew32 29 0 2 (by omega)]; exact hL) ?_
      refine r_iload_n (pc' := 49) X 1 dX9_append_48 rfl rfl rfl ?_
      refine r_iast (i := L) (pc' := 50) X k29_1 (by omega) (by omega) (by decide) dX9_append_49 rfl (fun M3 hM3 => ?_)
      refine r_aload_n (pc' := 51) X 0 dX9_append_50 rfl rfl rfl ?_
      refine r_dup (pc' := 52) X dX9_append_51 rfl rfl ?_
      refine gf_29_textSize (pc' := 55) X gw_969 dX9_append_52 rfl ?_
      refine r_iconst (pc' := 56) X dX9_append_55 rfl ?_
      refine r_iadd (pc' := 57) X dX9_append_56 rfl ?_
      refine pf_29_textSize (pc' := 60) X gw_969 dX9_append_57 rfl (fun M4 hM4 => ?_)
      refine r_aload_n (pc' := 61) X 0 dX9_append_60 rfl rfl rfl ?_
      refine gf_29_textSize (pc' := 64) X gw_969 dX9_append_61 rfl ?_
      refine w_iret X hr dX9_append_64 ?_
      try dsimp only
      have e3 : ∀ a b x, ¬ (a = 29 ∧ ((b = 1 ∧ x = L) ∨ (b = 0 ∧ (x = 0 ∨ x = 2)))) → M4 a b x = M a b x := fun a b x q => by
        rw [hM4]; unfold wu; rw [if_neg (by omega), hM3]; unfold wu; rw [if_neg (by omega)]; exact ew32 a b x (by omega)
      have e2 : M4 29 0 2 = (L : Int) + 1 := by rw [hM4]; unfold wu; rw [if_pos ⟨rfl, rfl, rfl⟩, hM3]; unfold wu; rw [if_neg (by omega), ew32 29 0 2 (by omega), hL]
      have e1 : M4 29 1 = up1 (M 29 1) L c0 := by
        funext x
        unfold up1
        by_cases q : x = L
        · rw [if_pos q, hM4]; unfold wu; rw [if_neg (by omega), hM3]; unfold wu; rw [if_pos ⟨rfl, rfl, q⟩]
        · rw [if_neg q]; exact e3 29 1 x (by omega)
      refine Or.inl ⟨by rw [hM4]; unfold wu; rw [if_neg (by omega), hM3]; unfold wu; rw [if_neg (by omega)]; exact er32, fun a b x q => e3 a b x (by omega), by omega, by omega, e2, ⟨by rw [e2]; omega, by omega, fun i hi => ?_⟩, e1⟩
      rw [e1]
      unfold up1
      have := hch i hi
      split <;> omega
    · refine r_iconst (pc' := 28) X dX9_append_27 rfl ?_
      refine r_goto (tgt := 32) X dX9_append_28 rfl ?_
      refine w_calli (pc' := 35) (st := []) (w_runV X (c_X9_refused l G M 2 (by first | assumption | omega)) cf_X9_refused k29_0 rfl gw_1087 gp_25 rfl rfl ⟨Nat.le_of_ble_eq_true rfl, Nat.le_of_ble_eq_true rfl⟩ rfl rfl (Nat.le_of_ble_eq_true rfl) ⟨Nat.le_of_ble_eq_true rfl, Nat.le_of_ble_eq_true rfl⟩ gw_1085 dX9_append_32) rfl (fun z32 M5 h32 => ?_)
      have hz32 : z32 = 1 := by rw [h32.1]; rfl
      have ew32 : ∀ a b x, ¬ (a = 29 ∧ b = 0 ∧ x = 0) → M5 a b x = M a b x := fun a b x q => by rw [h32.2]; unfold wu; rw [if_neg q]
      have er32 : M5 29 0 0 = 2 := by rw [h32.2]; unfold wu; rw [if_pos ⟨rfl, rfl, rfl⟩]
      have sc32 : RScr M M5 := fun a b x q => ew32 a b x (by omega)
      refine r_if_eq (pc' := 38) (tgt := 40) X dX9_append_35 rfl rfl (by omega) (fun h35 => by exfalso; omega) (fun h35 => ?_)
      refine r_iconst (pc' := 39) X dX9_append_38 rfl ?_
      refine w_iret X hr dX9_append_39 ?_
      try dsimp only
      exact (Or.inr (Or.inr ⟨er32, sc32, by omega⟩))
  · refine r_iconst (pc' := 14) X dX9_append_13 rfl ?_
    refine r_goto (tgt := 32) X dX9_append_14 rfl ?_
    refine w_calli (pc' := 35) (st := []) (w_runV X (c_X9_refused l G M 1 (by first | assumption | omega)) cf_X9_refused k29_0 rfl gw_1087 gp_25 rfl rfl ⟨Nat.le_of_ble_eq_true rfl, Nat.le_of_ble_eq_true rfl⟩ rfl rfl (Nat.le_of_ble_eq_true rfl) ⟨Nat.le_of_ble_eq_true rfl, Nat.le_of_ble_eq_true rfl⟩ gw_1085 dX9_append_32) rfl (fun z32 M6 h32 => ?_)
    have hz32 : z32 = 1 := by rw [h32.1]; rfl
    have ew32 : ∀ a b x, ¬ (a = 29 ∧ b = 0 ∧ x = 0) → M6 a b x = M a b x := fun a b x q => by rw [h32.2]; unfold wu; rw [if_neg q]
    have er32 : M6 29 0 0 = 1 := by rw [h32.2]; unfold wu; rw [if_pos ⟨rfl, rfl, rfl⟩]
    have sc32 : RScr M M6 := fun a b x q => ew32 a b x (by omega)
    refine r_if_eq (pc' := 38) (tgt := 40) X dX9_append_35 rfl rfl (by omega) (fun h35 => by exfalso; omega) (fun h35 => ?_)
    refine r_iconst (pc' := 39) X dX9_append_38 rfl ?_
    refine w_iret X hr dX9_append_39 ?_
    try dsimp only
    exact (Or.inr (Or.inl ⟨er32, sc32, by omega⟩))
theorem cf_X9_clearText : wCal yX9_clearText cX9_clearText 2 (some .int) 0 := ⟨gw_1092, gw_10, by decide, by decide, by rfl⟩
set_option maxRecDepth 100000 in
set_option maxHeartbeats 4000000 in
theorem c_X9_clearText (l : Launch) (G : wG) (M : wM) (L : Nat) (hB : RxB (M 29) L) : Met l yX9_clearText (gws yX9_clearText cX9_clearText 2 (some .int)) (wrm 0 0 0) (wPc G M [vR G (29, 0)]) (wQi G (fun z M1 => z = L ∧ M1 29 0 0 = 0 ∧ RxB (M1 29) 0 ∧ ∀ a b x, ¬ (a = 29 ∧ b = 0 ∧ (x = 0 ∨ x = 2)) → M1 a b x = M a b x)) 0 0 (wA G) := by
  refine wMet (lc := [(0, vR G (29, 0))]) (by decide) (Nat.le_of_ble_eq_true rfl) rfl ?_
  intro p e s m args below meth c X hr
  have X : wX p s m args meth c G 2 "StateObserverModel" cX9_clearText := X
  obtain ⟨hL, hL2, hch⟩ := id hB
  refine r_aload_n (pc' := 1) X 0 dX9_clearText_0 rfl rfl rfl ?_
  refine r_iconst (pc' := 2) X dX9_clearText_1 rfl ?_
  refine pf_29_refusal (pc' := 5) X gw_967 dX9_clearText_2 rfl (fun M1 hM1 => ?_)
  refine r_aload_n (pc' := 6) X 0 dX9_clearText_5 rfl rfl rfl ?_
  refine gf_29_textSize (pc' := 9) X gw_969 dX9_clearText_6 rfl ?_
  refine r_istore_n (pc' := 10) (lc' := [(0, vR G (29, 0)), (1, vI (M1 29 0 2))]) X [1, 0] dX9_clearText_9 rfl (by decide) rfl rfl ?_
  refine r_aload_n (pc' := 11) X 0 dX9_clearText_10 rfl rfl rfl ?_
  refine r_iconst (pc' := 12) X dX9_clearText_11 rfl ?_
  refine pf_29_textSize (pc' := 15) X gw_969 dX9_clearText_12 rfl (fun M2 hM2 => ?_)
  refine r_iload_n (pc' := 16) X 1 dX9_clearText_15 rfl rfl rfl ?_
  refine w_iret X hr dX9_clearText_16 ?_
  try dsimp only
  have e3 : ∀ a b x, ¬ (a = 29 ∧ b = 0 ∧ (x = 0 ∨ x = 2)) → M2 a b x = M a b x := fun a b x q => by
    rw [hM2]; unfold wu; rw [if_neg (by omega), hM1]; unfold wu; rw [if_neg (by omega)]
  refine ⟨?_, ?_, ⟨?_, by omega, fun i hi => by rw [e3 29 1 i (by omega)]; exact hch i hi⟩, e3⟩
  · rw [hM1]; unfold wu; rw [if_neg (by omega)]; exact hL
  · rw [hM2]; unfold wu; rw [if_neg (by omega), hM1]; unfold wu; rw [if_pos ⟨rfl, rfl, rfl⟩]
  · rw [hM2]; unfold wu; rw [if_pos ⟨rfl, rfl, rfl⟩]; rfl
theorem cf_X9_errorPosition : wCal yX9_errorPosition cX9_errorPosition 1 (some .int) 0 := ⟨gw_1096, gw_10, by decide, by decide, by rfl⟩
set_option maxRecDepth 100000 in
set_option maxHeartbeats 4000000 in
theorem c_X9_errorPosition (l : Launch) (G : wG) (M : wM) (L : Nat) (hB : RxB (M 29) L) : Met l yX9_errorPosition (gws yX9_errorPosition cX9_errorPosition 1 (some .int)) (wrm 6 0 0) (wPc G M [vR G (29, 0)]) (wQi G (fun z M1 => z = (if (rdE (M 29 1) L).1.2 = 0 then -9 else ((rdE (M 29 1) L).1.1 : Int)) ∧ M1 29 0 0 = 0 ∧ RScr M M1)) 0 0 (wA G) := by
  refine wMet (lc := [(0, vR G (29, 0))]) (by decide) (Nat.le_of_ble_eq_true rfl) rfl ?_
  intro p e s m args below meth c X hr
  have X : wX p s m args meth c G 1 "StateObserverModel" cX9_errorPosition := X
  obtain ⟨hL, hL2, hch⟩ := id hB
  obtain ⟨okE1, okE2⟩ := rdE_ok (ch := M 29 1) (L := L)
  refine r_aload_n (pc' := 1) X 0 dX9_errorPosition_0 rfl rfl rfl ?_
  refine r_iconst (pc' := 2) X dX9_errorPosition_1 rfl ?_
  refine pf_29_refusal (pc' := 5) X gw_967 dX9_errorPosition_2 rfl (fun M1 hM1 => ?_)
  have e1 : ∀ a b x, ¬ (a = 29 ∧ b = 0 ∧ x = 0) → M1 a b x = M a b x := fun a b x q => by rw [hM1]; unfold wu; rw [if_neg q]
  have hB2 : RxB (M1 29) L := ⟨by rw [e1 29 0 2 (by omega)]; exact hL, hL2, fun i hi => by rw [e1 29 1 i (by omega)]; exact hch i hi⟩
  refine r_aload_n (pc' := 6) X 0 dX9_errorPosition_5 rfl rfl rfl ?_
  refine w_calli (pc' := 9) (st := []) (w_runV X (c_X9_readAll l G M1 L hB2) cf_X9_readAll k29_0 rfl gw_1099 gp_26 rfl rfl ⟨Nat.le_of_ble_eq_true rfl, Nat.le_of_ble_eq_true rfl⟩ rfl rfl (Nat.le_of_ble_eq_true rfl) ⟨Nat.le_of_ble_eq_true rfl, Nat.le_of_ble_eq_true rfl⟩ gw_1097 dX9_errorPosition_6) rfl (fun z6 M2 h6 => ?_)
  rw [show M1 29 1 = M 29 1 from funext fun i => e1 29 1 i (by omega)] at h6
  obtain ⟨k1, k2, k3, k4⟩ := h6
  have k5 : M2 29 0 0 = 0 := by rw [k4 29 0 0 (by omega), hM1]; unfold wu; rw [if_pos ⟨rfl, rfl, rfl⟩]
  have k6 : RScr M M2 := fun a b x q => by rw [k4 a b x (by omega), e1 a b x (by omega)]
  refine r_if_eq (pc' := 12) (tgt := 17) X dX9_errorPosition_9 rfl rfl (by omega) (fun h9 => ?_) (fun h9 => ?_)
  · refine r_aload_n (pc' := 18) X 0 dX9_errorPosition_17 rfl rfl rfl ?_
    refine gf_29_place (pc' := 21) X gw_970 dX9_errorPosition_18 rfl ?_
    refine w_iret X hr dX9_errorPosition_21 ?_
    try dsimp only
    refine ⟨?_, k5, k6⟩
    first | (rw [if_pos (by omega)]) | (rw [if_neg (by omega)]; exact k2)
  · refine r_bipush (pc' := 14) X dX9_errorPosition_12 rfl rfl ?_
    refine r_goto (tgt := 21) X dX9_errorPosition_14 rfl ?_
    refine w_iret X hr dX9_errorPosition_21 ?_
    try dsimp only
    refine ⟨?_, k5, k6⟩
    first | (rw [if_pos (by omega)]) | (rw [if_neg (by omega)]; exact k2)
