theorem cf_X9_note : wCal yX9_note cX9_note 1 none 0 := ⟨gw_1201, gw_10, by decide, by decide, by rfl⟩
set_option maxRecDepth 100000 in
set_option maxHeartbeats 4000000 in
theorem c_X9_note (l : Launch) (G : wG) (M : wM) (ct : Nat) (hct : M 29 0 24 = (ct : Int)) (hct14 : ct ≤ 14) : Met l yX9_note (gws yX9_note cX9_note 1 none) (wrm 1 0 0) (wPc G M [vR G (29, 0)]) (wQv G (fun M1 => RNoted M M1 ct ∧ ∀ a b x, ¬ (a = 29 ∧ (b = 16 ∨ (b = 0 ∧ x = 24))) → M1 a b x = M a b x)) 0 0 (wA G) := by
  refine wMet (lc := [(0, vR G (29, 0))]) (by decide) (Nat.le_of_ble_eq_true rfl) rfl ?_
  intro p e s m args below meth c X hr
  have X : wX p s m args meth c G 1 "StateObserverModel" cX9_note := X
  refine r_aload_n (pc' := 1) X 0 dX9_note_0 rfl rfl rfl ?_
  refine gf_29_acts (pc' := 4) X gw_991 dX9_note_1 rfl ?_
  refine r_bipush (pc' := 6) X dX9_note_4 rfl rfl ?_
  refine r_icmp_ne (pc' := 9) (tgt := 36) X dX9_note_6 rfl rfl (by omega) (by omega) (fun h6 => ?_) (fun h6 => ?_)
  · refine r_aload_n (pc' := 37) X 0 dX9_note_36 rfl rfl rfl ?_
    refine gf_29_now (pc' := 40) X gw_987 dX9_note_37 rfl ?_
    refine r_iconst (pc' := 41) X dX9_note_40 rfl ?_
    refine r_aload_n (pc' := 42) X 0 dX9_note_41 rfl rfl rfl ?_
    refine gf_29_diary (pc' := 45) X gw_990 dX9_note_42 rfl ?_
    refine r_bipush (pc' := 47) X dX9_note_45 rfl rfl ?_
    refine r_aload_n (pc' := 48) X 0 dX9_note_47 rfl rfl rfl ?_
    refine gf_29_acts (pc' := 51) X gw_991 dX9_note_48 rfl ?_
    refine w_eqI (z' := (ct : Int)) hct ?_
    refine r_imul (pc' := 52) X dX9_note_51 rfl ?_
    refine r_bipush (pc' := 54) X dX9_note_52 rfl rfl ?_
    refine w_callv (pc' := 57) (st := []) (w_runS X (c_X9_copy l G M 29 13 0 29 16 (48 * ct) 48 48 672 k29_13 k29_16 (by first | assumption | omega) (by first | assumption | omega) (by first | assumption | omega) (by first | assumption | omega) (by first | assumption | omega)) cf_X9_copy gw_1138 rfl rfl ⟨Nat.le_of_ble_eq_true rfl, Nat.le_of_ble_eq_true rfl⟩ rfl rfl (Nat.le_of_ble_eq_true rfl) ⟨Nat.le_of_ble_eq_true rfl, Nat.le_of_ble_eq_true rfl⟩ gw_1137 dX9_note_54) rfl (fun M1 h54 => ?_)
    refine r_aload_n (pc' := 58) X 0 dX9_note_57 rfl rfl rfl ?_
    refine r_dup (pc' := 59) X dX9_note_58 rfl rfl ?_
    refine gf_29_acts (pc' := 62) X gw_991 dX9_note_59 rfl ?_
    refine r_iconst (pc' := 63) X dX9_note_62 rfl ?_
    refine r_iadd (pc' := 64) X dX9_note_63 rfl ?_
    refine pf_29_acts (pc' := 67) X gw_991 dX9_note_64 rfl (fun M2 hM2 => ?_)
    refine w_vret X hr dX9_note_67 ?_
    try dsimp only
    have eN : min (ct + 1) 14 = ct + 1 := by omega
    have frN : ∀ a b x, ¬ (a = 29 ∧ (b = 16 ∨ (b = 0 ∧ x = 24))) → M2 a b x = M a b x := fun a b x q => by
      rw [hM2]
      unfold wu
      rw [if_neg (by omega), h54.1 a b (by omega)]
    refine ⟨⟨?_, fun t x ht hx => ?_, fun a b x q => frN a b x (by omega)⟩, frN⟩
    · rw [hM2]
      unfold wu
      rw [if_pos ⟨rfl, rfl, rfl⟩, h54.1 29 0 (by omega), hct, eN]
      rfl
    · rw [hM2, wu_ne (by omega), eN]
      rw [eN] at ht
      by_cases c : t = 0
      · rw [if_pos c]
        have := h54.2.1 x hx
        rw [show 48 * (ct + 1 - 1 - t) + x = 48 * ct + x by omega, this, Nat.zero_add]
      · rw [if_neg c, h54.2.2 _ (by omega), show ct + 1 - 1 - t = ct - 1 - (t - 1) by omega]
  · refine r_aload_n (pc' := 10) X 0 dX9_note_9 rfl rfl rfl ?_
    refine gf_29_diary (pc' := 13) X gw_990 dX9_note_10 rfl ?_
    refine r_bipush (pc' := 15) X dX9_note_13 rfl rfl ?_
    refine r_aload_n (pc' := 16) X 0 dX9_note_15 rfl rfl rfl ?_
    refine gf_29_diary (pc' := 19) X gw_990 dX9_note_16 rfl ?_
    refine r_iconst (pc' := 20) X dX9_note_19 rfl ?_
    refine r_sipush (pc' := 23) X dX9_note_20 rfl rfl ?_
    refine w_callv (pc' := 26) (st := []) (w_runS X (c_X9_copy l G M 29 16 48 29 16 0 624 672 672 k29_16 k29_16 (by first | assumption | omega) (by first | assumption | omega) (by first | assumption | omega) (by first | assumption | omega) (by first | assumption | omega)) cf_X9_copy gw_1138 rfl rfl ⟨Nat.le_of_ble_eq_true rfl, Nat.le_of_ble_eq_true rfl⟩ rfl rfl (Nat.le_of_ble_eq_true rfl) ⟨Nat.le_of_ble_eq_true rfl, Nat.le_of_ble_eq_true rfl⟩ gw_1137 dX9_note_23) rfl (fun M3 h23 => ?_)
    refine r_aload_n (pc' := 27) X 0 dX9_note_26 rfl rfl rfl ?_
    refine r_dup (pc' := 28) X dX9_note_27 rfl rfl ?_
    refine gf_29_acts (pc' := 31) X gw_991 dX9_note_28 rfl ?_
    refine w_eqI (z' := 14) (by rw [h23.1 29 0 (by omega)]; omega) ?_
    refine r_iconst (pc' := 32) X dX9_note_31 rfl ?_
    refine r_isub (pc' := 33) X dX9_note_32 rfl ?_
    refine pf_29_acts (pc' := 36) X gw_991 dX9_note_33 rfl (fun M4 hM4 => ?_)
    refine r_aload_n (pc' := 37) X 0 dX9_note_36 rfl rfl rfl ?_
    refine gf_29_now (pc' := 40) X gw_987 dX9_note_37 rfl ?_
    refine r_iconst (pc' := 41) X dX9_note_40 rfl ?_
    refine r_aload_n (pc' := 42) X 0 dX9_note_41 rfl rfl rfl ?_
    refine gf_29_diary (pc' := 45) X gw_990 dX9_note_42 rfl ?_
    refine r_bipush (pc' := 47) X dX9_note_45 rfl rfl ?_
    refine r_aload_n (pc' := 48) X 0 dX9_note_47 rfl rfl rfl ?_
    refine gf_29_acts (pc' := 51) X gw_991 dX9_note_48 rfl ?_
    refine w_eqI (z' := (13 : Int)) (by rw [hM4]; unfold wu; rw [if_pos ⟨rfl, rfl, rfl⟩]; rfl) ?_
    refine r_imul (pc' := 52) X dX9_note_51 rfl ?_
    refine r_bipush (pc' := 54) X dX9_note_52 rfl rfl ?_
    refine w_callv (pc' := 57) (st := []) (w_runS X (c_X9_copy l G M4 29 13 0 29 16 (48 * 13) 48 48 672 k29_13 k29_16 (by first | assumption | omega) (by first | assumption | omega) (by first | assumption | omega) (by first | assumption | omega) (by first | assumption | omega)) cf_X9_copy gw_1138 rfl rfl ⟨Nat.le_of_ble_eq_true rfl, Nat.le_of_ble_eq_true rfl⟩ rfl rfl (Nat.le_of_ble_eq_true rfl) ⟨Nat.le_of_ble_eq_true rfl, Nat.le_of_ble_eq_true rfl⟩ gw_1137 dX9_note_54) rfl (fun M5 h54 => ?_)
    refine r_aload_n (pc' := 58) X 0 dX9_note_57 rfl rfl rfl ?_
    refine r_dup (pc' := 59) X dX9_note_58 rfl rfl ?_
    refine gf_29_acts (pc' := 62) X gw_991 dX9_note_59 rfl ?_
    refine r_iconst (pc' := 63) X dX9_note_62 rfl ?_
    refine r_iadd (pc' := 64) X dX9_note_63 rfl ?_
    refine pf_29_acts (pc' := 67) X gw_991 dX9_note_64 rfl (fun M6 hM6 => ?_)
    refine w_vret X hr dX9_note_67 ?_
    try dsimp only
    have eN : min (ct + 1) 14 = 14 := by omega
    have f3 : ∀ a b x, ¬ (a = 29 ∧ (b = 16 ∨ (b = 0 ∧ x = 24))) → M4 a b x = M a b x := fun a b x q => by
      rw [hM4]
      unfold wu
      rw [if_neg (by omega), h23.1 a b (by omega)]
    have v24 : M4 29 0 24 = 14 - 1 := by rw [hM4]; unfold wu; rw [if_pos ⟨rfl, rfl, rfl⟩]
    have v16 : ∀ x, x < 624 → M4 29 16 x = M 29 16 (48 + x) := fun x hx => by
      rw [hM4, wu_ne (by omega)]
      have := h23.2.1 x hx
      rw [Nat.zero_add] at this
      exact this
    have frN : ∀ a b x, ¬ (a = 29 ∧ (b = 16 ∨ (b = 0 ∧ x = 24))) → M6 a b x = M a b x := fun a b x q => by
      rw [hM6]
      unfold wu
      rw [if_neg (by omega), h54.1 a b (by omega), f3 a b x (by omega)]
    refine ⟨⟨?_, fun t x ht hx => ?_, fun a b x q => frN a b x (by omega)⟩, frN⟩
    · rw [hM6]
      unfold wu
      rw [if_pos ⟨rfl, rfl, rfl⟩, h54.1 29 0 (by omega), v24, eN]
      rfl
    · rw [hM6, wu_ne (by omega), eN]
      rw [eN] at ht
      by_cases c : t = 0
      · rw [if_pos c]
        have := h54.2.1 x hx
        rw [show 48 * (14 - 1 - t) + x = 48 * 13 + x by omega, this, f3 29 13 _ (by omega), Nat.zero_add]
      · rw [if_neg c, h54.2.2 _ (by omega), v16 _ (by omega), show 48 + (48 * (14 - 1 - t) + x) = 48 * (ct - 1 - (t - 1)) + x by omega]
theorem cf_X9_change : wCal yX9_change cX9_change 4 (some .int) 2 := ⟨gw_1197, gw_10, by decide, by decide, by rfl⟩
set_option maxRecDepth 100000 in
set_option maxHeartbeats 4000000 in
theorem c_X9_change (l : Launch) (G : wG) (M : wM) (ct : Nat) (hct : M 29 0 24 = (ct : Int)) (hct14 : ct ≤ 14) (at0 : Nat) (v : Int) (h48 : at0 < 48) (hv0 : rI v) : Met l yX9_change (gws yX9_change cX9_change 4 (some .int)) (wrm 2 0 0) (wPc G M [vR G (29, 0), vI (at0 : Int), vI v]) (wQi G (fun z M1 => z = M 29 13 at0 ∧ M1 29 13 = up1 (M 29 13) at0 v ∧ RNoted M M1 ct ∧ M1 29 0 0 = M 29 0 0)) 0 0 (wA G) := by
  refine wMet (lc := [(0, vR G (29, 0)), (1, vI (at0 : Int)), (2, vI v)]) (by decide) (Nat.le_of_ble_eq_true rfl) rfl ?_
  intro p e s m args below meth c X hr
  have X : wX p s m args meth c G 4 "StateObserverModel" cX9_change := X
  refine r_aload_n (pc' := 1) X 0 dX9_change_0 rfl rfl rfl ?_
  refine w_callv (pc' := 4) (st := []) (w_runV X (c_X9_note l G M ct (by first | assumption | omega) (by first | assumption | omega)) cf_X9_note k29_0 rfl gw_1200 gp_42 rfl rfl ⟨Nat.le_of_ble_eq_true rfl, Nat.le_of_ble_eq_true rfl⟩ rfl rfl (Nat.le_of_ble_eq_true rfl) ⟨Nat.le_of_ble_eq_true rfl, Nat.le_of_ble_eq_true rfl⟩ gw_1198 dX9_change_1) rfl (fun M1 h1 => ?_)
  have e13 : M1 29 13 = M 29 13 := by exact funext fun x => h1.2 29 13 x (by omega)
  refine r_aload_n (pc' := 5) X 0 dX9_change_4 rfl rfl rfl ?_
  refine gf_29_now (pc' := 8) X gw_987 dX9_change_5 rfl ?_
  refine r_iload_n (pc' := 9) X 1 dX9_change_8 rfl rfl rfl ?_
  refine r_iald (i := at0) (pc' := 10) X k29_13 (by omega) (by omega) (by decide) dX9_change_9 rfl ?_
  refine r_istore_n (pc' := 11) (lc' := [(0, vR G (29, 0)), (1, vI (at0 : Int)), (2, vI v), (3, vI (M1 29 13 at0))]) X [1, 2, 3, 0] dX9_change_10 rfl (by decide) rfl rfl ?_
  refine r_aload_n (pc' := 12) X 0 dX9_change_11 rfl rfl rfl ?_
  refine gf_29_now (pc' := 15) X gw_987 dX9_change_12 rfl ?_
  refine r_iload_n (pc' := 16) X 1 dX9_change_15 rfl rfl rfl ?_
  refine r_iload_n (pc' := 17) X 2 dX9_change_16 rfl rfl rfl ?_
  refine r_iast (i := at0) (pc' := 18) X k29_13 (by omega) (by omega) (by decide) dX9_change_17 rfl (fun M2 hM2 => ?_)
  refine r_iload_n (pc' := 19) X 3 dX9_change_18 rfl rfl rfl ?_
  refine w_iret X hr dX9_change_19 ?_
  try dsimp only
  refine ⟨by rw [e13], by rw [hM2, wu_eq, e13]; rfl, ?_, by rw [hM2, wu_ne (by omega), h1.2 29 0 0 (by omega)]⟩
  exact ⟨by rw [hM2, wu_ne (by omega)]; exact h1.1.1, fun t x ht hx => by rw [hM2, wu_ne (by omega)]; exact h1.1.2.1 t x ht hx, fun a b x q => by rw [hM2, wu_ne (by omega)]; exact h1.1.2.2 a b x q⟩
