theorem cf_X9_passes : wCal yX9_passes cX9_passes 3 (some .boolean) 1 := ⟨gw_1108, gw_10, by decide, by decide, by rfl⟩
set_option maxRecDepth 100000 in
set_option maxHeartbeats 4000000 in
theorem c_X9_passes (l : Launch) (G : wG) (M : wM) (w : Int) (hw : 0 ≤ w ∧ w ≤ 65535) (L ps : Nat) (hx : RxOk (M 29) L ps) : Met l yX9_passes (gws yX9_passes cX9_passes 3 (some .boolean)) (wrm 0 0 0) (wPc G M [vR G (29, 0), vI w]) (wQi G (fun z M1 => z = 1 - (pC (M 29 1) L w w (ps, 0)).2 ∧ M1 29 0 3 = ((pC (M 29 1) L w w (ps, 0)).1 : Int) ∧ RFr M M1)) 0 0 (wA G) := by
  refine wMet (lc := [(0, vR G (29, 0)), (1, vI w)]) (by decide) (Nat.le_of_ble_eq_true rfl) rfl ?_
  intro p e s m args below meth c X hr
  have X : wX p s m args meth c G 3 "StateObserverModel" cX9_passes := X
  obtain ⟨hxL, hxL2, hx3, hx4, hxc⟩ := id hx
  have hcp : ps < 200 → _ := hxc ps
  refine r_aload_n (pc' := 1) X 0 dX9_passes_0 rfl rfl rfl ?_
  refine gf_29_place (pc' := 4) X gw_970 dX9_passes_1 rfl ?_
  refine r_aload_n (pc' := 5) X 0 dX9_passes_4 rfl rfl rfl ?_
  refine gf_29_textSize (pc' := 8) X gw_969 dX9_passes_5 rfl ?_
  refine r_icmp_ge (pc' := 11) (tgt := 28) X dX9_passes_8 rfl rfl (by omega) (by omega) (fun h8 => ?_) (fun h8 => ?_)
  · refine r_iconst (pc' := 29) X dX9_passes_28 rfl ?_
    refine r_istore_n (pc' := 30) (lc' := [(0, vR G (29, 0)), (1, vI w), (2, vI 0)]) X [1, 2, 0] dX9_passes_29 rfl (by decide) rfl rfl ?_
    refine r_aload_n (pc' := 31) X 0 dX9_passes_30 rfl rfl rfl ?_
    refine r_dup (pc' := 32) X dX9_passes_31 rfl rfl ?_
    refine gf_29_place (pc' := 35) X gw_970 dX9_passes_32 rfl ?_
    refine r_iload_n (pc' := 36) X 2 dX9_passes_35 rfl rfl rfl ?_
    refine r_if_eq (pc' := 39) (tgt := 43) X dX9_passes_36 rfl rfl (by omega) (fun h36 => ?_) (fun h36 => absurd h36 (by decide))
    refine r_iconst (pc' := 44) X dX9_passes_43 rfl ?_
    refine r_iadd (pc' := 45) X dX9_passes_44 rfl ?_
    refine pf_29_place (pc' := 48) X gw_970 dX9_passes_45 rfl (fun M1 hM1 => ?_)
    refine r_iload_n (pc' := 49) X 2 dX9_passes_48 rfl rfl rfl ?_
    refine w_zret X hr (by decide) dX9_passes_49 ?_
    try dsimp only
    have e : (pC (M 29 1) L w w (ps, 0)) = (ps, 1) := if_neg (by simp only [true_and]; omega)
    rw [e, hM1]
    refine ⟨rfl, ?_, fun a b i q => ?_⟩
    · unfold wu
      rw [if_pos ⟨rfl, rfl, rfl⟩, hx3]
      first | rfl | (show (ps : Int) + 0 = ps; omega)
    · unfold wu
      rw [if_neg (by omega)]
  · refine r_aload_n (pc' := 12) X 0 dX9_passes_11 rfl rfl rfl ?_
    refine gf_29_text (pc' := 15) X gw_968 dX9_passes_12 rfl ?_
    refine r_aload_n (pc' := 16) X 0 dX9_passes_15 rfl rfl rfl ?_
    refine gf_29_place (pc' := 19) X gw_970 dX9_passes_16 rfl ?_
    refine r_iald (i := ps) (pc' := 20) X k29_1 hx3 (by omega) (by decide) dX9_passes_19 rfl ?_
    refine r_iload_n (pc' := 21) X 1 dX9_passes_20 rfl rfl rfl ?_
    refine r_icmp_ne (pc' := 24) (tgt := 28) X dX9_passes_21 rfl rfl (by omega) (by omega) (fun h21 => ?_) (fun h21 => ?_)
    · refine r_iconst (pc' := 29) X dX9_passes_28 rfl ?_
      refine r_istore_n (pc' := 30) (lc' := [(0, vR G (29, 0)), (1, vI w), (2, vI 0)]) X [1, 2, 0] dX9_passes_29 rfl (by decide) rfl rfl ?_
      refine r_aload_n (pc' := 31) X 0 dX9_passes_30 rfl rfl rfl ?_
      refine r_dup (pc' := 32) X dX9_passes_31 rfl rfl ?_
      refine gf_29_place (pc' := 35) X gw_970 dX9_passes_32 rfl ?_
      refine r_iload_n (pc' := 36) X 2 dX9_passes_35 rfl rfl rfl ?_
      refine r_if_eq (pc' := 39) (tgt := 43) X dX9_passes_36 rfl rfl (by omega) (fun h36 => ?_) (fun h36 => absurd h36 (by decide))
      refine r_iconst (pc' := 44) X dX9_passes_43 rfl ?_
      refine r_iadd (pc' := 45) X dX9_passes_44 rfl ?_
      refine pf_29_place (pc' := 48) X gw_970 dX9_passes_45 rfl (fun M2 hM2 => ?_)
      refine r_iload_n (pc' := 49) X 2 dX9_passes_48 rfl rfl rfl ?_
      refine w_zret X hr (by decide) dX9_passes_49 ?_
      try dsimp only
      have e : (pC (M 29 1) L w w (ps, 0)) = (ps, 1) := if_neg (by simp only [true_and]; omega)
      rw [e, hM2]
      refine ⟨rfl, ?_, fun a b i q => ?_⟩
      · unfold wu
        rw [if_pos ⟨rfl, rfl, rfl⟩, hx3]
        first | rfl | (show (ps : Int) + 0 = ps; omega)
      · unfold wu
        rw [if_neg (by omega)]
    · refine r_iconst (pc' := 25) X dX9_passes_24 rfl ?_
      refine r_goto (tgt := 29) X dX9_passes_25 rfl ?_
      refine r_istore_n (pc' := 30) (lc' := [(0, vR G (29, 0)), (1, vI w), (2, vI 1)]) X [1, 2, 0] dX9_passes_29 rfl (by decide) rfl rfl ?_
      refine r_aload_n (pc' := 31) X 0 dX9_passes_30 rfl rfl rfl ?_
      refine r_dup (pc' := 32) X dX9_passes_31 rfl rfl ?_
      refine gf_29_place (pc' := 35) X gw_970 dX9_passes_32 rfl ?_
      refine r_iload_n (pc' := 36) X 2 dX9_passes_35 rfl rfl rfl ?_
      refine r_if_eq (pc' := 39) (tgt := 43) X dX9_passes_36 rfl rfl (by omega) (fun h36 => absurd h36 (by decide)) (fun h36 => ?_)
      refine r_iconst (pc' := 40) X dX9_passes_39 rfl ?_
      refine r_goto (tgt := 44) X dX9_passes_40 rfl ?_
      refine r_iadd (pc' := 45) X dX9_passes_44 rfl ?_
      refine pf_29_place (pc' := 48) X gw_970 dX9_passes_45 rfl (fun M3 hM3 => ?_)
      refine r_iload_n (pc' := 49) X 2 dX9_passes_48 rfl rfl rfl ?_
      refine w_zret X hr (by decide) dX9_passes_49 ?_
      try dsimp only
      have e : (pC (M 29 1) L w w (ps, 0)) = (ps + 1, 0) := if_pos ⟨rfl, (show ps < L ∧ w ≤ M 29 1 ps ∧ M 29 1 ps ≤ w by omega)⟩
      rw [e, hM3]
      refine ⟨rfl, ?_, fun a b i q => ?_⟩
      · unfold wu
        rw [if_pos ⟨rfl, rfl, rfl⟩, hx3]
        first | rfl | (show (ps : Int) + 0 = ps; omega)
      · unfold wu
        rw [if_neg (by omega)]
theorem cf_X9_readDigit : wCal yX9_readDigit cX9_readDigit 4 (some .boolean) 2 := ⟨gw_1112, gw_10, by decide, by decide, by rfl⟩
set_option maxRecDepth 100000 in
set_option maxHeartbeats 4000000 in
theorem c_X9_readDigit (l : Launch) (G : wG) (M : wM) (a b : Int) (ha : 0 ≤ a ∧ a ≤ 9) (hb : -1 ≤ b ∧ b ≤ 9) (L ps : Nat) (hx : RxOk (M 29) L ps) : Met l yX9_readDigit (gws yX9_readDigit cX9_readDigit 4 (some .boolean)) (wrm 1 0 0) (wPc G M [vR G (29, 0), vI a, vI b]) (wQi G (fun z M1 => z = 1 - (pD (M 29 1) L a b (ps, 0)).2.2 ∧ M1 29 0 3 = ((pD (M 29 1) L a b (ps, 0)).2.1 : Int) ∧ ((pD (M 29 1) L a b (ps, 0)).2.2 = 0 → M1 29 0 4 = (pD (M 29 1) L a b (ps, 0)).1) ∧ RFr M M1)) 0 0 (wA G) := by
  refine wMet (lc := [(0, vR G (29, 0)), (1, vI a), (2, vI b)]) (by decide) (Nat.le_of_ble_eq_true rfl) rfl ?_
  intro p e s m args below meth c X hr
  have X : wX p s m args meth c G 4 "StateObserverModel" cX9_readDigit := X
  obtain ⟨hxL, hxL2, hx3, hx4, hxc⟩ := id hx
  have hcp : ps < 200 → _ := hxc ps
  refine r_aload_n (pc' := 1) X 0 dX9_readDigit_0 rfl rfl rfl ?_
  refine r_aload_n (pc' := 2) X 0 dX9_readDigit_1 rfl rfl rfl ?_
  refine gf_29_place (pc' := 5) X gw_970 dX9_readDigit_2 rfl ?_
  refine r_aload_n (pc' := 6) X 0 dX9_readDigit_5 rfl rfl rfl ?_
  refine gf_29_textSize (pc' := 9) X gw_969 dX9_readDigit_6 rfl ?_
  refine r_icmp_ge (pc' := 12) (tgt := 27) X dX9_readDigit_9 rfl rfl (by omega) (by omega) (fun h9 => ?_) (fun h9 => ?_)
  · refine r_bipush (pc' := 29) X dX9_readDigit_27 rfl rfl ?_
    refine pf_29_readNumber (pc' := 32) X gw_971 dX9_readDigit_29 rfl (fun M1 hM1 => ?_)
    obtain ⟨nu, hnu⟩ : ∃ x, x = M1 29 0 4 := ⟨_, rfl⟩
    have hnv : nu = -9 := by rw [hnu, hM1]; unfold wu; rw [if_pos ⟨rfl, rfl, rfl⟩]
    refine r_aload_n (pc' := 33) X 0 dX9_readDigit_32 rfl rfl rfl ?_
    refine gf_29_readNumber (pc' := 36) X gw_971 dX9_readDigit_33 rfl ?_
    refine w_eqI (z' := nu) hnu.symm ?_
    refine r_i2l (pc' := 37) X dX9_readDigit_36 (by omega) rfl ?_
    refine r_iload_n (pc' := 38) X 1 dX9_readDigit_37 rfl rfl rfl ?_
    refine r_i2l (pc' := 39) X dX9_readDigit_38 (by omega) rfl ?_
    refine r_iload_n (pc' := 40) X 2 dX9_readDigit_39 rfl rfl rfl ?_
    refine r_i2l (pc' := 41) X dX9_readDigit_40 (by omega) rfl ?_
    refine w_calli (pc' := 44) (st := []) (w_runS X (c_X9_in l G M1 nu a b (by first | assumption | omega) (by first | assumption | omega) (by first | assumption | omega)) cf_X9_in gw_1083 rfl rfl ⟨Nat.le_of_ble_eq_true rfl, Nat.le_of_ble_eq_true rfl⟩ rfl rfl (Nat.le_of_ble_eq_true rfl) ⟨Nat.le_of_ble_eq_true rfl, Nat.le_of_ble_eq_true rfl⟩ gw_1082 dX9_readDigit_41) rfl (fun z41 M2 h41 => ?_)
    have hz41 := h41.1
    obtain rfl := h41.2.symm
    have hi41 : z41 = 0 ∨ z41 = 1 := by rw [hz41]; split <;> omega
    have hq41 : z41 = 1 ↔ (a ≤ nu ∧ nu ≤ b) := by rw [hz41]; split <;> omega
    refine r_istore_n (pc' := 45) (lc' := [(0, vR G (29, 0)), (1, vI a), (2, vI b), (3, vI z41)]) X [1, 2, 3, 0] dX9_readDigit_44 rfl (by decide) rfl rfl ?_
    refine r_aload_n (pc' := 46) X 0 dX9_readDigit_45 rfl rfl rfl ?_
    refine r_dup (pc' := 47) X dX9_readDigit_46 rfl rfl ?_
    refine gf_29_place (pc' := 50) X gw_970 dX9_readDigit_47 rfl ?_
    refine w_eqI (z' := (ps : Int)) (by rw [hM1]; unfold wu; rw [if_neg (by omega)]; exact hx3) ?_
    refine r_iload_n (pc' := 51) X 3 dX9_readDigit_50 rfl rfl rfl ?_
    refine r_if_eq (pc' := 54) (tgt := 58) X dX9_readDigit_51 rfl rfl (by omega) (fun h51 => ?_) (fun h51 => ?_)
    · refine r_iconst (pc' := 59) X dX9_readDigit_58 rfl ?_
      refine r_iadd (pc' := 60) X dX9_readDigit_59 rfl ?_
      refine pf_29_place (pc' := 63) X gw_970 dX9_readDigit_60 rfl (fun M3 hM3 => ?_)
      refine r_iload_n (pc' := 64) X 3 dX9_readDigit_63 rfl rfl rfl ?_
      refine w_zret X hr (by omega) dX9_readDigit_64 ?_
      try dsimp only
      have e : pC (M 29 1) L (48 + a) (48 + b) (ps, 0) = (ps, 1) := if_neg (by simp only [true_and]; omega)
      unfold pD
      rw [e]
      refine ⟨by dsimp only; omega, ?_, fun q => ?_, fun a b i q => ?_⟩
      · rw [hM3]
        unfold wu
        rw [if_pos ⟨rfl, rfl, rfl⟩]
        first | rfl | (show (ps : Int) + 0 = ps; omega)
      · first
          | exact absurd (show (1 : Int) = 0 from q) (by decide)
          | (exfalso; omega)
          | (rw [hM3]
             unfold wu
             rw [if_neg (by omega), ← hnu, hnv]
             rfl)
      · rw [hM3, hM1]
        unfold wu
        rw [if_neg (by omega), if_neg (by omega)]
    · refine r_iconst (pc' := 55) X dX9_readDigit_54 rfl ?_
      refine r_goto (tgt := 59) X dX9_readDigit_55 rfl ?_
      refine r_iadd (pc' := 60) X dX9_readDigit_59 rfl ?_
      refine pf_29_place (pc' := 63) X gw_970 dX9_readDigit_60 rfl (fun M4 hM4 => ?_)
      refine r_iload_n (pc' := 64) X 3 dX9_readDigit_63 rfl rfl rfl ?_
      refine w_zret X hr (by omega) dX9_readDigit_64 ?_
      try dsimp only
      have e : pC (M 29 1) L (48 + a) (48 + b) (ps, 0) = (ps + 1, 0) := if_pos ⟨rfl, (show ps < L ∧ 48 + a ≤ M 29 1 ps ∧ M 29 1 ps ≤ 48 + b by omega)⟩
      unfold pD
      rw [e]
      refine ⟨by dsimp only; omega, ?_, fun q => ?_, fun a b i q => ?_⟩
      · rw [hM4]
        unfold wu
        rw [if_pos ⟨rfl, rfl, rfl⟩]
        first | rfl | (show (ps : Int) + 0 = ps; omega)
      · first
          | exact absurd (show (1 : Int) = 0 from q) (by decide)
          | (exfalso; omega)
          | (rw [hM4]
             unfold wu
             rw [if_neg (by omega), ← hnu, hnv]
             rfl)
      · rw [hM4, hM1]
        unfold wu
        rw [if_neg (by omega), if_neg (by omega)]
  · refine r_aload_n (pc' := 13) X 0 dX9_readDigit_12 rfl rfl rfl ?_
    refine gf_29_text (pc' := 16) X gw_968 dX9_readDigit_13 rfl ?_
    refine r_aload_n (pc' := 17) X 0 dX9_readDigit_16 rfl rfl rfl ?_
    refine gf_29_place (pc' := 20) X gw_970 dX9_readDigit_17 rfl ?_
    refine r_iald (i := ps) (pc' := 21) X k29_1 hx3 (by omega) (by decide) dX9_readDigit_20 rfl ?_
    refine r_bipush (pc' := 23) X dX9_readDigit_21 rfl rfl ?_
    refine r_isub (pc' := 24) X dX9_readDigit_23 rfl ?_
    refine r_goto (tgt := 29) X dX9_readDigit_24 rfl ?_
    refine pf_29_readNumber (pc' := 32) X gw_971 dX9_readDigit_29 rfl (fun M5 hM5 => ?_)
    obtain ⟨nu, hnu⟩ : ∃ x, x = M5 29 0 4 := ⟨_, rfl⟩
    have hnv : nu = M 29 1 ps - 48 := by rw [hnu, hM5]; unfold wu; rw [if_pos ⟨rfl, rfl, rfl⟩]
    refine r_aload_n (pc' := 33) X 0 dX9_readDigit_32 rfl rfl rfl ?_
    refine gf_29_readNumber (pc' := 36) X gw_971 dX9_readDigit_33 rfl ?_
    refine w_eqI (z' := nu) hnu.symm ?_
    refine r_i2l (pc' := 37) X dX9_readDigit_36 (by omega) rfl ?_
    refine r_iload_n (pc' := 38) X 1 dX9_readDigit_37 rfl rfl rfl ?_
    refine r_i2l (pc' := 39) X dX9_readDigit_38 (by omega) rfl ?_
    refine r_iload_n (pc' := 40) X 2 dX9_readDigit_39 rfl rfl rfl ?_
    refine r_i2l (pc' := 41) X dX9_readDigit_40 (by omega) rfl ?_
    refine w_calli (pc' := 44) (st := []) (w_runS X (c_X9_in l G M5 nu a b (by first | assumption | omega) (by first | assumption | omega) (by first | assumption | omega)) cf_X9_in gw_1083 rfl rfl ⟨Nat.le_of_ble_eq_true rfl, Nat.le_of_ble_eq_true rfl⟩ rfl rfl (Nat.le_of_ble_eq_true rfl) ⟨Nat.le_of_ble_eq_true rfl, Nat.le_of_ble_eq_true rfl⟩ gw_1082 dX9_readDigit_41) rfl (fun z41 M6 h41 => ?_)
    have hz41 := h41.1
    obtain rfl := h41.2.symm
    have hi41 : z41 = 0 ∨ z41 = 1 := by rw [hz41]; split <;> omega
    have hq41 : z41 = 1 ↔ (a ≤ nu ∧ nu ≤ b) := by rw [hz41]; split <;> omega
    refine r_istore_n (pc' := 45) (lc' := [(0, vR G (29, 0)), (1, vI a), (2, vI b), (3, vI z41)]) X [1, 2, 3, 0] dX9_readDigit_44 rfl (by decide) rfl rfl ?_
    refine r_aload_n (pc' := 46) X 0 dX9_readDigit_45 rfl rfl rfl ?_
    refine r_dup (pc' := 47) X dX9_readDigit_46 rfl rfl ?_
    refine gf_29_place (pc' := 50) X gw_970 dX9_readDigit_47 rfl ?_
    refine w_eqI (z' := (ps : Int)) (by rw [hM5]; unfold wu; rw [if_neg (by omega)]; exact hx3) ?_
    refine r_iload_n (pc' := 51) X 3 dX9_readDigit_50 rfl rfl rfl ?_
    refine r_if_eq (pc' := 54) (tgt := 58) X dX9_readDigit_51 rfl rfl (by omega) (fun h51 => ?_) (fun h51 => ?_)
    · refine r_iconst (pc' := 59) X dX9_readDigit_58 rfl ?_
      refine r_iadd (pc' := 60) X dX9_readDigit_59 rfl ?_
      refine pf_29_place (pc' := 63) X gw_970 dX9_readDigit_60 rfl (fun M7 hM7 => ?_)
      refine r_iload_n (pc' := 64) X 3 dX9_readDigit_63 rfl rfl rfl ?_
      refine w_zret X hr (by omega) dX9_readDigit_64 ?_
      try dsimp only
      have e : pC (M 29 1) L (48 + a) (48 + b) (ps, 0) = (ps, 1) := if_neg (by simp only [true_and]; omega)
      unfold pD
      rw [e]
      refine ⟨by dsimp only; omega, ?_, fun q => ?_, fun a b i q => ?_⟩
      · rw [hM7]
        unfold wu
        rw [if_pos ⟨rfl, rfl, rfl⟩]
        first | rfl | (show (ps : Int) + 0 = ps; omega)
      · first
          | exact absurd (show (1 : Int) = 0 from q) (by decide)
          | (exfalso; omega)
          | (rw [hM7]
             unfold wu
             rw [if_neg (by omega), ← hnu, hnv]
             rfl)
      · rw [hM7, hM5]
        unfold wu
        rw [if_neg (by omega), if_neg (by omega)]
    · refine r_iconst (pc' := 55) X dX9_readDigit_54 rfl ?_
      refine r_goto (tgt := 59) X dX9_readDigit_55 rfl ?_
      refine r_iadd (pc' := 60) X dX9_readDigit_59 rfl ?_
      refine pf_29_place (pc' := 63) X gw_970 dX9_readDigit_60 rfl (fun M8 hM8 => ?_)
      refine r_iload_n (pc' := 64) X 3 dX9_readDigit_63 rfl rfl rfl ?_
      refine w_zret X hr (by omega) dX9_readDigit_64 ?_
      try dsimp only
      have e : pC (M 29 1) L (48 + a) (48 + b) (ps, 0) = (ps + 1, 0) := if_pos ⟨rfl, (show ps < L ∧ 48 + a ≤ M 29 1 ps ∧ M 29 1 ps ≤ 48 + b by omega)⟩
      unfold pD
      rw [e]
      refine ⟨by dsimp only; omega, ?_, fun q => ?_, fun a b i q => ?_⟩
      · rw [hM8]
        unfold wu
        rw [if_pos ⟨rfl, rfl, rfl⟩]
        first | rfl | (show (ps : Int) + 0 = ps; omega)
      · first
          | exact absurd (show (1 : Int) = 0 from q) (by decide)
          | (exfalso; omega)
          | (rw [hM8]
             unfold wu
             rw [if_neg (by omega), ← hnu, hnv]
             rfl)
      · rw [hM8, hM5]
        unfold wu
        rw [if_neg (by omega), if_neg (by omega)]
