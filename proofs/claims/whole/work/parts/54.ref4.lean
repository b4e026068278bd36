theorem cf_X9_readTwo : wCal yX9_readTwo cX9_readTwo 3 (some .boolean) 1 := ⟨gw_1116, gw_10, by decide, by decide, by rfl⟩
set_option maxRecDepth 100000 in
set_option maxHeartbeats 4000000 in
theorem c_X9_readTwo (l : Launch) (G : wG) (M : wM) (a : Int) (ha : 0 ≤ a ∧ a ≤ 9) (L ps : Nat) (hx : RxOk (M 29) L ps) : Met l yX9_readTwo (gws yX9_readTwo cX9_readTwo 3 (some .boolean)) (wrm 2 0 0) (wPc G M [vR G (29, 0), vI a]) (wQi G (fun z M1 => z = 1 - (pT (M 29 1) L a (ps, 0)).2.2 ∧ M1 29 0 3 = ((pT (M 29 1) L a (ps, 0)).2.1 : Int) ∧ ((pT (M 29 1) L a (ps, 0)).2.2 = 0 → M1 29 0 4 = (pT (M 29 1) L a (ps, 0)).1) ∧ RFr M M1)) 0 0 (wA G) := by
  refine wMet (lc := [(0, vR G (29, 0)), (1, vI a)]) (by decide) (Nat.le_of_ble_eq_true rfl) rfl ?_
  intro p e s m args below meth c X hr
  have X : wX p s m args meth c G 3 "StateObserverModel" cX9_readTwo := X
  obtain ⟨hxL, hxL2, hx3, hx4, hxc⟩ := id hx
  have hcp : ps < 200 → _ := hxc ps
  have hok := pD_ok (ch := M 29 1) (L := L) (a := 0) (b := 9) (s := (ps, 0)) (show pOk L (ps, 0) from ⟨hx4, Or.inl rfl⟩)
  have hb1 := pD_bd (ch := M 29 1) (L := L) (a := 0) (b := 9) (s := (ps, 0)) (by decide) (by decide)
  obtain ⟨f0, hf0⟩ : ∃ x, x = (if (pD (M 29 1) L 0 9 (ps, 0)).1 = 0 then a else 0) := ⟨_, rfl⟩
  have hf1 : 0 ≤ f0 ∧ f0 ≤ 9 := by rw [hf0]; split <;> omega
  have hb2 := pD_bd (ch := M 29 1) (L := L) (a := f0) (b := 9) (s := (pD (M 29 1) L 0 9 (ps, 0)).2) (by omega) (by decide)
  have hok2 := pD_ok (ch := M 29 1) (L := L) (a := f0) (b := 9) hok
  refine r_aload_n (pc' := 1) X 0 dX9_readTwo_0 rfl rfl rfl ?_
  refine r_iconst (pc' := 2) X dX9_readTwo_1 rfl ?_
  refine r_bipush (pc' := 4) X dX9_readTwo_2 rfl rfl ?_
  refine w_calli (pc' := 7) (st := []) (w_runV X (c_X9_readDigit l G M 0 9 (by omega) (by omega) L ps hx) cf_X9_readDigit k29_0 rfl gw_1111 gp_29 rfl rfl ⟨Nat.le_of_ble_eq_true rfl, Nat.le_of_ble_eq_true rfl⟩ rfl rfl (Nat.le_of_ble_eq_true rfl) ⟨Nat.le_of_ble_eq_true rfl, Nat.le_of_ble_eq_true rfl⟩ gw_1109 dX9_readTwo_4) rfl (fun z4 M1 h4 => ?_)
  obtain ⟨g1, g2, g3, g4⟩ := h4
  have hx2 : RxOk (M1 29) L (pD (M 29 1) L 0 9 (ps, 0)).2.1 := g4.ok hx g2 hok.1
  have hz01 := hok.2
  refine r_if_ne (pc' := 10) (tgt := 12) X dX9_readTwo_7 rfl rfl (by omega) (fun h7 => ?_) (fun h7 => ?_)
  · have hd0 : (pD (M 29 1) L 0 9 (ps, 0)).2.2 = 0 := by omega
    have hst0 : ((pD (M 29 1) L 0 9 (ps, 0)).2.1, (0 : Int)) = (pD (M 29 1) L 0 9 (ps, 0)).2 := Prod.ext rfl hd0.symm
    obtain ⟨ten, hten0⟩ : ∃ x, x = (pD (M 29 1) L 0 9 (ps, 0)).1 := ⟨_, rfl⟩
    have hten := hten0.symm
    have hr4 := g3 hd0
    refine r_aload_n (pc' := 13) X 0 dX9_readTwo_12 rfl rfl rfl ?_
    refine gf_29_readNumber (pc' := 16) X gw_971 dX9_readTwo_13 rfl ?_
    refine w_eqI (z' := ten) (by rw [hr4, hten]) ?_
    refine r_istore_n (pc' := 17) (lc' := [(0, vR G (29, 0)), (1, vI a), (2, vI ten)]) X [1, 2, 0] dX9_readTwo_16 rfl (by decide) rfl rfl ?_
    refine r_aload_n (pc' := 18) X 0 dX9_readTwo_17 rfl rfl rfl ?_
    refine r_iload_n (pc' := 19) X 2 dX9_readTwo_18 rfl rfl rfl ?_
    refine r_if_ne (pc' := 22) (tgt := 26) X dX9_readTwo_19 rfl rfl (by omega) (fun h19 => ?_) (fun h19 => ?_)
    · refine r_iconst (pc' := 27) X dX9_readTwo_26 rfl ?_
      refine w_eqI (z' := f0) (by rw [hf0, hten]; first | rw [if_pos (by omega)] | rw [if_neg (by omega)]) ?_
      refine r_bipush (pc' := 29) X dX9_readTwo_27 rfl rfl ?_
      refine w_calli (pc' := 32) (st := []) (w_runV X (c_X9_readDigit l G M1 f0 9 hf1 (by omega) L ((pD (M 29 1) L 0 9 (ps, 0)).2.1) hx2) cf_X9_readDigit k29_0 rfl gw_1111 gp_29 rfl rfl ⟨Nat.le_of_ble_eq_true rfl, Nat.le_of_ble_eq_true rfl⟩ rfl rfl (Nat.le_of_ble_eq_true rfl) ⟨Nat.le_of_ble_eq_true rfl, Nat.le_of_ble_eq_true rfl⟩ gw_1109 dX9_readTwo_29) rfl (fun z29 M2 h29 => ?_)
      rw [g4.ch, hst0] at h29
      obtain ⟨k1, k2, k3, k4⟩ := h29
      have hz02 := hok2.2
      have eT : (pT (M 29 1) L a (ps, 0)) = (10 * ten + (pD (M 29 1) L f0 9 (pD (M 29 1) L 0 9 (ps, 0)).2).1, (pD (M 29 1) L f0 9 (pD (M 29 1) L 0 9 (ps, 0)).2).2) := by unfold pT; rw [← hf0, hten]
      refine r_if_ne (pc' := 35) (tgt := 37) X dX9_readTwo_32 rfl rfl (by omega) (fun h32 => ?_) (fun h32 => ?_)
      · refine r_aload_n (pc' := 38) X 0 dX9_readTwo_37 rfl rfl rfl ?_
        refine r_dup (pc' := 39) X dX9_readTwo_38 rfl rfl ?_
        refine gf_29_readNumber (pc' := 42) X gw_971 dX9_readTwo_39 rfl ?_
        refine r_bipush (pc' := 44) X dX9_readTwo_42 rfl rfl ?_
        refine r_iload_n (pc' := 45) X 2 dX9_readTwo_44 rfl rfl rfl ?_
        refine r_imul (pc' := 46) X dX9_readTwo_45 rfl ?_
        refine r_iadd (pc' := 47) X dX9_readTwo_46 rfl ?_
        refine pf_29_readNumber (pc' := 50) X gw_971 dX9_readTwo_47 rfl (fun M3 hM3 => ?_)
        refine r_iconst (pc' := 51) X dX9_readTwo_50 rfl ?_
        refine w_zret X hr (by decide) dX9_readTwo_51 ?_
        try dsimp only
        rw [eT]
        have kk3 := k3 (by omega)
        refine ⟨by dsimp only; omega, by rw [hM3]; unfold wu; rw [if_neg (by omega)]; exact k2, fun _ => ?_, (g4.trans k4).trans (fun a b i q => by rw [hM3]; unfold wu; rw [if_neg (by omega)])⟩
        rw [hM3]
        unfold wu
        rw [if_pos ⟨rfl, rfl, rfl⟩, kk3]
        dsimp only
        omega
      · refine r_iconst (pc' := 36) X dX9_readTwo_35 rfl ?_
        refine w_zret X hr (by decide) dX9_readTwo_36 ?_
        try dsimp only
        rw [eT]
        exact ⟨by dsimp only; omega, k2, fun q => absurd (show (pD (M 29 1) L f0 9 (pD (M 29 1) L 0 9 (ps, 0)).2).2.2 = 0 from q) (by omega), g4.trans k4⟩
    · refine r_iload_n (pc' := 23) X 1 dX9_readTwo_22 rfl rfl rfl ?_
      refine r_goto (tgt := 27) X dX9_readTwo_23 rfl ?_
      refine w_eqI (z' := f0) (by rw [hf0, hten]; first | rw [if_pos (by omega)] | rw [if_neg (by omega)]) ?_
      refine r_bipush (pc' := 29) X dX9_readTwo_27 rfl rfl ?_
      refine w_calli (pc' := 32) (st := []) (w_runV X (c_X9_readDigit l G M1 f0 9 hf1 (by omega) L ((pD (M 29 1) L 0 9 (ps, 0)).2.1) hx2) cf_X9_readDigit k29_0 rfl gw_1111 gp_29 rfl rfl ⟨Nat.le_of_ble_eq_true rfl, Nat.le_of_ble_eq_true rfl⟩ rfl rfl (Nat.le_of_ble_eq_true rfl) ⟨Nat.le_of_ble_eq_true rfl, Nat.le_of_ble_eq_true rfl⟩ gw_1109 dX9_readTwo_29) rfl (fun z29 M4 h29 => ?_)
      rw [g4.ch, hst0] at h29
      obtain ⟨k1, k2, k3, k4⟩ := h29
      have hz02 := hok2.2
      have eT : (pT (M 29 1) L a (ps, 0)) = (10 * ten + (pD (M 29 1) L f0 9 (pD (M 29 1) L 0 9 (ps, 0)).2).1, (pD (M 29 1) L f0 9 (pD (M 29 1) L 0 9 (ps, 0)).2).2) := by unfold pT; rw [← hf0, hten]
      refine r_if_ne (pc' := 35) (tgt := 37) X dX9_readTwo_32 rfl rfl (by omega) (fun h32 => ?_) (fun h32 => ?_)
      · refine r_aload_n (pc' := 38) X 0 dX9_readTwo_37 rfl rfl rfl ?_
        refine r_dup (pc' := 39) X dX9_readTwo_38 rfl rfl ?_
        refine gf_29_readNumber (pc' := 42) X gw_971 dX9_readTwo_39 rfl ?_
        refine r_bipush (pc' := 44) X dX9_readTwo_42 rfl rfl ?_
        refine r_iload_n (pc' := 45) X 2 dX9_readTwo_44 rfl rfl rfl ?_
        refine r_imul (pc' := 46) X dX9_readTwo_45 rfl ?_
        refine r_iadd (pc' := 47) X dX9_readTwo_46 rfl ?_
        refine pf_29_readNumber (pc' := 50) X gw_971 dX9_readTwo_47 rfl (fun M5 hM5 => ?_)
        refine r_iconst (pc' := 51) X dX9_readTwo_50 rfl ?_
        refine w_zret X hr (by decide) dX9_readTwo_51 ?_
        try dsimp only
        rw [eT]
        have kk3 := k3 (by omega)
        refine ⟨by dsimp only; omega, by rw [hM5]; unfold wu; rw [if_neg (by omega)]; exact k2, fun _ => ?_, (g4.trans k4).trans (fun a b i q => by rw [hM5]; unfold wu; rw [if_neg (by omega)])⟩
        rw [hM5]
        unfold wu
        rw [if_pos ⟨rfl, rfl, rfl⟩, kk3]
        dsimp only
        omega
      · refine r_iconst (pc' := 36) X dX9_readTwo_35 rfl ?_
        refine w_zret X hr (by decide) dX9_readTwo_36 ?_
        try dsimp only
        rw [eT]
        exact ⟨by dsimp only; omega, k2, fun q => absurd (show (pD (M 29 1) L f0 9 (pD (M 29 1) L 0 9 (ps, 0)).2).2.2 = 0 from q) (by omega), g4.trans k4⟩
  · refine r_iconst (pc' := 11) X dX9_readTwo_10 rfl ?_
    refine w_zret X hr (by decide) dX9_readTwo_11 ?_
    try dsimp only
    have hd1 : (pD (M 29 1) L 0 9 (ps, 0)).2.2 = 1 := by omega
    have eT : (pT (M 29 1) L a (ps, 0)).2 = (pD (M 29 1) L 0 9 (ps, 0)).2 := by unfold pT; rw [pD_1 hd1]
    rw [eT]
    exact ⟨by omega, g2, fun q => absurd q (by omega), g4⟩
