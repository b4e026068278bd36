theorem cf_X9_readOutput : wCal yX9_readOutput cX9_readOutput 3 (some .boolean) 1 := ⟨gw_1128, gw_10, by decide, by decide, by rfl⟩
set_option maxRecDepth 100000 in
set_option maxHeartbeats 4000000 in
theorem c_X9_readOutput (l : Launch) (G : wG) (M : wM) (k N : Nat) (hk : k < 3) (hN : M 29 0 12 = (N : Int)) (hN4 : N ≤ 4) (L ps : Nat) (hx : RxOk (M 29) L ps) : Met l yX9_readOutput (gws yX9_readOutput cX9_readOutput 3 (some .boolean)) (wrm 4 0 0) (wPc G M [vR G (29, 0), vI (k : Int)]) (wQi G (fun z M1 => z = 1 - (pT (M 29 1) L 1 (pI (M 29 1) L N (pC (M 29 1) L 111 111 (ps, 0)))).2.2 ∧ M1 29 0 3 = ((pT (M 29 1) L 1 (pI (M 29 1) L N (pC (M 29 1) L 111 111 (ps, 0)))).2.1 : Int) ∧ ((pT (M 29 1) L 1 (pI (M 29 1) L N (pC (M 29 1) L 111 111 (ps, 0)))).2.2 = 0 → (∀ j, j < N → M1 29 10 (4 * k + j) = rowF (M 29 1) L (pC (M 29 1) L 111 111 (ps, 0)) j) ∧ M1 29 11 k = (pT (M 29 1) L 1 (pI (M 29 1) L N (pC (M 29 1) L 111 111 (ps, 0)))).1) ∧ RFx (fun b i => (b = 10 ∧ 4 * k ≤ i ∧ i < 4 * k + N) ∨ (b = 11 ∧ i = k)) M M1)) 0 0 (wA G) := by
  refine wMet (lc := [(0, vR G (29, 0)), (1, vI (k : Int))]) (by decide) (Nat.le_of_ble_eq_true rfl) rfl ?_
  intro p e s m args below meth c X hr
  have X : wX p s m args meth c G 3 "StateObserverModel" cX9_readOutput := X
  obtain ⟨hxL, hxL2, hx3, hx4, hxc⟩ := id hx
  have hcp : ps < 200 → _ := hxc ps
  have hp0 : pOk L (ps, 0) := ⟨hx4, Or.inl rfl⟩
  have hcO : pOk L (pC (M 29 1) L 111 111 (ps, 0)) := pC_ok hp0
  refine r_aload_n (pc' := 1) X 0 dX9_readOutput_0 rfl rfl rfl ?_
  refine r_bipush (pc' := 3) X dX9_readOutput_1 rfl rfl ?_
  refine w_calli (pc' := 6) (st := []) (w_runV X (c_X9_passes l G M 111 (by omega) L ps hx) cf_X9_passes k29_0 rfl gw_1107 gp_28 rfl rfl ⟨Nat.le_of_ble_eq_true rfl, Nat.le_of_ble_eq_true rfl⟩ rfl rfl (Nat.le_of_ble_eq_true rfl) ⟨Nat.le_of_ble_eq_true rfl, Nat.le_of_ble_eq_true rfl⟩ gw_1105 dX9_readOutput_3) rfl (fun z3 M1 h3 => ?_)
  obtain ⟨g1, g2, g3⟩ := h3
  have hz3 := hcO.2
  refine r_if_ne (pc' := 9) (tgt := 11) X dX9_readOutput_6 rfl rfl (by omega) (fun h6 => ?_) (fun h6 => ?_)
  · refine r_iconst (pc' := 12) X dX9_readOutput_11 rfl ?_
    refine r_istore_n (pc' := 13) (lc' := [(0, vR G (29, 0)), (1, vI (k : Int)), (2, vI 0)]) X [1, 2, 0] dX9_readOutput_12 rfl (by decide) rfl rfl ?_
    have L13 : ∀ (fu : Nat) (j : Nat) (Ma : wM), N - j < fu → (j ≤ N) → ((pI (M 29 1) L j (pC (M 29 1) L 111 111 (ps, 0))).2 = 0) → (Ma 29 0 3 = ((pI (M 29 1) L j (pC (M 29 1) L 111 111 (ps, 0))).1 : Int)) → (∀ x, x < j → Ma 29 10 (4 * k + x) = rowF (M 29 1) L (pC (M 29 1) L 111 111 (ps, 0)) x) → (RFx (fun b i => (b = 10 ∧ 4 * k ≤ i ∧ i < 4 * k + N) ∨ (b = 11 ∧ i = k)) M Ma) → wV p l e (wrm 4 0 0) s m args below meth c G 3 Ma 0 0 (MQ below (wQi G (fun z M1 => z = 1 - (pT (M 29 1) L 1 (pI (M 29 1) L N (pC (M 29 1) L 111 111 (ps, 0)))).2.2 ∧ M1 29 0 3 = ((pT (M 29 1) L 1 (pI (M 29 1) L N (pC (M 29 1) L 111 111 (ps, 0)))).2.1 : Int) ∧ ((pT (M 29 1) L 1 (pI (M 29 1) L N (pC (M 29 1) L 111 111 (ps, 0)))).2.2 = 0 → (∀ j, j < N → M1 29 10 (4 * k + j) = rowF (M 29 1) L (pC (M 29 1) L 111 111 (ps, 0)) j) ∧ M1 29 11 k = (pT (M 29 1) L 1 (pI (M 29 1) L N (pC (M 29 1) L 111 111 (ps, 0)))).1) ∧ RFx (fun b i => (b = 10 ∧ 4 * k ≤ i ∧ i < 4 * k + N) ∨ (b = 11 ∧ i = k)) M M1)) args s 0 0 (wA G)) 13 [(0, vR G (29, 0)), (1, vI (k : Int)), (2, vI (j : Int))] [] := by
      intro fu
      induction fu with
      | zero => intro j Ma hfu; exact absurd hfu (Nat.not_lt_zero _)
      | succ fu ih13 =>
        intro j Ma hfu13 hj hs0 hpl hva hfr
        have hsj : ((pI (M 29 1) L j (pC (M 29 1) L 111 111 (ps, 0))).1, (0 : Int)) = (pI (M 29 1) L j (pC (M 29 1) L 111 111 (ps, 0))) := Prod.ext rfl hs0.symm
        have hch : Ma 29 1 = M 29 1 := funext fun i => hfr 29 1 i (by omega)
        have hNa : Ma 29 0 12 = N := by rw [hfr 29 0 12 (by omega)]; exact hN
        have hxa : RxOk (Ma 29) L (pI (M 29 1) L j (pC (M 29 1) L 111 111 (ps, 0))).1 := ⟨by rw [hfr 29 0 2 (by omega)]; exact hxL, hxL2, hpl, (pI_ok hcO j).1, by rw [hch]; exact hxc⟩
        refine r_iload_n (pc' := 14) X 2 dX9_readOutput_13 rfl rfl rfl ?_
        refine r_aload_n (pc' := 15) X 0 dX9_readOutput_14 rfl rfl rfl ?_
        refine gf_29_readStates (pc' := 18) X gw_979 dX9_readOutput_15 rfl ?_
        refine r_icmp_ge (pc' := 21) (tgt := 50) X dX9_readOutput_18 rfl rfl (by omega) (by omega) (fun h18 => ?_) (fun h18 => ?_)
        · refine r_aload_n (pc' := 51) X 0 dX9_readOutput_50 rfl rfl rfl ?_
          refine r_iconst (pc' := 52) X dX9_readOutput_51 rfl ?_
          refine w_calli (pc' := 55) (st := []) (w_runV X (c_X9_readTwo l G Ma 1 (by omega) L ((pI (M 29 1) L j (pC (M 29 1) L 111 111 (ps, 0))).1) hxa) cf_X9_readTwo k29_0 rfl gw_1115 gp_30 rfl rfl ⟨Nat.le_of_ble_eq_true rfl, Nat.le_of_ble_eq_true rfl⟩ rfl rfl (Nat.le_of_ble_eq_true rfl) ⟨Nat.le_of_ble_eq_true rfl, Nat.le_of_ble_eq_true rfl⟩ gw_1113 dX9_readOutput_52) rfl (fun z52 M2 h52 => ?_)
          rw [hch, hsj, show j = N by omega] at h52
          obtain ⟨j1, j2, j3, j4⟩ := h52
          have hz52 := (pT_ok (ch := M 29 1) (L := L) (a := 1) (pI_ok (ch := M 29 1) hcO N)).2
          have hfr2 := hfr.trans (j4.x (X := (fun b i => (b = 10 ∧ 4 * k ≤ i ∧ i < 4 * k + N) ∨ (b = 11 ∧ i = k))))
          refine r_if_ne (pc' := 58) (tgt := 60) X dX9_readOutput_55 rfl rfl (by omega) (fun h55 => ?_) (fun h55 => ?_)
          · refine r_aload_n (pc' := 61) X 0 dX9_readOutput_60 rfl rfl rfl ?_
            refine gf_29_readQuantum (pc' := 64) X gw_985 dX9_readOutput_61 rfl ?_
            refine r_iload_n (pc' := 65) X 1 dX9_readOutput_64 rfl rfl rfl ?_
            refine r_aload_n (pc' := 66) X 0 dX9_readOutput_65 rfl rfl rfl ?_
            refine gf_29_readNumber (pc' := 69) X gw_971 dX9_readOutput_66 rfl ?_
            refine r_iast (i := k) (pc' := 70) X k29_11 (by omega) (by omega) (by decide) dX9_readOutput_69 rfl (fun M3 hM3 => ?_)
            refine r_iconst (pc' := 71) X dX9_readOutput_70 rfl ?_
            refine w_zret X hr (by decide) dX9_readOutput_71 ?_
            try dsimp only
            have j5 := j3 (by omega)
            refine ⟨by omega, by rw [hM3, wu_ne (by omega)]; exact j2, fun _ => ⟨fun x hx => ?_, ?_⟩, hfr2.trans (fun a b i q => by rw [hM3]; unfold wu; rw [if_neg (fun w => q ⟨w.1, Or.inr (Or.inr ⟨w.2.1, w.2.2⟩)⟩)])⟩
            · rw [hM3, wu_ne (by omega), j4 29 10 (4 * k + x) (by omega)]
              exact hva x (by omega)
            · rw [hM3]
              unfold wu
              rw [if_pos ⟨rfl, rfl, rfl⟩]
              exact j5
          · refine r_iconst (pc' := 59) X dX9_readOutput_58 rfl ?_
            refine w_zret X hr (by decide) dX9_readOutput_59 ?_
            try dsimp only
            exact ⟨by omega, j2, fun q => absurd q (by omega), hfr2⟩
        · refine r_aload_n (pc' := 22) X 0 dX9_readOutput_21 rfl rfl rfl ?_
          refine w_calli (pc' := 25) (st := []) (w_runV X (c_X9_readSigned l G Ma L ((pI (M 29 1) L j (pC (M 29 1) L 111 111 (ps, 0))).1) hxa) cf_X9_readSigned k29_0 rfl gw_1123 gp_32 rfl rfl ⟨Nat.le_of_ble_eq_true rfl, Nat.le_of_ble_eq_true rfl⟩ rfl rfl (Nat.le_of_ble_eq_true rfl) ⟨Nat.le_of_ble_eq_true rfl, Nat.le_of_ble_eq_true rfl⟩ gw_1121 dX9_readOutput_22) rfl (fun z22 M4 h22 => ?_)
          rw [hch, hsj] at h22
          obtain ⟨j1, j2, j3, j4⟩ := h22
          have hz22 := (pI_ok (ch := M 29 1) hcO (j + 1)).2
          have hz22b : (pI (M 29 1) L (j + 1) (pC (M 29 1) L 111 111 (ps, 0))).2 = (pN (M 29 1) L (pI (M 29 1) L j (pC (M 29 1) L 111 111 (ps, 0)))).2.2 := rfl
          have hfr2 := hfr.trans (j4.x (X := (fun b i => (b = 10 ∧ 4 * k ≤ i ∧ i < 4 * k + N) ∨ (b = 11 ∧ i = k))))
          refine r_if_ne (pc' := 28) (tgt := 30) X dX9_readOutput_25 rfl rfl (by omega) (fun h25 => ?_) (fun h25 => ?_)
          · refine r_aload_n (pc' := 31) X 0 dX9_readOutput_30 rfl rfl rfl ?_
            refine gf_29_readView (pc' := 34) X gw_984 dX9_readOutput_31 rfl ?_
            refine r_iconst (pc' := 35) X dX9_readOutput_34 rfl ?_
            refine r_iload_n (pc' := 36) X 1 dX9_readOutput_35 rfl rfl rfl ?_
            refine r_imul (pc' := 37) X dX9_readOutput_36 rfl ?_
            refine r_iload_n (pc' := 38) X 2 dX9_readOutput_37 rfl rfl rfl ?_
            refine r_iadd (pc' := 39) X dX9_readOutput_38 rfl ?_
            refine r_aload_n (pc' := 40) X 0 dX9_readOutput_39 rfl rfl rfl ?_
            refine gf_29_readNumber (pc' := 43) X gw_971 dX9_readOutput_40 rfl ?_
            refine r_iast (i := (4 * k + j)) (pc' := 44) X k29_10 (by omega) (by omega) (by decide) dX9_readOutput_43 rfl (fun M5 hM5 => ?_)
            refine r_iinc (pc' := 47) (z' := ((j + 1 : Nat) : Int)) (lc' := [(0, vR G (29, 0)), (1, vI (k : Int)), (2, vI ((j + 1 : Nat) : Int))]) X 2 [1, 2, 0] dX9_readOutput_44 rfl (by omega) (by decide) rfl rfl ?_
            refine r_goto (tgt := 13) X dX9_readOutput_47 rfl ?_
            exact ih13 (j + 1) M5 (by omega) (by omega) (by omega) (by rw [hM5, wu_ne (by omega)]; exact j2) (fun x hx => by rw [hM5]; unfold wu; by_cases q : x = j; rw [if_pos ⟨rfl, rfl, by omega⟩, q]; exact j3 (by omega); rw [if_neg (by omega), j4 29 10 (4 * k + x) (by omega)]; exact hva x (by omega)) (hfr2.trans (fun a b i q => by rw [hM5]; unfold wu; rw [if_neg (fun w => q ⟨w.1, Or.inr (Or.inl ⟨w.2.1, by omega, by omega⟩)⟩)]))
          · refine r_iconst (pc' := 29) X dX9_readOutput_28 rfl ?_
            refine w_zret X hr (by decide) dX9_readOutput_29 ?_
            try dsimp only
            have hw : (pI (M 29 1) L (j + 1) (pC (M 29 1) L 111 111 (ps, 0))).2 = 1 := by omega
            have eI := pI_w hw (show j + 1 ≤ N by omega)
            have eT : (pT (M 29 1) L 1 (pI (M 29 1) L N (pC (M 29 1) L 111 111 (ps, 0)))).2 = pI (M 29 1) L (j + 1) (pC (M 29 1) L 111 111 (ps, 0)) := by rw [eI, pT_1 hw]
            rw [eT]
            exact ⟨by omega, j2, fun q => absurd q (by omega), hfr2⟩
    exact L13 ((N - 0) + 1) 0 M1 (Nat.lt_succ_self _) (by omega) (by show (pC (M 29 1) L 111 111 (ps, 0)).2 = 0; omega) g2 (fun x h => absurd h (Nat.not_lt_zero x)) g3.x
  · refine r_iconst (pc' := 10) X dX9_readOutput_9 rfl ?_
    refine w_zret X hr (by decide) dX9_readOutput_10 ?_
    try dsimp only
    have hw : (pC (M 29 1) L 111 111 (ps, 0)).2 = 1 := by omega
    have eT : (pT (M 29 1) L 1 (pI (M 29 1) L N (pC (M 29 1) L 111 111 (ps, 0)))).2 = (pC (M 29 1) L 111 111 (ps, 0)) := by rw [pI_1 hw, pT_1 hw]
    rw [eT]
    exact ⟨by omega, g2, fun q => absurd q (by omega), g3.x⟩
