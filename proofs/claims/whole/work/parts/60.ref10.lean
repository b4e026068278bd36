theorem cf_X9_readHead : wCal yX9_readHead cX9_readHead 1 (some .boolean) 0 := ⟨gw_1104, gw_10, by decide, by decide, by rfl⟩
set_option maxRecDepth 100000 in
set_option maxHeartbeats 4000000 in
theorem c_X9_readHead (l : Launch) (G : wG) (M : wM) (L : Nat) (hx : RxOk (M 29) L 0) : Met l yX9_readHead (gws yX9_readHead cX9_readHead 1 (some .boolean)) (wrm 3 0 0) (wPc G M [vR G (29, 0)]) (wQi G (fun z M1 => z = 1 - (rdS (M 29 1) L).2 ∧ M1 29 0 3 = ((rdS (M 29 1) L).1 : Int) ∧ ((rdS (M 29 1) L).2 = 0 → M1 29 0 12 = (hdN (M 29 1) L (0, 0)).1 ∧ M1 29 0 13 = (hdP (M 29 1) L (0, 0)).1 ∧ M1 29 12 29 = (hdB (M 29 1) L (0, 0)).1 ∧ M1 29 12 28 = (hdH (M 29 1) L (0, 0)).1) ∧ RFx (fun b i => (b = 0 ∧ (i = 12 ∨ i = 13)) ∨ (b = 12 ∧ (i = 28 ∨ i = 29))) M M1)) 0 0 (wA G) := by
  refine wMet (lc := [(0, vR G (29, 0))]) (by decide) (Nat.le_of_ble_eq_true rfl) rfl ?_
  intro p e s m args below meth c X hr
  have X : wX p s m args meth c G 1 "StateObserverModel" cX9_readHead := X
  have ok0 := rd0 (L := L)
  have ok3 := pC_ok (ch := M 29 1) (a := 78) (b := 78) ok0
  have w3 := ok3.2
  refine r_aload_n (pc' := 1) X 0 dX9_readHead_0 rfl rfl rfl ?_
  refine r_bipush (pc' := 3) X dX9_readHead_1 rfl rfl ?_
  refine w_calli (pc' := 6) (st := []) (w_runV X (c_X9_passes l G M 78 (by omega) L 0 hx) cf_X9_passes k29_0 rfl gw_1107 gp_28 rfl rfl ⟨Nat.le_of_ble_eq_true rfl, Nat.le_of_ble_eq_true rfl⟩ rfl rfl (Nat.le_of_ble_eq_true rfl) ⟨Nat.le_of_ble_eq_true rfl, Nat.le_of_ble_eq_true rfl⟩ gw_1105 dX9_readHead_3) rfl (fun z3 M1 h3 => ?_)
  obtain ⟨g1, g2, g3⟩ := h3
  have hx3 : RxOk (M1 29) L (pC (M 29 1) L 78 78 (0, 0)).1 := g3.ok hx g2 ok3.1
  have ec3 : M1 29 1 = M 29 1 := g3.ch
  have fr3 : RFx (fun b i => (b = 0 ∧ (i = 12 ∨ i = 13)) ∨ (b = 12 ∧ (i = 28 ∨ i = 29))) M M1 := g3.x
  refine r_if_eq (pc' := 9) (tgt := 18) X dX9_readHead_6 rfl rfl (by omega) (fun h6 => ?_) (fun h6 => ?_)
  · refine r_iconst (pc' := 19) X dX9_readHead_18 rfl ?_
    refine w_zret X hr (by decide) dX9_readHead_19 ?_
    try dsimp only
    have q : (pC (M 29 1) L 78 78 (0, 0)).2 = 1 := by omega
    rw [rdS_w1 q]
    exact ⟨by omega, g2, fun w => absurd w (by omega), fr3⟩
  · refine r_aload_n (pc' := 10) X 0 dX9_readHead_9 rfl rfl rfl ?_
    refine r_iconst (pc' := 11) X dX9_readHead_10 rfl ?_
    refine r_iconst (pc' := 12) X dX9_readHead_11 rfl ?_
    refine w_calli (pc' := 15) (st := []) (w_runV X (c_X9_readDigit l G M1 1 4 (by omega) (by omega) L ((pC (M 29 1) L 78 78 (0, 0)).1) hx3) cf_X9_readDigit k29_0 rfl gw_1111 gp_29 rfl rfl ⟨Nat.le_of_ble_eq_true rfl, Nat.le_of_ble_eq_true rfl⟩ rfl rfl (Nat.le_of_ble_eq_true rfl) ⟨Nat.le_of_ble_eq_true rfl, Nat.le_of_ble_eq_true rfl⟩ gw_1109 dX9_readHead_12) rfl (fun z12 M2 h12 => ?_)
    rw [ec3, show ((pC (M 29 1) L 78 78 (0, 0)).1, (0 : Int)) = (pC (M 29 1) L 78 78 (0, 0)) from Prod.ext rfl (by show (0 : Int) = _; omega)] at h12
    obtain ⟨k12, p12, v12, f12⟩ : z12 = 1 - (hdN (M 29 1) L (0, 0)).2.2 ∧ M2 29 0 3 = ((hdN (M 29 1) L (0, 0)).2.1 : Int) ∧ ((hdN (M 29 1) L (0, 0)).2.2 = 0 → M2 29 0 4 = (hdN (M 29 1) L (0, 0)).1) ∧ RFr M1 M2 := h12
    have ok12 : pOk L (hdN (M 29 1) L (0, 0)).2 := pD_ok ok3
    have w12 := ok12.2
    have hx12 : RxOk (M2 29) L (hdN (M 29 1) L (0, 0)).2.1 := f12.ok hx3 p12 ok12.1
    have ec12 : M2 29 1 = M 29 1 := f12.ch.trans ec3
    have fr12 : RFx (fun b i => (b = 0 ∧ (i = 12 ∨ i = 13)) ∨ (b = 12 ∧ (i = 28 ∨ i = 29))) M M2 := RFx.trans fr3 f12.x
    refine r_if_ne (pc' := 18) (tgt := 20) X dX9_readHead_15 rfl rfl (by omega) (fun h15 => ?_) (fun h15 => ?_)
    · refine r_aload_n (pc' := 21) X 0 dX9_readHead_20 rfl rfl rfl ?_
      refine r_aload_n (pc' := 22) X 0 dX9_readHead_21 rfl rfl rfl ?_
      refine gf_29_readNumber (pc' := 25) X gw_971 dX9_readHead_22 rfl ?_
      refine pf_29_readStates (pc' := 28) X gw_979 dX9_readHead_25 rfl (fun M3 hM3 => ?_)
      have hx28 : RxOk (M3 29) L (hdN (M 29 1) L (0, 0)).2.1 := by rw [hM3]; exact RxOk_wu hx12 (by omega) (by omega)
      have ec28 : M3 29 1 = M 29 1 := by rw [hM3, wu_ne (by omega)]; exact ec12
      have fr28 : RFx (fun b i => (b = 0 ∧ (i = 12 ∨ i = 13)) ∨ (b = 12 ∧ (i = 28 ∨ i = 29))) M M3 := RFx.trans fr12 (by rw [hM3]; exact RFx_wu (Or.inl ⟨rfl, Or.inl rfl⟩))
      have val28 : M3 29 0 12 = (hdN (M 29 1) L (0, 0)).1 := by rw [hM3]; unfold wu; rw [if_pos ⟨rfl, rfl, rfl⟩]; exact v12 (by omega)
      refine r_aload_n (pc' := 29) X 0 dX9_readHead_28 rfl rfl rfl ?_
      refine r_iconst (pc' := 30) X dX9_readHead_29 rfl ?_
      refine r_iconst (pc' := 31) X dX9_readHead_30 rfl ?_
      refine w_calli (pc' := 34) (st := []) (w_runV X (c_X9_readDigit l G M3 1 3 (by omega) (by omega) L ((hdN (M 29 1) L (0, 0)).2.1) hx28) cf_X9_readDigit k29_0 rfl gw_1111 gp_29 rfl rfl ⟨Nat.le_of_ble_eq_true rfl, Nat.le_of_ble_eq_true rfl⟩ rfl rfl (Nat.le_of_ble_eq_true rfl) ⟨Nat.le_of_ble_eq_true rfl, Nat.le_of_ble_eq_true rfl⟩ gw_1109 dX9_readHead_31) rfl (fun z31 M4 h31 => ?_)
      rw [ec28, show ((hdN (M 29 1) L (0, 0)).2.1, (0 : Int)) = (hdN (M 29 1) L (0, 0)).2 from Prod.ext rfl (by show (0 : Int) = _; omega)] at h31
      obtain ⟨k31, p31, v31, f31⟩ : z31 = 1 - (hdP (M 29 1) L (0, 0)).2.2 ∧ M4 29 0 3 = ((hdP (M 29 1) L (0, 0)).2.1 : Int) ∧ ((hdP (M 29 1) L (0, 0)).2.2 = 0 → M4 29 0 4 = (hdP (M 29 1) L (0, 0)).1) ∧ RFr M3 M4 := h31
      have ok31 : pOk L (hdP (M 29 1) L (0, 0)).2 := pD_ok ok12
      have w31 := ok31.2
      have hx31 : RxOk (M4 29) L (hdP (M 29 1) L (0, 0)).2.1 := f31.ok hx28 p31 ok31.1
      have ec31 : M4 29 1 = M 29 1 := f31.ch.trans ec28
      have fr31 : RFx (fun b i => (b = 0 ∧ (i = 12 ∨ i = 13)) ∨ (b = 12 ∧ (i = 28 ∨ i = 29))) M M4 := RFx.trans fr28 f31.x
      have val31 : M4 29 0 12 = (hdN (M 29 1) L (0, 0)).1 := by rw [f31 29 0 12 (by omega)]; exact val28
      refine r_if_ne (pc' := 37) (tgt := 39) X dX9_readHead_34 rfl rfl (by omega) (fun h34 => ?_) (fun h34 => ?_)
      · refine r_aload_n (pc' := 40) X 0 dX9_readHead_39 rfl rfl rfl ?_
        refine r_aload_n (pc' := 41) X 0 dX9_readHead_40 rfl rfl rfl ?_
        refine gf_29_readNumber (pc' := 44) X gw_971 dX9_readHead_41 rfl ?_
        refine pf_29_readOutputs (pc' := 47) X gw_980 dX9_readHead_44 rfl (fun M5 hM5 => ?_)
        have hx47 : RxOk (M5 29) L (hdP (M 29 1) L (0, 0)).2.1 := by rw [hM5]; exact RxOk_wu hx31 (by omega) (by omega)
        have ec47 : M5 29 1 = M 29 1 := by rw [hM5, wu_ne (by omega)]; exact ec31
        have fr47 : RFx (fun b i => (b = 0 ∧ (i = 12 ∨ i = 13)) ∨ (b = 12 ∧ (i = 28 ∨ i = 29))) M M5 := RFx.trans fr31 (by rw [hM5]; exact RFx_wu (Or.inl ⟨rfl, Or.inr rfl⟩))
        have val47 : M5 29 0 13 = (hdP (M 29 1) L (0, 0)).1 := by rw [hM5]; unfold wu; rw [if_pos ⟨rfl, rfl, rfl⟩]; exact v31 (by omega)
        have val47b : M5 29 0 12 = (hdN (M 29 1) L (0, 0)).1 := by rw [hM5]; unfold wu; rw [if_neg (by omega)]; exact val31
        refine r_aload_n (pc' := 48) X 0 dX9_readHead_47 rfl rfl rfl ?_
        refine r_iconst (pc' := 49) X dX9_readHead_48 rfl ?_
        refine w_calli (pc' := 52) (st := []) (w_runV X (c_X9_readTwo l G M5 0 (by omega) L ((hdP (M 29 1) L (0, 0)).2.1) hx47) cf_X9_readTwo k29_0 rfl gw_1115 gp_30 rfl rfl ⟨Nat.le_of_ble_eq_true rfl, Nat.le_of_ble_eq_true rfl⟩ rfl rfl (Nat.le_of_ble_eq_true rfl) ⟨Nat.le_of_ble_eq_true rfl, Nat.le_of_ble_eq_true rfl⟩ gw_1113 dX9_readHead_49) rfl (fun z49 M6 h49 => ?_)
        rw [ec47, show ((hdP (M 29 1) L (0, 0)).2.1, (0 : Int)) = (hdP (M 29 1) L (0, 0)).2 from Prod.ext rfl (by show (0 : Int) = _; omega)] at h49
        obtain ⟨k49, p49, v49, f49⟩ : z49 = 1 - (hdB (M 29 1) L (0, 0)).2.2 ∧ M6 29 0 3 = ((hdB (M 29 1) L (0, 0)).2.1 : Int) ∧ ((hdB (M 29 1) L (0, 0)).2.2 = 0 → M6 29 0 4 = (hdB (M 29 1) L (0, 0)).1) ∧ RFr M5 M6 := h49
        have ok49 : pOk L (hdB (M 29 1) L (0, 0)).2 := pT_ok ok31
        have w49 := ok49.2
        have hx49 : RxOk (M6 29) L (hdB (M 29 1) L (0, 0)).2.1 := f49.ok hx47 p49 ok49.1
        have ec49 : M6 29 1 = M 29 1 := f49.ch.trans ec47
        have fr49 : RFx (fun b i => (b = 0 ∧ (i = 12 ∨ i = 13)) ∨ (b = 12 ∧ (i = 28 ∨ i = 29))) M M6 := RFx.trans fr47 f49.x
        have val49 : M6 29 0 12 = (hdN (M 29 1) L (0, 0)).1 ∧ M6 29 0 13 = (hdP (M 29 1) L (0, 0)).1 := ⟨by rw [f49 29 0 12 (by omega)]; exact val47b, by rw [f49 29 0 13 (by omega)]; exact val47⟩
        refine r_if_ne (pc' := 55) (tgt := 57) X dX9_readHead_52 rfl rfl (by omega) (fun h52 => ?_) (fun h52 => ?_)
        · refine r_aload_n (pc' := 58) X 0 dX9_readHead_57 rfl rfl rfl ?_
          refine gf_29_readRow (pc' := 61) X gw_986 dX9_readHead_58 rfl ?_
          refine r_bipush (pc' := 63) X dX9_readHead_61 rfl rfl ?_
          refine r_aload_n (pc' := 64) X 0 dX9_readHead_63 rfl rfl rfl ?_
          refine gf_29_readNumber (pc' := 67) X gw_971 dX9_readHead_64 rfl ?_
          refine r_iast (i := 29) (pc' := 68) X k29_12 rfl (by omega) (by decide) dX9_readHead_67 rfl (fun M7 hM7 => ?_)
          have hx68 : RxOk (M7 29) L (hdB (M 29 1) L (0, 0)).2.1 := by rw [hM7]; exact RxOk_wu hx49 (by omega) (by omega)
          have ec68 : M7 29 1 = M 29 1 := by rw [hM7, wu_ne (by omega)]; exact ec49
          have fr68 : RFx (fun b i => (b = 0 ∧ (i = 12 ∨ i = 13)) ∨ (b = 12 ∧ (i = 28 ∨ i = 29))) M M7 := RFx.trans fr49 (by rw [hM7]; exact RFx_wu (Or.inr ⟨rfl, Or.inr rfl⟩))
          have val68 : M7 29 12 29 = (hdB (M 29 1) L (0, 0)).1 := by rw [hM7]; unfold wu; rw [if_pos ⟨rfl, rfl, rfl⟩]; exact v49 (by omega)
          have val68b : M7 29 0 12 = (hdN (M 29 1) L (0, 0)).1 ∧ M7 29 0 13 = (hdP (M 29 1) L (0, 0)).1 := by rw [hM7, wu_ne (by omega)]; exact val49
          refine r_aload_n (pc' := 69) X 0 dX9_readHead_68 rfl rfl rfl ?_
          refine r_iconst (pc' := 70) X dX9_readHead_69 rfl ?_
          refine r_bipush (pc' := 72) X dX9_readHead_70 rfl rfl ?_
          refine w_calli (pc' := 75) (st := []) (w_runV X (c_X9_readDigit l G M7 0 9 (by omega) (by omega) L ((hdB (M 29 1) L (0, 0)).2.1) hx68) cf_X9_readDigit k29_0 rfl gw_1111 gp_29 rfl rfl ⟨Nat.le_of_ble_eq_true rfl, Nat.le_of_ble_eq_true rfl⟩ rfl rfl (Nat.le_of_ble_eq_true rfl) ⟨Nat.le_of_ble_eq_true rfl, Nat.le_of_ble_eq_true rfl⟩ gw_1109 dX9_readHead_72) rfl (fun z72 M8 h72 => ?_)
          rw [ec68, show ((hdB (M 29 1) L (0, 0)).2.1, (0 : Int)) = (hdB (M 29 1) L (0, 0)).2 from Prod.ext rfl (by show (0 : Int) = _; omega)] at h72
          obtain ⟨k72, p72, v72, f72⟩ : z72 = 1 - (hdH (M 29 1) L (0, 0)).2.2 ∧ M8 29 0 3 = ((hdH (M 29 1) L (0, 0)).2.1 : Int) ∧ ((hdH (M 29 1) L (0, 0)).2.2 = 0 → M8 29 0 4 = (hdH (M 29 1) L (0, 0)).1) ∧ RFr M7 M8 := h72
          have ok72 : pOk L (hdH (M 29 1) L (0, 0)).2 := pD_ok ok49
          have w72 := ok72.2
          have hx72 : RxOk (M8 29) L (hdH (M 29 1) L (0, 0)).2.1 := f72.ok hx68 p72 ok72.1
          have ec72 : M8 29 1 = M 29 1 := f72.ch.trans ec68
          have fr72 : RFx (fun b i => (b = 0 ∧ (i = 12 ∨ i = 13)) ∨ (b = 12 ∧ (i = 28 ∨ i = 29))) M M8 := RFx.trans fr68 f72.x
          have val72 : M8 29 0 12 = (hdN (M 29 1) L (0, 0)).1 ∧ M8 29 0 13 = (hdP (M 29 1) L (0, 0)).1 ∧ M8 29 12 29 = (hdB (M 29 1) L (0, 0)).1 := ⟨by rw [f72 29 0 12 (by omega)]; exact val68b.1, by rw [f72 29 0 13 (by omega)]; exact val68b.2, by rw [f72 29 12 29 (by omega)]; exact val68⟩
          have eS : (rdS (M 29 1) L) = (hdH (M 29 1) L (0, 0)).2 := rfl
          refine r_if_ne (pc' := 78) (tgt := 80) X dX9_readHead_75 rfl rfl (by omega) (fun h75 => ?_) (fun h75 => ?_)
          · refine r_aload_n (pc' := 81) X 0 dX9_readHead_80 rfl rfl rfl ?_
            refine gf_29_readRow (pc' := 84) X gw_986 dX9_readHead_81 rfl ?_
            refine r_bipush (pc' := 86) X dX9_readHead_84 rfl rfl ?_
            refine r_aload_n (pc' := 87) X 0 dX9_readHead_86 rfl rfl rfl ?_
            refine gf_29_readNumber (pc' := 90) X gw_971 dX9_readHead_87 rfl ?_
            refine r_iast (i := 28) (pc' := 91) X k29_12 rfl (by omega) (by decide) dX9_readHead_90 rfl (fun M9 hM9 => ?_)
            refine r_iconst (pc' := 92) X dX9_readHead_91 rfl ?_
            refine w_zret X hr (by decide) dX9_readHead_92 ?_
            try dsimp only
            rw [eS]
            refine ⟨by omega, by rw [hM9, wu_ne (by omega)]; exact p72, fun _ => ⟨by rw [hM9, wu_ne (by omega)]; exact val72.1, by rw [hM9, wu_ne (by omega)]; exact val72.2.1, ?_, ?_⟩, RFx.trans fr72 (by rw [hM9]; exact RFx_wu (Or.inr ⟨rfl, Or.inl rfl⟩))⟩
            · rw [hM9]; unfold wu; rw [if_neg (by omega)]; exact val72.2.2
            · rw [hM9]; unfold wu; rw [if_pos ⟨rfl, rfl, rfl⟩]; exact v72 (by omega)
          · refine r_iconst (pc' := 79) X dX9_readHead_78 rfl ?_
            refine w_zret X hr (by decide) dX9_readHead_79 ?_
            try dsimp only
            rw [eS]
            exact ⟨by omega, p72, fun w => absurd w (by omega), fr72⟩
        · refine r_iconst (pc' := 56) X dX9_readHead_55 rfl ?_
          refine w_zret X hr (by decide) dX9_readHead_56 ?_
          try dsimp only
          have q : (hdB (M 29 1) L (0, 0)).2.2 = 1 := by omega
          rw [rdS_w4 q]
          exact ⟨by omega, p49, fun w => absurd w (by omega), fr49⟩
      · refine r_iconst (pc' := 38) X dX9_readHead_37 rfl ?_
        refine w_zret X hr (by decide) dX9_readHead_38 ?_
        try dsimp only
        have q : (hdP (M 29 1) L (0, 0)).2.2 = 1 := by omega
        rw [rdS_w3 q]
        exact ⟨by omega, p31, fun w => absurd w (by omega), fr31⟩
    · refine r_iconst (pc' := 19) X dX9_readHead_18 rfl ?_
      refine w_zret X hr (by decide) dX9_readHead_19 ?_
      try dsimp only
      have q : (hdN (M 29 1) L (0, 0)).2.2 = 1 := by omega
      rw [rdS_w2 q]
      exact ⟨by omega, p12, fun w => absurd w (by omega), fr12⟩
theorem cf_X9_readGain : wCal yX9_readGain cX9_readGain 3 (some .boolean) 0 := ⟨gw_1132, gw_10, by decide, by decide, by rfl⟩
set_option maxRecDepth 100000 in
set_option maxHeartbeats 4000000 in
theorem c_X9_readGain (l : Launch) (G : wG) (M : wM) (N P : Nat) (hN : M 29 0 12 = (N : Int)) (hN4 : 1 ≤ N ∧ N ≤ 4) (hP : M 29 0 13 = (P : Int)) (hP3 : 1 ≤ P ∧ P ≤ 3) (L ps : Nat) (hx : RxOk (M 29) L ps) : Met l yX9_readGain (gws yX9_readGain cX9_readGain 3 (some .boolean)) (wrm 4 0 0) (wPc G M [vR G (29, 0)]) (wQi G (fun z M1 => z = 1 - (gV (M 29 1) L N P (ps, 0)).2.2 ∧ M1 29 0 3 = ((gV (M 29 1) L N P (ps, 0)).2.1 : Int) ∧ ((gV (M 29 1) L N P (ps, 0)).2.2 = 0 → ((gI (M 29 1) L N (ps, 0)).1.toNat < 4 ∧ (gK (M 29 1) L N P (ps, 0)).1.toNat < 3) ∧ M1 29 12 = up1 (M 29 12) (16 + 3 * (gI (M 29 1) L N (ps, 0)).1.toNat + (gK (M 29 1) L N P (ps, 0)).1.toNat) (gV (M 29 1) L N P (ps, 0)).1) ∧ RFx (fun b i => b = 12 ∧ 16 ≤ i ∧ i < 28) M M1)) 0 0 (wA G) := by
  refine wMet (lc := [(0, vR G (29, 0))]) (by decide) (Nat.le_of_ble_eq_true rfl) rfl ?_
  intro p e s m args below meth c X hr
  have X : wX p s m args meth c G 3 "StateObserverModel" cX9_readGain := X
  obtain ⟨hxL, hxL2, hx3, hx4, hxc⟩ := id hx
  have hcp : ps < 200 → _ := hxc ps
  have ok0 : pOk L (ps, 0) := ⟨hx4, Or.inl rfl⟩
  have ok3 := pC_ok (ch := M 29 1) (a := 103) (b := 103) ok0
  have w3 := ok3.2
  have bI := pD_rng (ch := M 29 1) (L := L) (a := 0) (b := (N : Int) - 1) (s := (pC (M 29 1) L 103 103 (ps, 0)))
  have bK := pD_rng (ch := M 29 1) (L := L) (a := 0) (b := (P : Int) - 1) (s := (gI (M 29 1) L N (ps, 0)).2)
  refine r_aload_n (pc' := 1) X 0 dX9_readGain_0 rfl rfl rfl ?_
  refine r_bipush (pc' := 3) X dX9_readGain_1 rfl rfl ?_
  refine w_calli (pc' := 6) (st := []) (w_runV X (c_X9_passes l G M 103 (by omega) L ps hx) cf_X9_passes k29_0 rfl gw_1107 gp_28 rfl rfl ⟨Nat.le_of_ble_eq_true rfl, Nat.le_of_ble_eq_true rfl⟩ rfl rfl (Nat.le_of_ble_eq_true rfl) ⟨Nat.le_of_ble_eq_true rfl, Nat.le_of_ble_eq_true rfl⟩ gw_1105 dX9_readGain_3) rfl (fun z3 M1 h3 => ?_)
  obtain ⟨g1, g2, g3⟩ := h3
  have hx3 : RxOk (M1 29) L (pC (M 29 1) L 103 103 (ps, 0)).1 := g3.ok hx g2 ok3.1
  have ec3 : M1 29 1 = M 29 1 := g3.ch
  have fr3 : RFx (fun b i => b = 12 ∧ 16 ≤ i ∧ i < 28) M M1 := g3.x
  have hN3 : M1 29 0 12 = N := by rw [g3 29 0 12 (by omega)]; exact hN
  refine r_if_eq (pc' := 9) (tgt := 23) X dX9_readGain_6 rfl rfl (by omega) (fun h6 => ?_) (fun h6 => ?_)
  · refine r_iconst (pc' := 24) X dX9_readGain_23 rfl ?_
    refine w_zret X hr (by decide) dX9_readGain_24 ?_
    try dsimp only
    have q : (pC (M 29 1) L 103 103 (ps, 0)).2 = 1 := by omega
    rw [gV_w1 q]
    exact ⟨by omega, g2, fun w => absurd w (by omega), fr3⟩
  · refine r_aload_n (pc' := 10) X 0 dX9_readGain_9 rfl rfl rfl ?_
    refine r_iconst (pc' := 11) X dX9_readGain_10 rfl ?_
    refine r_aload_n (pc' := 12) X 0 dX9_readGain_11 rfl rfl rfl ?_
    refine gf_29_readStates (pc' := 15) X gw_979 dX9_readGain_12 rfl ?_
    refine w_eqI (z' := (N : Int)) hN3 ?_
    refine r_iconst (pc' := 16) X dX9_readGain_15 rfl ?_
    refine r_isub (pc' := 17) X dX9_readGain_16 rfl ?_
    refine w_calli (pc' := 20) (st := []) (w_runV X (c_X9_readDigit l G M1 0 ((N : Int) - 1) (by omega) (by omega) L ((pC (M 29 1) L 103 103 (ps, 0)).1) hx3) cf_X9_readDigit k29_0 rfl gw_1111 gp_29 rfl rfl ⟨Nat.le_of_ble_eq_true rfl, Nat.le_of_ble_eq_true rfl⟩ rfl rfl (Nat.le_of_ble_eq_true rfl) ⟨Nat.le_of_ble_eq_true rfl, Nat.le_of_ble_eq_true rfl⟩ gw_1109 dX9_readGain_17) rfl (fun z17 M2 h17 => ?_)
    rw [ec3, show ((pC (M 29 1) L 103 103 (ps, 0)).1, (0 : Int)) = (pC (M 29 1) L 103 103 (ps, 0)) from Prod.ext rfl (by show (0 : Int) = _; omega)] at h17
    obtain ⟨k17, p17, v17, f17⟩ : z17 = 1 - (gI (M 29 1) L N (ps, 0)).2.2 ∧ M2 29 0 3 = ((gI (M 29 1) L N (ps, 0)).2.1 : Int) ∧ ((gI (M 29 1) L N (ps, 0)).2.2 = 0 → M2 29 0 4 = (gI (M 29 1) L N (ps, 0)).1) ∧ RFr M1 M2 := h17
    have ok17 : pOk L (gI (M 29 1) L N (ps, 0)).2 := pD_ok ok3
    have w17 := ok17.2
    have hx17 : RxOk (M2 29) L (gI (M 29 1) L N (ps, 0)).2.1 := f17.ok hx3 p17 ok17.1
    have ec17 : M2 29 1 = M 29 1 := f17.ch.trans ec3
    have fr17 : RFx (fun b i => b = 12 ∧ 16 ≤ i ∧ i < 28) M M2 := RFx.trans fr3 f17.x
    refine r_if_ne (pc' := 23) (tgt := 25) X dX9_readGain_20 rfl rfl (by omega) (fun h20 => ?_) (fun h20 => ?_)
    · refine r_aload_n (pc' := 26) X 0 dX9_readGain_25 rfl rfl rfl ?_
      refine gf_29_readNumber (pc' := 29) X gw_971 dX9_readGain_26 rfl ?_
      have bI1 := bI.1 (show (gI (M 29 1) L N (ps, 0)).2.2 = 0 by omega)
      obtain ⟨ni, hni⟩ : ∃ ni : Nat, (gI (M 29 1) L N (ps, 0)).1 = (ni : Int) := ⟨(gI (M 29 1) L N (ps, 0)).1.toNat, by have : 0 ≤ (gI (M 29 1) L N (ps, 0)).1 := bI1.1; omega⟩
      have hni4 : ni < N := by have : (gI (M 29 1) L N (ps, 0)).1 ≤ (N : Int) - 1 := bI1.2; omega
      have hP17 : M2 29 0 13 = P := by rw [fr17 29 0 13 (by omega)]; exact hP
      refine w_eqI (z' := (ni : Int)) (by rw [v17 (by omega)]; exact hni) ?_
      refine r_istore_n (pc' := 30) (lc' := [(0, vR G (29, 0)), (1, vI (ni : Int))]) X [1, 0] dX9_readGain_29 rfl (by decide) rfl rfl ?_
      refine r_aload_n (pc' := 31) X 0 dX9_readGain_30 rfl rfl rfl ?_
      refine r_iconst (pc' := 32) X dX9_readGain_31 rfl ?_
      refine r_aload_n (pc' := 33) X 0 dX9_readGain_32 rfl rfl rfl ?_
      refine gf_29_readOutputs (pc' := 36) X gw_980 dX9_readGain_33 rfl ?_
      refine w_eqI (z' := (P : Int)) hP17 ?_
      refine r_iconst (pc' := 37) X dX9_readGain_36 rfl ?_
      refine r_isub (pc' := 38) X dX9_readGain_37 rfl ?_
      refine w_calli (pc' := 41) (st := []) (w_runV X (c_X9_readDigit l G M2 0 ((P : Int) - 1) (by omega) (by omega) L ((gI (M 29 1) L N (ps, 0)).2.1) hx17) cf_X9_readDigit k29_0 rfl gw_1111 gp_29 rfl rfl ⟨Nat.le_of_ble_eq_true rfl, Nat.le_of_ble_eq_true rfl⟩ rfl rfl (Nat.le_of_ble_eq_true rfl) ⟨Nat.le_of_ble_eq_true rfl, Nat.le_of_ble_eq_true rfl⟩ gw_1109 dX9_readGain_38) rfl (fun z38 M3 h38 => ?_)
      rw [ec17, show ((gI (M 29 1) L N (ps, 0)).2.1, (0 : Int)) = (gI (M 29 1) L N (ps, 0)).2 from Prod.ext rfl (by show (0 : Int) = _; omega)] at h38
      obtain ⟨k38, p38, v38, f38⟩ : z38 = 1 - (gK (M 29 1) L N P (ps, 0)).2.2 ∧ M3 29 0 3 = ((gK (M 29 1) L N P (ps, 0)).2.1 : Int) ∧ ((gK (M 29 1) L N P (ps, 0)).2.2 = 0 → M3 29 0 4 = (gK (M 29 1) L N P (ps, 0)).1) ∧ RFr M2 M3 := h38
      have ok38 : pOk L (gK (M 29 1) L N P (ps, 0)).2 := pD_ok ok17
      have w38 := ok38.2
      have hx38 : RxOk (M3 29) L (gK (M 29 1) L N P (ps, 0)).2.1 := f38.ok hx17 p38 ok38.1
      have ec38 : M3 29 1 = M 29 1 := f38.ch.trans ec17
      have fr38 : RFx (fun b i => b = 12 ∧ 16 ≤ i ∧ i < 28) M M3 := RFx.trans fr17 f38.x
      refine r_if_ne (pc' := 44) (tgt := 46) X dX9_readGain_41 rfl rfl (by omega) (fun h41 => ?_) (fun h41 => ?_)
      · refine r_aload_n (pc' := 47) X 0 dX9_readGain_46 rfl rfl rfl ?_
        refine gf_29_readNumber (pc' := 50) X gw_971 dX9_readGain_47 rfl ?_
        have bK1 := bK.1 (show (gK (M 29 1) L N P (ps, 0)).2.2 = 0 by omega)
        obtain ⟨nk, hnk⟩ : ∃ nk : Nat, (gK (M 29 1) L N P (ps, 0)).1 = (nk : Int) := ⟨(gK (M 29 1) L N P (ps, 0)).1.toNat, by have : 0 ≤ (gK (M 29 1) L N P (ps, 0)).1 := bK1.1; omega⟩
        have hnk4 : nk < P := by have : (gK (M 29 1) L N P (ps, 0)).1 ≤ (P : Int) - 1 := bK1.2; omega
        refine w_eqI (z' := (nk : Int)) (by rw [v38 (by omega)]; exact hnk) ?_
        refine r_istore_n (pc' := 51) (lc' := [(0, vR G (29, 0)), (1, vI (ni : Int)), (2, vI (nk : Int))]) X [1, 2, 0] dX9_readGain_50 rfl (by decide) rfl rfl ?_
        refine r_aload_n (pc' := 52) X 0 dX9_readGain_51 rfl rfl rfl ?_
        refine w_calli (pc' := 55) (st := []) (w_runV X (c_X9_readSigned l G M3 L ((gK (M 29 1) L N P (ps, 0)).2.1) hx38) cf_X9_readSigned k29_0 rfl gw_1123 gp_32 rfl rfl ⟨Nat.le_of_ble_eq_true rfl, Nat.le_of_ble_eq_true rfl⟩ rfl rfl (Nat.le_of_ble_eq_true rfl) ⟨Nat.le_of_ble_eq_true rfl, Nat.le_of_ble_eq_true rfl⟩ gw_1121 dX9_readGain_52) rfl (fun z52 M4 h52 => ?_)
        rw [ec38, show ((gK (M 29 1) L N P (ps, 0)).2.1, (0 : Int)) = (gK (M 29 1) L N P (ps, 0)).2 from Prod.ext rfl (by show (0 : Int) = _; omega)] at h52
        obtain ⟨k52, p52, v52, f52⟩ : z52 = 1 - (gV (M 29 1) L N P (ps, 0)).2.2 ∧ M4 29 0 3 = ((gV (M 29 1) L N P (ps, 0)).2.1 : Int) ∧ ((gV (M 29 1) L N P (ps, 0)).2.2 = 0 → M4 29 0 4 = (gV (M 29 1) L N P (ps, 0)).1) ∧ RFr M3 M4 := h52
        have ok52 : pOk L (gV (M 29 1) L N P (ps, 0)).2 := pN_ok ok38
        have w52 := ok52.2
        have hx52 : RxOk (M4 29) L (gV (M 29 1) L N P (ps, 0)).2.1 := f52.ok hx38 p52 ok52.1
        have ec52 : M4 29 1 = M 29 1 := f52.ch.trans ec38
        have fr52 : RFx (fun b i => b = 12 ∧ 16 ≤ i ∧ i < 28) M M4 := RFx.trans fr38 f52.x
        refine r_if_ne (pc' := 58) (tgt := 60) X dX9_readGain_55 rfl rfl (by omega) (fun h55 => ?_) (fun h55 => ?_)
        · refine r_aload_n (pc' := 61) X 0 dX9_readGain_60 rfl rfl rfl ?_
          refine gf_29_readRow (pc' := 64) X gw_986 dX9_readGain_61 rfl ?_
          refine r_bipush (pc' := 66) X dX9_readGain_64 rfl rfl ?_
          refine r_iconst (pc' := 67) X dX9_readGain_66 rfl ?_
          refine r_iload_n (pc' := 68) X 1 dX9_readGain_67 rfl rfl rfl ?_
          refine r_imul (pc' := 69) X dX9_readGain_68 rfl ?_
          refine r_iadd (pc' := 70) X dX9_readGain_69 rfl ?_
          refine r_iload_n (pc' := 71) X 2 dX9_readGain_70 rfl rfl rfl ?_
          refine r_iadd (pc' := 72) X dX9_readGain_71 rfl ?_
          refine r_aload_n (pc' := 73) X 0 dX9_readGain_72 rfl rfl rfl ?_
          refine gf_29_readNumber (pc' := 76) X gw_971 dX9_readGain_73 rfl ?_
          refine r_iast (i := (16 + 3 * ni + nk)) (pc' := 77) X k29_12 (by omega) (by omega) (by decide) dX9_readGain_76 rfl (fun M5 hM5 => ?_)
          refine r_iconst (pc' := 78) X dX9_readGain_77 rfl ?_
          refine w_zret X hr (by decide) dX9_readGain_78 ?_
          try dsimp only
          refine ⟨by omega, by rw [hM5, wu_ne (by omega)]; exact p52, fun _ => ⟨by rw [hni, hnk]; simp only [Int.toNat_natCast]; omega, ?_⟩, RFx.trans fr52 (by rw [hM5]; exact RFx_wu ⟨rfl, by omega, by omega⟩)⟩
          rw [hni, hnk, hM5, wu_eq, v52 (by omega)]
          have e12 : M4 29 12 = M 29 12 := by rw [funext fun i => f52 29 12 i (by omega), funext fun i => f38 29 12 i (by omega), funext fun i => f17 29 12 i (by omega), funext fun i => g3 29 12 i (by omega)]
          rw [e12]
          rfl
        · refine r_iconst (pc' := 59) X dX9_readGain_58 rfl ?_
          refine w_zret X hr (by decide) dX9_readGain_59 ?_
          try dsimp only
          exact ⟨by omega, p52, fun w => absurd w (by omega), fr52⟩
      · refine r_iconst (pc' := 45) X dX9_readGain_44 rfl ?_
        refine w_zret X hr (by decide) dX9_readGain_45 ?_
        try dsimp only
        have q : (gK (M 29 1) L N P (ps, 0)).2.2 = 1 := by omega
        have e := gV_w q
        have e2 : (gV (M 29 1) L N P (ps, 0)).2 = (gK (M 29 1) L N P (ps, 0)).2 := by rw [e]
        rw [e2]
        exact ⟨by omega, p38, fun w => absurd w (by omega), fr38⟩
    · refine r_iconst (pc' := 24) X dX9_readGain_23 rfl ?_
      refine w_zret X hr (by decide) dX9_readGain_24 ?_
      try dsimp only
      have q : (gI (M 29 1) L N (ps, 0)).2.2 = 1 := by omega
      rw [gV_w2 q]
      exact ⟨by omega, p17, fun w => absurd w (by omega), fr17⟩
