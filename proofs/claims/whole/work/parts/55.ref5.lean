theorem cf_X9_readSigned : wCal yX9_readSigned cX9_readSigned 2 (some .boolean) 0 := ⟨gw_1124, gw_10, by decide, by decide, by rfl⟩
set_option maxRecDepth 100000 in
set_option maxHeartbeats 4000000 in
theorem c_X9_readSigned (l : Launch) (G : wG) (M : wM) (L ps : Nat) (hx : RxOk (M 29) L ps) : Met l yX9_readSigned (gws yX9_readSigned cX9_readSigned 2 (some .boolean)) (wrm 3 0 0) (wPc G M [vR G (29, 0)]) (wQi G (fun z M1 => z = 1 - (pN (M 29 1) L (ps, 0)).2.2 ∧ M1 29 0 3 = ((pN (M 29 1) L (ps, 0)).2.1 : Int) ∧ ((pN (M 29 1) L (ps, 0)).2.2 = 0 → M1 29 0 4 = (pN (M 29 1) L (ps, 0)).1) ∧ RFr M M1)) 0 0 (wA G) := by
  refine wMet (lc := [(0, vR G (29, 0))]) (by decide) (Nat.le_of_ble_eq_true rfl) rfl ?_
  intro p e s m args below meth c X hr
  have X : wX p s m args meth c G 2 "StateObserverModel" cX9_readSigned := X
  obtain ⟨hxL, hxL2, hx3, hx4, hxc⟩ := id hx
  have hcp : ps < 200 → _ := hxc ps
  have hpk0 : pOk L (ps, 0) := ⟨hx4, Or.inl rfl⟩
  have hm := pC_ok (ch := M 29 1) (L := L) (a := 45) (b := 45) hpk0
  have hq := pC_ok (ch := M 29 1) (L := L) (a := 43) (b := 43) hpk0
  have hm0 : (pC (M 29 1) L 45 45 (ps, 0)).2 = 0 → (pZ (M 29 1) L (ps, 0)) = 45 := fun q => by have := pC_0 q; unfold pZ; rw [if_pos ⟨this.2.1, by omega⟩]
  have hm1 : (pC (M 29 1) L 45 45 (ps, 0)).2 = 1 → (pZ (M 29 1) L (ps, 0)) = 43 ∧ (pC (M 29 1) L 45 45 (ps, 0)).1 = ps := fun q => by
    unfold pZ
    unfold pC at q ⊢
    by_cases c : ps < L ∧ M 29 1 ps = 45
    · rw [if_pos ⟨rfl, c.1, by show (45 : Int) ≤ M 29 1 ps; omega, by show M 29 1 ps ≤ 45; omega⟩] at q
      exact absurd (show (0 : Int) = 1 from q) (by decide)
    · rw [if_neg c]
      refine ⟨rfl, ?_⟩
      rw [if_neg (fun w => c ⟨w.2.1, Int.le_antisymm w.2.2.2 w.2.2.1⟩)]
  refine r_aload_n (pc' := 1) X 0 dX9_readSigned_0 rfl rfl rfl ?_
  refine r_bipush (pc' := 3) X dX9_readSigned_1 rfl rfl ?_
  refine w_calli (pc' := 6) (st := []) (w_runV X (c_X9_passes l G M 45 (by omega) L ps hx) cf_X9_passes k29_0 rfl gw_1107 gp_28 rfl rfl ⟨Nat.le_of_ble_eq_true rfl, Nat.le_of_ble_eq_true rfl⟩ rfl rfl (Nat.le_of_ble_eq_true rfl) ⟨Nat.le_of_ble_eq_true rfl, Nat.le_of_ble_eq_true rfl⟩ gw_1105 dX9_readSigned_3) rfl (fun z3 M1 h3 => ?_)
  obtain ⟨g1, g2, g3⟩ := h3
  have hm2 := hm.2
  have hx2 : RxOk (M1 29) L (pC (M 29 1) L 45 45 (ps, 0)).1 := g3.ok hx g2 hm.1
  refine r_istore_n (pc' := 7) (lc' := [(0, vR G (29, 0)), (1, vI z3)]) X [1, 0] dX9_readSigned_6 rfl (by decide) rfl rfl ?_
  refine r_iload_n (pc' := 8) X 1 dX9_readSigned_7 rfl rfl rfl ?_
  refine r_if_ne (pc' := 11) (tgt := 20) X dX9_readSigned_8 rfl rfl (by omega) (fun h8 => ?_) (fun h8 => ?_)
  · refine r_aload_n (pc' := 21) X 0 dX9_readSigned_20 rfl rfl rfl ?_
    refine r_iconst (pc' := 22) X dX9_readSigned_21 rfl ?_
    refine w_calli (pc' := 25) (st := []) (w_runV X (c_X9_readTwo l G M1 0 (by omega) L ((pC (M 29 1) L 45 45 (ps, 0)).1) hx2) cf_X9_readTwo k29_0 rfl gw_1115 gp_30 rfl rfl ⟨Nat.le_of_ble_eq_true rfl, Nat.le_of_ble_eq_true rfl⟩ rfl rfl (Nat.le_of_ble_eq_true rfl) ⟨Nat.le_of_ble_eq_true rfl, Nat.le_of_ble_eq_true rfl⟩ gw_1113 dX9_readSigned_22) rfl (fun z22 M2 h22 => ?_)
    rw [g3.ch, show ((pC (M 29 1) L 45 45 (ps, 0)).1, (0 : Int)) = pC (M 29 1) L 45 45 (ps, 0) from Prod.ext rfl (by show (0 : Int) = _; omega)] at h22
    obtain ⟨j1, j2, j3, j4⟩ := h22
    have hfr := g3.trans j4
    have eN : (pN (M 29 1) L (ps, 0)) = (-(pT (M 29 1) L 0 (pC (M 29 1) L 45 45 (ps, 0))).1, (pT (M 29 1) L 0 (pC (M 29 1) L 45 45 (ps, 0))).2) := by unfold pN; rw [hm0 (by omega)]; rw [if_pos rfl]
    have hb9 := (pT_ok (ch := M 29 1) (L := L) (a := 0) (hm)).2
    have hbT := pT_bd (ch := M 29 1) (L := L) (a := 0) (s := pC (M 29 1) L 45 45 (ps, 0)) (by decide)
    refine r_if_ne (pc' := 28) (tgt := 30) X dX9_readSigned_25 rfl rfl (by omega) (fun h25 => ?_) (fun h25 => ?_)
    · have j5 := j3 (by omega)
      refine r_aload_n (pc' := 31) X 0 dX9_readSigned_30 rfl rfl rfl ?_
      refine r_iload_n (pc' := 32) X 1 dX9_readSigned_31 rfl rfl rfl ?_
      refine r_if_eq (pc' := 35) (tgt := 43) X dX9_readSigned_32 rfl rfl (by omega) (fun h32 => ?_) (fun h32 => ?_)
      · refine r_aload_n (pc' := 44) X 0 dX9_readSigned_43 rfl rfl rfl ?_
        refine gf_29_readNumber (pc' := 47) X gw_971 dX9_readSigned_44 rfl ?_
        refine pf_29_readNumber (pc' := 50) X gw_971 dX9_readSigned_47 rfl (fun M3 hM3 => ?_)
        refine r_iconst (pc' := 51) X dX9_readSigned_50 rfl ?_
        refine w_zret X hr (by decide) dX9_readSigned_51 ?_
        try dsimp only
        rw [eN]
        refine ⟨by dsimp only; omega, by rw [hM3]; unfold wu; rw [if_neg (by omega)]; exact j2, fun _ => ?_, hfr.trans (fun a b i q => by rw [hM3]; unfold wu; rw [if_neg (by omega)])⟩
        rw [hM3]
        unfold wu
        rw [if_pos ⟨rfl, rfl, rfl⟩, j5]
        try (first | rfl | (exfalso; omega))
      · refine r_aload_n (pc' := 36) X 0 dX9_readSigned_35 rfl rfl rfl ?_
        refine gf_29_readNumber (pc' := 39) X gw_971 dX9_readSigned_36 rfl ?_
        refine r_ineg (pc' := 40) X dX9_readSigned_39 rfl ?_
        refine r_goto (tgt := 47) X dX9_readSigned_40 rfl ?_
        refine pf_29_readNumber (pc' := 50) X gw_971 dX9_readSigned_47 rfl (fun M4 hM4 => ?_)
        refine r_iconst (pc' := 51) X dX9_readSigned_50 rfl ?_
        refine w_zret X hr (by decide) dX9_readSigned_51 ?_
        try dsimp only
        rw [eN]
        refine ⟨by dsimp only; omega, by rw [hM4]; unfold wu; rw [if_neg (by omega)]; exact j2, fun _ => ?_, hfr.trans (fun a b i q => by rw [hM4]; unfold wu; rw [if_neg (by omega)])⟩
        rw [hM4]
        unfold wu
        rw [if_pos ⟨rfl, rfl, rfl⟩, j5]
        try (first | rfl | (exfalso; omega))
    · refine r_iconst (pc' := 29) X dX9_readSigned_28 rfl ?_
      refine w_zret X hr (by decide) dX9_readSigned_29 ?_
      try dsimp only
      rw [eN]
      exact ⟨by dsimp only; omega, j2, fun q => absurd (show (pT _ _ _ _).2.2 = 0 from q) (by omega), hfr⟩
  · refine r_aload_n (pc' := 12) X 0 dX9_readSigned_11 rfl rfl rfl ?_
    refine r_bipush (pc' := 14) X dX9_readSigned_12 rfl rfl ?_
    refine w_calli (pc' := 17) (st := []) (w_runV X (c_X9_passes l G M1 43 (by omega) L ps (by rw [(hm1 (by omega)).2] at hx2; exact hx2)) cf_X9_passes k29_0 rfl gw_1107 gp_28 rfl rfl ⟨Nat.le_of_ble_eq_true rfl, Nat.le_of_ble_eq_true rfl⟩ rfl rfl (Nat.le_of_ble_eq_true rfl) ⟨Nat.le_of_ble_eq_true rfl, Nat.le_of_ble_eq_true rfl⟩ gw_1105 dX9_readSigned_14) rfl (fun z14 M5 h14 => ?_)
    rw [g3.ch] at h14
    obtain ⟨k1, k2, k3⟩ := h14
    have hq2 := hq.2
    have hx3b : RxOk (M5 29) L (pC (M 29 1) L 43 43 (ps, 0)).1 := (g3.trans k3).ok hx k2 hq.1
    have hz43 := (hm1 (by omega)).1
    refine r_if_eq (pc' := 20) (tgt := 28) X dX9_readSigned_17 rfl rfl (by omega) (fun h17 => ?_) (fun h17 => ?_)
    · refine r_iconst (pc' := 29) X dX9_readSigned_28 rfl ?_
      refine w_zret X hr (by decide) dX9_readSigned_29 ?_
      try dsimp only
      have hqw : (pC (M 29 1) L 43 43 (ps, 0)).2 = 1 := by omega
      have eN : (pN (M 29 1) L (ps, 0)).2 = pC (M 29 1) L 43 43 (ps, 0) := by unfold pN; rw [hz43]; dsimp only; rw [pT_1 hqw]
      rw [eN]
      exact ⟨by omega, k2, fun q => absurd q (by omega), g3.trans k3⟩
    · refine r_aload_n (pc' := 21) X 0 dX9_readSigned_20 rfl rfl rfl ?_
      refine r_iconst (pc' := 22) X dX9_readSigned_21 rfl ?_
      refine w_calli (pc' := 25) (st := []) (w_runV X (c_X9_readTwo l G M5 0 (by omega) L ((pC (M 29 1) L 43 43 (ps, 0)).1) hx3b) cf_X9_readTwo k29_0 rfl gw_1115 gp_30 rfl rfl ⟨Nat.le_of_ble_eq_true rfl, Nat.le_of_ble_eq_true rfl⟩ rfl rfl (Nat.le_of_ble_eq_true rfl) ⟨Nat.le_of_ble_eq_true rfl, Nat.le_of_ble_eq_true rfl⟩ gw_1113 dX9_readSigned_22) rfl (fun z22 M6 h22 => ?_)
      rw [(g3.trans k3).ch, show ((pC (M 29 1) L 43 43 (ps, 0)).1, (0 : Int)) = pC (M 29 1) L 43 43 (ps, 0) from Prod.ext rfl (by show (0 : Int) = _; omega)] at h22
      obtain ⟨j1, j2, j3, j4⟩ := h22
      have hfr := (g3.trans k3).trans j4
      have eN : (pN (M 29 1) L (ps, 0)) = ((pT (M 29 1) L 0 (pC (M 29 1) L 43 43 (ps, 0))).1, (pT (M 29 1) L 0 (pC (M 29 1) L 43 43 (ps, 0))).2) := by unfold pN; rw [hz43]; rw [if_neg (by decide)]
      have hb9 := (pT_ok (ch := M 29 1) (L := L) (a := 0) (hq)).2
      have hbT := pT_bd (ch := M 29 1) (L := L) (a := 0) (s := pC (M 29 1) L 43 43 (ps, 0)) (by decide)
      refine r_if_ne (pc' := 28) (tgt := 30) X dX9_readSigned_25 rfl rfl (by omega) (fun h25 => ?_) (fun h25 => ?_)
      · have j5 := j3 (by omega)
        refine r_aload_n (pc' := 31) X 0 dX9_readSigned_30 rfl rfl rfl ?_
        refine r_iload_n (pc' := 32) X 1 dX9_readSigned_31 rfl rfl rfl ?_
        refine r_if_eq (pc' := 35) (tgt := 43) X dX9_readSigned_32 rfl rfl (by omega) (fun h32 => ?_) (fun h32 => ?_)
        · refine r_aload_n (pc' := 44) X 0 dX9_readSigned_43 rfl rfl rfl ?_
          refine gf_29_readNumber (pc' := 47) X gw_971 dX9_readSigned_44 rfl ?_
          refine pf_29_readNumber (pc' := 50) X gw_971 dX9_readSigned_47 rfl (fun M7 hM7 => ?_)
          refine r_iconst (pc' := 51) X dX9_readSigned_50 rfl ?_
          refine w_zret X hr (by decide) dX9_readSigned_51 ?_
          try dsimp only
          rw [eN]
          refine ⟨by dsimp only; omega, by rw [hM7]; unfold wu; rw [if_neg (by omega)]; exact j2, fun _ => ?_, hfr.trans (fun a b i q => by rw [hM7]; unfold wu; rw [if_neg (by omega)])⟩
          rw [hM7]
          unfold wu
          rw [if_pos ⟨rfl, rfl, rfl⟩, j5]
          try (first | rfl | (exfalso; omega))
        · refine r_aload_n (pc' := 36) X 0 dX9_readSigned_35 rfl rfl rfl ?_
          refine gf_29_readNumber (pc' := 39) X gw_971 dX9_readSigned_36 rfl ?_
          refine r_ineg (pc' := 40) X dX9_readSigned_39 rfl ?_
          refine r_goto (tgt := 47) X dX9_readSigned_40 rfl ?_
          refine pf_29_readNumber (pc' := 50) X gw_971 dX9_readSigned_47 rfl (fun M8 hM8 => ?_)
          refine r_iconst (pc' := 51) X dX9_readSigned_50 rfl ?_
          refine w_zret X hr (by decide) dX9_readSigned_51 ?_
          try dsimp only
          rw [eN]
          refine ⟨by dsimp only; omega, by rw [hM8]; unfold wu; rw [if_neg (by omega)]; exact j2, fun _ => ?_, hfr.trans (fun a b i q => by rw [hM8]; unfold wu; rw [if_neg (by omega)])⟩
          rw [hM8]
          unfold wu
          rw [if_pos ⟨rfl, rfl, rfl⟩, j5]
          try (first | rfl | (exfalso; omega))
      · refine r_iconst (pc' := 29) X dX9_readSigned_28 rfl ?_
        refine w_zret X hr (by decide) dX9_readSigned_29 ?_
        try dsimp only
        rw [eN]
        exact ⟨by dsimp only; omega, j2, fun q => absurd (show (pT _ _ _ _).2.2 = 0 from q) (by omega), hfr⟩
