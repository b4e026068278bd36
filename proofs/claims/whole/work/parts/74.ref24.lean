theorem cf_X9_widthIf : wCal yX9_widthIf cX9_widthIf 3 (some .int) 2 := ⟨gw_1282, gw_10, by decide, by decide, by rfl⟩
set_option maxRecDepth 100000 in
set_option maxHeartbeats 4000000 in
theorem c_X9_widthIf (l : Launch) (G : wG) (M : wM) (N P : Nat) (pv : Nat → Nat → Int) (hp : PlOk pv N P) (hq : PEq N P pv (M 29)) (w : Nat → Nat → Int) (T : Int) (hm : MoOk w N P T) (hT6 : T ≤ 1000000) (hv : REq N P w (M 29 13)) (hbx : BoxOk N (w 2) (w 3)) (k y0 : Int) (hk : rI k) (hy0 : rI y0) : Met l yX9_widthIf (gws yX9_widthIf cX9_widthIf 3 (some .int)) (wrm 4 0 0) (wPc G M [vR G (29, 0), vI k, vI y0]) (wQi G (fun z M1 => (M1 29 0 0 = 0 ∧ RScr M M1 ∧ ((0 ≤ k ∧ k < P) ∧ -1000000 ≤ y0 ∧ y0 ≤ 1000000) ∧ z = (if (tight N P pv (up1 (w 10) k.toNat y0) (up1 (w 11) k.toNat 0) 100 (w 2) (w 3)).1 = 2 then -9 else wid N (tight N P pv (up1 (w 10) k.toNat y0) (up1 (w 11) k.toNat 0) 100 (w 2) (w 3)).2.1 (tight N P pv (up1 (w 10) k.toNat y0) (up1 (w 11) k.toNat 0) 100 (w 2) (w 3)).2.2)) ∨ (M1 29 0 0 = 1 ∧ RScr M M1 ∧ ¬ (0 ≤ k ∧ k < P)) ∨ (M1 29 0 0 = 2 ∧ RScr M M1 ∧ (0 ≤ k ∧ k < P) ∧ ¬ (-1000000 ≤ y0 ∧ y0 ≤ 1000000)))) 0 0 (wA G) := by
  refine wMet (lc := [(0, vR G (29, 0)), (1, vI k), (2, vI y0)]) (by decide) (Nat.le_of_ble_eq_true rfl) rfl ?_
  intro p e s m args below meth c X hr
  have X : wX p s m args meth c G 3 "StateObserverModel" cX9_widthIf := X
  obtain ⟨hN, hN1, hN4, hP, hP1, hP3, hA, hB, hE, hC, hQ⟩ := id hp
  obtain ⟨qN, qP, qA, qB, qE, qC, qQ⟩ := id hq
  obtain ⟨hT, hL, hU, hS, hG, hY, hAg, hHo, hBo, hTi, hLi, hLb, hLl, hLh⟩ := id hm
  obtain ⟨v1, v2, v3, v28, v29, v30, v38, v39, v37⟩ := id hv
  refine r_aload_n (pc' := 1) X 0 dX9_widthIf_0 rfl rfl rfl ?_
  refine r_aload_n (pc' := 2) X 0 dX9_widthIf_1 rfl rfl rfl ?_
  refine r_iload_n (pc' := 3) X 1 dX9_widthIf_2 rfl rfl rfl ?_
  refine w_calli (pc' := 6) (st := [vR G (29, 0)]) (w_runV X (c_X9_isOutput l G M N P pv (by first | assumption | omega) (by first | assumption | omega) k (by first | assumption | omega)) cf_X9_isOutput k29_0 rfl gw_1152 gp_35 rfl rfl ⟨Nat.le_of_ble_eq_true rfl, Nat.le_of_ble_eq_true rfl⟩ rfl rfl (Nat.le_of_ble_eq_true rfl) ⟨Nat.le_of_ble_eq_true rfl, Nat.le_of_ble_eq_true rfl⟩ gw_1150 dX9_widthIf_3) rfl (fun z3 M1 h3 => ?_)
  have hz3 := h3.1
  obtain rfl := h3.2.symm
  have hi3 : z3 = 0 ∨ z3 = 1 := by rw [hz3]; split <;> omega
  have hq3 : z3 = 1 ↔ (0 ≤ k ∧ k < P) := by rw [hz3]; split <;> omega
  refine r_if_ne (pc' := 9) (tgt := 13) X dX9_widthIf_6 rfl rfl (by omega) (fun h6 => ?_) (fun h6 => ?_)
  · refine r_iload_n (pc' := 14) X 2 dX9_widthIf_13 rfl rfl rfl ?_
    refine r_i2l (pc' := 15) X dX9_widthIf_14 (by omega) rfl ?_
    refine r_ldc2 (pc' := 18) (z := (-1000000)) X gw_1283 dX9_widthIf_15 rfl rfl ?_
    refine r_ldc2 (pc' := 21) (z := 1000000) X gw_1284 dX9_widthIf_18 rfl rfl ?_
    refine w_calli (pc' := 24) (st := [vR G (29, 0)]) (w_runS X (c_X9_in l G M y0 (-1000000) 1000000 (by first | assumption | omega) (by first | assumption | omega) (by first | assumption | omega)) cf_X9_in gw_1083 rfl rfl ⟨Nat.le_of_ble_eq_true rfl, Nat.le_of_ble_eq_true rfl⟩ rfl rfl (Nat.le_of_ble_eq_true rfl) ⟨Nat.le_of_ble_eq_true rfl, Nat.le_of_ble_eq_true rfl⟩ gw_1082 dX9_widthIf_21) rfl (fun z21 M2 h21 => ?_)
    have hz21 := h21.1
    obtain rfl := h21.2.symm
    have hi21 : z21 = 0 ∨ z21 = 1 := by rw [hz21]; split <;> omega
    have hq21 : z21 = 1 ↔ ((-1000000) ≤ y0 ∧ y0 ≤ 1000000) := by rw [hz21]; split <;> omega
    refine r_if_ne (pc' := 27) (tgt := 31) X dX9_widthIf_24 rfl rfl (by omega) (fun h24 => ?_) (fun h24 => ?_)
    · refine r_iconst (pc' := 32) X dX9_widthIf_31 rfl ?_
      refine w_calli (pc' := 35) (st := []) (w_runV X (c_X9_refused l G M 0 (by first | assumption | omega)) cf_X9_refused k29_0 rfl gw_1087 gp_25 rfl rfl ⟨Nat.le_of_ble_eq_true rfl, Nat.le_of_ble_eq_true rfl⟩ rfl rfl (Nat.le_of_ble_eq_true rfl) ⟨Nat.le_of_ble_eq_true rfl, Nat.le_of_ble_eq_true rfl⟩ gw_1085 dX9_widthIf_32) rfl (fun z32 M3 h32 => ?_)
      have hz32 : z32 = 0 := by rw [h32.1]; rfl
      have ew32 : ∀ a b x, ¬ (a = 29 ∧ b = 0 ∧ x = 0) → M3 a b x = M a b x := fun a b x q => by rw [h32.2]; unfold wu; rw [if_neg q]
      have er32 : M3 29 0 0 = 0 := by rw [h32.2]; unfold wu; rw [if_pos ⟨rfl, rfl, rfl⟩]
      have sc32 : RScr M M3 := fun a b x q => ew32 a b x (by omega)
      have qq32 : PEq N P pv (M3 29) := hq.keep (fun b x q => ew32 29 b x (by omega))
      refine r_if_eq (pc' := 38) (tgt := 40) X dX9_widthIf_35 rfl rfl (by omega) (fun h35 => ?_) (fun h35 => by exfalso; omega)
      refine r_aload_n (pc' := 41) X 0 dX9_widthIf_40 rfl rfl rfl ?_
      refine gf_29_now (pc' := 44) X gw_987 dX9_widthIf_41 rfl ?_
      refine r_iconst (pc' := 45) X dX9_widthIf_44 rfl ?_
      refine r_aload_n (pc' := 46) X 0 dX9_widthIf_45 rfl rfl rfl ?_
      refine gf_29_trial (pc' := 49) X gw_988 dX9_widthIf_46 rfl ?_
      refine r_iconst (pc' := 50) X dX9_widthIf_49 rfl ?_
      refine r_bipush (pc' := 52) X dX9_widthIf_50 rfl rfl ?_
      refine w_callv (pc' := 55) (st := []) (w_runS X (c_X9_copy l G M3 29 13 0 29 14 0 48 48 48 k29_13 k29_14 (by first | assumption | omega) (by first | assumption | omega) (by first | assumption | omega) (by first | assumption | omega) (by first | assumption | omega)) cf_X9_copy gw_1138 rfl rfl ⟨Nat.le_of_ble_eq_true rfl, Nat.le_of_ble_eq_true rfl⟩ rfl rfl (Nat.le_of_ble_eq_true rfl) ⟨Nat.le_of_ble_eq_true rfl, Nat.le_of_ble_eq_true rfl⟩ gw_1137 dX9_widthIf_52) rfl (fun M4 h52 => ?_)
      have et : ∀ a b x, ¬ (a = 29 ∧ (b = 14 ∨ (b = 0 ∧ x = 0))) → M4 a b x = M a b x := fun a b x q => by rw [h52.1 a b (by omega), ew32 a b x (by omega)]
      have tt : ∀ x, x < 48 → M4 29 14 x = M 29 13 x := fun x hx => by have q := h52.2.1 x hx; rw [Nat.zero_add] at q; rw [q, ew32 29 13 x (by omega)]
      refine r_aload_n (pc' := 56) X 0 dX9_widthIf_55 rfl rfl rfl ?_
      refine gf_29_trial (pc' := 59) X gw_988 dX9_widthIf_56 rfl ?_
      refine r_bipush (pc' := 61) X dX9_widthIf_59 rfl rfl ?_
      refine r_iload_n (pc' := 62) X 1 dX9_widthIf_61 rfl rfl rfl ?_
      refine r_iadd (pc' := 63) X dX9_widthIf_62 rfl ?_
      refine r_iload_n (pc' := 64) X 2 dX9_widthIf_63 rfl rfl rfl ?_
      refine r_iast (i := (31 + k.toNat)) (pc' := 65) X k29_14 (by omega) (by omega) (by decide) dX9_widthIf_64 rfl (fun M5 hM5 => ?_)
      refine r_aload_n (pc' := 66) X 0 dX9_widthIf_65 rfl rfl rfl ?_
      refine gf_29_trial (pc' := 69) X gw_988 dX9_widthIf_66 rfl ?_
      refine r_bipush (pc' := 71) X dX9_widthIf_69 rfl rfl ?_
      refine r_iload_n (pc' := 72) X 1 dX9_widthIf_71 rfl rfl rfl ?_
      refine r_iadd (pc' := 73) X dX9_widthIf_72 rfl ?_
      refine r_iconst (pc' := 74) X dX9_widthIf_73 rfl ?_
      refine r_iast (i := (34 + k.toNat)) (pc' := 75) X k29_14 (by omega) (by omega) (by decide) dX9_widthIf_74 rfl (fun M6 hM6 => ?_)
      have et2 : ∀ a b x, ¬ (a = 29 ∧ (b = 14 ∨ (b = 0 ∧ x = 0))) → M6 a b x = M a b x := fun a b x q => by rw [hM6, wu_ne (by omega), hM5, wu_ne (by omega)]; exact et a b x q
      have e00 : M6 29 0 0 = 0 := by rw [hM6, wu_ne (by omega), hM5, wu_ne (by omega), h52.1 29 0 (by omega)]; exact er32
      have qt : PEq N P pv (M6 29) := hq.keep (fun b x q => et2 29 b x (by omega))
      have st : ∀ x, x < 31 → x < 48 → M6 29 14 x = M 29 13 x := fun x h1 h2 => by rw [hM6]; unfold wu; rw [if_neg (by omega), hM5]; unfold wu; rw [if_neg (by omega)]; exact tt x h2
      have hy4 : ∀ j, j < P → M6 29 14 (31 + j) = up1 (w 10) k.toNat y0 j := fun j hj => by
        rw [hM6]; unfold wu up1; rw [if_neg (by omega), hM5]; unfold wu
        by_cases c1 : j = k.toNat
        · rw [if_pos ⟨rfl, rfl, by omega⟩, if_pos c1]
        · rw [if_neg (by omega), if_neg c1, tt _ (by omega)]; exact (v3 j hj).1
      have ha4 : ∀ j, j < P → M6 29 14 (34 + j) = up1 (w 11) k.toNat 0 j := fun j hj => by
        rw [hM6]; unfold wu up1
        by_cases c1 : j = k.toNat
        · rw [if_pos ⟨rfl, rfl, by omega⟩, if_pos c1]
        · rw [if_neg (by omega), if_neg c1, hM5]; unfold wu; rw [if_neg (by omega), tt _ (by omega)]; exact (v3 j hj).2
      refine r_aload_n (pc' := 76) X 0 dX9_widthIf_75 rfl rfl rfl ?_
      refine r_aload_n (pc' := 77) X 0 dX9_widthIf_76 rfl rfl rfl ?_
      refine gf_29_trial (pc' := 80) X gw_988 dX9_widthIf_77 rfl ?_
      refine w_calli (pc' := 83) (st := []) (w_runV X (c_X9_tighten l G M6 N P pv (by first | assumption | omega) qt 14 k29_14 (by first | assumption | omega) (w 2) (w 3) (fun j hj => by rw [st _ (by omega) (by omega)]; exact (v1 j hj).2.1) (fun j hj => by rw [st _ (by omega) (by omega)]; exact (v1 j hj).2.2.1) hL hU hbx (up1 (w 10) k.toNat y0) (up1 (w 11) k.toNat 0) hy4 ha4 (fun j hj => by unfold up1; have := hY j hj; split <;> omega) (fun j hj => by unfold up1; have := hAg j hj; split <;> omega)) cf_X9_tighten k29_0 rfl gw_1240 gp_47 rfl rfl ⟨Nat.le_of_ble_eq_true rfl, Nat.le_of_ble_eq_true rfl⟩ rfl rfl (Nat.le_of_ble_eq_true rfl) ⟨Nat.le_of_ble_eq_true rfl, Nat.le_of_ble_eq_true rfl⟩ gw_1238 dX9_widthIf_80) rfl (fun z80 M7 h80 => ?_)
      have hz80 := h80.1
      have hs2 : stOk N (tight N P pv (up1 (w 10) k.toNat y0) (up1 (w 11) k.toNat 0) 100 (w 2) (w 3)) := tight_ok hbx
      have er9 : M7 29 0 0 = 0 := by rw [h80.2.2 29 0 0 (by omega)]; exact e00
      have sc9 : RScr M M7 := fun a b x q => by rw [h80.2.2 a b x (by omega), et2 a b x (by omega)]
      refine r_if_eq (pc' := 86) (tgt := 97) X dX9_widthIf_83 rfl rfl (by omega) (fun h83 => ?_) (fun h83 => ?_)
      · refine r_bipush (pc' := 99) X dX9_widthIf_97 rfl rfl ?_
        refine w_iret X hr dX9_widthIf_99 ?_
        try dsimp only
        refine Or.inl ⟨er9, sc9, by omega, ?_⟩
        split at hz80 <;> rename_i c1 <;> first | (exfalso; omega) | (rw [if_pos c1]) | (rw [if_neg c1])
      · refine r_aload_n (pc' := 87) X 0 dX9_widthIf_86 rfl rfl rfl ?_
        refine r_aload_n (pc' := 88) X 0 dX9_widthIf_87 rfl rfl rfl ?_
        refine gf_29_trial (pc' := 91) X gw_988 dX9_widthIf_88 rfl ?_
        refine w_calli (pc' := 94) (st := []) (w_runV X (c_X9_widths l G M7 N P pv (by first | assumption | omega) (qt.keep (fun b x q => h80.2.2 29 b x (by omega))) 14 k29_14 ((tight N P pv (up1 (w 10) k.toNat y0) (up1 (w 11) k.toNat 0) 100 (w 2) (w 3)).2.1) ((tight N P pv (up1 (w 10) k.toNat y0) (up1 (w 11) k.toNat 0) 100 (w 2) (w 3)).2.2) (fun j hj => (h80.2.1 j hj).1) (fun j hj => (h80.2.1 j hj).2) (fun j hj => by have := hs2.2 j hj; omega) (fun j hj => by have := hs2.2 j hj; omega)) cf_X9_widths k29_0 rfl gw_1180 gp_38 rfl rfl ⟨Nat.le_of_ble_eq_true rfl, Nat.le_of_ble_eq_true rfl⟩ rfl rfl (Nat.le_of_ble_eq_true rfl) ⟨Nat.le_of_ble_eq_true rfl, Nat.le_of_ble_eq_true rfl⟩ gw_1178 dX9_widthIf_91) rfl (fun z91 M8 h91 => ?_)
        obtain rfl := h91.1.symm
        obtain rfl := h91.2.symm
        refine r_goto (tgt := 99) X dX9_widthIf_94 rfl ?_
        refine w_iret X hr dX9_widthIf_99 ?_
        try dsimp only
        refine Or.inl ⟨er9, sc9, by omega, ?_⟩
        split at hz80 <;> rename_i c1 <;> first | (exfalso; omega) | (rw [if_pos c1]) | (rw [if_neg c1])
    · refine r_iconst (pc' := 28) X dX9_widthIf_27 rfl ?_
      refine r_goto (tgt := 32) X dX9_widthIf_28 rfl ?_
      refine w_calli (pc' := 35) (st := []) (w_runV X (c_X9_refused l G M 2 (by first | assumption | omega)) cf_X9_refused k29_0 rfl gw_1087 gp_25 rfl rfl ⟨Nat.le_of_ble_eq_true rfl, Nat.le_of_ble_eq_true rfl⟩ rfl rfl (Nat.le_of_ble_eq_true rfl) ⟨Nat.le_of_ble_eq_true rfl, Nat.le_of_ble_eq_true rfl⟩ gw_1085 dX9_widthIf_32) rfl (fun z32 M9 h32 => ?_)
      have hz32 : z32 = 1 := by rw [h32.1]; rfl
      have ew32 : ∀ a b x, ¬ (a = 29 ∧ b = 0 ∧ x = 0) → M9 a b x = M a b x := fun a b x q => by rw [h32.2]; unfold wu; rw [if_neg q]
      have er32 : M9 29 0 0 = 2 := by rw [h32.2]; unfold wu; rw [if_pos ⟨rfl, rfl, rfl⟩]
      have sc32 : RScr M M9 := fun a b x q => ew32 a b x (by omega)
      have qq32 : PEq N P pv (M9 29) := hq.keep (fun b x q => ew32 29 b x (by omega))
      refine r_if_eq (pc' := 38) (tgt := 40) X dX9_widthIf_35 rfl rfl (by omega) (fun h35 => by exfalso; omega) (fun h35 => ?_)
      refine r_iconst (pc' := 39) X dX9_widthIf_38 rfl ?_
      refine w_iret X hr dX9_widthIf_39 ?_
      try dsimp only
      exact (Or.inr (Or.inr ⟨er32, sc32, by omega⟩))
  · refine r_iconst (pc' := 10) X dX9_widthIf_9 rfl ?_
    refine r_goto (tgt := 32) X dX9_widthIf_10 rfl ?_
    refine w_calli (pc' := 35) (st := []) (w_runV X (c_X9_refused l G M 1 (by first | assumption | omega)) cf_X9_refused k29_0 rfl gw_1087 gp_25 rfl rfl ⟨Nat.le_of_ble_eq_true rfl, Nat.le_of_ble_eq_true rfl⟩ rfl rfl (Nat.le_of_ble_eq_true rfl) ⟨Nat.le_of_ble_eq_true rfl, Nat.le_of_ble_eq_true rfl⟩ gw_1085 dX9_widthIf_32) rfl (fun z32 M10 h32 => ?_)
    have hz32 : z32 = 1 := by rw [h32.1]; rfl
    have ew32 : ∀ a b x, ¬ (a = 29 ∧ b = 0 ∧ x = 0) → M10 a b x = M a b x := fun a b x q => by rw [h32.2]; unfold wu; rw [if_neg q]
    have er32 : M10 29 0 0 = 1 := by rw [h32.2]; unfold wu; rw [if_pos ⟨rfl, rfl, rfl⟩]
    have sc32 : RScr M M10 := fun a b x q => ew32 a b x (by omega)
    have qq32 : PEq N P pv (M10 29) := hq.keep (fun b x q => ew32 29 b x (by omega))
    refine r_if_eq (pc' := 38) (tgt := 40) X dX9_widthIf_35 rfl rfl (by omega) (fun h35 => by exfalso; omega) (fun h35 => ?_)
    refine r_iconst (pc' := 39) X dX9_widthIf_38 rfl ?_
    refine w_iret X hr dX9_widthIf_39 ?_
    try dsimp only
    exact (Or.inr (Or.inl ⟨er32, sc32, by omega⟩))
theorem cf_X9_ahead : wCal yX9_ahead cX9_ahead 6 (some .int) 4 := ⟨gw_1288, gw_10, by decide, by decide, by rfl⟩
set_option maxRecDepth 100000 in
set_option maxHeartbeats 4000000 in
theorem c_X9_ahead (l : Launch) (G : wG) (M : wM) (N P : Nat) (pv : Nat → Nat → Int) (hp : PlOk pv N P) (hq : PEq N P pv (M 29)) (w : Nat → Nat → Int) (T : Int) (hm : MoOk w N P T) (hT6 : T ≤ 1000000) (hv : REq N P w (M 29 13)) (hbx : BoxOk N (w 2) (w 3)) (n u i b0 : Int) (hn : rI n) (hu : rI u) (hi : rI i) (hb0 : b0 = 0 ∨ b0 = 1) : Met l yX9_ahead (gws yX9_ahead cX9_ahead 6 (some .int)) (wrm 2 0 0) (wPc G M [vR G (29, 0), vI n, vI u, vI i, vI b0]) (wQi G (fun z M1 => (M1 29 0 0 = 0 ∧ RScr M M1 ∧ ((0 ≤ i ∧ i < N) ∧ (0 ≤ n ∧ n ≤ 60) ∧ -99 ≤ u ∧ u ≤ 99) ∧ z = (if b0 = 1 then (itv N pv u (w 0 8) (w 2) (w 3) n.toNat).2 i.toNat else (itv N pv u (w 0 8) (w 2) (w 3) n.toNat).1 i.toNat)) ∨ (M1 29 0 0 = 1 ∧ RScr M M1 ∧ ¬ (0 ≤ i ∧ i < N)) ∨ (M1 29 0 0 = 2 ∧ RScr M M1 ∧ (0 ≤ i ∧ i < N) ∧ ¬ ((0 ≤ n ∧ n ≤ 60) ∧ -99 ≤ u ∧ u ≤ 99)))) 0 0 (wA G) := by
  refine wMet (lc := [(0, vR G (29, 0)), (1, vI n), (2, vI u), (3, vI i), (4, vI b0)]) (by decide) (Nat.le_of_ble_eq_true rfl) rfl ?_
  intro p e s m args below meth c X hr
  have X : wX p s m args meth c G 6 "StateObserverModel" cX9_ahead := X
  obtain ⟨hN, hN1, hN4, hP, hP1, hP3, hA, hB, hE, hC, hQ⟩ := id hp
  obtain ⟨qN, qP, qA, qB, qE, qC, qQ⟩ := id hq
  obtain ⟨hT, hL, hU, hS, hG, hY, hAg, hHo, hBo, hTi, hLi, hLb, hLl, hLh⟩ := id hm
  obtain ⟨v1, v2, v3, v28, v29, v30, v38, v39, v37⟩ := id hv
  refine r_aload_n (pc' := 1) X 0 dX9_ahead_0 rfl rfl rfl ?_
  refine r_aload_n (pc' := 2) X 0 dX9_ahead_1 rfl rfl rfl ?_
  refine r_iload_n (pc' := 3) X 3 dX9_ahead_2 rfl rfl rfl ?_
  refine w_calli (pc' := 6) (st := [vR G (29, 0)]) (w_runV X (c_X9_isState l G M N P pv (by first | assumption | omega) (by first | assumption | omega) i (by first | assumption | omega)) cf_X9_isState k29_0 rfl gw_1156 gp_36 rfl rfl ⟨Nat.le_of_ble_eq_true rfl, Nat.le_of_ble_eq_true rfl⟩ rfl rfl (Nat.le_of_ble_eq_true rfl) ⟨Nat.le_of_ble_eq_true rfl, Nat.le_of_ble_eq_true rfl⟩ gw_1154 dX9_ahead_3) rfl (fun z3 M1 h3 => ?_)
  have hz3 := h3.1
  obtain rfl := h3.2.symm
  have hi3 : z3 = 0 ∨ z3 = 1 := by rw [hz3]; split <;> omega
  have hq3 : z3 = 1 ↔ (0 ≤ i ∧ i < N) := by rw [hz3]; split <;> omega
  refine r_if_ne (pc' := 9) (tgt := 13) X dX9_ahead_6 rfl rfl (by omega) (fun h6 => ?_) (fun h6 => ?_)
  · refine r_iload_n (pc' := 14) X 1 dX9_ahead_13 rfl rfl rfl ?_
    refine r_i2l (pc' := 15) X dX9_ahead_14 (by omega) rfl ?_
    refine r_lconst (pc' := 16) (z := 0) X dX9_ahead_15 rfl rfl ?_
    refine r_ldc2 (pc' := 19) (z := 60) X gw_1289 dX9_ahead_16 rfl rfl ?_
    refine w_calli (pc' := 22) (st := [vR G (29, 0)]) (w_runS X (c_X9_in l G M n 0 60 (by first | assumption | omega) (by first | assumption | omega) (by first | assumption | omega)) cf_X9_in gw_1083 rfl rfl ⟨Nat.le_of_ble_eq_true rfl, Nat.le_of_ble_eq_true rfl⟩ rfl rfl (Nat.le_of_ble_eq_true rfl) ⟨Nat.le_of_ble_eq_true rfl, Nat.le_of_ble_eq_true rfl⟩ gw_1082 dX9_ahead_19) rfl (fun z19 M2 h19 => ?_)
    have hz19 := h19.1
    obtain rfl := h19.2.symm
    have hi19 : z19 = 0 ∨ z19 = 1 := by rw [hz19]; split <;> omega
    have hq19 : z19 = 1 ↔ (0 ≤ n ∧ n ≤ 60) := by rw [hz19]; split <;> omega
    refine r_if_eq (pc' := 25) (tgt := 39) X dX9_ahead_22 rfl rfl (by omega) (fun h22 => ?_) (fun h22 => ?_)
    · refine r_iconst (pc' := 40) X dX9_ahead_39 rfl ?_
      refine r_goto (tgt := 44) X dX9_ahead_40 rfl ?_
      refine w_calli (pc' := 47) (st := []) (w_runV X (c_X9_refused l G M 2 (by first | assumption | omega)) cf_X9_refused k29_0 rfl gw_1087 gp_25 rfl rfl ⟨Nat.le_of_ble_eq_true rfl, Nat.le_of_ble_eq_true rfl⟩ rfl rfl (Nat.le_of_ble_eq_true rfl) ⟨Nat.le_of_ble_eq_true rfl, Nat.le_of_ble_eq_true rfl⟩ gw_1085 dX9_ahead_44) rfl (fun z44 M3 h44 => ?_)
      have hz44 : z44 = 1 := by rw [h44.1]; rfl
      have ew44 : ∀ a b x, ¬ (a = 29 ∧ b = 0 ∧ x = 0) → M3 a b x = M a b x := fun a b x q => by rw [h44.2]; unfold wu; rw [if_neg q]
      have er44 : M3 29 0 0 = 2 := by rw [h44.2]; unfold wu; rw [if_pos ⟨rfl, rfl, rfl⟩]
      have sc44 : RScr M M3 := fun a b x q => ew44 a b x (by omega)
      have qq44 : PEq N P pv (M3 29) := hq.keep (fun b x q => ew44 29 b x (by omega))
      refine r_if_eq (pc' := 50) (tgt := 52) X dX9_ahead_47 rfl rfl (by omega) (fun h47 => by exfalso; omega) (fun h47 => ?_)
      refine r_iconst (pc' := 51) X dX9_ahead_50 rfl ?_
      refine w_iret X hr dX9_ahead_51 ?_
      try dsimp only
      exact (Or.inr (Or.inr ⟨er44, sc44, by omega⟩))
    · refine r_iload_n (pc' := 26) X 2 dX9_ahead_25 rfl rfl rfl ?_
      refine r_i2l (pc' := 27) X dX9_ahead_26 (by omega) rfl ?_
      refine r_ldc2 (pc' := 30) (z := (-99)) X gw_1206 dX9_ahead_27 rfl rfl ?_
      refine r_ldc2 (pc' := 33) (z := 99) X gw_1207 dX9_ahead_30 rfl rfl ?_
      refine w_calli (pc' := 36) (st := [vR G (29, 0)]) (w_runS X (c_X9_in l G M u (-99) 99 (by first | assumption | omega) (by first | assumption | omega) (by first | assumption | omega)) cf_X9_in gw_1083 rfl rfl ⟨Nat.le_of_ble_eq_true rfl, Nat.le_of_ble_eq_true rfl⟩ rfl rfl (Nat.le_of_ble_eq_true rfl) ⟨Nat.le_of_ble_eq_true rfl, Nat.le_of_ble_eq_true rfl⟩ gw_1082 dX9_ahead_33) rfl (fun z33 M4 h33 => ?_)
      have hz33 := h33.1
      obtain rfl := h33.2.symm
      have hi33 : z33 = 0 ∨ z33 = 1 := by rw [hz33]; split <;> omega
      have hq33 : z33 = 1 ↔ ((-99) ≤ u ∧ u ≤ 99) := by rw [hz33]; split <;> omega
      refine r_if_ne (pc' := 39) (tgt := 43) X dX9_ahead_36 rfl rfl (by omega) (fun h36 => ?_) (fun h36 => ?_)
      · refine r_iconst (pc' := 44) X dX9_ahead_43 rfl ?_
        refine w_calli (pc' := 47) (st := []) (w_runV X (c_X9_refused l G M 0 (by first | assumption | omega)) cf_X9_refused k29_0 rfl gw_1087 gp_25 rfl rfl ⟨Nat.le_of_ble_eq_true rfl, Nat.le_of_ble_eq_true rfl⟩ rfl rfl (Nat.le_of_ble_eq_true rfl) ⟨Nat.le_of_ble_eq_true rfl, Nat.le_of_ble_eq_true rfl⟩ gw_1085 dX9_ahead_44) rfl (fun z44 M5 h44 => ?_)
        have hz44 : z44 = 0 := by rw [h44.1]; rfl
        have ew44 : ∀ a b x, ¬ (a = 29 ∧ b = 0 ∧ x = 0) → M5 a b x = M a b x := fun a b x q => by rw [h44.2]; unfold wu; rw [if_neg q]
        have er44 : M5 29 0 0 = 0 := by rw [h44.2]; unfold wu; rw [if_pos ⟨rfl, rfl, rfl⟩]
        have sc44 : RScr M M5 := fun a b x q => ew44 a b x (by omega)
        have qq44 : PEq N P pv (M5 29) := hq.keep (fun b x q => ew44 29 b x (by omega))
        refine r_if_eq (pc' := 50) (tgt := 52) X dX9_ahead_47 rfl rfl (by omega) (fun h47 => ?_) (fun h47 => by exfalso; omega)
        refine r_aload_n (pc' := 53) X 0 dX9_ahead_52 rfl rfl rfl ?_
        refine gf_29_now (pc' := 56) X gw_987 dX9_ahead_53 rfl ?_
        refine r_iconst (pc' := 57) X dX9_ahead_56 rfl ?_
        refine r_aload_n (pc' := 58) X 0 dX9_ahead_57 rfl rfl rfl ?_
        refine gf_29_trial (pc' := 61) X gw_988 dX9_ahead_58 rfl ?_
        refine r_iconst (pc' := 62) X dX9_ahead_61 rfl ?_
        refine r_bipush (pc' := 64) X dX9_ahead_62 rfl rfl ?_
        refine w_callv (pc' := 67) (st := []) (w_runS X (c_X9_copy l G M5 29 13 0 29 14 0 48 48 48 k29_13 k29_14 (by first | assumption | omega) (by first | assumption | omega) (by first | assumption | omega) (by first | assumption | omega) (by first | assumption | omega)) cf_X9_copy gw_1138 rfl rfl ⟨Nat.le_of_ble_eq_true rfl, Nat.le_of_ble_eq_true rfl⟩ rfl rfl (Nat.le_of_ble_eq_true rfl) ⟨Nat.le_of_ble_eq_true rfl, Nat.le_of_ble_eq_true rfl⟩ gw_1137 dX9_ahead_64) rfl (fun M6 h64 => ?_)
        have et : ∀ a b x, ¬ (a = 29 ∧ (b = 14 ∨ (b = 0 ∧ x = 0))) → M6 a b x = M a b x := fun a b x q => by rw [h64.1 a b (by omega), ew44 a b x (by omega)]
        have tt : ∀ x, x < 48 → M6 29 14 x = M 29 13 x := fun x hx => by have q := h64.2.1 x hx; rw [Nat.zero_add] at q; rw [q, ew44 29 13 x (by omega)]
        have e00 : M6 29 0 0 = 0 := by rw [h64.1 29 0 (by omega)]; exact er44
        refine r_iconst (pc' := 68) X dX9_ahead_67 rfl ?_
        refine r_istore (pc' := 70) (lc' := [(0, vR G (29, 0)), (1, vI n), (2, vI u), (3, vI i), (4, vI b0), (5, vI 0)]) X [1, 2, 3, 4, 5, 0] dX9_ahead_68 (by decide) rfl rfl ?_
        have L70 : ∀ (fu : Nat) (t : Nat) (Ma : wM), n.toNat - t < fu → (t ≤ n.toNat) → (∀ i, i < N → Ma 29 14 (4 + i) = (itv N pv u (w 0 8) (w 2) (w 3) t).1 i ∧ Ma 29 14 (8 + i) = (itv N pv u (w 0 8) (w 2) (w 3) t).2 i) → (Ma 29 14 29 = w 0 8) → (∀ a b x, ¬ (a = 29 ∧ (b = 14 ∨ (b = 0 ∧ x = 0))) → Ma a b x = M a b x) → (Ma 29 0 0 = 0) → wV p l e (wrm 2 0 0) s m args below meth c G 6 Ma 0 0 (MQ below (wQi G (fun z M1 => (M1 29 0 0 = 0 ∧ RScr M M1 ∧ ((0 ≤ i ∧ i < N) ∧ (0 ≤ n ∧ n ≤ 60) ∧ -99 ≤ u ∧ u ≤ 99) ∧ z = (if b0 = 1 then (itv N pv u (w 0 8) (w 2) (w 3) n.toNat).2 i.toNat else (itv N pv u (w 0 8) (w 2) (w 3) n.toNat).1 i.toNat)) ∨ (M1 29 0 0 = 1 ∧ RScr M M1 ∧ ¬ (0 ≤ i ∧ i < N)) ∨ (M1 29 0 0 = 2 ∧ RScr M M1 ∧ (0 ≤ i ∧ i < N) ∧ ¬ ((0 ≤ n ∧ n ≤ 60) ∧ -99 ≤ u ∧ u ≤ 99)))) args s 0 0 (wA G)) 70 [(0, vR G (29, 0)), (1, vI n), (2, vI u), (3, vI i), (4, vI b0), (5, vI (t : Int))] [] := by
          intro fu
          induction fu with
          | zero => intro t Ma hfu; exact absurd hfu (Nat.not_lt_zero _)
          | succ fu ih70 =>
            intro t Ma hfu70 htn hit h29 hfr h00
            refine r_iload (pc' := 72) X 5 dX9_ahead_70 rfl rfl ?_
            have hbt := itv_bd (u := u) hp hbx hBo.1 t
            refine r_iload_n (pc' := 73) X 1 dX9_ahead_72 rfl rfl rfl ?_
            refine r_icmp_ge (pc' := 76) (tgt := 91) X dX9_ahead_73 rfl rfl (by omega) (by omega) (fun h73 => ?_) (fun h73 => ?_)
            · have etn : t = n.toNat := by omega
              have hiv := hit i.toNat (by omega)
              rw [etn] at hiv
              refine r_aload_n (pc' := 92) X 0 dX9_ahead_91 rfl rfl rfl ?_
              refine gf_29_trial (pc' := 95) X gw_988 dX9_ahead_92 rfl ?_
              refine r_iload (pc' := 97) X 4 dX9_ahead_95 rfl rfl ?_
              refine r_if_eq (pc' := 100) (tgt := 107) X dX9_ahead_97 rfl rfl (by omega) (fun h97 => ?_) (fun h97 => ?_)
              · refine r_iconst (pc' := 108) X dX9_ahead_107 rfl ?_
                refine r_iload_n (pc' := 109) X 3 dX9_ahead_108 rfl rfl rfl ?_
                refine r_iadd (pc' := 110) X dX9_ahead_109 rfl ?_
                refine r_iald (i := (4 + i.toNat)) (pc' := 111) X k29_14 (by omega) (by omega) (by decide) dX9_ahead_110 rfl ?_
                refine w_iret X hr dX9_ahead_111 ?_
                try dsimp only
                refine Or.inl ⟨h00, fun a b x q => hfr a b x (by omega), by omega, ?_⟩
                first | (rw [if_pos (by omega)]; exact hiv.2) | (rw [if_neg (by omega)]; exact hiv.1)
              · refine r_bipush (pc' := 102) X dX9_ahead_100 rfl rfl ?_
                refine r_iload_n (pc' := 103) X 3 dX9_ahead_102 rfl rfl rfl ?_
                refine r_iadd (pc' := 104) X dX9_ahead_103 rfl ?_
                refine r_goto (tgt := 110) X dX9_ahead_104 rfl ?_
                refine r_iald (i := (8 + i.toNat)) (pc' := 111) X k29_14 (by omega) (by omega) (by decide) dX9_ahead_110 rfl ?_
                refine w_iret X hr dX9_ahead_111 ?_
                try dsimp only
                refine Or.inl ⟨h00, fun a b x q => hfr a b x (by omega), by omega, ?_⟩
                first | (rw [if_pos (by omega)]; exact hiv.2) | (rw [if_neg (by omega)]; exact hiv.1)
            · refine r_aload_n (pc' := 77) X 0 dX9_ahead_76 rfl rfl rfl ?_
              refine r_aload_n (pc' := 78) X 0 dX9_ahead_77 rfl rfl rfl ?_
              refine gf_29_trial (pc' := 81) X gw_988 dX9_ahead_78 rfl ?_
              refine r_iload_n (pc' := 82) X 2 dX9_ahead_81 rfl rfl rfl ?_
              refine w_callv (pc' := 85) (st := []) (w_runV X (c_X9_boundsOn l G Ma N P pv (by first | assumption | omega) (hq.keep (fun b x q => hfr 29 b x (by omega))) 14 k29_14 (by first | assumption | omega) ((itv N pv u (w 0 8) (w 2) (w 3) t).1) ((itv N pv u (w 0 8) (w 2) (w 3) t).2) (fun i hi => (hit i hi).1) (fun i hi => (hit i hi).2) (fun i hi => by have := hbt i hi; omega) (fun i hi => by have := hbt i hi; omega) (w 0 8) h29 hBo u (by omega)) cf_X9_boundsOn k29_0 rfl gw_1224 gp_45 rfl rfl ⟨Nat.le_of_ble_eq_true rfl, Nat.le_of_ble_eq_true rfl⟩ rfl rfl (Nat.le_of_ble_eq_true rfl) ⟨Nat.le_of_ble_eq_true rfl, Nat.le_of_ble_eq_true rfl⟩ gw_1222 dX9_ahead_82) rfl (fun M7 h82 => ?_)
              have h29n : M7 29 14 29 = w 0 8 := by rw [h82.2.2.2 29 14 29 (by omega)]; exact h29
              have h00n : M7 29 0 0 = 0 := by rw [h82.2.2.2 29 0 0 (by omega)]; exact h00
              refine r_iinc (pc' := 88) (z' := ((t + 1 : Nat) : Int)) (lc' := [(0, vR G (29, 0)), (1, vI n), (2, vI u), (3, vI i), (4, vI b0), (5, vI ((t + 1 : Nat) : Int))]) X 5 [1, 2, 3, 4, 5, 0] dX9_ahead_85 rfl (by omega) (by decide) rfl rfl ?_
              refine r_goto (tgt := 70) X dX9_ahead_88 rfl ?_
              exact ih70 (t + 1) M7 (by omega) (by omega) (fun i hi => h82.2.1 i hi) h29n (fun a b x q => by rw [h82.2.2.2 a b x (by omega)]; exact hfr a b x q) h00n
        exact L70 ((n.toNat - 0) + 1) 0 M6 (Nat.lt_succ_self _) (by omega) (fun i hi => ⟨by rw [tt _ (by omega)]; exact (v1 i hi).2.1, by rw [tt _ (by omega)]; exact (v1 i hi).2.2.1⟩) (by rw [tt _ (by omega)]; exact v29) et e00
      · refine r_iconst (pc' := 40) X dX9_ahead_39 rfl ?_
        refine r_goto (tgt := 44) X dX9_ahead_40 rfl ?_
        refine w_calli (pc' := 47) (st := []) (w_runV X (c_X9_refused l G M 2 (by first | assumption | omega)) cf_X9_refused k29_0 rfl gw_1087 gp_25 rfl rfl ⟨Nat.le_of_ble_eq_true rfl, Nat.le_of_ble_eq_true rfl⟩ rfl rfl (Nat.le_of_ble_eq_true rfl) ⟨Nat.le_of_ble_eq_true rfl, Nat.le_of_ble_eq_true rfl⟩ gw_1085 dX9_ahead_44) rfl (fun z44 M8 h44 => ?_)
        have hz44 : z44 = 1 := by rw [h44.1]; rfl
        have ew44 : ∀ a b x, ¬ (a = 29 ∧ b = 0 ∧ x = 0) → M8 a b x = M a b x := fun a b x q => by rw [h44.2]; unfold wu; rw [if_neg q]
        have er44 : M8 29 0 0 = 2 := by rw [h44.2]; unfold wu; rw [if_pos ⟨rfl, rfl, rfl⟩]
        have sc44 : RScr M M8 := fun a b x q => ew44 a b x (by omega)
        have qq44 : PEq N P pv (M8 29) := hq.keep (fun b x q => ew44 29 b x (by omega))
        refine r_if_eq (pc' := 50) (tgt := 52) X dX9_ahead_47 rfl rfl (by omega) (fun h47 => by exfalso; omega) (fun h47 => ?_)
        refine r_iconst (pc' := 51) X dX9_ahead_50 rfl ?_
        refine w_iret X hr dX9_ahead_51 ?_
        try dsimp only
        exact (Or.inr (Or.inr ⟨er44, sc44, by omega⟩))
  · refine r_iconst (pc' := 10) X dX9_ahead_9 rfl ?_
    refine r_goto (tgt := 44) X dX9_ahead_10 rfl ?_
    refine w_calli (pc' := 47) (st := []) (w_runV X (c_X9_refused l G M 1 (by first | assumption | omega)) cf_X9_refused k29_0 rfl gw_1087 gp_25 rfl rfl ⟨Nat.le_of_ble_eq_true rfl, Nat.le_of_ble_eq_true rfl⟩ rfl rfl (Nat.le_of_ble_eq_true rfl) ⟨Nat.le_of_ble_eq_true rfl, Nat.le_of_ble_eq_true rfl⟩ gw_1085 dX9_ahead_44) rfl (fun z44 M9 h44 => ?_)
    have hz44 : z44 = 1 := by rw [h44.1]; rfl
    have ew44 : ∀ a b x, ¬ (a = 29 ∧ b = 0 ∧ x = 0) → M9 a b x = M a b x := fun a b x q => by rw [h44.2]; unfold wu; rw [if_neg q]
    have er44 : M9 29 0 0 = 1 := by rw [h44.2]; unfold wu; rw [if_pos ⟨rfl, rfl, rfl⟩]
    have sc44 : RScr M M9 := fun a b x q => ew44 a b x (by omega)
    have qq44 : PEq N P pv (M9 29) := hq.keep (fun b x q => ew44 29 b x (by omega))
    refine r_if_eq (pc' := 50) (tgt := 52) X dX9_ahead_47 rfl rfl (by omega) (fun h47 => by exfalso; omega) (fun h47 => ?_)
    refine r_iconst (pc' := 51) X dX9_ahead_50 rfl ?_
    refine w_iret X hr dX9_ahead_51 ?_
    try dsimp only
    exact (Or.inr (Or.inl ⟨er44, sc44, by omega⟩))
theorem cf_X9_earliest : wCal yX9_earliest cX9_earliest 6 (some .int) 4 := ⟨gw_1293, gw_10, by decide, by decide, by rfl⟩
set_option maxRecDepth 100000 in
set_option maxHeartbeats 4000000 in
theorem c_X9_earliest (l : Launch) (G : wG) (M : wM) (N P : Nat) (pv : Nat → Nat → Int) (hp : PlOk pv N P) (hq : PEq N P pv (M 29)) (w : Nat → Nat → Int) (T : Int) (hm : MoOk w N P T) (hT6 : T ≤ 1000000) (hv : REq N P w (M 29 13)) (hbx : BoxOk N (w 2) (w 3)) (i v u b0 : Int) (hi : rI i) (hv0 : rI v) (hu : rI u) (hb0 : b0 = 0 ∨ b0 = 1) : Met l yX9_earliest (gws yX9_earliest cX9_earliest 6 (some .int)) (wrm 2 0 0) (wPc G M [vR G (29, 0), vI i, vI v, vI u, vI b0]) (wQi G (fun z M1 => (M1 29 0 0 = 0 ∧ RScr M M1 ∧ ((0 ≤ i ∧ i < N) ∧ -99 ≤ u ∧ u ≤ 99) ∧ ((∃ t : Nat, t ≤ 60 ∧ z = t ∧ v ≤ (if b0 = 1 then (itv N pv u (w 0 8) (w 2) (w 3) t).1 i.toNat else (itv N pv u (w 0 8) (w 2) (w 3) t).2 i.toNat) ∧ ∀ s, s < t → (if b0 = 1 then (itv N pv u (w 0 8) (w 2) (w 3) s).1 i.toNat else (itv N pv u (w 0 8) (w 2) (w 3) s).2 i.toNat) < v) ∨ (z = -9 ∧ ∀ s, s ≤ 60 → (if b0 = 1 then (itv N pv u (w 0 8) (w 2) (w 3) s).1 i.toNat else (itv N pv u (w 0 8) (w 2) (w 3) s).2 i.toNat) < v))) ∨ (M1 29 0 0 = 1 ∧ RScr M M1 ∧ ¬ (0 ≤ i ∧ i < N)) ∨ (M1 29 0 0 = 2 ∧ RScr M M1 ∧ (0 ≤ i ∧ i < N) ∧ ¬ (-99 ≤ u ∧ u ≤ 99)))) 0 0 (wA G) := by
  refine wMet (lc := [(0, vR G (29, 0)), (1, vI i), (2, vI v), (3, vI u), (4, vI b0)]) (by decide) (Nat.le_of_ble_eq_true rfl) rfl ?_
  intro p e s m args below meth c X hr
  have X : wX p s m args meth c G 6 "StateObserverModel" cX9_earliest := X
  obtain ⟨hN, hN1, hN4, hP, hP1, hP3, hA, hB, hE, hC, hQ⟩ := id hp
  obtain ⟨qN, qP, qA, qB, qE, qC, qQ⟩ := id hq
  obtain ⟨hT, hL, hU, hS, hG, hY, hAg, hHo, hBo, hTi, hLi, hLb, hLl, hLh⟩ := id hm
  obtain ⟨v1, v2, v3, v28, v29, v30, v38, v39, v37⟩ := id hv
  refine r_aload_n (pc' := 1) X 0 dX9_earliest_0 rfl rfl rfl ?_
  refine r_aload_n (pc' := 2) X 0 dX9_earliest_1 rfl rfl rfl ?_
  refine r_iload_n (pc' := 3) X 1 dX9_earliest_2 rfl rfl rfl ?_
  refine w_calli (pc' := 6) (st := [vR G (29, 0)]) (w_runV X (c_X9_isState l G M N P pv (by first | assumption | omega) (by first | assumption | omega) i (by first | assumption | omega)) cf_X9_isState k29_0 rfl gw_1156 gp_36 rfl rfl ⟨Nat.le_of_ble_eq_true rfl, Nat.le_of_ble_eq_true rfl⟩ rfl rfl (Nat.le_of_ble_eq_true rfl) ⟨Nat.le_of_ble_eq_true rfl, Nat.le_of_ble_eq_true rfl⟩ gw_1154 dX9_earliest_3) rfl (fun z3 M1 h3 => ?_)
  have hz3 := h3.1
  obtain rfl := h3.2.symm
  have hi3 : z3 = 0 ∨ z3 = 1 := by rw [hz3]; split <;> omega
  have hq3 : z3 = 1 ↔ (0 ≤ i ∧ i < N) := by rw [hz3]; split <;> omega
  refine r_if_ne (pc' := 9) (tgt := 13) X dX9_earliest_6 rfl rfl (by omega) (fun h6 => ?_) (fun h6 => ?_)
  · refine r_iload_n (pc' := 14) X 3 dX9_earliest_13 rfl rfl rfl ?_
    refine r_i2l (pc' := 15) X dX9_earliest_14 (by omega) rfl ?_
    refine r_ldc2 (pc' := 18) (z := (-99)) X gw_1206 dX9_earliest_15 rfl rfl ?_
    refine r_ldc2 (pc' := 21) (z := 99) X gw_1207 dX9_earliest_18 rfl rfl ?_
    refine w_calli (pc' := 24) (st := [vR G (29, 0)]) (w_runS X (c_X9_in l G M u (-99) 99 (by first | assumption | omega) (by first | assumption | omega) (by first | assumption | omega)) cf_X9_in gw_1083 rfl rfl ⟨Nat.le_of_ble_eq_true rfl, Nat.le_of_ble_eq_true rfl⟩ rfl rfl (Nat.le_of_ble_eq_true rfl) ⟨Nat.le_of_ble_eq_true rfl, Nat.le_of_ble_eq_true rfl⟩ gw_1082 dX9_earliest_21) rfl (fun z21 M2 h21 => ?_)
    have hz21 := h21.1
    obtain rfl := h21.2.symm
    have hi21 : z21 = 0 ∨ z21 = 1 := by rw [hz21]; split <;> omega
    have hq21 : z21 = 1 ↔ ((-99) ≤ u ∧ u ≤ 99) := by rw [hz21]; split <;> omega
    refine r_if_ne (pc' := 27) (tgt := 31) X dX9_earliest_24 rfl rfl (by omega) (fun h24 => ?_) (fun h24 => ?_)
    · refine r_iconst (pc' := 32) X dX9_earliest_31 rfl ?_
      refine w_calli (pc' := 35) (st := []) (w_runV X (c_X9_refused l G M 0 (by first | assumption | omega)) cf_X9_refused k29_0 rfl gw_1087 gp_25 rfl rfl ⟨Nat.le_of_ble_eq_true rfl, Nat.le_of_ble_eq_true rfl⟩ rfl rfl (Nat.le_of_ble_eq_true rfl) ⟨Nat.le_of_ble_eq_true rfl, Nat.le_of_ble_eq_true rfl⟩ gw_1085 dX9_earliest_32) rfl (fun z32 M3 h32 => ?_)
      have hz32 : z32 = 0 := by rw [h32.1]; rfl
      have ew32 : ∀ a b x, ¬ (a = 29 ∧ b = 0 ∧ x = 0) → M3 a b x = M a b x := fun a b x q => by rw [h32.2]; unfold wu; rw [if_neg q]
      have er32 : M3 29 0 0 = 0 := by rw [h32.2]; unfold wu; rw [if_pos ⟨rfl, rfl, rfl⟩]
      have sc32 : RScr M M3 := fun a b x q => ew32 a b x (by omega)
      have qq32 : PEq N P pv (M3 29) := hq.keep (fun b x q => ew32 29 b x (by omega))
      refine r_if_eq (pc' := 38) (tgt := 40) X dX9_earliest_35 rfl rfl (by omega) (fun h35 => ?_) (fun h35 => by exfalso; omega)
      refine r_aload_n (pc' := 41) X 0 dX9_earliest_40 rfl rfl rfl ?_
      refine gf_29_now (pc' := 44) X gw_987 dX9_earliest_41 rfl ?_
      refine r_iconst (pc' := 45) X dX9_earliest_44 rfl ?_
      refine r_aload_n (pc' := 46) X 0 dX9_earliest_45 rfl rfl rfl ?_
      refine gf_29_trial (pc' := 49) X gw_988 dX9_earliest_46 rfl ?_
      refine r_iconst (pc' := 50) X dX9_earliest_49 rfl ?_
      refine r_bipush (pc' := 52) X dX9_earliest_50 rfl rfl ?_
      refine w_callv (pc' := 55) (st := []) (w_runS X (c_X9_copy l G M3 29 13 0 29 14 0 48 48 48 k29_13 k29_14 (by first | assumption | omega) (by first | assumption | omega) (by first | assumption | omega) (by first | assumption | omega) (by first | assumption | omega)) cf_X9_copy gw_1138 rfl rfl ⟨Nat.le_of_ble_eq_true rfl, Nat.le_of_ble_eq_true rfl⟩ rfl rfl (Nat.le_of_ble_eq_true rfl) ⟨Nat.le_of_ble_eq_true rfl, Nat.le_of_ble_eq_true rfl⟩ gw_1137 dX9_earliest_52) rfl (fun M4 h52 => ?_)
      have et : ∀ a b x, ¬ (a = 29 ∧ (b = 14 ∨ (b = 0 ∧ x = 0))) → M4 a b x = M a b x := fun a b x q => by rw [h52.1 a b (by omega), ew32 a b x (by omega)]
      have tt : ∀ x, x < 48 → M4 29 14 x = M 29 13 x := fun x hx => by have q := h52.2.1 x hx; rw [Nat.zero_add] at q; rw [q, ew32 29 13 x (by omega)]
      have e00 : M4 29 0 0 = 0 := by rw [h52.1 29 0 (by omega)]; exact er32
      refine r_iconst (pc' := 56) X dX9_earliest_55 rfl ?_
      refine r_istore (pc' := 58) (lc' := [(0, vR G (29, 0)), (1, vI i), (2, vI v), (3, vI u), (4, vI b0), (5, vI 0)]) X [1, 2, 3, 4, 5, 0] dX9_earliest_56 (by decide) rfl rfl ?_
      have L58 : ∀ (fu : Nat) (t : Nat) (Ma : wM), 61 - t < fu → (t ≤ 61) → (∀ s, s < t → (if b0 = 1 then (itv N pv u (w 0 8) (w 2) (w 3) s).1 i.toNat else (itv N pv u (w 0 8) (w 2) (w 3) s).2 i.toNat) < v) → (∀ i, i < N → Ma 29 14 (4 + i) = (itv N pv u (w 0 8) (w 2) (w 3) t).1 i ∧ Ma 29 14 (8 + i) = (itv N pv u (w 0 8) (w 2) (w 3) t).2 i) → (Ma 29 14 29 = w 0 8) → (∀ a b x, ¬ (a = 29 ∧ (b = 14 ∨ (b = 0 ∧ x = 0))) → Ma a b x = M a b x) → (Ma 29 0 0 = 0) → wV p l e (wrm 2 0 0) s m args below meth c G 6 Ma 0 0 (MQ below (wQi G (fun z M1 => (M1 29 0 0 = 0 ∧ RScr M M1 ∧ ((0 ≤ i ∧ i < N) ∧ -99 ≤ u ∧ u ≤ 99) ∧ ((∃ t : Nat, t ≤ 60 ∧ z = t ∧ v ≤ (if b0 = 1 then (itv N pv u (w 0 8) (w 2) (w 3) t).1 i.toNat else (itv N pv u (w 0 8) (w 2) (w 3) t).2 i.toNat) ∧ ∀ s, s < t → (if b0 = 1 then (itv N pv u (w 0 8) (w 2) (w 3) s).1 i.toNat else (itv N pv u (w 0 8) (w 2) (w 3) s).2 i.toNat) < v) ∨ (z = -9 ∧ ∀ s, s ≤ 60 → (if b0 = 1 then (itv N pv u (w 0 8) (w 2) (w 3) s).1 i.toNat else (itv N pv u (w 0 8) (w 2) (w 3) s).2 i.toNat) < v))) ∨ (M1 29 0 0 = 1 ∧ RScr M M1 ∧ ¬ (0 ≤ i ∧ i < N)) ∨ (M1 29 0 0 = 2 ∧ RScr M M1 ∧ (0 ≤ i ∧ i < N) ∧ ¬ (-99 ≤ u ∧ u ≤ 99)))) args s 0 0 (wA G)) 58 [(0, vR G (29, 0)), (1, vI i), (2, vI v), (3, vI u), (4, vI b0), (5, vI (t : Int))] [] := by
        intro fu
        induction fu with
        | zero => intro t Ma hfu; exact absurd hfu (Nat.not_lt_zero _)
        | succ fu ih58 =>
          intro t Ma hfu58 htn hno hit h29 hfr h00
          refine r_iload (pc' := 60) X 5 dX9_earliest_58 rfl rfl ?_
          refine r_bipush (pc' := 62) X dX9_earliest_60 rfl rfl ?_
          refine r_icmp_gt (pc' := 65) (tgt := 107) X dX9_earliest_62 rfl rfl (by omega) (by omega) (fun h62 => ?_) (fun h62 => ?_)
          · refine r_bipush (pc' := 109) X dX9_earliest_107 rfl rfl ?_
            refine w_iret X hr dX9_earliest_109 ?_
            try dsimp only
            exact Or.inl ⟨h00, fun a b x q => hfr a b x (by omega), by omega, Or.inr ⟨rfl, fun s hs => hno s (by omega)⟩⟩
          · have hbt := itv_bd (u := u) hp hbx hBo.1 t
            have hiv := hit i.toNat (by omega)
            have hb3 := hbt i.toNat (by omega)
            obtain ⟨ev, hev⟩ : ∃ x, x = (if b0 = 1 then (itv N pv u (w 0 8) (w 2) (w 3) t).1 i.toNat else (itv N pv u (w 0 8) (w 2) (w 3) t).2 i.toNat) := ⟨_, rfl⟩
            refine r_aload_n (pc' := 66) X 0 dX9_earliest_65 rfl rfl rfl ?_
            refine gf_29_trial (pc' := 69) X gw_988 dX9_earliest_66 rfl ?_
            refine r_iload (pc' := 71) X 4 dX9_earliest_69 rfl rfl ?_
            refine r_if_eq (pc' := 74) (tgt := 80) X dX9_earliest_71 rfl rfl (by omega) (fun h71 => ?_) (fun h71 => ?_)
            · refine r_bipush (pc' := 82) X dX9_earliest_80 rfl rfl ?_
              refine r_iload_n (pc' := 83) X 1 dX9_earliest_82 rfl rfl rfl ?_
              refine r_iadd (pc' := 84) X dX9_earliest_83 rfl ?_
              refine r_iald (i := (8 + i.toNat)) (pc' := 85) X k29_14 (by omega) (by omega) (by decide) dX9_earliest_84 rfl ?_
              have hst : (Ma 29 14 (8 + i.toNat)) = ev := by rw [hev]; first | (rw [if_pos (by omega)]; exact hiv.1) | (rw [if_neg (by omega)]; exact hiv.2)
              have hrr : rI ((Ma 29 14 (8 + i.toNat))) := by omega
              refine r_iload_n (pc' := 86) X 2 dX9_earliest_85 rfl rfl rfl ?_
              refine r_icmp_lt (pc' := 89) (tgt := 92) X dX9_earliest_86 rfl rfl (by omega) (by omega) (fun h86 => ?_) (fun h86 => ?_)
              · have hlt : (if b0 = 1 then (itv N pv u (w 0 8) (w 2) (w 3) t).1 i.toNat else (itv N pv u (w 0 8) (w 2) (w 3) t).2 i.toNat) < v := by rw [← hev]; omega
                refine r_aload_n (pc' := 93) X 0 dX9_earliest_92 rfl rfl rfl ?_
                refine r_aload_n (pc' := 94) X 0 dX9_earliest_93 rfl rfl rfl ?_
                refine gf_29_trial (pc' := 97) X gw_988 dX9_earliest_94 rfl ?_
                refine r_iload_n (pc' := 98) X 3 dX9_earliest_97 rfl rfl rfl ?_
                refine w_callv (pc' := 101) (st := []) (w_runV X (c_X9_boundsOn l G Ma N P pv (by first | assumption | omega) (hq.keep (fun b x q => hfr 29 b x (by omega))) 14 k29_14 (by first | assumption | omega) ((itv N pv u (w 0 8) (w 2) (w 3) t).1) ((itv N pv u (w 0 8) (w 2) (w 3) t).2) (fun i hi => (hit i hi).1) (fun i hi => (hit i hi).2) (fun i hi => by have := hbt i hi; omega) (fun i hi => by have := hbt i hi; omega) (w 0 8) h29 hBo u (by omega)) cf_X9_boundsOn k29_0 rfl gw_1224 gp_45 rfl rfl ⟨Nat.le_of_ble_eq_true rfl, Nat.le_of_ble_eq_true rfl⟩ rfl rfl (Nat.le_of_ble_eq_true rfl) ⟨Nat.le_of_ble_eq_true rfl, Nat.le_of_ble_eq_true rfl⟩ gw_1222 dX9_earliest_98) rfl (fun M5 h98 => ?_)
                have h29n : M5 29 14 29 = w 0 8 := by rw [h98.2.2.2 29 14 29 (by omega)]; exact h29
                have h00n : M5 29 0 0 = 0 := by rw [h98.2.2.2 29 0 0 (by omega)]; exact h00
                refine r_iinc (pc' := 104) (z' := ((t + 1 : Nat) : Int)) (lc' := [(0, vR G (29, 0)), (1, vI i), (2, vI v), (3, vI u), (4, vI b0), (5, vI ((t + 1 : Nat) : Int))]) X 5 [1, 2, 3, 4, 5, 0] dX9_earliest_101 rfl (by omega) (by decide) rfl rfl ?_
                refine r_goto (tgt := 58) X dX9_earliest_104 rfl ?_
                exact ih58 (t + 1) M5 (by omega) (by omega) (fun s hs => by rcases Nat.lt_or_ge s t with q | q; exact hno s q; rw [show s = t by omega]; exact hlt) (fun i hi => h98.2.1 i hi) h29n (fun a b x q => by rw [h98.2.2.2 a b x (by omega)]; exact hfr a b x q) h00n
              · refine r_iload (pc' := 91) X 5 dX9_earliest_89 rfl rfl ?_
                refine w_iret X hr dX9_earliest_91 ?_
                try dsimp only
                exact Or.inl ⟨h00, fun a b x q => hfr a b x (by omega), by omega, Or.inl ⟨t, by omega, rfl, by rw [← hev]; omega, hno⟩⟩
            · refine r_iconst (pc' := 75) X dX9_earliest_74 rfl ?_
              refine r_iload_n (pc' := 76) X 1 dX9_earliest_75 rfl rfl rfl ?_
              refine r_iadd (pc' := 77) X dX9_earliest_76 rfl ?_
              refine r_goto (tgt := 84) X dX9_earliest_77 rfl ?_
              refine r_iald (i := (4 + i.toNat)) (pc' := 85) X k29_14 (by omega) (by omega) (by decide) dX9_earliest_84 rfl ?_
              have hst : (Ma 29 14 (4 + i.toNat)) = ev := by rw [hev]; first | (rw [if_pos (by omega)]; exact hiv.1) | (rw [if_neg (by omega)]; exact hiv.2)
              have hrr : rI ((Ma 29 14 (4 + i.toNat))) := by omega
              refine r_iload_n (pc' := 86) X 2 dX9_earliest_85 rfl rfl rfl ?_
              refine r_icmp_lt (pc' := 89) (tgt := 92) X dX9_earliest_86 rfl rfl (by omega) (by omega) (fun h86 => ?_) (fun h86 => ?_)
              · have hlt : (if b0 = 1 then (itv N pv u (w 0 8) (w 2) (w 3) t).1 i.toNat else (itv N pv u (w 0 8) (w 2) (w 3) t).2 i.toNat) < v := by rw [← hev]; omega
                refine r_aload_n (pc' := 93) X 0 dX9_earliest_92 rfl rfl rfl ?_
                refine r_aload_n (pc' := 94) X 0 dX9_earliest_93 rfl rfl rfl ?_
                refine gf_29_trial (pc' := 97) X gw_988 dX9_earliest_94 rfl ?_
                refine r_iload_n (pc' := 98) X 3 dX9_earliest_97 rfl rfl rfl ?_
                refine w_callv (pc' := 101) (st := []) (w_runV X (c_X9_boundsOn l G Ma N P pv (by first | assumption | omega) (hq.keep (fun b x q => hfr 29 b x (by omega))) 14 k29_14 (by first | assumption | omega) ((itv N pv u (w 0 8) (w 2) (w 3) t).1) ((itv N pv u (w 0 8) (w 2) (w 3) t).2) (fun i hi => (hit i hi).1) (fun i hi => (hit i hi).2) (fun i hi => by have := hbt i hi; omega) (fun i hi => by have := hbt i hi; omega) (w 0 8) h29 hBo u (by omega)) cf_X9_boundsOn k29_0 rfl gw_1224 gp_45 rfl rfl ⟨Nat.le_of_ble_eq_true rfl, Nat.le_of_ble_eq_true rfl⟩ rfl rfl (Nat.le_of_ble_eq_true rfl) ⟨Nat.le_of_ble_eq_true rfl, Nat.le_of_ble_eq_true rfl⟩ gw_1222 dX9_earliest_98) rfl (fun M6 h98 => ?_)
                have h29n : M6 29 14 29 = w 0 8 := by rw [h98.2.2.2 29 14 29 (by omega)]; exact h29
                have h00n : M6 29 0 0 = 0 := by rw [h98.2.2.2 29 0 0 (by omega)]; exact h00
                refine r_iinc (pc' := 104) (z' := ((t + 1 : Nat) : Int)) (lc' := [(0, vR G (29, 0)), (1, vI i), (2, vI v), (3, vI u), (4, vI b0), (5, vI ((t + 1 : Nat) : Int))]) X 5 [1, 2, 3, 4, 5, 0] dX9_earliest_101 rfl (by omega) (by decide) rfl rfl ?_
                refine r_goto (tgt := 58) X dX9_earliest_104 rfl ?_
                exact ih58 (t + 1) M6 (by omega) (by omega) (fun s hs => by rcases Nat.lt_or_ge s t with q | q; exact hno s q; rw [show s = t by omega]; exact hlt) (fun i hi => h98.2.1 i hi) h29n (fun a b x q => by rw [h98.2.2.2 a b x (by omega)]; exact hfr a b x q) h00n
              · refine r_iload (pc' := 91) X 5 dX9_earliest_89 rfl rfl ?_
                refine w_iret X hr dX9_earliest_91 ?_
                try dsimp only
                exact Or.inl ⟨h00, fun a b x q => hfr a b x (by omega), by omega, Or.inl ⟨t, by omega, rfl, by rw [← hev]; omega, hno⟩⟩
      exact L58 ((61 - 0) + 1) 0 M4 (Nat.lt_succ_self _) (by omega) (fun s h => absurd h (Nat.not_lt_zero s)) (fun i hi => ⟨by rw [tt _ (by omega)]; exact (v1 i hi).2.1, by rw [tt _ (by omega)]; exact (v1 i hi).2.2.1⟩) (by rw [tt _ (by omega)]; exact v29) et e00
    · refine r_iconst (pc' := 28) X dX9_earliest_27 rfl ?_
      refine r_goto (tgt := 32) X dX9_earliest_28 rfl ?_
      refine w_calli (pc' := 35) (st := []) (w_runV X (c_X9_refused l G M 2 (by first | assumption | omega)) cf_X9_refused k29_0 rfl gw_1087 gp_25 rfl rfl ⟨Nat.le_of_ble_eq_true rfl, Nat.le_of_ble_eq_true rfl⟩ rfl rfl (Nat.le_of_ble_eq_true rfl) ⟨Nat.le_of_ble_eq_true rfl, Nat.le_of_ble_eq_true rfl⟩ gw_1085 dX9_earliest_32) rfl (fun z32 M7 h32 => ?_)
      have hz32 : z32 = 1 := by rw [h32.1]; rfl
      have ew32 : ∀ a b x, ¬ (a = 29 ∧ b = 0 ∧ x = 0) → M7 a b x = M a b x := fun a b x q => by rw [h32.2]; unfold wu; rw [if_neg q]
      have er32 : M7 29 0 0 = 2 := by rw [h32.2]; unfold wu; rw [if_pos ⟨rfl, rfl, rfl⟩]
      have sc32 : RScr M M7 := fun a b x q => ew32 a b x (by omega)
      have qq32 : PEq N P pv (M7 29) := hq.keep (fun b x q => ew32 29 b x (by omega))
      refine r_if_eq (pc' := 38) (tgt := 40) X dX9_earliest_35 rfl rfl (by omega) (fun h35 => by exfalso; omega) (fun h35 => ?_)
      refine r_iconst (pc' := 39) X dX9_earliest_38 rfl ?_
      refine w_iret X hr dX9_earliest_39 ?_
      try dsimp only
      exact (Or.inr (Or.inr ⟨er32, sc32, by omega⟩))
  · refine r_iconst (pc' := 10) X dX9_earliest_9 rfl ?_
    refine r_goto (tgt := 32) X dX9_earliest_10 rfl ?_
    refine w_calli (pc' := 35) (st := []) (w_runV X (c_X9_refused l G M 1 (by first | assumption | omega)) cf_X9_refused k29_0 rfl gw_1087 gp_25 rfl rfl ⟨Nat.le_of_ble_eq_true rfl, Nat.le_of_ble_eq_true rfl⟩ rfl rfl (Nat.le_of_ble_eq_true rfl) ⟨Nat.le_of_ble_eq_true rfl, Nat.le_of_ble_eq_true rfl⟩ gw_1085 dX9_earliest_32) rfl (fun z32 M8 h32 => ?_)
    have hz32 : z32 = 1 := by rw [h32.1]; rfl
    have ew32 : ∀ a b x, ¬ (a = 29 ∧ b = 0 ∧ x = 0) → M8 a b x = M a b x := fun a b x q => by rw [h32.2]; unfold wu; rw [if_neg q]
    have er32 : M8 29 0 0 = 1 := by rw [h32.2]; unfold wu; rw [if_pos ⟨rfl, rfl, rfl⟩]
    have sc32 : RScr M M8 := fun a b x q => ew32 a b x (by omega)
    have qq32 : PEq N P pv (M8 29) := hq.keep (fun b x q => ew32 29 b x (by omega))
    refine r_if_eq (pc' := 38) (tgt := 40) X dX9_earliest_35 rfl rfl (by omega) (fun h35 => by exfalso; omega) (fun h35 => ?_)
    refine r_iconst (pc' := 39) X dX9_earliest_38 rfl ?_
    refine w_iret X hr dX9_earliest_39 ?_
    try dsimp only
    exact (Or.inr (Or.inl ⟨er32, sc32, by omega⟩))
theorem cf_X9_canBe : wCal yX9_canBe cX9_canBe 7 (some .boolean) 4 := ⟨gw_1278, gw_10, by decide, by decide, by rfl⟩
set_option maxRecDepth 100000 in
set_option maxHeartbeats 4000000 in
theorem c_X9_canBe (l : Launch) (G : wG) (M : wM) (N P : Nat) (pv : Nat → Nat → Int) (hp : PlOk pv N P) (hq : PEq N P pv (M 29)) (w : Nat → Nat → Int) (T : Int) (hm : MoOk w N P T) (hT6 : T ≤ 1000000) (hv : REq N P w (M 29 13)) (a0 b0 c0 d0 : Int) (ha0 : rI a0) (hb0 : rI b0) (hc0 : rI c0) (hd0 : rI d0) (rr : Nat → Int) (hr0 : rr 0 = a0) (hr1 : rr 1 = b0) (hr2 : rr 2 = c0) (hr3 : rr 3 = d0) : Met l yX9_canBe (gws yX9_canBe cX9_canBe 7 (some .boolean)) (wrm 2 0 0) (wPc G M [vR G (29, 0), vI a0, vI b0, vI c0, vI d0]) (wQi G (fun z M1 => (M1 29 0 0 = 0 ∧ RScr M M1 ∧ (∀ i, N ≤ i → i < 4 → rr i = 0) ∧ (z = 0 ∨ z = 1) ∧ (z = 1 ↔ (∀ i, i < N → w 2 i ≤ rr i ∧ rr i ≤ w 3 i) ∧ meets N P pv rr (w 10) (w 11))) ∨ (M1 29 0 0 = 1 ∧ RScr M M1 ∧ ¬ ∀ i, N ≤ i → i < 4 → rr i = 0))) 0 0 (wA G) := by
  refine wMet (lc := [(0, vR G (29, 0)), (1, vI a0), (2, vI b0), (3, vI c0), (4, vI d0)]) (by decide) (Nat.le_of_ble_eq_true rfl) rfl ?_
  intro p e s m args below meth c X hr
  have X : wX p s m args meth c G 7 "StateObserverModel" cX9_canBe := X
  obtain ⟨hN, hN1, hN4, hP, hP1, hP3, hA, hB, hE, hC, hQ⟩ := id hp
  obtain ⟨qN, qP, qA, qB, qE, qC, qQ⟩ := id hq
  obtain ⟨hT, hL, hU, hS, hG, hY, hAg, hHo, hBo, hTi, hLi, hLb, hLl, hLh⟩ := id hm
  obtain ⟨v1, v2, v3, v28, v29, v30, v38, v39, v37⟩ := id hv
  refine r_aload_n (pc' := 1) X 0 dX9_canBe_0 rfl rfl rfl ?_
  refine gf_29_now (pc' := 4) X gw_987 dX9_canBe_1 rfl ?_
  refine r_iconst (pc' := 5) X dX9_canBe_4 rfl ?_
  refine r_aload_n (pc' := 6) X 0 dX9_canBe_5 rfl rfl rfl ?_
  refine gf_29_trial (pc' := 9) X gw_988 dX9_canBe_6 rfl ?_
  refine r_iconst (pc' := 10) X dX9_canBe_9 rfl ?_
  refine r_bipush (pc' := 12) X dX9_canBe_10 rfl rfl ?_
  refine w_callv (pc' := 15) (st := []) (w_runS X (c_X9_copy l G M 29 13 0 29 14 0 48 48 48 k29_13 k29_14 (by first | assumption | omega) (by first | assumption | omega) (by first | assumption | omega) (by first | assumption | omega) (by first | assumption | omega)) cf_X9_copy gw_1138 rfl rfl ⟨Nat.le_of_ble_eq_true rfl, Nat.le_of_ble_eq_true rfl⟩ rfl rfl (Nat.le_of_ble_eq_true rfl) ⟨Nat.le_of_ble_eq_true rfl, Nat.le_of_ble_eq_true rfl⟩ gw_1137 dX9_canBe_12) rfl (fun M1 h12 => ?_)
  have t12 : ∀ x, x < 48 → M1 29 14 x = M 29 13 x := fun x hx => by have q := h12.2.1 x hx; rw [Nat.zero_add] at q; exact q
  refine r_aload_n (pc' := 16) X 0 dX9_canBe_15 rfl rfl rfl ?_
  refine gf_29_trial (pc' := 19) X gw_988 dX9_canBe_16 rfl ?_
  refine r_bipush (pc' := 21) X dX9_canBe_19 rfl rfl ?_
  refine r_iload_n (pc' := 22) X 1 dX9_canBe_21 rfl rfl rfl ?_
  refine r_iast (i := 12) (pc' := 23) X k29_14 (by omega) (by omega) (by decide) dX9_canBe_22 rfl (fun M2 hM2 => ?_)
  refine r_aload_n (pc' := 24) X 0 dX9_canBe_23 rfl rfl rfl ?_
  refine gf_29_trial (pc' := 27) X gw_988 dX9_canBe_24 rfl ?_
  refine r_bipush (pc' := 29) X dX9_canBe_27 rfl rfl ?_
  refine r_iload_n (pc' := 30) X 2 dX9_canBe_29 rfl rfl rfl ?_
  refine r_iast (i := 13) (pc' := 31) X k29_14 (by omega) (by omega) (by decide) dX9_canBe_30 rfl (fun M3 hM3 => ?_)
  refine r_aload_n (pc' := 32) X 0 dX9_canBe_31 rfl rfl rfl ?_
  refine gf_29_trial (pc' := 35) X gw_988 dX9_canBe_32 rfl ?_
  refine r_bipush (pc' := 37) X dX9_canBe_35 rfl rfl ?_
  refine r_iload_n (pc' := 38) X 3 dX9_canBe_37 rfl rfl rfl ?_
  refine r_iast (i := 14) (pc' := 39) X k29_14 (by omega) (by omega) (by decide) dX9_canBe_38 rfl (fun M4 hM4 => ?_)
  refine r_aload_n (pc' := 40) X 0 dX9_canBe_39 rfl rfl rfl ?_
  refine gf_29_trial (pc' := 43) X gw_988 dX9_canBe_40 rfl ?_
  refine r_bipush (pc' := 45) X dX9_canBe_43 rfl rfl ?_
  refine r_iload (pc' := 47) X 4 dX9_canBe_45 rfl rfl ?_
  refine r_iast (i := 15) (pc' := 48) X k29_14 (by omega) (by omega) (by decide) dX9_canBe_47 rfl (fun M5 hM5 => ?_)
  have et : ∀ a b x, ¬ (a = 29 ∧ b = 14) → M5 a b x = M a b x := fun a b x q => by rw [hM5, wu_ne (by omega), hM4, wu_ne (by omega), hM3, wu_ne (by omega), hM2, wu_ne (by omega)]; exact congrFun (h12.1 a b (by omega)) x
  have qt : PEq N P pv (M5 29) := hq.keep (fun b x q => et 29 b x (by omega))
  have st : ∀ x, ¬ (12 ≤ x ∧ x < 16) → x < 48 → M5 29 14 x = M 29 13 x := fun x h1 h2 => by rw [hM5]; unfold wu; rw [if_neg (by omega), hM4]; unfold wu; rw [if_neg (by omega), hM3]; unfold wu; rw [if_neg (by omega), hM2]; unfold wu; rw [if_neg (by omega)]; exact t12 x h2
  have h4 : ∀ j, j < 4 → M5 29 14 (12 + j) = rr j := fun j hj => by
    rcases (show j = 0 ∨ j = 1 ∨ j = 2 ∨ j = 3 by omega) with rfl | rfl | rfl | rfl
    · rw [hr0, hM5]; unfold wu; rw [if_neg (by omega), hM4]; unfold wu; rw [if_neg (by omega), hM3]; unfold wu; rw [if_neg (by omega), hM2]; unfold wu; rw [if_pos ⟨rfl, rfl, rfl⟩]
    · rw [hr1, hM5]; unfold wu; rw [if_neg (by omega), hM4]; unfold wu; rw [if_neg (by omega), hM3]; unfold wu; rw [if_pos ⟨rfl, rfl, rfl⟩]
    · rw [hr2, hM5]; unfold wu; rw [if_neg (by omega), hM4]; unfold wu; rw [if_pos ⟨rfl, rfl, rfl⟩]
    · rw [hr3, hM5]; unfold wu; rw [if_pos ⟨rfl, rfl, rfl⟩]
  have hr4 : ∀ j, j < 4 → rI (rr j) := fun j hj => by
    rcases (show j = 0 ∨ j = 1 ∨ j = 2 ∨ j = 3 by omega) with rfl | rfl | rfl | rfl <;> omega
  refine r_iconst (pc' := 49) X dX9_canBe_48 rfl ?_
  refine r_istore (pc' := 51) (lc' := [(0, vR G (29, 0)), (1, vI a0), (2, vI b0), (3, vI c0), (4, vI d0), (5, vI 1)]) X [1, 2, 3, 4, 5, 0] dX9_canBe_49 (by decide) rfl rfl ?_
  refine r_aload_n (pc' := 52) X 0 dX9_canBe_51 rfl rfl rfl ?_
  refine gf_29_states (pc' := 55) X gw_972 dX9_canBe_52 rfl ?_
  refine w_eqI (z' := (N : Int)) qt.1 ?_
  refine r_istore (pc' := 57) (lc' := [(0, vR G (29, 0)), (1, vI a0), (2, vI b0), (3, vI c0), (4, vI d0), (5, vI 1), (6, vI (N : Int))]) X [1, 2, 3, 4, 5, 6, 0] dX9_canBe_55 (by decide) rfl rfl ?_
  have L57 : ∀ (fu : Nat) (j : Nat) (fi : Int), 4 - j < fu → (N ≤ j ∧ j ≤ 4) → (fi = 0 ∨ fi = 1) → (fi = 1 ↔ ∀ i, N ≤ i → i < j → rr i = 0) → wV p l e (wrm 2 0 0) s m args below meth c G 7 M5 0 0 (MQ below (wQi G (fun z M1 => (M1 29 0 0 = 0 ∧ RScr M M1 ∧ (∀ i, N ≤ i → i < 4 → rr i = 0) ∧ (z = 0 ∨ z = 1) ∧ (z = 1 ↔ (∀ i, i < N → w 2 i ≤ rr i ∧ rr i ≤ w 3 i) ∧ meets N P pv rr (w 10) (w 11))) ∨ (M1 29 0 0 = 1 ∧ RScr M M1 ∧ ¬ ∀ i, N ≤ i → i < 4 → rr i = 0))) args s 0 0 (wA G)) 57 [(0, vR G (29, 0)), (1, vI a0), (2, vI b0), (3, vI c0), (4, vI d0), (5, vI fi), (6, vI (j : Int))] [] := by
    intro fu
    induction fu with
    | zero => intro j fi hfu; exact absurd hfu (Nat.not_lt_zero _)
    | succ fu ih57 =>
      intro j fi hfu57 hj0 hfi hfz
      refine r_iload (pc' := 59) X 6 dX9_canBe_57 rfl rfl ?_
      refine r_iconst (pc' := 60) X dX9_canBe_59 rfl ?_
      refine r_icmp_ge (pc' := 63) (tgt := 94) X dX9_canBe_60 rfl rfl (by omega) (by omega) (fun h60 => ?_) (fun h60 => ?_)
      · have hfz4 := hfz
        rw [show j = 4 by omega] at hfz4
        refine r_aload_n (pc' := 95) X 0 dX9_canBe_94 rfl rfl rfl ?_
        refine r_iload (pc' := 97) X 5 dX9_canBe_95 rfl rfl ?_
        refine r_if_eq (pc' := 100) (tgt := 104) X dX9_canBe_97 rfl rfl (by omega) (fun h97 => ?_) (fun h97 => ?_)
        · refine r_iconst (pc' := 105) X dX9_canBe_104 rfl ?_
          refine w_calli (pc' := 108) (st := []) (w_runV X (c_X9_refused l G M5 1 (by first | assumption | omega)) cf_X9_refused k29_0 rfl gw_1087 gp_25 rfl rfl ⟨Nat.le_of_ble_eq_true rfl, Nat.le_of_ble_eq_true rfl⟩ rfl rfl (Nat.le_of_ble_eq_true rfl) ⟨Nat.le_of_ble_eq_true rfl, Nat.le_of_ble_eq_true rfl⟩ gw_1085 dX9_canBe_105) rfl (fun z105 M6 h105 => ?_)
          have hz105 : z105 = 1 := by rw [h105.1]; rfl
          have ew105 : ∀ a b x, ¬ (a = 29 ∧ b = 0 ∧ x = 0) → M6 a b x = M5 a b x := fun a b x q => by rw [h105.2]; unfold wu; rw [if_neg q]
          have er105 : M6 29 0 0 = 1 := by rw [h105.2]; unfold wu; rw [if_pos ⟨rfl, rfl, rfl⟩]
          have sc105 : RScr M5 M6 := fun a b x q => ew105 a b x (by omega)
          refine r_if_ne (pc' := 111) (tgt := 128) X dX9_canBe_108 rfl rfl (by omega) (fun h108 => ?_) (fun h108 => by exfalso; omega)
          refine r_iconst (pc' := 129) X dX9_canBe_128 rfl ?_
          refine w_zret X hr (by decide) dX9_canBe_129 ?_
          try dsimp only
          exact Or.inr ⟨er105, fun a b x q => by rw [ew105 a b x (by omega), et a b x (by omega)], fun q => by have := hfz4.mpr q; omega⟩
        · refine r_iconst (pc' := 101) X dX9_canBe_100 rfl ?_
          refine r_goto (tgt := 105) X dX9_canBe_101 rfl ?_
          refine w_calli (pc' := 108) (st := []) (w_runV X (c_X9_refused l G M5 0 (by first | assumption | omega)) cf_X9_refused k29_0 rfl gw_1087 gp_25 rfl rfl ⟨Nat.le_of_ble_eq_true rfl, Nat.le_of_ble_eq_true rfl⟩ rfl rfl (Nat.le_of_ble_eq_true rfl) ⟨Nat.le_of_ble_eq_true rfl, Nat.le_of_ble_eq_true rfl⟩ gw_1085 dX9_canBe_105) rfl (fun z105 M7 h105 => ?_)
          have hz105 : z105 = 0 := by rw [h105.1]; rfl
          have ew105 : ∀ a b x, ¬ (a = 29 ∧ b = 0 ∧ x = 0) → M7 a b x = M5 a b x := fun a b x q => by rw [h105.2]; unfold wu; rw [if_neg q]
          have er105 : M7 29 0 0 = 0 := by rw [h105.2]; unfold wu; rw [if_pos ⟨rfl, rfl, rfl⟩]
          have sc105 : RScr M5 M7 := fun a b x q => ew105 a b x (by omega)
          refine r_if_ne (pc' := 111) (tgt := 128) X dX9_canBe_108 rfl rfl (by omega) (fun h108 => by exfalso; omega) (fun h108 => ?_)
          refine r_aload_n (pc' := 112) X 0 dX9_canBe_111 rfl rfl rfl ?_
          refine r_aload_n (pc' := 113) X 0 dX9_canBe_112 rfl rfl rfl ?_
          refine gf_29_trial (pc' := 116) X gw_988 dX9_canBe_113 rfl ?_
          refine r_bipush (pc' := 118) X dX9_canBe_116 rfl rfl ?_
          refine w_calli (pc' := 121) (st := []) (w_runV X (c_X9_fits l G M7 N P pv (by first | assumption | omega) (qt.keep (fun b x q => ew105 29 b x (by omega))) 14 12 k29_14 (by first | assumption | omega) rr (fun j hj => by rw [ew105 29 14 _ (by omega)]; exact h4 j (by omega)) (fun j hj => hr4 j (by omega)) (w 2) (w 3) (fun j hj => by rw [ew105 29 14 _ (by omega), st _ (by omega) (by omega)]; exact (v1 j hj).2.1) (fun j hj => by rw [ew105 29 14 _ (by omega), st _ (by omega) (by omega)]; exact (v1 j hj).2.2.1) hL hU (w 10) (w 11) (fun k hk => by rw [ew105 29 14 _ (by omega), st _ (by omega) (by omega)]; exact (v3 k hk).1) (fun k hk => by rw [ew105 29 14 _ (by omega), st _ (by omega) (by omega)]; exact (v3 k hk).2) hY (fun k hk => by have := hAg k hk; omega)) cf_X9_fits k29_0 rfl gw_1188 gp_39 rfl rfl ⟨Nat.le_of_ble_eq_true rfl, Nat.le_of_ble_eq_true rfl⟩ rfl rfl (Nat.le_of_ble_eq_true rfl) ⟨Nat.le_of_ble_eq_true rfl, Nat.le_of_ble_eq_true rfl⟩ gw_1186 dX9_canBe_118) rfl (fun z118 M8 h118 => ?_)
          have hz118 := h118.1
          have hzf := h118.2.1
          obtain rfl := h118.2.2.symm
          refine r_if_eq (pc' := 124) (tgt := 128) X dX9_canBe_121 rfl rfl (by omega) (fun h121 => ?_) (fun h121 => ?_)
          · refine r_iconst (pc' := 129) X dX9_canBe_128 rfl ?_
            refine w_zret X hr (by decide) dX9_canBe_129 ?_
            try dsimp only
            exact Or.inl ⟨er105, fun a b x q => by rw [ew105 a b x (by omega), et a b x (by omega)], hfz4.mp (by omega), by omega, by rw [← hzf]; omega⟩
          · refine r_iconst (pc' := 125) X dX9_canBe_124 rfl ?_
            refine r_goto (tgt := 129) X dX9_canBe_125 rfl ?_
            refine w_zret X hr (by decide) dX9_canBe_129 ?_
            try dsimp only
            exact Or.inl ⟨er105, fun a b x q => by rw [ew105 a b x (by omega), et a b x (by omega)], hfz4.mp (by omega), by omega, by rw [← hzf]; omega⟩
      · have hjr := h4 j (by omega)
        have hjr2 := hr4 j (by omega)
        refine r_iload (pc' := 65) X 5 dX9_canBe_63 rfl rfl ?_
        refine r_if_eq (pc' := 68) (tgt := 85) X dX9_canBe_65 rfl rfl (by omega) (fun h65 => ?_) (fun h65 => ?_)
        · refine r_iconst (pc' := 86) X dX9_canBe_85 rfl ?_
          refine r_istore (pc' := 88) (lc' := [(0, vR G (29, 0)), (1, vI a0), (2, vI b0), (3, vI c0), (4, vI d0), (5, vI 0), (6, vI (j : Int))]) X [1, 2, 3, 4, 5, 0, 6] dX9_canBe_86 (by decide) rfl rfl ?_
          refine r_iinc (pc' := 91) (z' := ((j + 1 : Nat) : Int)) (lc' := [(0, vR G (29, 0)), (1, vI a0), (2, vI b0), (3, vI c0), (4, vI d0), (5, vI 0), (6, vI ((j + 1 : Nat) : Int))]) X 6 [1, 2, 3, 4, 5, 6, 0] dX9_canBe_88 rfl (by omega) (by decide) rfl rfl ?_
          refine r_goto (tgt := 57) X dX9_canBe_91 rfl ?_
          exact ih57 (j + 1) 0 (by omega) (by omega) (by first | exact Or.inl rfl | exact Or.inr rfl) (by first | exact ⟨fun _ i h1 h2 => by rcases Nat.lt_or_ge i j with q | q; exact hfz.mp (by omega) i h1 q; rw [show i = j by omega]; omega, fun _ => rfl⟩ | exact ⟨fun q => absurd q (by decide), fun q => by exfalso; have := hfz.mpr (fun i h1 h2 => q i h1 (by omega)); have := q j (by omega) (by omega); omega⟩)
        · refine r_aload_n (pc' := 69) X 0 dX9_canBe_68 rfl rfl rfl ?_
          refine gf_29_trial (pc' := 72) X gw_988 dX9_canBe_69 rfl ?_
          refine r_bipush (pc' := 74) X dX9_canBe_72 rfl rfl ?_
          refine r_iload (pc' := 76) X 6 dX9_canBe_74 rfl rfl ?_
          refine r_iadd (pc' := 77) X dX9_canBe_76 rfl ?_
          refine r_iald (i := (12 + j)) (pc' := 78) X k29_14 (by omega) (by omega) (by decide) dX9_canBe_77 rfl ?_
          refine r_if_ne (pc' := 81) (tgt := 85) X dX9_canBe_78 rfl rfl (by omega) (fun h78 => ?_) (fun h78 => ?_)
          · refine r_iconst (pc' := 86) X dX9_canBe_85 rfl ?_
            refine r_istore (pc' := 88) (lc' := [(0, vR G (29, 0)), (1, vI a0), (2, vI b0), (3, vI c0), (4, vI d0), (5, vI 0), (6, vI (j : Int))]) X [1, 2, 3, 4, 5, 0, 6] dX9_canBe_86 (by decide) rfl rfl ?_
            refine r_iinc (pc' := 91) (z' := ((j + 1 : Nat) : Int)) (lc' := [(0, vR G (29, 0)), (1, vI a0), (2, vI b0), (3, vI c0), (4, vI d0), (5, vI 0), (6, vI ((j + 1 : Nat) : Int))]) X 6 [1, 2, 3, 4, 5, 6, 0] dX9_canBe_88 rfl (by omega) (by decide) rfl rfl ?_
            refine r_goto (tgt := 57) X dX9_canBe_91 rfl ?_
            exact ih57 (j + 1) 0 (by omega) (by omega) (by first | exact Or.inl rfl | exact Or.inr rfl) (by first | exact ⟨fun _ i h1 h2 => by rcases Nat.lt_or_ge i j with q | q; exact hfz.mp (by omega) i h1 q; rw [show i = j by omega]; omega, fun _ => rfl⟩ | exact ⟨fun q => absurd q (by decide), fun q => by exfalso; have := hfz.mpr (fun i h1 h2 => q i h1 (by omega)); have := q j (by omega) (by omega); omega⟩)
          · refine r_iconst (pc' := 82) X dX9_canBe_81 rfl ?_
            refine r_goto (tgt := 86) X dX9_canBe_82 rfl ?_
            refine r_istore (pc' := 88) (lc' := [(0, vR G (29, 0)), (1, vI a0), (2, vI b0), (3, vI c0), (4, vI d0), (5, vI 1), (6, vI (j : Int))]) X [1, 2, 3, 4, 5, 0, 6] dX9_canBe_86 (by decide) rfl rfl ?_
            refine r_iinc (pc' := 91) (z' := ((j + 1 : Nat) : Int)) (lc' := [(0, vR G (29, 0)), (1, vI a0), (2, vI b0), (3, vI c0), (4, vI d0), (5, vI 1), (6, vI ((j + 1 : Nat) : Int))]) X 6 [1, 2, 3, 4, 5, 6, 0] dX9_canBe_88 rfl (by omega) (by decide) rfl rfl ?_
            refine r_goto (tgt := 57) X dX9_canBe_91 rfl ?_
            exact ih57 (j + 1) 1 (by omega) (by omega) (by first | exact Or.inl rfl | exact Or.inr rfl) (by first | exact ⟨fun _ i h1 h2 => by rcases Nat.lt_or_ge i j with q | q; exact hfz.mp (by omega) i h1 q; rw [show i = j by omega]; omega, fun _ => rfl⟩ | exact ⟨fun q => absurd q (by decide), fun q => by exfalso; have := hfz.mpr (fun i h1 h2 => q i h1 (by omega)); have := q j (by omega) (by omega); omega⟩)
  exact L57 ((4 - N) + 1) N 1 (Nat.lt_succ_self _) (by omega) (Or.inr rfl) ⟨fun _ i h1 h2 => absurd h1 (by omega), fun _ => rfl⟩
