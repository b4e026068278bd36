theorem cf_X7_takeHead : wCal yX7_takeHead cX7_takeHead 1 none 0 := ⟨gw_335, gw_6, by decide, by decide, by rfl⟩
set_option maxRecDepth 100000 in
set_option maxHeartbeats 4000000 in
theorem c_X7_takeHead (l : Launch) (G : wG) (M : wM) (L : Nat) (s0 : pS) (ht : TxOk (M 27) L s0) : Met l yX7_takeHead (gws yX7_takeHead cX7_takeHead 1 none) (wrm 3 0 0) (wPc G M [vR G (27, 0)]) (wQv G (fun M1 => M1 = setS (wu (wu (wu (wu M 20 0 0 (hdN (M 27 1) L s0).1) 20 0 1 (hdP (M 27 1) L s0).1) 2 0 8 (hdB (M 27 1) L s0).1) 2 0 7 (hdH (M 27 1) L s0).1) (hdH (M 27 1) L s0).2)) 0 0 (wA G) := by
  refine wMet (lc := [(0, vR G (27, 0))]) (by decide) (Nat.le_of_ble_eq_true rfl) rfl ?_
  intro p e s m args below meth c X hr
  have X : wX p s m args meth c G 1 "StateObserver$SystemText" cX7_takeHead := X
  obtain ⟨hL, hL2, e4, e5, hpk, hch⟩ := id ht
  refine r_aload_n (pc' := 1) X 0 dX7_takeHead_0 rfl rfl rfl ?_
  refine r_bipush (pc' := 3) X dX7_takeHead_1 rfl rfl ?_
  refine r_bipush (pc' := 5) X dX7_takeHead_3 rfl rfl ?_
  refine w_calli (pc' := 8) (st := []) (w_runV X (c_X7_takeCharacter l G M 78 78 L s0 (by first | assumption | omega) (by first | assumption | omega) ht) cf_X7_takeCharacter k27_0 rfl gw_338 gp_1 rfl rfl ⟨Nat.le_of_ble_eq_true rfl, Nat.le_of_ble_eq_true rfl⟩ rfl rfl (Nat.le_of_ble_eq_true rfl) ⟨Nat.le_of_ble_eq_true rfl, Nat.le_of_ble_eq_true rfl⟩ gw_336 dX7_takeHead_5) rfl (fun z5 M1 h5 => ?_)
  have fa : M1 = setS (M) (pC (M 27 1) L 78 78 s0) := by rw [h5.2]; try (simp only [setS_wu (show (20 : Nat) ≠ 27 by decide), setS_wu (show (2 : Nat) ≠ 27 by decide), setS_wr (show (20 : Nat) ≠ 27 by decide), setS_setS]); try rfl
  have hta : TxOk (M1 27) L (pC (M 27 1) L 78 78 s0) := by rw [fa]; exact setS_ok (s := s0) (by first | exact ht | (simp only [wu_o (show (27 : Nat) ≠ 20 by decide), wu_o (show (27 : Nat) ≠ 2 by decide), wr_o (show (27 : Nat) ≠ 20 by decide)]; exact ht)) (pC_ok hpk)
  have hca : M1 27 1 = M 27 1 := by rw [fa, setS_1]; try (simp only [wu_o (show (27 : Nat) ≠ 20 by decide), wu_o (show (27 : Nat) ≠ 2 by decide), wr_o (show (27 : Nat) ≠ 20 by decide)])
  have u : True := trivial
  refine r_pop (pc' := 9) X dX7_takeHead_8 rfl rfl ?_
  refine r_aload_n (pc' := 10) X 0 dX7_takeHead_9 rfl rfl rfl ?_
  refine gf_27_plant (pc' := 13) X gw_219 dX7_takeHead_10 rfl ?_
  refine r_aload_n (pc' := 14) X 0 dX7_takeHead_13 rfl rfl rfl ?_
  refine r_iconst (pc' := 15) X dX7_takeHead_14 rfl ?_
  refine r_iconst (pc' := 16) X dX7_takeHead_15 rfl ?_
  refine w_calli (pc' := 19) (st := [vR G (20, 0)]) (w_runV X (c_X7_takeDigit l G M1 1 4 L (pC (M 27 1) L 78 78 s0) (by first | assumption | omega) (by first | assumption | omega) hta) cf_X7_takeDigit k27_0 rfl gw_342 gp_2 rfl rfl ⟨Nat.le_of_ble_eq_true rfl, Nat.le_of_ble_eq_true rfl⟩ rfl rfl (Nat.le_of_ble_eq_true rfl) ⟨Nat.le_of_ble_eq_true rfl, Nat.le_of_ble_eq_true rfl⟩ gw_340 dX7_takeHead_16) rfl (fun z16 M2 h16 => ?_)
  rw [hca] at h16
  have fb : M2 = setS (M) ((hdN (M 27 1) L s0).2) := by rw [h16.2, fa]; try (simp only [setS_wu (show (20 : Nat) ≠ 27 by decide), setS_wu (show (2 : Nat) ≠ 27 by decide), setS_wr (show (20 : Nat) ≠ 27 by decide), setS_setS]); try rfl
  have htb : TxOk (M2 27) L ((hdN (M 27 1) L s0).2) := by rw [fb]; exact setS_ok (s := s0) (by first | exact ht | (simp only [wu_o (show (27 : Nat) ≠ 20 by decide), wu_o (show (27 : Nat) ≠ 2 by decide), wr_o (show (27 : Nat) ≠ 20 by decide)]; exact ht)) (pD_ok (pC_ok hpk))
  have hcb : M2 27 1 = M 27 1 := by rw [fb, setS_1]; try (simp only [wu_o (show (27 : Nat) ≠ 20 by decide), wu_o (show (27 : Nat) ≠ 2 by decide), wr_o (show (27 : Nat) ≠ 20 by decide)])
  refine pf_P_n (pc' := 22) X (by decide) gw_37 dX7_takeHead_19 rfl (fun M3 hM3 => ?_)
  have fc : M3 = setS (wu M 20 0 0 (hdN (M 27 1) L s0).1) ((hdN (M 27 1) L s0).2) := by rw [hM3, fb, h16.1]; try (simp only [setS_wu (show (20 : Nat) ≠ 27 by decide), setS_wu (show (2 : Nat) ≠ 27 by decide), setS_wr (show (20 : Nat) ≠ 27 by decide), setS_setS]); try rfl
  have htc : TxOk (M3 27) L ((hdN (M 27 1) L s0).2) := by rw [fc]; exact setS_ok (s := s0) (by first | exact ht | (simp only [wu_o (show (27 : Nat) ≠ 20 by decide), wu_o (show (27 : Nat) ≠ 2 by decide), wr_o (show (27 : Nat) ≠ 20 by decide)]; exact ht)) (pD_ok (pC_ok hpk))
  have hcc : M3 27 1 = M 27 1 := by rw [fc, setS_1]; try (simp only [wu_o (show (27 : Nat) ≠ 20 by decide), wu_o (show (27 : Nat) ≠ 2 by decide), wr_o (show (27 : Nat) ≠ 20 by decide)])
  refine r_aload_n (pc' := 23) X 0 dX7_takeHead_22 rfl rfl rfl ?_
  refine gf_27_plant (pc' := 26) X gw_219 dX7_takeHead_23 rfl ?_
  refine r_aload_n (pc' := 27) X 0 dX7_takeHead_26 rfl rfl rfl ?_
  refine r_iconst (pc' := 28) X dX7_takeHead_27 rfl ?_
  refine r_iconst (pc' := 29) X dX7_takeHead_28 rfl ?_
  refine w_calli (pc' := 32) (st := [vR G (20, 0)]) (w_runV X (c_X7_takeDigit l G M3 1 3 L ((hdN (M 27 1) L s0).2) (by first | assumption | omega) (by first | assumption | omega) htc) cf_X7_takeDigit k27_0 rfl gw_342 gp_2 rfl rfl ⟨Nat.le_of_ble_eq_true rfl, Nat.le_of_ble_eq_true rfl⟩ rfl rfl (Nat.le_of_ble_eq_true rfl) ⟨Nat.le_of_ble_eq_true rfl, Nat.le_of_ble_eq_true rfl⟩ gw_340 dX7_takeHead_29) rfl (fun z29 M4 h29 => ?_)
  rw [hcc] at h29
  have fd : M4 = setS (wu M 20 0 0 (hdN (M 27 1) L s0).1) ((hdP (M 27 1) L s0).2) := by rw [h29.2, fc]; try (simp only [setS_wu (show (20 : Nat) ≠ 27 by decide), setS_wu (show (2 : Nat) ≠ 27 by decide), setS_wr (show (20 : Nat) ≠ 27 by decide), setS_setS]); try rfl
  have htd : TxOk (M4 27) L ((hdP (M 27 1) L s0).2) := by rw [fd]; exact setS_ok (s := s0) (by first | exact ht | (simp only [wu_o (show (27 : Nat) ≠ 20 by decide), wu_o (show (27 : Nat) ≠ 2 by decide), wr_o (show (27 : Nat) ≠ 20 by decide)]; exact ht)) (pD_ok (pD_ok (pC_ok hpk)))
  have hcd : M4 27 1 = M 27 1 := by rw [fd, setS_1]; try (simp only [wu_o (show (27 : Nat) ≠ 20 by decide), wu_o (show (27 : Nat) ≠ 2 by decide), wr_o (show (27 : Nat) ≠ 20 by decide)])
  refine pf_P_p (pc' := 35) X (by decide) gw_42 dX7_takeHead_32 rfl (fun M5 hM5 => ?_)
  have fe : M5 = setS (wu (wu M 20 0 0 (hdN (M 27 1) L s0).1) 20 0 1 (hdP (M 27 1) L s0).1) ((hdP (M 27 1) L s0).2) := by rw [hM5, fd, h29.1]; try (simp only [setS_wu (show (20 : Nat) ≠ 27 by decide), setS_wu (show (2 : Nat) ≠ 27 by decide), setS_wr (show (20 : Nat) ≠ 27 by decide), setS_setS]); try rfl
  have hte : TxOk (M5 27) L ((hdP (M 27 1) L s0).2) := by rw [fe]; exact setS_ok (s := s0) (by first | exact ht | (simp only [wu_o (show (27 : Nat) ≠ 20 by decide), wu_o (show (27 : Nat) ≠ 2 by decide), wr_o (show (27 : Nat) ≠ 20 by decide)]; exact ht)) (pD_ok (pD_ok (pC_ok hpk)))
  have hce : M5 27 1 = M 27 1 := by rw [fe, setS_1]; try (simp only [wu_o (show (27 : Nat) ≠ 20 by decide), wu_o (show (27 : Nat) ≠ 2 by decide), wr_o (show (27 : Nat) ≠ 20 by decide)])
  refine r_aload_n (pc' := 36) X 0 dX7_takeHead_35 rfl rfl rfl ?_
  refine gf_27_start (pc' := 39) X gw_221 dX7_takeHead_36 rfl ?_
  refine r_aload_n (pc' := 40) X 0 dX7_takeHead_39 rfl rfl rfl ?_
  refine r_iconst (pc' := 41) X dX7_takeHead_40 rfl ?_
  refine w_calli (pc' := 44) (st := [vR G (2, 0)]) (w_runV X (c_X7_takeTwoDigits l G M5 0 L ((hdP (M 27 1) L s0).2) (by first | assumption | omega) hte) cf_X7_takeTwoDigits k27_0 rfl gw_346 gp_3 rfl rfl ⟨Nat.le_of_ble_eq_true rfl, Nat.le_of_ble_eq_true rfl⟩ rfl rfl (Nat.le_of_ble_eq_true rfl) ⟨Nat.le_of_ble_eq_true rfl, Nat.le_of_ble_eq_true rfl⟩ gw_344 dX7_takeHead_41) rfl (fun z41 M6 h41 => ?_)
  rw [hce] at h41
  have ff : M6 = setS (wu (wu M 20 0 0 (hdN (M 27 1) L s0).1) 20 0 1 (hdP (M 27 1) L s0).1) ((hdB (M 27 1) L s0).2) := by rw [h41.2, fe]; try (simp only [setS_wu (show (20 : Nat) ≠ 27 by decide), setS_wu (show (2 : Nat) ≠ 27 by decide), setS_wr (show (20 : Nat) ≠ 27 by decide), setS_setS]); try rfl
  have htf : TxOk (M6 27) L ((hdB (M 27 1) L s0).2) := by rw [ff]; exact setS_ok (s := s0) (by first | exact ht | (simp only [wu_o (show (27 : Nat) ≠ 20 by decide), wu_o (show (27 : Nat) ≠ 2 by decide), wr_o (show (27 : Nat) ≠ 20 by decide)]; exact ht)) (pT_ok (pD_ok (pD_ok (pC_ok hpk))))
  have hcf : M6 27 1 = M 27 1 := by rw [ff, setS_1]; try (simp only [wu_o (show (27 : Nat) ≠ 20 by decide), wu_o (show (27 : Nat) ≠ 2 by decide), wr_o (show (27 : Nat) ≠ 20 by decide)])
  refine pf_M_bound (pc' := 47) X (by decide) gw_122 dX7_takeHead_44 rfl (fun M7 hM7 => ?_)
  have fg : M7 = setS (wu (wu (wu M 20 0 0 (hdN (M 27 1) L s0).1) 20 0 1 (hdP (M 27 1) L s0).1) 2 0 8 (hdB (M 27 1) L s0).1) ((hdB (M 27 1) L s0).2) := by rw [hM7, ff, h41.1]; try (simp only [setS_wu (show (20 : Nat) ≠ 27 by decide), setS_wu (show (2 : Nat) ≠ 27 by decide), setS_wr (show (20 : Nat) ≠ 27 by decide), setS_setS]); try rfl
  have htg : TxOk (M7 27) L ((hdB (M 27 1) L s0).2) := by rw [fg]; exact setS_ok (s := s0) (by first | exact ht | (simp only [wu_o (show (27 : Nat) ≠ 20 by decide), wu_o (show (27 : Nat) ≠ 2 by decide), wr_o (show (27 : Nat) ≠ 20 by decide)]; exact ht)) (pT_ok (pD_ok (pD_ok (pC_ok hpk))))
  have hcg : M7 27 1 = M 27 1 := by rw [fg, setS_1]; try (simp only [wu_o (show (27 : Nat) ≠ 20 by decide), wu_o (show (27 : Nat) ≠ 2 by decide), wr_o (show (27 : Nat) ≠ 20 by decide)])
  refine r_aload_n (pc' := 48) X 0 dX7_takeHead_47 rfl rfl rfl ?_
  refine gf_27_start (pc' := 51) X gw_221 dX7_takeHead_48 rfl ?_
  refine r_aload_n (pc' := 52) X 0 dX7_takeHead_51 rfl rfl rfl ?_
  refine r_iconst (pc' := 53) X dX7_takeHead_52 rfl ?_
  refine r_bipush (pc' := 55) X dX7_takeHead_53 rfl rfl ?_
  refine w_calli (pc' := 58) (st := [vR G (2, 0)]) (w_runV X (c_X7_takeDigit l G M7 0 9 L ((hdB (M 27 1) L s0).2) (by first | assumption | omega) (by first | assumption | omega) htg) cf_X7_takeDigit k27_0 rfl gw_342 gp_2 rfl rfl ⟨Nat.le_of_ble_eq_true rfl, Nat.le_of_ble_eq_true rfl⟩ rfl rfl (Nat.le_of_ble_eq_true rfl) ⟨Nat.le_of_ble_eq_true rfl, Nat.le_of_ble_eq_true rfl⟩ gw_340 dX7_takeHead_55) rfl (fun z55 M8 h55 => ?_)
  rw [hcg] at h55
  have fh : M8 = setS (wu (wu (wu M 20 0 0 (hdN (M 27 1) L s0).1) 20 0 1 (hdP (M 27 1) L s0).1) 2 0 8 (hdB (M 27 1) L s0).1) ((hdH (M 27 1) L s0).2) := by rw [h55.2, fg]; try (simp only [setS_wu (show (20 : Nat) ≠ 27 by decide), setS_wu (show (2 : Nat) ≠ 27 by decide), setS_wr (show (20 : Nat) ≠ 27 by decide), setS_setS]); try rfl
  have hth : TxOk (M8 27) L ((hdH (M 27 1) L s0).2) := by rw [fh]; exact setS_ok (s := s0) (by first | exact ht | (simp only [wu_o (show (27 : Nat) ≠ 20 by decide), wu_o (show (27 : Nat) ≠ 2 by decide), wr_o (show (27 : Nat) ≠ 20 by decide)]; exact ht)) (pD_ok (pT_ok (pD_ok (pD_ok (pC_ok hpk)))))
  have hch : M8 27 1 = M 27 1 := by rw [fh, setS_1]; try (simp only [wu_o (show (27 : Nat) ≠ 20 by decide), wu_o (show (27 : Nat) ≠ 2 by decide), wr_o (show (27 : Nat) ≠ 20 by decide)])
  refine pf_M_hold (pc' := 61) X (by decide) gw_117 dX7_takeHead_58 rfl (fun M9 hM9 => ?_)
  refine w_vret X hr dX7_takeHead_61 ?_
  try dsimp only
  rw [hM9, fh, h55.1]
  try (simp only [setS_wu (show (20 : Nat) ≠ 27 by decide), setS_wu (show (2 : Nat) ≠ 27 by decide), setS_wr (show (20 : Nat) ≠ 27 by decide), setS_setS])
  try rfl
theorem cf_X7_takeState : wCal yX7_takeState cX7_takeState 3 none 1 := ⟨gw_351, gw_6, by decide, by decide, by rfl⟩
set_option maxRecDepth 100000 in
set_option maxHeartbeats 4000000 in
theorem c_X7_takeState (l : Launch) (G : wG) (M : wM) (i N L : Nat) (s0 : pS) (hN : M 20 0 0 = (N : Int)) (hN4 : N ≤ 4) (hi : i < 4) (ht : TxOk (M 27) L s0) : Met l yX7_takeState (gws yX7_takeState cX7_takeState 3 none) (wrm 4 0 0) (wPc G M [vR G (27, 0), vI (i : Int)]) (wQv G (fun M1 => M1 = setS (wu (wu (wr M 20 (2 + i) (fillF N (rowF (M 27 1) L (pC (M 27 1) L 114 114 s0)) (M 20 (2 + i)))) 20 6 i (rowF (M 27 1) L (pC (M 27 1) L 114 114 s0) N)) 20 7 i (rowF (M 27 1) L (pC (M 27 1) L 114 114 s0) (N + 1))) (pI (M 27 1) L (N + 2) (pC (M 27 1) L 114 114 s0)))) 0 0 (wA G) := by
  refine wMet (lc := [(0, vR G (27, 0)), (1, vI (i : Int))]) (by decide) (Nat.le_of_ble_eq_true rfl) rfl ?_
  intro p e s m args below meth c X hr
  have X : wX p s m args meth c G 3 "StateObserver$SystemText" cX7_takeState := X
  obtain ⟨hL, hL2, e4, e5, hpk, hch⟩ := id ht
  refine r_aload_n (pc' := 1) X 0 dX7_takeState_0 rfl rfl rfl ?_
  refine r_bipush (pc' := 3) X dX7_takeState_1 rfl rfl ?_
  refine r_bipush (pc' := 5) X dX7_takeState_3 rfl rfl ?_
  refine w_calli (pc' := 8) (st := []) (w_runV X (c_X7_takeCharacter l G M 114 114 L s0 (by first | assumption | omega) (by first | assumption | omega) ht) cf_X7_takeCharacter k27_0 rfl gw_338 gp_1 rfl rfl ⟨Nat.le_of_ble_eq_true rfl, Nat.le_of_ble_eq_true rfl⟩ rfl rfl (Nat.le_of_ble_eq_true rfl) ⟨Nat.le_of_ble_eq_true rfl, Nat.le_of_ble_eq_true rfl⟩ gw_336 dX7_takeState_5) rfl (fun z5 M1 h5 => ?_)
  have fp : M1 = setS (M) (pC (M 27 1) L 114 114 s0) := by rw [h5.2]; try (simp only [setS_wu (show (20 : Nat) ≠ 27 by decide), setS_wu (show (2 : Nat) ≠ 27 by decide), setS_wr (show (20 : Nat) ≠ 27 by decide), setS_setS]); try rfl
  have htp : TxOk (M1 27) L (pC (M 27 1) L 114 114 s0) := by rw [fp]; exact setS_ok (s := s0) (by first | exact ht | (simp only [wu_o (show (27 : Nat) ≠ 20 by decide), wu_o (show (27 : Nat) ≠ 2 by decide), wr_o (show (27 : Nat) ≠ 20 by decide)]; exact ht)) (pC_ok hpk)
  have hcp : M1 27 1 = M 27 1 := by rw [fp, setS_1]; try (simp only [wu_o (show (27 : Nat) ≠ 20 by decide), wu_o (show (27 : Nat) ≠ 2 by decide), wr_o (show (27 : Nat) ≠ 20 by decide)])
  refine r_pop (pc' := 9) X dX7_takeState_8 rfl rfl ?_
  refine r_iconst (pc' := 10) X dX7_takeState_9 rfl ?_
  refine r_istore_n (pc' := 11) (lc' := [(0, vR G (27, 0)), (1, vI (i : Int)), (2, vI 0)]) X [1, 2, 0] dX7_takeState_10 rfl (by decide) rfl rfl ?_
  have L11 : ∀ (fu : Nat) (j : Nat) (Ma : wM), N - j < fu → (j ≤ N) → (Ma = setS (wr M 20 (2 + i) (fillF j (rowF (M 27 1) L (pC (M 27 1) L 114 114 s0)) (M 20 (2 + i)))) (pI (M 27 1) L j (pC (M 27 1) L 114 114 s0))) → wV p l e (wrm 4 0 0) s m args below meth c G 3 Ma 0 0 (MQ below (wQv G (fun M1 => M1 = setS (wu (wu (wr M 20 (2 + i) (fillF N (rowF (M 27 1) L (pC (M 27 1) L 114 114 s0)) (M 20 (2 + i)))) 20 6 i (rowF (M 27 1) L (pC (M 27 1) L 114 114 s0) N)) 20 7 i (rowF (M 27 1) L (pC (M 27 1) L 114 114 s0) (N + 1))) (pI (M 27 1) L (N + 2) (pC (M 27 1) L 114 114 s0)))) args s 0 0 (wA G)) 11 [(0, vR G (27, 0)), (1, vI (i : Int)), (2, vI (j : Int))] [] := by
    intro fu
    induction fu with
    | zero => intro j Ma hfu; exact absurd hfu (Nat.not_lt_zero _)
    | succ fu ih11 =>
      intro j Ma hfu11 hj hm
      have hta : TxOk (Ma 27) L (pI (M 27 1) L j (pC (M 27 1) L 114 114 s0)) := by rw [hm]; exact setS_ok (s := s0) (by rw [wr_o (by decide)]; exact ht) (pI_ok (pC_ok hpk) j)
      have hca : Ma 27 1 = M 27 1 := by rw [hm, setS_1, wr_o (by decide)]
      have hNa : Ma 20 0 0 = N := by rw [hm, setS_ne (by omega), wr_ne (by omega)]; exact hN
      have he : Ma = setS (wr M 20 (2 + i) (fillF N (rowF (M 27 1) L (pC (M 27 1) L 114 114 s0)) (M 20 (2 + i)))) (pI (M 27 1) L N (pC (M 27 1) L 114 114 s0)) ∨ j < N := by rcases Nat.lt_or_ge j N with q | q; exact Or.inr q; rw [hm, show j = N by omega]; exact Or.inl rfl
      refine r_iload_n (pc' := 12) X 2 dX7_takeState_11 rfl rfl rfl ?_
      refine r_aload_n (pc' := 13) X 0 dX7_takeState_12 rfl rfl rfl ?_
      refine gf_27_plant (pc' := 16) X gw_219 dX7_takeState_13 rfl ?_
      refine gf_P_n (pc' := 19) X (by decide) gw_37 dX7_takeState_16 rfl ?_
      refine r_icmp_ge (pc' := 22) (tgt := 43) X dX7_takeState_19 rfl rfl (by omega) (by omega) (fun h19 => ?_) (fun h19 => ?_)
      · have fb : Ma = setS (wr M 20 (2 + i) (fillF N (rowF (M 27 1) L (pC (M 27 1) L 114 114 s0)) (M 20 (2 + i)))) (pI (M 27 1) L N (pC (M 27 1) L 114 114 s0)) := by rcases he with q | q; exact q; omega
        have htb : TxOk (Ma 27) L (pI (M 27 1) L N (pC (M 27 1) L 114 114 s0)) := by rw [show N = j by omega]; exact hta
        have hcb := hca
        refine r_aload_n (pc' := 44) X 0 dX7_takeState_43 rfl rfl rfl ?_
        refine gf_27_plant (pc' := 47) X gw_219 dX7_takeState_44 rfl ?_
        refine gf_P_b (pc' := 50) X (by decide) gw_51 dX7_takeState_47 rfl ?_
        refine r_iload_n (pc' := 51) X 1 dX7_takeState_50 rfl rfl rfl ?_
        refine r_aload_n (pc' := 52) X 0 dX7_takeState_51 rfl rfl rfl ?_
        refine w_calli (pc' := 55) (st := [vI (i : Int), vR G (20, 6)]) (w_runV X (c_X7_takeNumber l G Ma L (pI (M 27 1) L N (pC (M 27 1) L 114 114 s0)) htb) cf_X7_takeNumber k27_0 rfl gw_354 gp_5 rfl rfl ⟨Nat.le_of_ble_eq_true rfl, Nat.le_of_ble_eq_true rfl⟩ rfl rfl (Nat.le_of_ble_eq_true rfl) ⟨Nat.le_of_ble_eq_true rfl, Nat.le_of_ble_eq_true rfl⟩ gw_352 dX7_takeState_52) rfl (fun z52 M2 h52 => ?_)
        rw [hcb] at h52
        have fc : M2 = setS (wr M 20 (2 + i) (fillF N (rowF (M 27 1) L (pC (M 27 1) L 114 114 s0)) (M 20 (2 + i)))) (pI (M 27 1) L (N + 1) (pC (M 27 1) L 114 114 s0)) := by rw [h52.2, fb]; try (simp only [setS_wu (show (20 : Nat) ≠ 27 by decide), setS_wu (show (2 : Nat) ≠ 27 by decide), setS_wr (show (20 : Nat) ≠ 27 by decide), setS_setS]); try rfl
        have htc : TxOk (M2 27) L (pI (M 27 1) L (N + 1) (pC (M 27 1) L 114 114 s0)) := by rw [fc]; exact setS_ok (s := s0) (by first | exact ht | (simp only [wu_o (show (27 : Nat) ≠ 20 by decide), wu_o (show (27 : Nat) ≠ 2 by decide), wr_o (show (27 : Nat) ≠ 20 by decide)]; exact ht)) (pI_ok (pC_ok hpk) _)
        have hcc : M2 27 1 = M 27 1 := by rw [fc, setS_1]; try (simp only [wu_o (show (27 : Nat) ≠ 20 by decide), wu_o (show (27 : Nat) ≠ 2 by decide), wr_o (show (27 : Nat) ≠ 20 by decide)])
        refine r_iast (i := i) (pc' := 56) X (kP_6 (by decide)) (by omega) (by omega) (by decide) dX7_takeState_55 rfl (fun M3 hM3 => ?_)
        have fd : M3 = setS (wu (wr M 20 (2 + i) (fillF N (rowF (M 27 1) L (pC (M 27 1) L 114 114 s0)) (M 20 (2 + i)))) 20 6 i (rowF (M 27 1) L (pC (M 27 1) L 114 114 s0) N)) (pI (M 27 1) L (N + 1) (pC (M 27 1) L 114 114 s0)) := by rw [hM3, fc, h52.1]; try (simp only [setS_wu (show (20 : Nat) ≠ 27 by decide), setS_wu (show (2 : Nat) ≠ 27 by decide), setS_wr (show (20 : Nat) ≠ 27 by decide), setS_setS]); try rfl
        have htd : TxOk (M3 27) L (pI (M 27 1) L (N + 1) (pC (M 27 1) L 114 114 s0)) := by rw [fd]; exact setS_ok (s := s0) (by first | exact ht | (simp only [wu_o (show (27 : Nat) ≠ 20 by decide), wu_o (show (27 : Nat) ≠ 2 by decide), wr_o (show (27 : Nat) ≠ 20 by decide)]; exact ht)) (pI_ok (pC_ok hpk) _)
        have hcd : M3 27 1 = M 27 1 := by rw [fd, setS_1]; try (simp only [wu_o (show (27 : Nat) ≠ 20 by decide), wu_o (show (27 : Nat) ≠ 2 by decide), wr_o (show (27 : Nat) ≠ 20 by decide)])
        refine r_aload_n (pc' := 57) X 0 dX7_takeState_56 rfl rfl rfl ?_
        refine gf_27_plant (pc' := 60) X gw_219 dX7_takeState_57 rfl ?_
        refine gf_P_e (pc' := 63) X (by decide) gw_56 dX7_takeState_60 rfl ?_
        refine r_iload_n (pc' := 64) X 1 dX7_takeState_63 rfl rfl rfl ?_
        refine r_aload_n (pc' := 65) X 0 dX7_takeState_64 rfl rfl rfl ?_
        refine w_calli (pc' := 68) (st := [vI (i : Int), vR G (20, 7)]) (w_runV X (c_X7_takeNumber l G M3 L (pI (M 27 1) L (N + 1) (pC (M 27 1) L 114 114 s0)) htd) cf_X7_takeNumber k27_0 rfl gw_354 gp_5 rfl rfl ⟨Nat.le_of_ble_eq_true rfl, Nat.le_of_ble_eq_true rfl⟩ rfl rfl (Nat.le_of_ble_eq_true rfl) ⟨Nat.le_of_ble_eq_true rfl, Nat.le_of_ble_eq_true rfl⟩ gw_352 dX7_takeState_65) rfl (fun z65 M4 h65 => ?_)
        rw [hcd] at h65
        refine r_iast (i := i) (pc' := 69) X (kP_7 (by decide)) (by omega) (by omega) (by decide) dX7_takeState_68 rfl (fun M5 hM5 => ?_)
        refine w_vret X hr dX7_takeState_69 ?_
        try dsimp only
        rw [hM5, h65.2, h65.1, fd, setS_setS, setS_wu (by decide)]
        rfl
      · refine r_aload_n (pc' := 23) X 0 dX7_takeState_22 rfl rfl rfl ?_
        refine gf_27_plant (pc' := 26) X gw_219 dX7_takeState_23 rfl ?_
        refine gf_P_a (pc' := 29) X (by decide) gw_46 dX7_takeState_26 rfl ?_
        refine r_iload_n (pc' := 30) X 1 dX7_takeState_29 rfl rfl rfl ?_
        refine r_aald (i := i) (x := (20, (2 + i))) (pc' := 31) X (kP_1 (by decide)) (by decide) (by omega) (by omega) (by decide) rfl dX7_takeState_30 rfl ?_
        refine r_iload_n (pc' := 32) X 2 dX7_takeState_31 rfl rfl rfl ?_
        refine r_aload_n (pc' := 33) X 0 dX7_takeState_32 rfl rfl rfl ?_
        refine w_calli (pc' := 36) (st := [vI (j : Int), vR G (20, (2 + i))]) (w_runV X (c_X7_takeNumber l G Ma L (pI (M 27 1) L j (pC (M 27 1) L 114 114 s0)) hta) cf_X7_takeNumber k27_0 rfl gw_354 gp_5 rfl rfl ⟨Nat.le_of_ble_eq_true rfl, Nat.le_of_ble_eq_true rfl⟩ rfl rfl (Nat.le_of_ble_eq_true rfl) ⟨Nat.le_of_ble_eq_true rfl, Nat.le_of_ble_eq_true rfl⟩ gw_352 dX7_takeState_33) rfl (fun z33 M6 h33 => ?_)
        rw [hca] at h33
        refine r_iast (i := j) (pc' := 37) X (kP_a (by decide) (by omega)) (by omega) (by omega) (by decide) dX7_takeState_36 rfl (fun M7 hM7 => ?_)
        refine r_iinc (pc' := 40) (z' := ((j + 1 : Nat) : Int)) (lc' := [(0, vR G (27, 0)), (1, vI (i : Int)), (2, vI ((j + 1 : Nat) : Int))]) X 2 [1, 2, 0] dX7_takeState_37 rfl (by omega) (by decide) rfl rfl ?_
        refine r_goto (tgt := 11) X dX7_takeState_40 rfl ?_
        exact ih11 (j + 1) M7 (by omega) (by omega) (by rw [hM7, h33.2, h33.1, hm, setS_setS, setS_wu (by decide)]; exact congrArg (fun x => setS x _) (fill_s (f := rowF (M 27 1) L (pC (M 27 1) L 114 114 s0))))
  exact L11 ((N - 0) + 1) 0 M1 (Nat.lt_succ_self _) (by omega) (by rw [h5.2, fill_0, wr_self]; rfl)
theorem cf_X7_takeOutput : wCal yX7_takeOutput cX7_takeOutput 3 none 1 := ⟨gw_359, gw_6, by decide, by decide, by rfl⟩
set_option maxRecDepth 100000 in
set_option maxHeartbeats 4000000 in
theorem c_X7_takeOutput (l : Launch) (G : wG) (M : wM) (k N L : Nat) (s0 : pS) (hN : M 20 0 0 = (N : Int)) (hN4 : N ≤ 4) (hk : k < 3) (ht : TxOk (M 27) L s0) : Met l yX7_takeOutput (gws yX7_takeOutput cX7_takeOutput 3 none) (wrm 4 0 0) (wPc G M [vR G (27, 0), vI (k : Int)]) (wQv G (fun M1 => M1 = setS (wu (wr M 20 (9 + k) (fillF N (rowF (M 27 1) L (pC (M 27 1) L 111 111 s0)) (M 20 (9 + k)))) 20 12 k (pT (M 27 1) L 1 (pI (M 27 1) L N (pC (M 27 1) L 111 111 s0))).1) (pT (M 27 1) L 1 (pI (M 27 1) L N (pC (M 27 1) L 111 111 s0))).2)) 0 0 (wA G) := by
  refine wMet (lc := [(0, vR G (27, 0)), (1, vI (k : Int))]) (by decide) (Nat.le_of_ble_eq_true rfl) rfl ?_
  intro p e s m args below meth c X hr
  have X : wX p s m args meth c G 3 "StateObserver$SystemText" cX7_takeOutput := X
  obtain ⟨hL, hL2, e4, e5, hpk, hch⟩ := id ht
  refine r_aload_n (pc' := 1) X 0 dX7_takeOutput_0 rfl rfl rfl ?_
  refine r_bipush (pc' := 3) X dX7_takeOutput_1 rfl rfl ?_
  refine r_bipush (pc' := 5) X dX7_takeOutput_3 rfl rfl ?_
  refine w_calli (pc' := 8) (st := []) (w_runV X (c_X7_takeCharacter l G M 111 111 L s0 (by first | assumption | omega) (by first | assumption | omega) ht) cf_X7_takeCharacter k27_0 rfl gw_338 gp_1 rfl rfl ⟨Nat.le_of_ble_eq_true rfl, Nat.le_of_ble_eq_true rfl⟩ rfl rfl (Nat.le_of_ble_eq_true rfl) ⟨Nat.le_of_ble_eq_true rfl, Nat.le_of_ble_eq_true rfl⟩ gw_336 dX7_takeOutput_5) rfl (fun z5 M1 h5 => ?_)
  have fp : M1 = setS (M) (pC (M 27 1) L 111 111 s0) := by rw [h5.2]; try (simp only [setS_wu (show (20 : Nat) ≠ 27 by decide), setS_wu (show (2 : Nat) ≠ 27 by decide), setS_wr (show (20 : Nat) ≠ 27 by decide), setS_setS]); try rfl
  have htp : TxOk (M1 27) L (pC (M 27 1) L 111 111 s0) := by rw [fp]; exact setS_ok (s := s0) (by first | exact ht | (simp only [wu_o (show (27 : Nat) ≠ 20 by decide), wu_o (show (27 : Nat) ≠ 2 by decide), wr_o (show (27 : Nat) ≠ 20 by decide)]; exact ht)) (pC_ok hpk)
  have hcp : M1 27 1 = M 27 1 := by rw [fp, setS_1]; try (simp only [wu_o (show (27 : Nat) ≠ 20 by decide), wu_o (show (27 : Nat) ≠ 2 by decide), wr_o (show (27 : Nat) ≠ 20 by decide)])
  refine r_pop (pc' := 9) X dX7_takeOutput_8 rfl rfl ?_
  refine r_iconst (pc' := 10) X dX7_takeOutput_9 rfl ?_
  refine r_istore_n (pc' := 11) (lc' := [(0, vR G (27, 0)), (1, vI (k : Int)), (2, vI 0)]) X [1, 2, 0] dX7_takeOutput_10 rfl (by decide) rfl rfl ?_
  have L11 : ∀ (fu : Nat) (j : Nat) (Ma : wM), N - j < fu → (j ≤ N) → (Ma = setS (wr M 20 (9 + k) (fillF j (rowF (M 27 1) L (pC (M 27 1) L 111 111 s0)) (M 20 (9 + k)))) (pI (M 27 1) L j (pC (M 27 1) L 111 111 s0))) → wV p l e (wrm 4 0 0) s m args below meth c G 3 Ma 0 0 (MQ below (wQv G (fun M1 => M1 = setS (wu (wr M 20 (9 + k) (fillF N (rowF (M 27 1) L (pC (M 27 1) L 111 111 s0)) (M 20 (9 + k)))) 20 12 k (pT (M 27 1) L 1 (pI (M 27 1) L N (pC (M 27 1) L 111 111 s0))).1) (pT (M 27 1) L 1 (pI (M 27 1) L N (pC (M 27 1) L 111 111 s0))).2)) args s 0 0 (wA G)) 11 [(0, vR G (27, 0)), (1, vI (k : Int)), (2, vI (j : Int))] [] := by
    intro fu
    induction fu with
    | zero => intro j Ma hfu; exact absurd hfu (Nat.not_lt_zero _)
    | succ fu ih11 =>
      intro j Ma hfu11 hj hm
      have hta : TxOk (Ma 27) L (pI (M 27 1) L j (pC (M 27 1) L 111 111 s0)) := by rw [hm]; exact setS_ok (s := s0) (by rw [wr_o (by decide)]; exact ht) (pI_ok (pC_ok hpk) j)
      have hca : Ma 27 1 = M 27 1 := by rw [hm, setS_1, wr_o (by decide)]
      have hNa : Ma 20 0 0 = N := by rw [hm, setS_ne (by omega), wr_ne (by omega)]; exact hN
      have he : Ma = setS (wr M 20 (9 + k) (fillF N (rowF (M 27 1) L (pC (M 27 1) L 111 111 s0)) (M 20 (9 + k)))) (pI (M 27 1) L N (pC (M 27 1) L 111 111 s0)) ∨ j < N := by rcases Nat.lt_or_ge j N with q | q; exact Or.inr q; rw [hm, show j = N by omega]; exact Or.inl rfl
      refine r_iload_n (pc' := 12) X 2 dX7_takeOutput_11 rfl rfl rfl ?_
      refine r_aload_n (pc' := 13) X 0 dX7_takeOutput_12 rfl rfl rfl ?_
      refine gf_27_plant (pc' := 16) X gw_219 dX7_takeOutput_13 rfl ?_
      refine gf_P_n (pc' := 19) X (by decide) gw_37 dX7_takeOutput_16 rfl ?_
      refine r_icmp_ge (pc' := 22) (tgt := 43) X dX7_takeOutput_19 rfl rfl (by omega) (by omega) (fun h19 => ?_) (fun h19 => ?_)
      · have fb : Ma = setS (wr M 20 (9 + k) (fillF N (rowF (M 27 1) L (pC (M 27 1) L 111 111 s0)) (M 20 (9 + k)))) (pI (M 27 1) L N (pC (M 27 1) L 111 111 s0)) := by rcases he with q | q; exact q; omega
        have htb : TxOk (Ma 27) L (pI (M 27 1) L N (pC (M 27 1) L 111 111 s0)) := by rw [show N = j by omega]; exact hta
        have hcb := hca
        refine r_aload_n (pc' := 44) X 0 dX7_takeOutput_43 rfl rfl rfl ?_
        refine gf_27_plant (pc' := 47) X gw_219 dX7_takeOutput_44 rfl ?_
        refine gf_P_quantum (pc' := 50) X (by decide) gw_65 dX7_takeOutput_47 rfl ?_
        refine r_iload_n (pc' := 51) X 1 dX7_takeOutput_50 rfl rfl rfl ?_
        refine r_aload_n (pc' := 52) X 0 dX7_takeOutput_51 rfl rfl rfl ?_
        refine r_iconst (pc' := 53) X dX7_takeOutput_52 rfl ?_
        refine w_calli (pc' := 56) (st := [vI (k : Int), vR G (20, 12)]) (w_runV X (c_X7_takeTwoDigits l G Ma 1 L (pI (M 27 1) L N (pC (M 27 1) L 111 111 s0)) (by first | assumption | omega) htb) cf_X7_takeTwoDigits k27_0 rfl gw_346 gp_3 rfl rfl ⟨Nat.le_of_ble_eq_true rfl, Nat.le_of_ble_eq_true rfl⟩ rfl rfl (Nat.le_of_ble_eq_true rfl) ⟨Nat.le_of_ble_eq_true rfl, Nat.le_of_ble_eq_true rfl⟩ gw_344 dX7_takeOutput_53) rfl (fun z53 M2 h53 => ?_)
        rw [hcb] at h53
        refine r_iast (i := k) (pc' := 57) X (kP_12 (by decide)) (by omega) (by omega) (by decide) dX7_takeOutput_56 rfl (fun M3 hM3 => ?_)
        refine w_vret X hr dX7_takeOutput_57 ?_
        try dsimp only
        rw [hM3, h53.2, h53.1, fb, setS_setS, setS_wu (by decide)]
      · refine r_aload_n (pc' := 23) X 0 dX7_takeOutput_22 rfl rfl rfl ?_
        refine gf_27_plant (pc' := 26) X gw_219 dX7_takeOutput_23 rfl ?_
        refine gf_P_c (pc' := 29) X (by decide) gw_60 dX7_takeOutput_26 rfl ?_
        refine r_iload_n (pc' := 30) X 1 dX7_takeOutput_29 rfl rfl rfl ?_
        refine r_aald (i := k) (x := (20, (9 + k))) (pc' := 31) X (kP_8 (by decide)) (by decide) (by omega) (by omega) (by decide) rfl dX7_takeOutput_30 rfl ?_
        refine r_iload_n (pc' := 32) X 2 dX7_takeOutput_31 rfl rfl rfl ?_
        refine r_aload_n (pc' := 33) X 0 dX7_takeOutput_32 rfl rfl rfl ?_
        refine w_calli (pc' := 36) (st := [vI (j : Int), vR G (20, (9 + k))]) (w_runV X (c_X7_takeNumber l G Ma L (pI (M 27 1) L j (pC (M 27 1) L 111 111 s0)) hta) cf_X7_takeNumber k27_0 rfl gw_354 gp_5 rfl rfl ⟨Nat.le_of_ble_eq_true rfl, Nat.le_of_ble_eq_true rfl⟩ rfl rfl (Nat.le_of_ble_eq_true rfl) ⟨Nat.le_of_ble_eq_true rfl, Nat.le_of_ble_eq_true rfl⟩ gw_352 dX7_takeOutput_33) rfl (fun z33 M4 h33 => ?_)
        rw [hca] at h33
        refine r_iast (i := j) (pc' := 37) X (kP_c (by decide) (by omega)) (by omega) (by omega) (by decide) dX7_takeOutput_36 rfl (fun M5 hM5 => ?_)
        refine r_iinc (pc' := 40) (z' := ((j + 1 : Nat) : Int)) (lc' := [(0, vR G (27, 0)), (1, vI (k : Int)), (2, vI ((j + 1 : Nat) : Int))]) X 2 [1, 2, 0] dX7_takeOutput_37 rfl (by omega) (by decide) rfl rfl ?_
        refine r_goto (tgt := 11) X dX7_takeOutput_40 rfl ?_
        exact ih11 (j + 1) M5 (by omega) (by omega) (by rw [hM5, h33.2, h33.1, hm, setS_setS, setS_wu (by decide)]; exact congrArg (fun x => setS x _) (fill_s (f := rowF (M 27 1) L (pC (M 27 1) L 111 111 s0))))
  exact L11 ((N - 0) + 1) 0 M1 (Nat.lt_succ_self _) (by omega) (by rw [h5.2, fill_0, wr_self]; rfl)
theorem cf_X7_takeGain : wCal yX7_takeGain cX7_takeGain 3 none 0 := ⟨gw_367, gw_6, by decide, by decide, by rfl⟩
set_option maxRecDepth 100000 in
set_option maxHeartbeats 4000000 in
theorem c_X7_takeGain (l : Launch) (G : wG) (M : wM) (N P L : Nat) (s0 : pS) (hN : M 20 0 0 = (N : Int)) (hN4 : 1 ≤ N ∧ N ≤ 4) (hP : M 20 0 1 = (P : Int)) (hP3 : 1 ≤ P ∧ P ≤ 3) (ht : TxOk (M 27) L s0) : Met l yX7_takeGain (gws yX7_takeGain cX7_takeGain 3 none) (wrm 4 0 0) (wPc G M [vR G (27, 0)]) (wQv G (fun M1 => M1 = setS (wu M 2 (6 + (gI (M 27 1) L N s0).1.toNat) (gK (M 27 1) L N P s0).1.toNat (gV (M 27 1) L N P s0).1) (gV (M 27 1) L N P s0).2)) 0 0 (wA G) := by
  refine wMet (lc := [(0, vR G (27, 0))]) (by decide) (Nat.le_of_ble_eq_true rfl) rfl ?_
  intro p e s m args below meth c X hr
  have X : wX p s m args meth c G 3 "StateObserver$SystemText" cX7_takeGain := X
  obtain ⟨hL, hL2, e4, e5, hpk, hch⟩ := id ht
  have hg1 := pD_bd (ch := M 27 1) (L := L) (a := 0) (b := (N : Int) - 1) (s := pC (M 27 1) L 103 103 s0) (by decide) (by omega)
  have hg2 := pD_bd (ch := M 27 1) (L := L) (a := 0) (b := (P : Int) - 1) (s := (gI (M 27 1) L N s0).2) (by decide) (by omega)
  refine r_aload_n (pc' := 1) X 0 dX7_takeGain_0 rfl rfl rfl ?_
  refine r_bipush (pc' := 3) X dX7_takeGain_1 rfl rfl ?_
  refine r_bipush (pc' := 5) X dX7_takeGain_3 rfl rfl ?_
  refine w_calli (pc' := 8) (st := []) (w_runV X (c_X7_takeCharacter l G M 103 103 L s0 (by first | assumption | omega) (by first | assumption | omega) ht) cf_X7_takeCharacter k27_0 rfl gw_338 gp_1 rfl rfl ⟨Nat.le_of_ble_eq_true rfl, Nat.le_of_ble_eq_true rfl⟩ rfl rfl (Nat.le_of_ble_eq_true rfl) ⟨Nat.le_of_ble_eq_true rfl, Nat.le_of_ble_eq_true rfl⟩ gw_336 dX7_takeGain_5) rfl (fun z5 M1 h5 => ?_)
  have fa : M1 = setS (M) (pC (M 27 1) L 103 103 s0) := by rw [h5.2]; try (simp only [setS_wu (show (20 : Nat) ≠ 27 by decide), setS_wu (show (2 : Nat) ≠ 27 by decide), setS_wr (show (20 : Nat) ≠ 27 by decide), setS_setS]); try rfl
  have hta : TxOk (M1 27) L (pC (M 27 1) L 103 103 s0) := by rw [fa]; exact setS_ok (s := s0) (by first | exact ht | (simp only [wu_o (show (27 : Nat) ≠ 20 by decide), wu_o (show (27 : Nat) ≠ 2 by decide), wr_o (show (27 : Nat) ≠ 20 by decide)]; exact ht)) (pC_ok hpk)
  have hca : M1 27 1 = M 27 1 := by rw [fa, setS_1]; try (simp only [wu_o (show (27 : Nat) ≠ 20 by decide), wu_o (show (27 : Nat) ≠ 2 by decide), wr_o (show (27 : Nat) ≠ 20 by decide)])
  refine r_pop (pc' := 9) X dX7_takeGain_8 rfl rfl ?_
  refine r_aload_n (pc' := 10) X 0 dX7_takeGain_9 rfl rfl rfl ?_
  refine r_iconst (pc' := 11) X dX7_takeGain_10 rfl ?_
  refine r_aload_n (pc' := 12) X 0 dX7_takeGain_11 rfl rfl rfl ?_
  refine gf_27_plant (pc' := 15) X gw_219 dX7_takeGain_12 rfl ?_
  refine gf_P_n (pc' := 18) X (by decide) gw_37 dX7_takeGain_15 rfl ?_
  refine w_eqI (z' := (N : Int)) (by rw [fa, setS_ne (by omega)]; exact hN) ?_
  refine r_iconst (pc' := 19) X dX7_takeGain_18 rfl ?_
  refine r_isub (pc' := 20) X dX7_takeGain_19 rfl ?_
  skip
  refine w_calli (pc' := 23) (st := []) (w_runV X (c_X7_takeDigit l G M1 0 ((N : Int) - 1) L (pC (M 27 1) L 103 103 s0) (by first | assumption | omega) (by first | assumption | omega) hta) cf_X7_takeDigit k27_0 rfl gw_342 gp_2 rfl rfl ⟨Nat.le_of_ble_eq_true rfl, Nat.le_of_ble_eq_true rfl⟩ rfl rfl (Nat.le_of_ble_eq_true rfl) ⟨Nat.le_of_ble_eq_true rfl, Nat.le_of_ble_eq_true rfl⟩ gw_340 dX7_takeGain_20) rfl (fun z20 M2 h20 => ?_)
  rw [hca] at h20
  have fb : M2 = setS (M) ((gI (M 27 1) L N s0).2) := by rw [h20.2, fa]; try (simp only [setS_wu (show (20 : Nat) ≠ 27 by decide), setS_wu (show (2 : Nat) ≠ 27 by decide), setS_wr (show (20 : Nat) ≠ 27 by decide), setS_setS]); try rfl
  have htb : TxOk (M2 27) L ((gI (M 27 1) L N s0).2) := by rw [fb]; exact setS_ok (s := s0) (by first | exact ht | (simp only [wu_o (show (27 : Nat) ≠ 20 by decide), wu_o (show (27 : Nat) ≠ 2 by decide), wr_o (show (27 : Nat) ≠ 20 by decide)]; exact ht)) (pD_ok (pC_ok hpk))
  have hcb : M2 27 1 = M 27 1 := by rw [fb, setS_1]; try (simp only [wu_o (show (27 : Nat) ≠ 20 by decide), wu_o (show (27 : Nat) ≠ 2 by decide), wr_o (show (27 : Nat) ≠ 20 by decide)])
  obtain ⟨gi, hgi⟩ : ∃ n : Nat, (gI (M 27 1) L N s0).1 = (n : Int) := ⟨(gI (M 27 1) L N s0).1.toNat, by unfold gI; omega⟩
  have hz20 : z20 = (gi : Int) := by rw [h20.1]; exact hgi
  have hgi4 : gi < 4 := by unfold gI at hgi; omega
  have hPb : M2 20 0 1 = P := by rw [fb, setS_ne (by omega)]; exact hP
  refine r_istore_n (pc' := 24) (lc' := [(0, vR G (27, 0)), (1, vI z20)]) X [1, 0] dX7_takeGain_23 rfl (by decide) rfl rfl ?_
  refine r_aload_n (pc' := 25) X 0 dX7_takeGain_24 rfl rfl rfl ?_
  refine r_iconst (pc' := 26) X dX7_takeGain_25 rfl ?_
  refine r_aload_n (pc' := 27) X 0 dX7_takeGain_26 rfl rfl rfl ?_
  refine gf_27_plant (pc' := 30) X gw_219 dX7_takeGain_27 rfl ?_
  refine gf_P_p (pc' := 33) X (by decide) gw_42 dX7_takeGain_30 rfl ?_
  refine w_eqI (z' := (P : Int)) hPb ?_
  refine r_iconst (pc' := 34) X dX7_takeGain_33 rfl ?_
  refine r_isub (pc' := 35) X dX7_takeGain_34 rfl ?_
  refine w_calli (pc' := 38) (st := []) (w_runV X (c_X7_takeDigit l G M2 0 ((P : Int) - 1) L ((gI (M 27 1) L N s0).2) (by first | assumption | omega) (by first | assumption | omega) htb) cf_X7_takeDigit k27_0 rfl gw_342 gp_2 rfl rfl ⟨Nat.le_of_ble_eq_true rfl, Nat.le_of_ble_eq_true rfl⟩ rfl rfl (Nat.le_of_ble_eq_true rfl) ⟨Nat.le_of_ble_eq_true rfl, Nat.le_of_ble_eq_true rfl⟩ gw_340 dX7_takeGain_35) rfl (fun z35 M3 h35 => ?_)
  rw [hcb] at h35
  have fc : M3 = setS (M) ((gK (M 27 1) L N P s0).2) := by rw [h35.2, fb]; try (simp only [setS_wu (show (20 : Nat) ≠ 27 by decide), setS_wu (show (2 : Nat) ≠ 27 by decide), setS_wr (show (20 : Nat) ≠ 27 by decide), setS_setS]); try rfl
  have htc : TxOk (M3 27) L ((gK (M 27 1) L N P s0).2) := by rw [fc]; exact setS_ok (s := s0) (by first | exact ht | (simp only [wu_o (show (27 : Nat) ≠ 20 by decide), wu_o (show (27 : Nat) ≠ 2 by decide), wr_o (show (27 : Nat) ≠ 20 by decide)]; exact ht)) (pD_ok (pD_ok (pC_ok hpk)))
  have hcc : M3 27 1 = M 27 1 := by rw [fc, setS_1]; try (simp only [wu_o (show (27 : Nat) ≠ 20 by decide), wu_o (show (27 : Nat) ≠ 2 by decide), wr_o (show (27 : Nat) ≠ 20 by decide)])
  obtain ⟨gk, hgk⟩ : ∃ n : Nat, (gK (M 27 1) L N P s0).1 = (n : Int) := ⟨(gK (M 27 1) L N P s0).1.toNat, by unfold gK; omega⟩
  have hz35 : z35 = (gk : Int) := by rw [h35.1]; exact hgk
  have hgk3 : gk < 3 := by unfold gK at hgk; omega
  refine r_istore_n (pc' := 39) (lc' := [(0, vR G (27, 0)), (1, vI z20), (2, vI z35)]) X [1, 2, 0] dX7_takeGain_38 rfl (by decide) rfl rfl ?_
  refine r_aload_n (pc' := 40) X 0 dX7_takeGain_39 rfl rfl rfl ?_
  refine gf_27_start (pc' := 43) X gw_221 dX7_takeGain_40 rfl ?_
  refine gf_M_gain (pc' := 46) X (by decide) gw_106 dX7_takeGain_43 rfl ?_
  refine r_iload_n (pc' := 47) X 1 dX7_takeGain_46 rfl rfl rfl ?_
  refine r_aald (i := gi) (x := (2, (6 + gi))) (pc' := 48) X (kM_5 (by decide)) (by decide) hz20 hgi4 (by decide) rfl dX7_takeGain_47 rfl ?_
  refine r_iload_n (pc' := 49) X 2 dX7_takeGain_48 rfl rfl rfl ?_
  refine r_aload_n (pc' := 50) X 0 dX7_takeGain_49 rfl rfl rfl ?_
  refine w_calli (pc' := 53) (st := [vI z35, vR G (2, (6 + gi))]) (w_runV X (c_X7_takeNumber l G M3 L ((gK (M 27 1) L N P s0).2) htc) cf_X7_takeNumber k27_0 rfl gw_354 gp_5 rfl rfl ⟨Nat.le_of_ble_eq_true rfl, Nat.le_of_ble_eq_true rfl⟩ rfl rfl (Nat.le_of_ble_eq_true rfl) ⟨Nat.le_of_ble_eq_true rfl, Nat.le_of_ble_eq_true rfl⟩ gw_352 dX7_takeGain_50) rfl (fun z50 M4 h50 => ?_)
  rw [hcc] at h50
  have fd : M4 = setS (M) ((gV (M 27 1) L N P s0).2) := by rw [h50.2, fc]; try (simp only [setS_wu (show (20 : Nat) ≠ 27 by decide), setS_wu (show (2 : Nat) ≠ 27 by decide), setS_wr (show (20 : Nat) ≠ 27 by decide), setS_setS]); try rfl
  have htd : TxOk (M4 27) L ((gV (M 27 1) L N P s0).2) := by rw [fd]; exact setS_ok (s := s0) (by first | exact ht | (simp only [wu_o (show (27 : Nat) ≠ 20 by decide), wu_o (show (27 : Nat) ≠ 2 by decide), wr_o (show (27 : Nat) ≠ 20 by decide)]; exact ht)) (gV_ok hpk)
  have hcd : M4 27 1 = M 27 1 := by rw [fd, setS_1]; try (simp only [wu_o (show (27 : Nat) ≠ 20 by decide), wu_o (show (27 : Nat) ≠ 2 by decide), wr_o (show (27 : Nat) ≠ 20 by decide)])
  refine r_iast (i := gk) (pc' := 54) X (kM_g (by decide) hgi4) hz35 hgk3 (by decide) dX7_takeGain_53 rfl (fun M5 hM5 => ?_)
  refine w_vret X hr dX7_takeGain_54 ?_
  try dsimp only
  rw [hM5, fd, h50.1, hgi, hgk, setS_wu (by decide)]
  rfl
