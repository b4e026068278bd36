theorem cf_L_tryAppend : wCalH yL_tryAppend cL_tryAppend 3 (some .int) [(0, 5, 6, 13), (0, 5, 11, 15)] 2 := ⟨gw_586, gw_0, by decide, by decide, by rfl⟩
set_option maxRecDepth 100000 in
set_option maxHeartbeats 4000000 in
theorem c_L_tryAppend (l : Launch) (G : wG) (M : wM) (hfl : l.stackTraces = false) (L : Nat) (c0 : Int) (hB : TxB (M 27) L) (hc0 : rI c0) : Met l yL_tryAppend (gwsH yL_tryAppend cL_tryAppend 3 (some .int) [(0, 5, 6, 13), (0, 5, 11, 15)]) (wrm 7 1 6) (wPc G M [vR G (28, 0), vI c0]) (wQi G (fun z M1 => ((0 ≤ c0 ∧ c0 ≤ 255) ∧ L < 200 ∧ z = L + 1 ∧ M1 = wu (wu M 27 1 L c0) 27 0 1 ((L : Int) + 1)) ∨ (z = (-1002) ∧ (¬ (0 ≤ c0 ∧ c0 ≤ 255)) ∧ ScrEq M M1) ∨ (z = (-1003) ∧ ((0 ≤ c0 ∧ c0 ≤ 255) ∧ ¬ L < 200) ∧ ScrEq M M1))) 1 6 (wA G) := by
  refine wMetH (lc := [(0, vR G (28, 0)), (1, vI c0)]) (by decide) (Nat.le_of_ble_eq_true rfl) rfl ?_
  intro p e s m args below meth c X hr ht
  have X : wX p s m args meth c G 3 "StateObserverLaw" cL_tryAppend := X
  refine r_aload_n (pc' := 1) X 0 dL_tryAppend_0 rfl rfl rfl ?_
  refine r_iload_n (pc' := 2) X 1 dL_tryAppend_1 rfl rfl rfl ?_
  refine w_callxi (pc' := 5) (st := []) (w_runVX X (c_X8_append l G M hfl L c0 hB hc0) cf_X8_append k28_0 rfl gw_588 gw_589 rfl rfl ⟨Nat.le_of_ble_eq_true rfl, Nat.le_of_ble_eq_true rfl⟩ rfl rfl (Nat.le_of_ble_eq_true rfl) ⟨Nat.le_of_ble_eq_true rfl, Nat.le_of_ble_eq_true rfl⟩ gw_587 dL_tryAppend_2) rfl (fun E M2 hE H1 locs1 ls ce q9 hW1 hS1 hl1 hq1 hq2 hq3 => ?_) (fun vv M2 hv => ?_)
  · rcases hE with ⟨⟨rfl, hc⟩ | ⟨rfl, hc⟩, hs⟩
    · refine w_handle X ht [] (0, 5, 6, 13) [(0, 5, 11, 15)] rfl (fun z hz => absurd hz List.not_mem_nil) (by decide) (by decide) gw_380 to_460 hW1 hS1 hl1 hq1 hq2 hq3 ?_
      refine r_astoreQ_n (pc' := 7) (lc' := [(0, vR G (28, 0)), (1, vI c0)]) X [1, 2] dL_tryAppend_6 rfl (by decide) rfl rfl ?_
      refine r_sipush (pc' := 10) (z := (-1002)) X dL_tryAppend_7 rfl rfl ?_
      refine w_iret X hr dL_tryAppend_10 ?_
      exact Or.inr (Or.inl ⟨rfl, hc, hs⟩)
    · refine w_handle X ht [(0, 5, 6, 13)] (0, 5, 11, 15) [] rfl (fun z hz => by simp only [List.mem_cons, List.not_mem_nil, or_false] at hz; rcases hz with rfl <;> first | exact ⟨by decide, _, gw_380, by decide⟩) (by decide) (by decide) gw_381 to_476 hW1 hS1 hl1 hq1 hq2 hq3 ?_
      refine r_astoreQ_n (pc' := 12) (lc' := [(0, vR G (28, 0)), (1, vI c0)]) X [1, 2] dL_tryAppend_11 rfl (by decide) rfl rfl ?_
      refine r_sipush (pc' := 15) (z := (-1003)) X dL_tryAppend_12 rfl rfl ?_
      refine w_iret X hr dL_tryAppend_15 ?_
      exact Or.inr (Or.inr (⟨rfl, hc, hs⟩))
  · refine w_iret X hr dL_tryAppend_5 ?_
    exact Or.inl hv
theorem cf_L_tryLoad : wCalH yL_tryLoad cL_tryLoad 2 (some .int) [(0, 4, 5, 15)] 1 := ⟨gw_602, gw_0, by decide, by decide, by rfl⟩
set_option maxRecDepth 100000 in
set_option maxHeartbeats 4000000 in
theorem c_L_tryLoad (l : Launch) (G : wG) (M : wM) (hfl : l.stackTraces = false) (L : Nat) (hB : TxB (M 27) L) : Met l yL_tryLoad (gwsH yL_tryLoad cL_tryLoad 2 (some .int) [(0, 4, 5, 15)]) (wrm 7 1 6) (wPc G M [vR G (28, 0)]) (wQi G (fun z M1 => ((rdE (M 27 1) L).1.2 = 0 ∧ z = (rdN (M 27 1) L : Int) ∧ ∃ M2 : wM, (TxOk (M2 27) L (rdE (M 27 1) L).1 ∧ (∀ a, a ≠ 2 → a ≠ 20 → a ≠ 27 → M2 a = M a) ∧ M2 27 1 = M 27 1 ∧ (∀ b x, ¬ (b = 0 ∧ (x = 7 ∨ x = 8)) → ¬ (6 ≤ b ∧ b < 10) → M2 2 b x = M 2 b x) ∧ TxF M M2 L (rdN (M 27 1) L) (rdP (M 27 1) L) ((hdB (M 27 1) L (0, 0)).1) ((hdH (M 27 1) L (0, 0)).1) (rdS (M 27 1) L) (rdN (M 27 1) L) (rdP (M 27 1) L) ∧ ∀ x y, x < 4 → y < 3 → M2 2 (6 + x) y = (rdE (M 27 1) L).2 x y) ∧ M1 0 = M2 2 ∧ M1 19 = M2 20 ∧ M1 26 0 2 = 0 ∧ M1 25 2 0 = 0 ∧ M1 25 2 1 = 0 ∧ (M1 26 0 1 = M 26 0 1) ∧ ∀ a, a ≠ 0 → a ≠ 19 → a ≠ 25 → a ≠ 26 → M1 a = M2 a) ∨ (z = (-1003) ∧ (¬ (rdE (M 27 1) L).1.2 = 0 ∧ TxOk (M1 27) L (rdE (M 27 1) L).1 ∧ (∀ a, a ≠ 2 → a ≠ 20 → a ≠ 27 → M1 a = M a) ∧ M1 27 1 = M 27 1 ∧ (∀ b x, ¬ (b = 0 ∧ (x = 7 ∨ x = 8)) → ¬ (6 ≤ b ∧ b < 10) → M1 2 b x = M 2 b x))))) 1 6 (wA G) := by
  refine wMetH (lc := [(0, vR G (28, 0))]) (by decide) (Nat.le_of_ble_eq_true rfl) rfl ?_
  intro p e s m args below meth c X hr ht
  have X : wX p s m args meth c G 2 "StateObserverLaw" cL_tryLoad := X
  refine r_aload_n (pc' := 1) X 0 dL_tryLoad_0 rfl rfl rfl ?_
  refine w_callxi (pc' := 4) (st := []) (w_runVX X (c_X8_load l G M hfl L hB) cf_X8_load k28_0 rfl gw_604 gw_605 rfl rfl ⟨Nat.le_of_ble_eq_true rfl, Nat.le_of_ble_eq_true rfl⟩ rfl rfl (Nat.le_of_ble_eq_true rfl) ⟨Nat.le_of_ble_eq_true rfl, Nat.le_of_ble_eq_true rfl⟩ gw_603 dL_tryLoad_1) rfl (fun E M2 hE H1 locs1 ls ce q9 hW1 hS1 hl1 hq1 hq2 hq3 => ?_) (fun vv M2 hv => ?_)
  · rcases hE with ⟨rfl, hc⟩
    · refine w_handle X ht [] (0, 4, 5, 15) [] rfl (fun z hz => absurd hz List.not_mem_nil) (by decide) (by decide) gw_381 to_476 hW1 hS1 hl1 hq1 hq2 hq3 ?_
      refine r_astoreQ_n (pc' := 6) (lc' := [(0, vR G (28, 0))]) X [1] dL_tryLoad_5 rfl (by decide) rfl rfl ?_
      refine r_sipush (pc' := 9) (z := (-1003)) X dL_tryLoad_6 rfl rfl ?_
      refine w_iret X hr dL_tryLoad_9 ?_
      exact Or.inr (⟨rfl, hc⟩)
  · refine w_iret X hr dL_tryLoad_4 ?_
    exact Or.inl hv
theorem cf_L_tryAbout : wCalH yL_tryAbout cL_tryAbout 3 (some .int) [(0, 5, 6, 13)] 2 := ⟨gw_682, gw_0, by decide, by decide, by rfl⟩
set_option maxRecDepth 100000 in
set_option maxHeartbeats 4000000 in
theorem c_L_tryAbout (l : Launch) (G : wG) (M : wM) (hfl : l.stackTraces = false) (N P : Nat) (T : Int) (hck : COk M N P T) (hT6 : T ≤ 1000000) (w : Int) (hw : rI w) : Met l yL_tryAbout (gwsH yL_tryAbout cL_tryAbout 3 (some .int) [(0, 5, 6, 13)]) (wrm 7 1 6) (wPc G M [vR G (28, 0), vI w]) (wQi G (fun z M1 => ((0 ≤ w ∧ w ≤ 4) ∧ z = aboutF N P (M 0) w ∧ M1 = M) ∨ (z = (-1002) ∧ (¬ (0 ≤ w ∧ w ≤ 4)) ∧ ScrEq M M1))) 1 6 (wA G) := by
  refine wMetH (lc := [(0, vR G (28, 0)), (1, vI w)]) (by decide) (Nat.le_of_ble_eq_true rfl) rfl ?_
  intro p e s m args below meth c X hr ht
  have X : wX p s m args meth c G 3 "StateObserverLaw" cL_tryAbout := X
  refine r_aload_n (pc' := 1) X 0 dL_tryAbout_0 rfl rfl rfl ?_
  refine r_iload_n (pc' := 2) X 1 dL_tryAbout_1 rfl rfl rfl ?_
  refine w_callxi (pc' := 5) (st := []) (w_runVX X (c_X8_about l G M hfl N P T hck hT6 w hw) cf_X8_about k28_0 rfl gw_684 gw_685 rfl rfl ⟨Nat.le_of_ble_eq_true rfl, Nat.le_of_ble_eq_true rfl⟩ rfl rfl (Nat.le_of_ble_eq_true rfl) ⟨Nat.le_of_ble_eq_true rfl, Nat.le_of_ble_eq_true rfl⟩ gw_683 dL_tryAbout_2) rfl (fun E M2 hE H1 locs1 ls ce q9 hW1 hS1 hl1 hq1 hq2 hq3 => ?_) (fun vv M2 hv => ?_)
  · rcases hE with ⟨⟨rfl, hc⟩, hs⟩
    · refine w_handle X ht [] (0, 5, 6, 13) [] rfl (fun z hz => absurd hz List.not_mem_nil) (by decide) (by decide) gw_380 to_460 hW1 hS1 hl1 hq1 hq2 hq3 ?_
      refine r_astoreQ_n (pc' := 7) (lc' := [(0, vR G (28, 0)), (1, vI w)]) X [1, 2] dL_tryAbout_6 rfl (by decide) rfl rfl ?_
      refine r_sipush (pc' := 10) (z := (-1002)) X dL_tryAbout_7 rfl rfl ?_
      refine w_iret X hr dL_tryAbout_10 ?_
      exact Or.inr (⟨rfl, hc, hs⟩)
  · refine w_iret X hr dL_tryAbout_5 ?_
    exact Or.inl hv
theorem cf_L_tryNumber : wCalH yL_tryNumber cL_tryNumber 5 (some .int) [(0, 7, 8, 28), (0, 7, 14, 13)] 4 := ⟨gw_620, gw_0, by decide, by decide, by rfl⟩
set_option maxRecDepth 100000 in
set_option maxHeartbeats 4000000 in
theorem c_L_tryNumber (l : Launch) (G : wG) (M : wM) (hfl : l.stackTraces = false) (N P : Nat) (T : Int) (hck : COk M N P T) (hT6 : T ≤ 1000000) (w i j : Int) (hw : rI w) (hi : rI i) (hj : rI j) : Met l yL_tryNumber (gwsH yL_tryNumber cL_tryNumber 5 (some .int) [(0, 7, 8, 28), (0, 7, 14, 13)]) (wrm 7 1 6) (wPc G M [vR G (28, 0), vI w, vI i, vI j]) (wQi G (fun z M1 => ((0 ≤ w ∧ w ≤ 5) ∧ (0 ≤ i ∧ i < (if w = 3 ∨ w = 4 then (P : Int) else N)) ∧ (0 ≤ j ∧ j < colsF N P w) ∧ z = coefF (M 19) (M 0) w i.toNat j.toNat ∧ M1 = M) ∨ (z = (-1002) ∧ (¬ (0 ≤ w ∧ w ≤ 5)) ∧ ScrEq M M1) ∨ (z = (-1001) ∧ ((0 ≤ w ∧ w ≤ 5) ∧ ¬ ((0 ≤ i ∧ i < (if w = 3 ∨ w = 4 then (P : Int) else N)) ∧ (0 ≤ j ∧ j < colsF N P w))) ∧ ScrEq M M1))) 1 6 (wA G) := by
  refine wMetH (lc := [(0, vR G (28, 0)), (1, vI w), (2, vI i), (3, vI j)]) (by decide) (Nat.le_of_ble_eq_true rfl) rfl ?_
  intro p e s m args below meth c X hr ht
  have X : wX p s m args meth c G 5 "StateObserverLaw" cL_tryNumber := X
  refine r_aload_n (pc' := 1) X 0 dL_tryNumber_0 rfl rfl rfl ?_
  refine r_iload_n (pc' := 2) X 1 dL_tryNumber_1 rfl rfl rfl ?_
  refine r_iload_n (pc' := 3) X 2 dL_tryNumber_2 rfl rfl rfl ?_
  refine r_iload_n (pc' := 4) X 3 dL_tryNumber_3 rfl rfl rfl ?_
  refine w_callxi (pc' := 7) (st := []) (w_runVX X (c_X8_coefficient l G M hfl N P T hck hT6 w i j hw hi hj) cf_X8_coefficient k28_0 rfl gw_622 gw_623 rfl rfl ⟨Nat.le_of_ble_eq_true rfl, Nat.le_of_ble_eq_true rfl⟩ rfl rfl (Nat.le_of_ble_eq_true rfl) ⟨Nat.le_of_ble_eq_true rfl, Nat.le_of_ble_eq_true rfl⟩ gw_621 dL_tryNumber_4) rfl (fun E M2 hE H1 locs1 ls ce q9 hW1 hS1 hl1 hq1 hq2 hq3 => ?_) (fun vv M2 hv => ?_)
  · rcases hE with ⟨⟨rfl, hc⟩ | ⟨rfl, hc⟩, hs⟩
    · refine w_handle X ht [(0, 7, 8, 28)] (0, 7, 14, 13) [] rfl (fun z hz => by simp only [List.mem_cons, List.not_mem_nil, or_false] at hz; rcases hz with rfl <;> first | exact ⟨by decide, _, gw_379, by decide⟩) (by decide) (by decide) gw_380 to_460 hW1 hS1 hl1 hq1 hq2 hq3 ?_
      refine r_astoreQ (pc' := 16) (lc' := [(0, vR G (28, 0)), (1, vI w), (2, vI i), (3, vI j)]) X [1, 2, 3, 4] dL_tryNumber_14 (by decide) rfl rfl ?_
      refine r_sipush (pc' := 19) (z := (-1002)) X dL_tryNumber_16 rfl rfl ?_
      refine w_iret X hr dL_tryNumber_19 ?_
      exact Or.inr (Or.inl ⟨rfl, hc, hs⟩)
    · refine w_handle X ht [] (0, 7, 8, 28) [(0, 7, 14, 13)] rfl (fun z hz => absurd hz List.not_mem_nil) (by decide) (by decide) gw_379 to_392 hW1 hS1 hl1 hq1 hq2 hq3 ?_
      refine r_astoreQ (pc' := 10) (lc' := [(0, vR G (28, 0)), (1, vI w), (2, vI i), (3, vI j)]) X [1, 2, 3, 4] dL_tryNumber_8 (by decide) rfl rfl ?_
      refine r_sipush (pc' := 13) (z := (-1001)) X dL_tryNumber_10 rfl rfl ?_
      refine w_iret X hr dL_tryNumber_13 ?_
      exact Or.inr (Or.inr (⟨rfl, hc, hs⟩))
  · refine w_iret X hr dL_tryNumber_7 ?_
    exact Or.inl hv
theorem cf_L_tryState : wCalH yL_tryState cL_tryState 4 (some .int) [(0, 6, 7, 28), (0, 6, 12, 13)] 3 := ⟨gw_690, gw_0, by decide, by decide, by rfl⟩
set_option maxRecDepth 100000 in
set_option maxHeartbeats 4000000 in
theorem c_L_tryState (l : Launch) (G : wG) (M : wM) (hfl : l.stackTraces = false) (N P : Nat) (T : Int) (hck : COk M N P T) (hT6 : T ≤ 1000000) (i w : Int) (hi : rI i) (hw : rI w) : Met l yL_tryState (gwsH yL_tryState cL_tryState 4 (some .int) [(0, 6, 7, 28), (0, 6, 12, 13)]) (wrm 7 1 6) (wPc G M [vR G (28, 0), vI i, vI w]) (wQi G (fun z M1 => ((0 ≤ i ∧ i < N) ∧ (0 ≤ w ∧ w ≤ 4) ∧ z = stateF (M 0) i.toNat w ∧ M1 = M) ∨ (z = (-1001) ∧ (¬ (0 ≤ i ∧ i < N)) ∧ ScrEq M M1) ∨ (z = (-1002) ∧ ((0 ≤ i ∧ i < N) ∧ ¬ (0 ≤ w ∧ w ≤ 4)) ∧ ScrEq M M1))) 1 6 (wA G) := by
  refine wMetH (lc := [(0, vR G (28, 0)), (1, vI i), (2, vI w)]) (by decide) (Nat.le_of_ble_eq_true rfl) rfl ?_
  intro p e s m args below meth c X hr ht
  have X : wX p s m args meth c G 4 "StateObserverLaw" cL_tryState := X
  refine r_aload_n (pc' := 1) X 0 dL_tryState_0 rfl rfl rfl ?_
  refine r_iload_n (pc' := 2) X 1 dL_tryState_1 rfl rfl rfl ?_
  refine r_iload_n (pc' := 3) X 2 dL_tryState_2 rfl rfl rfl ?_
  refine w_callxi (pc' := 6) (st := []) (w_runVX X (c_X8_state l G M hfl N P T hck hT6 i w hi hw) cf_X8_state k28_0 rfl gw_692 gw_693 rfl rfl ⟨Nat.le_of_ble_eq_true rfl, Nat.le_of_ble_eq_true rfl⟩ rfl rfl (Nat.le_of_ble_eq_true rfl) ⟨Nat.le_of_ble_eq_true rfl, Nat.le_of_ble_eq_true rfl⟩ gw_691 dL_tryState_3) rfl (fun E M2 hE H1 locs1 ls ce q9 hW1 hS1 hl1 hq1 hq2 hq3 => ?_) (fun vv M2 hv => ?_)
  · rcases hE with ⟨⟨rfl, hc⟩ | ⟨rfl, hc⟩, hs⟩
    · refine w_handle X ht [] (0, 6, 7, 28) [(0, 6, 12, 13)] rfl (fun z hz => absurd hz List.not_mem_nil) (by decide) (by decide) gw_379 to_392 hW1 hS1 hl1 hq1 hq2 hq3 ?_
      refine r_astoreQ_n (pc' := 8) (lc' := [(0, vR G (28, 0)), (1, vI i), (2, vI w)]) X [1, 2, 3] dL_tryState_7 rfl (by decide) rfl rfl ?_
      refine r_sipush (pc' := 11) (z := (-1001)) X dL_tryState_8 rfl rfl ?_
      refine w_iret X hr dL_tryState_11 ?_
      exact Or.inr (Or.inl ⟨rfl, hc, hs⟩)
    · refine w_handle X ht [(0, 6, 7, 28)] (0, 6, 12, 13) [] rfl (fun z hz => by simp only [List.mem_cons, List.not_mem_nil, or_false] at hz; rcases hz with rfl <;> first | exact ⟨by decide, _, gw_379, by decide⟩) (by decide) (by decide) gw_380 to_460 hW1 hS1 hl1 hq1 hq2 hq3 ?_
      refine r_astoreQ_n (pc' := 13) (lc' := [(0, vR G (28, 0)), (1, vI i), (2, vI w)]) X [1, 2, 3] dL_tryState_12 rfl (by decide) rfl rfl ?_
      refine r_sipush (pc' := 16) (z := (-1002)) X dL_tryState_13 rfl rfl ?_
      refine w_iret X hr dL_tryState_16 ?_
      exact Or.inr (Or.inr (⟨rfl, hc, hs⟩))
  · refine w_iret X hr dL_tryState_6 ?_
    exact Or.inl hv
theorem cf_L_tryOutput : wCalH yL_tryOutput cL_tryOutput 4 (some .int) [(0, 6, 7, 28), (0, 6, 12, 13), (0, 6, 17, 15)] 3 := ⟨gw_378, gw_0, by decide, by decide, by rfl⟩
set_option maxRecDepth 100000 in
set_option maxHeartbeats 4000000 in
theorem c_L_tryOutput (l : Launch) (G : wG) (M : wM) (hfl : l.stackTraces = false) (N P : Nat) (T : Int) (hck : COk M N P T) (hT6 : T ≤ 1000000) (i w : Int) (hi : rI i) (hw : rI w) : Met l yL_tryOutput (gwsH yL_tryOutput cL_tryOutput 4 (some .int) [(0, 6, 7, 28), (0, 6, 12, 13), (0, 6, 17, 15)]) (wrm 7 1 6) (wPc G M [vR G (28, 0), vI i, vI w]) (wQi G (fun z M1 => ((0 ≤ i ∧ i < P) ∧ (0 ≤ w ∧ w ≤ 3) ∧ ¬ (w ≤ 1 ∧ M 0 11 i.toNat = -1) ∧ z = outF N (M 19) (M 0) i.toNat w ∧ M1 = M) ∨ (z = (-1001) ∧ (¬ (0 ≤ i ∧ i < P)) ∧ ScrEq M M1) ∨ (z = (-1002) ∧ ((0 ≤ i ∧ i < P) ∧ ¬ (0 ≤ w ∧ w ≤ 3)) ∧ ScrEq M M1) ∨ (z = (-1003) ∧ ((0 ≤ i ∧ i < P) ∧ (0 ≤ w ∧ w ≤ 3) ∧ (w ≤ 1 ∧ M 0 11 i.toNat = -1)) ∧ ScrEq M M1))) 1 6 (wA G) := by
  refine wMetH (lc := [(0, vR G (28, 0)), (1, vI i), (2, vI w)]) (by decide) (Nat.le_of_ble_eq_true rfl) rfl ?_
  intro p e s m args below meth c X hr ht
  have X : wX p s m args meth c G 4 "StateObserverLaw" cL_tryOutput := X
  refine r_aload_n (pc' := 1) X 0 dL_tryOutput_0 rfl rfl rfl ?_
  refine r_iload_n (pc' := 2) X 1 dL_tryOutput_1 rfl rfl rfl ?_
  refine r_iload_n (pc' := 3) X 2 dL_tryOutput_2 rfl rfl rfl ?_
  refine w_callxi (pc' := 6) (st := []) (w_runVX X (c_X8_output l G M hfl N P T hck hT6 i w hi hw) cf_X8_output k28_0 rfl gw_383 gw_384 rfl rfl ⟨Nat.le_of_ble_eq_true rfl, Nat.le_of_ble_eq_true rfl⟩ rfl rfl (Nat.le_of_ble_eq_true rfl) ⟨Nat.le_of_ble_eq_true rfl, Nat.le_of_ble_eq_true rfl⟩ gw_382 dL_tryOutput_3) rfl (fun E M2 hE H1 locs1 ls ce q9 hW1 hS1 hl1 hq1 hq2 hq3 => ?_) (fun vv M2 hv => ?_)
  · rcases hE with ⟨⟨rfl, hc⟩ | ⟨rfl, hc⟩ | ⟨rfl, hc⟩, hs⟩
    · refine w_handle X ht [] (0, 6, 7, 28) [(0, 6, 12, 13), (0, 6, 17, 15)] rfl (fun z hz => absurd hz List.not_mem_nil) (by decide) (by decide) gw_379 to_392 hW1 hS1 hl1 hq1 hq2 hq3 ?_
      refine r_astoreQ_n (pc' := 8) (lc' := [(0, vR G (28, 0)), (1, vI i), (2, vI w)]) X [1, 2, 3] dL_tryOutput_7 rfl (by decide) rfl rfl ?_
      refine r_sipush (pc' := 11) (z := (-1001)) X dL_tryOutput_8 rfl rfl ?_
      refine w_iret X hr dL_tryOutput_11 ?_
      exact Or.inr (Or.inl ⟨rfl, hc, hs⟩)
    · refine w_handle X ht [(0, 6, 7, 28)] (0, 6, 12, 13) [(0, 6, 17, 15)] rfl (fun z hz => by simp only [List.mem_cons, List.not_mem_nil, or_false] at hz; rcases hz with rfl <;> first | exact ⟨by decide, _, gw_379, by decide⟩) (by decide) (by decide) gw_380 to_460 hW1 hS1 hl1 hq1 hq2 hq3 ?_
      refine r_astoreQ_n (pc' := 13) (lc' := [(0, vR G (28, 0)), (1, vI i), (2, vI w)]) X [1, 2, 3] dL_tryOutput_12 rfl (by decide) rfl rfl ?_
      refine r_sipush (pc' := 16) (z := (-1002)) X dL_tryOutput_13 rfl rfl ?_
      refine w_iret X hr dL_tryOutput_16 ?_
      exact Or.inr (Or.inr (Or.inl ⟨rfl, hc, hs⟩))
    · refine w_handle X ht [(0, 6, 7, 28), (0, 6, 12, 13)] (0, 6, 17, 15) [] rfl (fun z hz => by simp only [List.mem_cons, List.not_mem_nil, or_false] at hz; rcases hz with rfl | rfl <;> first | exact ⟨by decide, _, gw_379, by decide⟩ | exact ⟨by decide, _, gw_380, by decide⟩) (by decide) (by decide) gw_381 to_476 hW1 hS1 hl1 hq1 hq2 hq3 ?_
      refine r_astoreQ_n (pc' := 18) (lc' := [(0, vR G (28, 0)), (1, vI i), (2, vI w)]) X [1, 2, 3] dL_tryOutput_17 rfl (by decide) rfl rfl ?_
      refine r_sipush (pc' := 21) (z := (-1003)) X dL_tryOutput_18 rfl rfl ?_
      refine w_iret X hr dL_tryOutput_21 ?_
      exact Or.inr (Or.inr (Or.inr (⟨rfl, hc, hs⟩)))
  · refine w_iret X hr dL_tryOutput_6 ?_
    exact Or.inl hv
theorem cf_L_tryPlace : wCalH yL_tryPlace cL_tryPlace 4 (some .int) [(0, 6, 7, 28), (0, 6, 12, 15)] 3 := ⟨gw_705, gw_0, by decide, by decide, by rfl⟩
set_option maxRecDepth 100000 in
set_option maxHeartbeats 4000000 in
theorem c_L_tryPlace (l : Launch) (G : wG) (M : wM) (hfl : l.stackTraces = false) (N P : Nat) (T : Int) (hck : COk M N P T) (hT6 : T ≤ 1000000) (nx ct : Nat) (hnx : M 26 0 1 = (nx : Int)) (hnx14 : nx < 14) (hct : M 26 0 2 = (ct : Int)) (hct14 : ct ≤ 14) (i v : Int) (hi : rI i) (hv : rI v) : Met l yL_tryPlace (gwsH yL_tryPlace cL_tryPlace 4 (some .int) [(0, 6, 7, 28), (0, 6, 12, 15)]) (wrm 7 1 6) (wPc G M [vR G (28, 0), vI i, vI v]) (wQi G (fun z M1 => ((0 ≤ i ∧ i < N) ∧ ((M 0 2 i.toNat ≤ v ∧ v ≤ M 0 3 i.toNat) ∧ meets N P (M 19) (up1 (M 0 1) i.toNat v) (M 0 10) (M 0 11)) ∧ M1 0 = setV (M 0) 1 i.toNat v ∧ z = M 0 1 i.toNat ∧ Noted M M1 nx ct) ∨ (z = (-1001) ∧ (¬ (0 ≤ i ∧ i < N)) ∧ ScrEq M M1) ∨ (z = (-1003) ∧ ((0 ≤ i ∧ i < N) ∧ ¬ ((M 0 2 i.toNat ≤ v ∧ v ≤ M 0 3 i.toNat) ∧ meets N P (M 19) (up1 (M 0 1) i.toNat v) (M 0 10) (M 0 11))) ∧ ScrEq M M1))) 1 6 (wA G) := by
  refine wMetH (lc := [(0, vR G (28, 0)), (1, vI i), (2, vI v)]) (by decide) (Nat.le_of_ble_eq_true rfl) rfl ?_
  intro p e s m args below meth c X hr ht
  have X : wX p s m args meth c G 4 "StateObserverLaw" cL_tryPlace := X
  refine r_aload_n (pc' := 1) X 0 dL_tryPlace_0 rfl rfl rfl ?_
  refine r_iload_n (pc' := 2) X 1 dL_tryPlace_1 rfl rfl rfl ?_
  refine r_iload_n (pc' := 3) X 2 dL_tryPlace_2 rfl rfl rfl ?_
  refine w_callxi (pc' := 6) (st := []) (w_runVX X (c_X8_place l G M hfl N P T hck hT6 nx ct hnx hnx14 hct hct14 i v hi hv) cf_X8_place k28_0 rfl gw_707 gw_708 rfl rfl ⟨Nat.le_of_ble_eq_true rfl, Nat.le_of_ble_eq_true rfl⟩ rfl rfl (Nat.le_of_ble_eq_true rfl) ⟨Nat.le_of_ble_eq_true rfl, Nat.le_of_ble_eq_true rfl⟩ gw_706 dL_tryPlace_3) rfl (fun E M2 hE H1 locs1 ls ce q9 hW1 hS1 hl1 hq1 hq2 hq3 => ?_) (fun vv M2 hv => ?_)
  · rcases hE with ⟨⟨rfl, hc⟩ | ⟨rfl, hc⟩, hs⟩
    · refine w_handle X ht [] (0, 6, 7, 28) [(0, 6, 12, 15)] rfl (fun z hz => absurd hz List.not_mem_nil) (by decide) (by decide) gw_379 to_392 hW1 hS1 hl1 hq1 hq2 hq3 ?_
      refine r_astoreQ_n (pc' := 8) (lc' := [(0, vR G (28, 0)), (1, vI i), (2, vI v)]) X [1, 2, 3] dL_tryPlace_7 rfl (by decide) rfl rfl ?_
      refine r_sipush (pc' := 11) (z := (-1001)) X dL_tryPlace_8 rfl rfl ?_
      refine w_iret X hr dL_tryPlace_11 ?_
      exact Or.inr (Or.inl ⟨rfl, hc, hs⟩)
    · refine w_handle X ht [(0, 6, 7, 28)] (0, 6, 12, 15) [] rfl (fun z hz => by simp only [List.mem_cons, List.not_mem_nil, or_false] at hz; rcases hz with rfl <;> first | exact ⟨by decide, _, gw_379, by decide⟩) (by decide) (by decide) gw_381 to_476 hW1 hS1 hl1 hq1 hq2 hq3 ?_
      refine r_astoreQ_n (pc' := 13) (lc' := [(0, vR G (28, 0)), (1, vI i), (2, vI v)]) X [1, 2, 3] dL_tryPlace_12 rfl (by decide) rfl rfl ?_
      refine r_sipush (pc' := 16) (z := (-1003)) X dL_tryPlace_13 rfl rfl ?_
      refine w_iret X hr dL_tryPlace_16 ?_
      exact Or.inr (Or.inr (⟨rfl, hc, hs⟩))
  · refine w_iret X hr dL_tryPlace_6 ?_
    exact Or.inl hv
theorem cf_L_tryStep : wCalH yL_tryStep cL_tryStep 4 (some .int) [(0, 6, 7, 13)] 3 := ⟨gw_726, gw_0, by decide, by decide, by rfl⟩
set_option maxRecDepth 100000 in
set_option maxHeartbeats 4000000 in
theorem c_L_tryStep (l : Launch) (G : wG) (M : wM) (hfl : l.stackTraces = false) (N P : Nat) (T : Int) (hck : COk M N P T) (hT6 : T ≤ 1000000) (nx ct : Nat) (hnx : M 26 0 1 = (nx : Int)) (hnx14 : nx < 14) (hct : M 26 0 2 = (ct : Int)) (hct14 : ct ≤ 14) (u d : Int) (hu : rI u) (hd : rI d) : Met l yL_tryStep (gwsH yL_tryStep cL_tryStep 4 (some .int) [(0, 6, 7, 13)]) (wrm 7 1 6) (wPc G M [vR G (28, 0), vI u, vI d]) (wQi G (fun z M1 => (((-99 ≤ u ∧ u ≤ 99) ∧ -(M 0 0 8) ≤ d ∧ d ≤ M 0 0 8) ∧ StepV N P (M 19) (M 0) (M1 0) u d ∧ z = M 0 0 9 + 1 ∧ Noted M M1 nx ct) ∨ (z = (-1002) ∧ (¬ ((-99 ≤ u ∧ u ≤ 99) ∧ -(M 0 0 8) ≤ d ∧ d ≤ M 0 0 8)) ∧ ScrEq M M1))) 1 6 (wA G) := by
  refine wMetH (lc := [(0, vR G (28, 0)), (1, vI u), (2, vI d)]) (by decide) (Nat.le_of_ble_eq_true rfl) rfl ?_
  intro p e s m args below meth c X hr ht
  have X : wX p s m args meth c G 4 "StateObserverLaw" cL_tryStep := X
  refine r_aload_n (pc' := 1) X 0 dL_tryStep_0 rfl rfl rfl ?_
  refine r_iload_n (pc' := 2) X 1 dL_tryStep_1 rfl rfl rfl ?_
  refine r_iload_n (pc' := 3) X 2 dL_tryStep_2 rfl rfl rfl ?_
  refine w_callxi (pc' := 6) (st := []) (w_runVX X (c_X8_step l G M hfl N P T hck hT6 nx ct hnx hnx14 hct hct14 u d hu hd) cf_X8_step k28_0 rfl gw_728 gw_729 rfl rfl ⟨Nat.le_of_ble_eq_true rfl, Nat.le_of_ble_eq_true rfl⟩ rfl rfl (Nat.le_of_ble_eq_true rfl) ⟨Nat.le_of_ble_eq_true rfl, Nat.le_of_ble_eq_true rfl⟩ gw_727 dL_tryStep_3) rfl (fun E M2 hE H1 locs1 ls ce q9 hW1 hS1 hl1 hq1 hq2 hq3 => ?_) (fun vv M2 hv => ?_)
  · rcases hE with ⟨⟨rfl, hc⟩, hs⟩
    · refine w_handle X ht [] (0, 6, 7, 13) [] rfl (fun z hz => absurd hz List.not_mem_nil) (by decide) (by decide) gw_380 to_460 hW1 hS1 hl1 hq1 hq2 hq3 ?_
      refine r_astoreQ_n (pc' := 8) (lc' := [(0, vR G (28, 0)), (1, vI u), (2, vI d)]) X [1, 2, 3] dL_tryStep_7 rfl (by decide) rfl rfl ?_
      refine r_sipush (pc' := 11) (z := (-1002)) X dL_tryStep_8 rfl rfl ?_
      refine w_iret X hr dL_tryStep_11 ?_
      exact Or.inr (⟨rfl, hc, hs⟩)
  · refine w_iret X hr dL_tryStep_6 ?_
    exact Or.inl hv
theorem cf_L_tryRead : wCalH yL_tryRead cL_tryRead 3 (some .int) [(0, 5, 6, 28)] 2 := ⟨gw_777, gw_0, by decide, by decide, by rfl⟩
set_option maxRecDepth 100000 in
set_option maxHeartbeats 4000000 in
theorem c_L_tryRead (l : Launch) (G : wG) (M : wM) (hfl : l.stackTraces = false) (N P : Nat) (T : Int) (hck : COk M N P T) (hT6 : T ≤ 1000000) (nx ct : Nat) (hnx : M 26 0 1 = (nx : Int)) (hnx14 : nx < 14) (hct : M 26 0 2 = (ct : Int)) (hct14 : ct ≤ 14) (hT0 : 0 ≤ T) (i : Int) (hi : rI i) : Met l yL_tryRead (gwsH yL_tryRead cL_tryRead 3 (some .int) [(0, 5, 6, 28)]) (wrm 7 1 6) (wPc G M [vR G (28, 0), vI i]) (wQi G (fun z M1 => ((0 ≤ i ∧ i < P) ∧ M1 0 = (obsV N P (M 19) (M 0) i.toNat) ∧ z = obsY N (M 19) (M 0) i.toNat i.toNat ∧ Noted M M1 nx ct) ∨ (z = (-1001) ∧ (¬ (0 ≤ i ∧ i < P)) ∧ ScrEq M M1))) 1 6 (wA G) := by
  refine wMetH (lc := [(0, vR G (28, 0)), (1, vI i)]) (by decide) (Nat.le_of_ble_eq_true rfl) rfl ?_
  intro p e s m args below meth c X hr ht
  have X : wX p s m args meth c G 3 "StateObserverLaw" cL_tryRead := X
  refine r_aload_n (pc' := 1) X 0 dL_tryRead_0 rfl rfl rfl ?_
  refine r_iload_n (pc' := 2) X 1 dL_tryRead_1 rfl rfl rfl ?_
  refine w_callxi (pc' := 5) (st := []) (w_runVX X (c_X8_read l G M hfl N P T hck hT6 nx ct hnx hnx14 hct hct14 hT0 i hi) cf_X8_read k28_0 rfl gw_779 gw_780 rfl rfl ⟨Nat.le_of_ble_eq_true rfl, Nat.le_of_ble_eq_true rfl⟩ rfl rfl (Nat.le_of_ble_eq_true rfl) ⟨Nat.le_of_ble_eq_true rfl, Nat.le_of_ble_eq_true rfl⟩ gw_778 dL_tryRead_2) rfl (fun E M2 hE H1 locs1 ls ce q9 hW1 hS1 hl1 hq1 hq2 hq3 => ?_) (fun vv M2 hv => ?_)
  · rcases hE with ⟨⟨rfl, hc⟩, hs⟩
    · refine w_handle X ht [] (0, 5, 6, 28) [] rfl (fun z hz => absurd hz List.not_mem_nil) (by decide) (by decide) gw_379 to_392 hW1 hS1 hl1 hq1 hq2 hq3 ?_
      refine r_astoreQ_n (pc' := 7) (lc' := [(0, vR G (28, 0)), (1, vI i)]) X [1, 2] dL_tryRead_6 rfl (by decide) rfl rfl ?_
      refine r_sipush (pc' := 10) (z := (-1001)) X dL_tryRead_7 rfl rfl ?_
      refine w_iret X hr dL_tryRead_10 ?_
      exact Or.inr (⟨rfl, hc, hs⟩)
  · refine w_iret X hr dL_tryRead_5 ?_
    exact Or.inl hv
theorem cf_L_tryShave : wCalH yL_tryShave cL_tryShave 4 (some .int) [(0, 6, 7, 28), (0, 6, 12, 13)] 3 := ⟨gw_805, gw_0, by decide, by decide, by rfl⟩
set_option maxRecDepth 100000 in
set_option maxHeartbeats 4000000 in
theorem c_L_tryShave (l : Launch) (G : wG) (M : wM) (hfl : l.stackTraces = false) (N P : Nat) (T : Int) (hck : COk M N P T) (hT6 : T ≤ 1000000) (nx ct : Nat) (hnx : M 26 0 1 = (nx : Int)) (hnx14 : nx < 14) (hct : M 26 0 2 = (ct : Int)) (hct14 : ct ≤ 14) (htr : TrOk (M 0) N P (M 19)) (i n : Int) (hi : rI i) (hn : rI n) : Met l yL_tryShave (gwsH yL_tryShave cL_tryShave 4 (some .int) [(0, 6, 7, 28), (0, 6, 12, 13)]) (wrm 7 1 6) (wPc G M [vR G (28, 0), vI i, vI n]) (wQi G (fun z M1 => (((0 ≤ i ∧ i < N) ∧ 1 ≤ n ∧ n ≤ 100) ∧ z = (((shv N P (M 19) i.toNat 2 1 n.toNat (M 0)).1 : Int) + ((shv N P (M 19) i.toNat 3 (-1) n.toNat (shv N P (M 19) i.toNat 2 1 n.toNat (M 0)).2).1 : Int)) ∧ M1 0 = (shv N P (M 19) i.toNat 3 (-1) n.toNat (shv N P (M 19) i.toNat 2 1 n.toNat (M 0)).2).2 ∧ MoOk (M1 0) N P T ∧ BoxOk N (M1 0 2) (M1 0 3) ∧ TrOk (M1 0) N P (M 19) ∧ Noted M M1 nx ct) ∨ (z = (-1001) ∧ (¬ (0 ≤ i ∧ i < N)) ∧ ScrEq M M1) ∨ (z = (-1002) ∧ ((0 ≤ i ∧ i < N) ∧ ¬ (1 ≤ n ∧ n ≤ 100)) ∧ ScrEq M M1))) 1 6 (wA G) := by
  refine wMetH (lc := [(0, vR G (28, 0)), (1, vI i), (2, vI n)]) (by decide) (Nat.le_of_ble_eq_true rfl) rfl ?_
  intro p e s m args below meth c X hr ht
  have X : wX p s m args meth c G 4 "StateObserverLaw" cL_tryShave := X
  refine r_aload_n (pc' := 1) X 0 dL_tryShave_0 rfl rfl rfl ?_
  refine r_iload_n (pc' := 2) X 1 dL_tryShave_1 rfl rfl rfl ?_
  refine r_iload_n (pc' := 3) X 2 dL_tryShave_2 rfl rfl rfl ?_
  refine w_callxi (pc' := 6) (st := []) (w_runVX X (c_X8_shave l G M hfl N P T hck hT6 nx ct hnx hnx14 hct hct14 htr i n hi hn) cf_X8_shave k28_0 rfl gw_807 gw_808 rfl rfl ⟨Nat.le_of_ble_eq_true rfl, Nat.le_of_ble_eq_true rfl⟩ rfl rfl (Nat.le_of_ble_eq_true rfl) ⟨Nat.le_of_ble_eq_true rfl, Nat.le_of_ble_eq_true rfl⟩ gw_806 dL_tryShave_3) rfl (fun E M2 hE H1 locs1 ls ce q9 hW1 hS1 hl1 hq1 hq2 hq3 => ?_) (fun vv M2 hv => ?_)
  · rcases hE with ⟨⟨rfl, hc⟩ | ⟨rfl, hc⟩, hs⟩
    · refine w_handle X ht [] (0, 6, 7, 28) [(0, 6, 12, 13)] rfl (fun z hz => absurd hz List.not_mem_nil) (by decide) (by decide) gw_379 to_392 hW1 hS1 hl1 hq1 hq2 hq3 ?_
      refine r_astoreQ_n (pc' := 8) (lc' := [(0, vR G (28, 0)), (1, vI i), (2, vI n)]) X [1, 2, 3] dL_tryShave_7 rfl (by decide) rfl rfl ?_
      refine r_sipush (pc' := 11) (z := (-1001)) X dL_tryShave_8 rfl rfl ?_
      refine w_iret X hr dL_tryShave_11 ?_
      exact Or.inr (Or.inl ⟨rfl, hc, hs⟩)
    · refine w_handle X ht [(0, 6, 7, 28)] (0, 6, 12, 13) [] rfl (fun z hz => by simp only [List.mem_cons, List.not_mem_nil, or_false] at hz; rcases hz with rfl <;> first | exact ⟨by decide, _, gw_379, by decide⟩) (by decide) (by decide) gw_380 to_460 hW1 hS1 hl1 hq1 hq2 hq3 ?_
      refine r_astoreQ_n (pc' := 13) (lc' := [(0, vR G (28, 0)), (1, vI i), (2, vI n)]) X [1, 2, 3] dL_tryShave_12 rfl (by decide) rfl rfl ?_
      refine r_sipush (pc' := 16) (z := (-1002)) X dL_tryShave_13 rfl rfl ?_
      refine w_iret X hr dL_tryShave_16 ?_
      exact Or.inr (Or.inr (⟨rfl, hc, hs⟩))
  · refine w_iret X hr dL_tryShave_6 ?_
    exact Or.inl hv
theorem cf_L_trySetGain : wCalH yL_trySetGain cL_trySetGain 5 (some .int) [(0, 7, 8, 28), (0, 7, 14, 13)] 4 := ⟨gw_818, gw_0, by decide, by decide, by rfl⟩
set_option maxRecDepth 100000 in
set_option maxHeartbeats 4000000 in
theorem c_L_trySetGain (l : Launch) (G : wG) (M : wM) (hfl : l.stackTraces = false) (N P : Nat) (T : Int) (hck : COk M N P T) (hT6 : T ≤ 1000000) (nx ct : Nat) (hnx : M 26 0 1 = (nx : Int)) (hnx14 : nx < 14) (hct : M 26 0 2 = (ct : Int)) (hct14 : ct ≤ 14) (i k v : Int) (hi : rI i) (hk : rI k) (hv : rI v) : Met l yL_trySetGain (gwsH yL_trySetGain cL_trySetGain 5 (some .int) [(0, 7, 8, 28), (0, 7, 14, 13)]) (wrm 7 1 6) (wPc G M [vR G (28, 0), vI i, vI k, vI v]) (wQi G (fun z M1 => ((((0 ≤ i ∧ i < N) ∧ 0 ≤ k ∧ k < P) ∧ -99 ≤ v ∧ v ≤ 99) ∧ M1 0 = setV (M 0) (6 + i.toNat) k.toNat v ∧ z = M 0 (6 + i.toNat) k.toNat ∧ Noted M M1 nx ct) ∨ (z = (-1001) ∧ (¬ ((0 ≤ i ∧ i < N) ∧ 0 ≤ k ∧ k < P)) ∧ ScrEq M M1) ∨ (z = (-1002) ∧ (((0 ≤ i ∧ i < N) ∧ 0 ≤ k ∧ k < P) ∧ ¬ (-99 ≤ v ∧ v ≤ 99)) ∧ ScrEq M M1))) 1 6 (wA G) := by
  refine wMetH (lc := [(0, vR G (28, 0)), (1, vI i), (2, vI k), (3, vI v)]) (by decide) (Nat.le_of_ble_eq_true rfl) rfl ?_
  intro p e s m args below meth c X hr ht
  have X : wX p s m args meth c G 5 "StateObserverLaw" cL_trySetGain := X
  refine r_aload_n (pc' := 1) X 0 dL_trySetGain_0 rfl rfl rfl ?_
  refine r_iload_n (pc' := 2) X 1 dL_trySetGain_1 rfl rfl rfl ?_
  refine r_iload_n (pc' := 3) X 2 dL_trySetGain_2 rfl rfl rfl ?_
  refine r_iload_n (pc' := 4) X 3 dL_trySetGain_3 rfl rfl rfl ?_
  refine w_callxi (pc' := 7) (st := []) (w_runVX X (c_X8_setGain l G M hfl N P T hck hT6 nx ct hnx hnx14 hct hct14 i k v hi hk hv) cf_X8_setGain k28_0 rfl gw_820 gw_821 rfl rfl ⟨Nat.le_of_ble_eq_true rfl, Nat.le_of_ble_eq_true rfl⟩ rfl rfl (Nat.le_of_ble_eq_true rfl) ⟨Nat.le_of_ble_eq_true rfl, Nat.le_of_ble_eq_true rfl⟩ gw_819 dL_trySetGain_4) rfl (fun E M2 hE H1 locs1 ls ce q9 hW1 hS1 hl1 hq1 hq2 hq3 => ?_) (fun vv M2 hv => ?_)
  · rcases hE with ⟨⟨rfl, hc⟩ | ⟨rfl, hc⟩, hs⟩
    · refine w_handle X ht [] (0, 7, 8, 28) [(0, 7, 14, 13)] rfl (fun z hz => absurd hz List.not_mem_nil) (by decide) (by decide) gw_379 to_392 hW1 hS1 hl1 hq1 hq2 hq3 ?_
      refine r_astoreQ (pc' := 10) (lc' := [(0, vR G (28, 0)), (1, vI i), (2, vI k), (3, vI v)]) X [1, 2, 3, 4] dL_trySetGain_8 (by decide) rfl rfl ?_
      refine r_sipush (pc' := 13) (z := (-1001)) X dL_trySetGain_10 rfl rfl ?_
      refine w_iret X hr dL_trySetGain_13 ?_
      exact Or.inr (Or.inl ⟨rfl, hc, hs⟩)
    · refine w_handle X ht [(0, 7, 8, 28)] (0, 7, 14, 13) [] rfl (fun z hz => by simp only [List.mem_cons, List.not_mem_nil, or_false] at hz; rcases hz with rfl <;> first | exact ⟨by decide, _, gw_379, by decide⟩) (by decide) (by decide) gw_380 to_460 hW1 hS1 hl1 hq1 hq2 hq3 ?_
      refine r_astoreQ (pc' := 16) (lc' := [(0, vR G (28, 0)), (1, vI i), (2, vI k), (3, vI v)]) X [1, 2, 3, 4] dL_trySetGain_14 (by decide) rfl rfl ?_
      refine r_sipush (pc' := 19) (z := (-1002)) X dL_trySetGain_16 rfl rfl ?_
      refine w_iret X hr dL_trySetGain_19 ?_
      exact Or.inr (Or.inr (⟨rfl, hc, hs⟩))
  · refine w_iret X hr dL_trySetGain_7 ?_
    exact Or.inl hv
theorem cf_L_trySetHold : wCalH yL_trySetHold cL_trySetHold 3 (some .int) [(0, 5, 6, 13)] 2 := ⟨gw_827, gw_0, by decide, by decide, by rfl⟩
set_option maxRecDepth 100000 in
set_option maxHeartbeats 4000000 in
theorem c_L_trySetHold (l : Launch) (G : wG) (M : wM) (hfl : l.stackTraces = false) (N P : Nat) (T : Int) (hck : COk M N P T) (hT6 : T ≤ 1000000) (nx ct : Nat) (hnx : M 26 0 1 = (nx : Int)) (hnx14 : nx < 14) (hct : M 26 0 2 = (ct : Int)) (hct14 : ct ≤ 14) (v : Int) (hv : rI v) : Met l yL_trySetHold (gwsH yL_trySetHold cL_trySetHold 3 (some .int) [(0, 5, 6, 13)]) (wrm 7 1 6) (wPc G M [vR G (28, 0), vI v]) (wQi G (fun z M1 => ((0 ≤ v ∧ v ≤ 9) ∧ M1 0 = setV (M 0) 0 7 v ∧ z = M 0 0 7 ∧ Noted M M1 nx ct) ∨ (z = (-1002) ∧ (¬ (0 ≤ v ∧ v ≤ 9)) ∧ ScrEq M M1))) 1 6 (wA G) := by
  refine wMetH (lc := [(0, vR G (28, 0)), (1, vI v)]) (by decide) (Nat.le_of_ble_eq_true rfl) rfl ?_
  intro p e s m args below meth c X hr ht
  have X : wX p s m args meth c G 3 "StateObserverLaw" cL_trySetHold := X
  refine r_aload_n (pc' := 1) X 0 dL_trySetHold_0 rfl rfl rfl ?_
  refine r_iload_n (pc' := 2) X 1 dL_trySetHold_1 rfl rfl rfl ?_
  refine w_callxi (pc' := 5) (st := []) (w_runVX X (c_X8_setHold l G M hfl N P T hck hT6 nx ct hnx hnx14 hct hct14 v hv) cf_X8_setHold k28_0 rfl gw_829 gw_830 rfl rfl ⟨Nat.le_of_ble_eq_true rfl, Nat.le_of_ble_eq_true rfl⟩ rfl rfl (Nat.le_of_ble_eq_true rfl) ⟨Nat.le_of_ble_eq_true rfl, Nat.le_of_ble_eq_true rfl⟩ gw_828 dL_trySetHold_2) rfl (fun E M2 hE H1 locs1 ls ce q9 hW1 hS1 hl1 hq1 hq2 hq3 => ?_) (fun vv M2 hv => ?_)
  · rcases hE with ⟨⟨rfl, hc⟩, hs⟩
    · refine w_handle X ht [] (0, 5, 6, 13) [] rfl (fun z hz => absurd hz List.not_mem_nil) (by decide) (by decide) gw_380 to_460 hW1 hS1 hl1 hq1 hq2 hq3 ?_
      refine r_astoreQ_n (pc' := 7) (lc' := [(0, vR G (28, 0)), (1, vI v)]) X [1, 2] dL_trySetHold_6 rfl (by decide) rfl rfl ?_
      refine r_sipush (pc' := 10) (z := (-1002)) X dL_trySetHold_7 rfl rfl ?_
      refine w_iret X hr dL_trySetHold_10 ?_
      exact Or.inr (⟨rfl, hc, hs⟩)
  · refine w_iret X hr dL_trySetHold_5 ?_
    exact Or.inl hv
theorem cf_L_trySetBound : wCalH yL_trySetBound cL_trySetBound 3 (some .int) [(0, 5, 6, 13)] 2 := ⟨gw_835, gw_0, by decide, by decide, by rfl⟩
set_option maxRecDepth 100000 in
set_option maxHeartbeats 4000000 in
theorem c_L_trySetBound (l : Launch) (G : wG) (M : wM) (hfl : l.stackTraces = false) (N P : Nat) (T : Int) (hck : COk M N P T) (hT6 : T ≤ 1000000) (nx ct : Nat) (hnx : M 26 0 1 = (nx : Int)) (hnx14 : nx < 14) (hct : M 26 0 2 = (ct : Int)) (hct14 : ct ≤ 14) (v : Int) (hv : rI v) : Met l yL_trySetBound (gwsH yL_trySetBound cL_trySetBound 3 (some .int) [(0, 5, 6, 13)]) (wrm 7 1 6) (wPc G M [vR G (28, 0), vI v]) (wQi G (fun z M1 => ((0 ≤ v ∧ v ≤ 99) ∧ M1 0 = setV (M 0) 0 8 v ∧ z = M 0 0 8 ∧ Noted M M1 nx ct) ∨ (z = (-1002) ∧ (¬ (0 ≤ v ∧ v ≤ 99)) ∧ ScrEq M M1))) 1 6 (wA G) := by
  refine wMetH (lc := [(0, vR G (28, 0)), (1, vI v)]) (by decide) (Nat.le_of_ble_eq_true rfl) rfl ?_
  intro p e s m args below meth c X hr ht
  have X : wX p s m args meth c G 3 "StateObserverLaw" cL_trySetBound := X
  refine r_aload_n (pc' := 1) X 0 dL_trySetBound_0 rfl rfl rfl ?_
  refine r_iload_n (pc' := 2) X 1 dL_trySetBound_1 rfl rfl rfl ?_
  refine w_callxi (pc' := 5) (st := []) (w_runVX X (c_X8_setBound l G M hfl N P T hck hT6 nx ct hnx hnx14 hct hct14 v hv) cf_X8_setBound k28_0 rfl gw_837 gw_838 rfl rfl ⟨Nat.le_of_ble_eq_true rfl, Nat.le_of_ble_eq_true rfl⟩ rfl rfl (Nat.le_of_ble_eq_true rfl) ⟨Nat.le_of_ble_eq_true rfl, Nat.le_of_ble_eq_true rfl⟩ gw_836 dL_trySetBound_2) rfl (fun E M2 hE H1 locs1 ls ce q9 hW1 hS1 hl1 hq1 hq2 hq3 => ?_) (fun vv M2 hv => ?_)
  · rcases hE with ⟨⟨rfl, hc⟩, hs⟩
    · refine w_handle X ht [] (0, 5, 6, 13) [] rfl (fun z hz => absurd hz List.not_mem_nil) (by decide) (by decide) gw_380 to_460 hW1 hS1 hl1 hq1 hq2 hq3 ?_
      refine r_astoreQ_n (pc' := 7) (lc' := [(0, vR G (28, 0)), (1, vI v)]) X [1, 2] dL_trySetBound_6 rfl (by decide) rfl rfl ?_
      refine r_sipush (pc' := 10) (z := (-1002)) X dL_trySetBound_7 rfl rfl ?_
      refine w_iret X hr dL_trySetBound_10 ?_
      exact Or.inr (⟨rfl, hc, hs⟩)
  · refine w_iret X hr dL_trySetBound_5 ?_
    exact Or.inl hv
theorem cf_L_tryUndo : wCalH yL_tryUndo cL_tryUndo 2 (some .int) [(0, 4, 5, 15)] 1 := ⟨gw_506, gw_0, by decide, by decide, by rfl⟩
set_option maxRecDepth 100000 in
set_option maxHeartbeats 4000000 in
theorem c_L_tryUndo (l : Launch) (G : wG) (M : wM) (hfl : l.stackTraces = false) (N P : Nat) (T : Int) (hck : COk M N P T) (hT6 : T ≤ 1000000) (nx ct : Nat) (hnx : M 26 0 1 = (nx : Int)) (hnx14 : nx < 14) (hct : M 26 0 2 = (ct : Int)) (hct14 : ct ≤ 14) : Met l yL_tryUndo (gwsH yL_tryUndo cL_tryUndo 2 (some .int) [(0, 4, 5, 15)]) (wrm 7 1 6) (wPc G M [vR G (28, 0)]) (wQi G (fun z M1 => (1 ≤ ct ∧ z = (ct : Int) - 1 ∧ M1 0 = M (5 + (nx + 13) % 14) ∧ M1 26 0 1 = ((((nx + 13) % 14) : Nat) : Int) ∧ M1 26 0 2 = (ct : Int) - 1 ∧ ∀ a, a ≠ 0 → a ≠ 26 → M1 a = M a) ∨ (z = (-1003) ∧ (ct = 0) ∧ ScrEq M M1))) 1 6 (wA G) := by
  refine wMetH (lc := [(0, vR G (28, 0))]) (by decide) (Nat.le_of_ble_eq_true rfl) rfl ?_
  intro p e s m args below meth c X hr ht
  have X : wX p s m args meth c G 2 "StateObserverLaw" cL_tryUndo := X
  refine r_aload_n (pc' := 1) X 0 dL_tryUndo_0 rfl rfl rfl ?_
  refine w_callxi (pc' := 4) (st := []) (w_runVX X (c_X8_undo l G M hfl N P T hck hT6 nx ct hnx hnx14 hct hct14) cf_X8_undo k28_0 rfl gw_508 gw_509 rfl rfl ⟨Nat.le_of_ble_eq_true rfl, Nat.le_of_ble_eq_true rfl⟩ rfl rfl (Nat.le_of_ble_eq_true rfl) ⟨Nat.le_of_ble_eq_true rfl, Nat.le_of_ble_eq_true rfl⟩ gw_507 dL_tryUndo_1) rfl (fun E M2 hE H1 locs1 ls ce q9 hW1 hS1 hl1 hq1 hq2 hq3 => ?_) (fun vv M2 hv => ?_)
  · rcases hE with ⟨⟨rfl, hc⟩, hs⟩
    · refine w_handle X ht [] (0, 4, 5, 15) [] rfl (fun z hz => absurd hz List.not_mem_nil) (by decide) (by decide) gw_381 to_476 hW1 hS1 hl1 hq1 hq2 hq3 ?_
      refine r_astoreQ_n (pc' := 6) (lc' := [(0, vR G (28, 0))]) X [1] dL_tryUndo_5 rfl (by decide) rfl rfl ?_
      refine r_sipush (pc' := 9) (z := (-1003)) X dL_tryUndo_6 rfl rfl ?_
      refine w_iret X hr dL_tryUndo_9 ?_
      exact Or.inr (⟨rfl, hc, hs⟩)
  · refine w_iret X hr dL_tryUndo_4 ?_
    exact Or.inl hv
theorem cf_L_tryCanBe : wCalH yL_tryCanBe cL_tryCanBe 6 (some .int) [(0, 17, 18, 13)] 5 := ⟨gw_843, gw_0, by decide, by decide, by rfl⟩
set_option maxRecDepth 100000 in
set_option maxHeartbeats 4000000 in
theorem c_L_tryCanBe (l : Launch) (G : wG) (M : wM) (hfl : l.stackTraces = false) (N P : Nat) (T : Int) (hck : COk M N P T) (hT6 : T ≤ 1000000) (a b c0 d : Int) (ha : rI a) (hb : rI b) (hc : rI c0) (hd : rI d) : Met l yL_tryCanBe (gwsH yL_tryCanBe cL_tryCanBe 6 (some .int) [(0, 17, 18, 13)]) (wrm 7 1 6) (wPc G M [vR G (28, 0), vI a, vI b, vI c0, vI d]) (wQi G (fun z M1 => ((∀ i, N ≤ i → i < 4 → (row4 (M 28 1) a b c0 d) i = 0) ∧ (z = 0 ∨ z = 1) ∧ (z = 1 ↔ (∀ i, i < N → M 0 2 i ≤ (row4 (M 28 1) a b c0 d) i ∧ (row4 (M 28 1) a b c0 d) i ≤ M 0 3 i) ∧ meets N P (M 19) (row4 (M 28 1) a b c0 d) (M 0 10) (M 0 11)) ∧ ScrEq M M1) ∨ (z = (-1002) ∧ (¬ ∀ i, N ≤ i → i < 4 → (row4 (M 28 1) a b c0 d) i = 0) ∧ ScrEq M M1))) 1 6 (wA G) := by
  refine wMetH (lc := [(0, vR G (28, 0)), (1, vI a), (2, vI b), (3, vI c0), (4, vI d)]) (by decide) (Nat.le_of_ble_eq_true rfl) rfl ?_
  intro p e s m args below meth c X hr ht
  have X : wX p s m args meth c G 6 "StateObserverLaw" cL_tryCanBe := X
  refine r_aload_n (pc' := 1) X 0 dL_tryCanBe_0 rfl rfl rfl ?_
  refine r_iload_n (pc' := 2) X 1 dL_tryCanBe_1 rfl rfl rfl ?_
  refine r_iload_n (pc' := 3) X 2 dL_tryCanBe_2 rfl rfl rfl ?_
  refine r_iload_n (pc' := 4) X 3 dL_tryCanBe_3 rfl rfl rfl ?_
  refine r_iload (pc' := 6) X 4 dL_tryCanBe_4 rfl rfl ?_
  refine w_callxi (pc' := 9) (st := []) (w_runVX X (c_X8_canBe l G M hfl N P T hck hT6 a b c0 d ha hb hc hd) cf_X8_canBe k28_0 rfl gw_845 gw_846 rfl rfl ⟨Nat.le_of_ble_eq_true rfl, Nat.le_of_ble_eq_true rfl⟩ rfl rfl (Nat.le_of_ble_eq_true rfl) ⟨Nat.le_of_ble_eq_true rfl, Nat.le_of_ble_eq_true rfl⟩ gw_844 dL_tryCanBe_6) rfl (fun E M2 hE H1 locs1 ls ce q9 hW1 hS1 hl1 hq1 hq2 hq3 => ?_) (fun vv M2 hv => ?_)
  · rcases hE with ⟨⟨rfl, hc⟩, hs⟩
    · refine w_handle X ht [] (0, 17, 18, 13) [] rfl (fun z hz => absurd hz List.not_mem_nil) (by decide) (by decide) gw_380 to_460 hW1 hS1 hl1 hq1 hq2 hq3 ?_
      refine r_astoreQ (pc' := 20) (lc' := [(0, vR G (28, 0)), (1, vI a), (2, vI b), (3, vI c0), (4, vI d)]) X [1, 2, 3, 4, 5] dL_tryCanBe_18 (by decide) rfl rfl ?_
      refine r_sipush (pc' := 23) (z := (-1002)) X dL_tryCanBe_20 rfl rfl ?_
      refine w_iret X hr dL_tryCanBe_23 ?_
      exact Or.inr (⟨rfl, hc, hs⟩)
  · have hz01 : vv = 0 ∨ vv = 1 := hv.2.1
    refine r_if_eq (pc' := 12) (tgt := 16) X dL_tryCanBe_9 rfl rfl (by omega) (fun hb => ?_) (fun hb => ?_)
    · refine r_iconst (pc' := 17) X dL_tryCanBe_16 rfl ?_
      refine w_iret X hr dL_tryCanBe_17 ?_
      obtain rfl : vv = 0 := by omega
      exact Or.inl hv
    · refine r_iconst (pc' := 13) X dL_tryCanBe_12 rfl ?_
      refine r_goto (tgt := 17) X dL_tryCanBe_13 rfl ?_
      refine w_iret X hr dL_tryCanBe_17 ?_
      obtain rfl : vv = 1 := by omega
      exact Or.inl hv
theorem cf_L_tryWidthIf : wCalH yL_tryWidthIf cL_tryWidthIf 4 (some .int) [(0, 6, 7, 28), (0, 6, 12, 13)] 3 := ⟨gw_852, gw_0, by decide, by decide, by rfl⟩
set_option maxRecDepth 100000 in
set_option maxHeartbeats 4000000 in
theorem c_L_tryWidthIf (l : Launch) (G : wG) (M : wM) (hfl : l.stackTraces = false) (N P : Nat) (T : Int) (hck : COk M N P T) (hT6 : T ≤ 1000000) (hT0 : 0 ≤ T) (k y : Int) (hk : rI k) (hy : rI y) : Met l yL_tryWidthIf (gwsH yL_tryWidthIf cL_tryWidthIf 4 (some .int) [(0, 6, 7, 28), (0, 6, 12, 13)]) (wrm 7 1 6) (wPc G M [vR G (28, 0), vI k, vI y]) (wQi G (fun z M1 => (((0 ≤ k ∧ k < P) ∧ -1000000 ≤ y ∧ y ≤ 1000000) ∧ z = (if (tight N P (M 19) (up1 (M 0 10) k.toNat y) (up1 (M 0 11) k.toNat 0) 100 (M 0 2) (M 0 3)).1 = 2 then -9 else wid N (tight N P (M 19) (up1 (M 0 10) k.toNat y) (up1 (M 0 11) k.toNat 0) 100 (M 0 2) (M 0 3)).2.1 (tight N P (M 19) (up1 (M 0 10) k.toNat y) (up1 (M 0 11) k.toNat 0) 100 (M 0 2) (M 0 3)).2.2) ∧ ScrEq M M1) ∨ (z = (-1001) ∧ (¬ (0 ≤ k ∧ k < P)) ∧ ScrEq M M1) ∨ (z = (-1002) ∧ ((0 ≤ k ∧ k < P) ∧ ¬ (-1000000 ≤ y ∧ y ≤ 1000000)) ∧ ScrEq M M1))) 1 6 (wA G) := by
  refine wMetH (lc := [(0, vR G (28, 0)), (1, vI k), (2, vI y)]) (by decide) (Nat.le_of_ble_eq_true rfl) rfl ?_
  intro p e s m args below meth c X hr ht
  have X : wX p s m args meth c G 4 "StateObserverLaw" cL_tryWidthIf := X
  refine r_aload_n (pc' := 1) X 0 dL_tryWidthIf_0 rfl rfl rfl ?_
  refine r_iload_n (pc' := 2) X 1 dL_tryWidthIf_1 rfl rfl rfl ?_
  refine r_iload_n (pc' := 3) X 2 dL_tryWidthIf_2 rfl rfl rfl ?_
  refine w_callxi (pc' := 6) (st := []) (w_runVX X (c_X8_widthIf l G M hfl N P T hck hT6 hT0 k y hk hy) cf_X8_widthIf k28_0 rfl gw_854 gw_855 rfl rfl ⟨Nat.le_of_ble_eq_true rfl, Nat.le_of_ble_eq_true rfl⟩ rfl rfl (Nat.le_of_ble_eq_true rfl) ⟨Nat.le_of_ble_eq_true rfl, Nat.le_of_ble_eq_true rfl⟩ gw_853 dL_tryWidthIf_3) rfl (fun E M2 hE H1 locs1 ls ce q9 hW1 hS1 hl1 hq1 hq2 hq3 => ?_) (fun vv M2 hv => ?_)
  · rcases hE with ⟨⟨rfl, hc⟩ | ⟨rfl, hc⟩, hs⟩
    · refine w_handle X ht [] (0, 6, 7, 28) [(0, 6, 12, 13)] rfl (fun z hz => absurd hz List.not_mem_nil) (by decide) (by decide) gw_379 to_392 hW1 hS1 hl1 hq1 hq2 hq3 ?_
      refine r_astoreQ_n (pc' := 8) (lc' := [(0, vR G (28, 0)), (1, vI k), (2, vI y)]) X [1, 2, 3] dL_tryWidthIf_7 rfl (by decide) rfl rfl ?_
      refine r_sipush (pc' := 11) (z := (-1001)) X dL_tryWidthIf_8 rfl rfl ?_
      refine w_iret X hr dL_tryWidthIf_11 ?_
      exact Or.inr (Or.inl ⟨rfl, hc, hs⟩)
    · refine w_handle X ht [(0, 6, 7, 28)] (0, 6, 12, 13) [] rfl (fun z hz => by simp only [List.mem_cons, List.not_mem_nil, or_false] at hz; rcases hz with rfl <;> first | exact ⟨by decide, _, gw_379, by decide⟩) (by decide) (by decide) gw_380 to_460 hW1 hS1 hl1 hq1 hq2 hq3 ?_
      refine r_astoreQ_n (pc' := 13) (lc' := [(0, vR G (28, 0)), (1, vI k), (2, vI y)]) X [1, 2, 3] dL_tryWidthIf_12 rfl (by decide) rfl rfl ?_
      refine r_sipush (pc' := 16) (z := (-1002)) X dL_tryWidthIf_13 rfl rfl ?_
      refine w_iret X hr dL_tryWidthIf_16 ?_
      exact Or.inr (Or.inr (⟨rfl, hc, hs⟩))
  · refine w_iret X hr dL_tryWidthIf_6 ?_
    exact Or.inl hv
theorem cf_L_tryAhead : wCalH yL_tryAhead cL_tryAhead 6 (some .int) [(0, 9, 10, 28), (0, 9, 16, 13)] 5 := ⟨gw_862, gw_0, by decide, by decide, by rfl⟩
set_option maxRecDepth 100000 in
set_option maxHeartbeats 4000000 in
theorem c_L_tryAhead (l : Launch) (G : wG) (M : wM) (hfl : l.stackTraces = false) (N P : Nat) (T : Int) (hck : COk M N P T) (hT6 : T ≤ 900000) (n u i b : Int) (hn : rI n) (hu : rI u) (hi : rI i) (hb : b = 0 ∨ b = 1) : Met l yL_tryAhead (gwsH yL_tryAhead cL_tryAhead 6 (some .int) [(0, 9, 10, 28), (0, 9, 16, 13)]) (wrm 7 1 6) (wPc G M [vR G (28, 0), vI n, vI u, vI i, vI b]) (wQi G (fun z M1 => (((0 ≤ i ∧ i < N) ∧ (0 ≤ n ∧ n ≤ 60) ∧ -99 ≤ u ∧ u ≤ 99) ∧ z = (if b = 1 then (itv N (M 19) u (M 0 0 8) (M 0 2) (M 0 3) n.toNat).2 i.toNat else (itv N (M 19) u (M 0 0 8) (M 0 2) (M 0 3) n.toNat).1 i.toNat) ∧ ScrEq M M1) ∨ (z = (-1001) ∧ (¬ (0 ≤ i ∧ i < N)) ∧ ScrEq M M1) ∨ (z = (-1002) ∧ ((0 ≤ i ∧ i < N) ∧ ¬ ((0 ≤ n ∧ n ≤ 60) ∧ -99 ≤ u ∧ u ≤ 99)) ∧ ScrEq M M1))) 1 6 (wA G) := by
  refine wMetH (lc := [(0, vR G (28, 0)), (1, vI n), (2, vI u), (3, vI i), (4, vI b)]) (by decide) (Nat.le_of_ble_eq_true rfl) rfl ?_
  intro p e s m args below meth c X hr ht
  have X : wX p s m args meth c G 6 "StateObserverLaw" cL_tryAhead := X
  refine r_aload_n (pc' := 1) X 0 dL_tryAhead_0 rfl rfl rfl ?_
  refine r_iload_n (pc' := 2) X 1 dL_tryAhead_1 rfl rfl rfl ?_
  refine r_iload_n (pc' := 3) X 2 dL_tryAhead_2 rfl rfl rfl ?_
  refine r_iload_n (pc' := 4) X 3 dL_tryAhead_3 rfl rfl rfl ?_
  refine r_iload (pc' := 6) X 4 dL_tryAhead_4 rfl rfl ?_
  refine w_callxi (pc' := 9) (st := []) (w_runVX X (c_X8_ahead l G M hfl N P T hck hT6 n u i b hn hu hi hb) cf_X8_ahead k28_0 rfl gw_864 gw_865 rfl rfl ⟨Nat.le_of_ble_eq_true rfl, Nat.le_of_ble_eq_true rfl⟩ rfl rfl (Nat.le_of_ble_eq_true rfl) ⟨Nat.le_of_ble_eq_true rfl, Nat.le_of_ble_eq_true rfl⟩ gw_863 dL_tryAhead_6) rfl (fun E M2 hE H1 locs1 ls ce q9 hW1 hS1 hl1 hq1 hq2 hq3 => ?_) (fun vv M2 hv => ?_)
  · rcases hE with ⟨⟨rfl, hc⟩ | ⟨rfl, hc⟩, hs⟩
    · refine w_handle X ht [] (0, 9, 10, 28) [(0, 9, 16, 13)] rfl (fun z hz => absurd hz List.not_mem_nil) (by decide) (by decide) gw_379 to_392 hW1 hS1 hl1 hq1 hq2 hq3 ?_
      refine r_astoreQ (pc' := 12) (lc' := [(0, vR G (28, 0)), (1, vI n), (2, vI u), (3, vI i), (4, vI b)]) X [1, 2, 3, 4, 5] dL_tryAhead_10 (by decide) rfl rfl ?_
      refine r_sipush (pc' := 15) (z := (-1001)) X dL_tryAhead_12 rfl rfl ?_
      refine w_iret X hr dL_tryAhead_15 ?_
      exact Or.inr (Or.inl ⟨rfl, hc, hs⟩)
    · refine w_handle X ht [(0, 9, 10, 28)] (0, 9, 16, 13) [] rfl (fun z hz => by simp only [List.mem_cons, List.not_mem_nil, or_false] at hz; rcases hz with rfl <;> first | exact ⟨by decide, _, gw_379, by decide⟩) (by decide) (by decide) gw_380 to_460 hW1 hS1 hl1 hq1 hq2 hq3 ?_
      refine r_astoreQ (pc' := 18) (lc' := [(0, vR G (28, 0)), (1, vI n), (2, vI u), (3, vI i), (4, vI b)]) X [1, 2, 3, 4, 5] dL_tryAhead_16 (by decide) rfl rfl ?_
      refine r_sipush (pc' := 21) (z := (-1002)) X dL_tryAhead_18 rfl rfl ?_
      refine w_iret X hr dL_tryAhead_21 ?_
      exact Or.inr (Or.inr (⟨rfl, hc, hs⟩))
  · refine w_iret X hr dL_tryAhead_9 ?_
    exact Or.inl hv
theorem cf_L_tryEarliest : wCalH yL_tryEarliest cL_tryEarliest 6 (some .int) [(0, 9, 10, 28), (0, 9, 16, 13)] 5 := ⟨gw_870, gw_0, by decide, by decide, by rfl⟩
set_option maxRecDepth 100000 in
set_option maxHeartbeats 4000000 in
theorem c_L_tryEarliest (l : Launch) (G : wG) (M : wM) (hfl : l.stackTraces = false) (N P : Nat) (T : Int) (hck : COk M N P T) (hT6 : T ≤ 900000) (i v u b : Int) (hi : rI i) (hv : rI v) (hu : rI u) (hb : b = 0 ∨ b = 1) : Met l yL_tryEarliest (gwsH yL_tryEarliest cL_tryEarliest 6 (some .int) [(0, 9, 10, 28), (0, 9, 16, 13)]) (wrm 7 1 6) (wPc G M [vR G (28, 0), vI i, vI v, vI u, vI b]) (wQi G (fun z M1 => (((0 ≤ i ∧ i < N) ∧ -99 ≤ u ∧ u ≤ 99) ∧ ((∃ t : Nat, t ≤ 60 ∧ z = t ∧ v ≤ (if b = 1 then (itv N (M 19) u (M 0 0 8) (M 0 2) (M 0 3) t).1 i.toNat else (itv N (M 19) u (M 0 0 8) (M 0 2) (M 0 3) t).2 i.toNat) ∧ ∀ s, s < t → (if b = 1 then (itv N (M 19) u (M 0 0 8) (M 0 2) (M 0 3) s).1 i.toNat else (itv N (M 19) u (M 0 0 8) (M 0 2) (M 0 3) s).2 i.toNat) < v) ∨ (z = -9 ∧ ∀ s, s ≤ 60 → (if b = 1 then (itv N (M 19) u (M 0 0 8) (M 0 2) (M 0 3) s).1 i.toNat else (itv N (M 19) u (M 0 0 8) (M 0 2) (M 0 3) s).2 i.toNat) < v)) ∧ ScrEq M M1) ∨ (z = (-1001) ∧ (¬ (0 ≤ i ∧ i < N)) ∧ ScrEq M M1) ∨ (z = (-1002) ∧ ((0 ≤ i ∧ i < N) ∧ ¬ (-99 ≤ u ∧ u ≤ 99)) ∧ ScrEq M M1))) 1 6 (wA G) := by
  refine wMetH (lc := [(0, vR G (28, 0)), (1, vI i), (2, vI v), (3, vI u), (4, vI b)]) (by decide) (Nat.le_of_ble_eq_true rfl) rfl ?_
  intro p e s m args below meth c X hr ht
  have X : wX p s m args meth c G 6 "StateObserverLaw" cL_tryEarliest := X
  refine r_aload_n (pc' := 1) X 0 dL_tryEarliest_0 rfl rfl rfl ?_
  refine r_iload_n (pc' := 2) X 1 dL_tryEarliest_1 rfl rfl rfl ?_
  refine r_iload_n (pc' := 3) X 2 dL_tryEarliest_2 rfl rfl rfl ?_
  refine r_iload_n (pc' := 4) X 3 dL_tryEarliest_3 rfl rfl rfl ?_
  refine r_iload (pc' := 6) X 4 dL_tryEarliest_4 rfl rfl ?_
  refine w_callxi (pc' := 9) (st := []) (w_runVX X (c_X8_earliest l G M hfl N P T hck hT6 i v u b hi hv hu hb) cf_X8_earliest k28_0 rfl gw_872 gw_873 rfl rfl ⟨Nat.le_of_ble_eq_true rfl, Nat.le_of_ble_eq_true rfl⟩ rfl rfl (Nat.le_of_ble_eq_true rfl) ⟨Nat.le_of_ble_eq_true rfl, Nat.le_of_ble_eq_true rfl⟩ gw_871 dL_tryEarliest_6) rfl (fun E M2 hE H1 locs1 ls ce q9 hW1 hS1 hl1 hq1 hq2 hq3 => ?_) (fun vv M2 hv => ?_)
  · rcases hE with ⟨⟨rfl, hc⟩ | ⟨rfl, hc⟩, hs⟩
    · refine w_handle X ht [] (0, 9, 10, 28) [(0, 9, 16, 13)] rfl (fun z hz => absurd hz List.not_mem_nil) (by decide) (by decide) gw_379 to_392 hW1 hS1 hl1 hq1 hq2 hq3 ?_
      refine r_astoreQ (pc' := 12) (lc' := [(0, vR G (28, 0)), (1, vI i), (2, vI v), (3, vI u), (4, vI b)]) X [1, 2, 3, 4, 5] dL_tryEarliest_10 (by decide) rfl rfl ?_
      refine r_sipush (pc' := 15) (z := (-1001)) X dL_tryEarliest_12 rfl rfl ?_
      refine w_iret X hr dL_tryEarliest_15 ?_
      exact Or.inr (Or.inl ⟨rfl, hc, hs⟩)
    · refine w_handle X ht [(0, 9, 10, 28)] (0, 9, 16, 13) [] rfl (fun z hz => by simp only [List.mem_cons, List.not_mem_nil, or_false] at hz; rcases hz with rfl <;> first | exact ⟨by decide, _, gw_379, by decide⟩) (by decide) (by decide) gw_380 to_460 hW1 hS1 hl1 hq1 hq2 hq3 ?_
      refine r_astoreQ (pc' := 18) (lc' := [(0, vR G (28, 0)), (1, vI i), (2, vI v), (3, vI u), (4, vI b)]) X [1, 2, 3, 4, 5] dL_tryEarliest_16 (by decide) rfl rfl ?_
      refine r_sipush (pc' := 21) (z := (-1002)) X dL_tryEarliest_18 rfl rfl ?_
      refine w_iret X hr dL_tryEarliest_21 ?_
      exact Or.inr (Or.inr (⟨rfl, hc, hs⟩))
  · refine w_iret X hr dL_tryEarliest_9 ?_
    exact Or.inl hv
theorem cf_L_tryUnknown : wCalH yL_tryUnknown cL_tryUnknown 3 (some .int) [(0, 5, 6, 15)] 2 := ⟨gw_535, gw_0, by decide, by decide, by rfl⟩
set_option maxRecDepth 100000 in
set_option maxHeartbeats 4000000 in
theorem c_L_tryUnknown (l : Launch) (G : wG) (M : wM) (hfl : l.stackTraces = false) (N P : Nat) (T : Int) (hck : COk M N P T) (hT6 : T ≤ 1000000) (b : Int) (hb : b = 0 ∨ b = 1) : Met l yL_tryUnknown (gwsH yL_tryUnknown cL_tryUnknown 3 (some .int) [(0, 5, 6, 15)]) (wrm 7 1 6) (wPc G M [vR G (28, 0), vI b]) (wQi G (fun z M1 => (M 0 0 9 ≠ 0 ∧ expl N (M 19) (M 0) z ∧ (-(M 0 0 11) ≤ z ∧ z ≤ M 0 0 11) ∧ (∀ d, -(M 0 0 11) ≤ d → d ≤ M 0 0 11 → expl N (M 19) (M 0) d → if b = 1 then d ≤ z else z ≤ d) ∧ M1 = M) ∨ (z = (-1003) ∧ ((M 0 0 9 = 0 ∨ ∀ d, -(M 0 0 11) ≤ d → d ≤ M 0 0 11 → ¬ expl N (M 19) (M 0) d) ∧ ScrEq M M1)))) 1 6 (wA G) := by
  refine wMetH (lc := [(0, vR G (28, 0)), (1, vI b)]) (by decide) (Nat.le_of_ble_eq_true rfl) rfl ?_
  intro p e s m args below meth c X hr ht
  have X : wX p s m args meth c G 3 "StateObserverLaw" cL_tryUnknown := X
  refine r_aload_n (pc' := 1) X 0 dL_tryUnknown_0 rfl rfl rfl ?_
  refine r_iload_n (pc' := 2) X 1 dL_tryUnknown_1 rfl rfl rfl ?_
  refine w_callxi (pc' := 5) (st := []) (w_runVX X (c_X8_unknown l G M hfl N P T hck hT6 b hb) cf_X8_unknown k28_0 rfl gw_537 gw_538 rfl rfl ⟨Nat.le_of_ble_eq_true rfl, Nat.le_of_ble_eq_true rfl⟩ rfl rfl (Nat.le_of_ble_eq_true rfl) ⟨Nat.le_of_ble_eq_true rfl, Nat.le_of_ble_eq_true rfl⟩ gw_536 dL_tryUnknown_2) rfl (fun E M2 hE H1 locs1 ls ce q9 hW1 hS1 hl1 hq1 hq2 hq3 => ?_) (fun vv M2 hv => ?_)
  · rcases hE with ⟨rfl, hc⟩
    · refine w_handle X ht [] (0, 5, 6, 15) [] rfl (fun z hz => absurd hz List.not_mem_nil) (by decide) (by decide) gw_381 to_476 hW1 hS1 hl1 hq1 hq2 hq3 ?_
      refine r_astoreQ_n (pc' := 7) (lc' := [(0, vR G (28, 0)), (1, vI b)]) X [1, 2] dL_tryUnknown_6 rfl (by decide) rfl rfl ?_
      refine r_sipush (pc' := 10) (z := (-1003)) X dL_tryUnknown_7 rfl rfl ?_
      refine w_iret X hr dL_tryUnknown_10 ?_
      exact Or.inr (⟨rfl, hc⟩)
  · refine w_iret X hr dL_tryUnknown_5 ?_
    exact Or.inl hv
theorem cf_L_tryRank : wCalH yL_tryRank cL_tryRank 3 (some .int) [(0, 5, 6, 13)] 2 := ⟨gw_638, gw_0, by decide, by decide, by rfl⟩
set_option maxRecDepth 100000 in
set_option maxHeartbeats 4000000 in
theorem c_L_tryRank (l : Launch) (G : wG) (M : wM) (hfl : l.stackTraces = false) (N P : Nat) (T : Int) (hck : COk M N P T) (hT6 : T ≤ 1000000) (n : Int) (hn : rI n) : Met l yL_tryRank (gwsH yL_tryRank cL_tryRank 3 (some .int) [(0, 5, 6, 13)]) (wrm 7 1 6) (wPc G M [vR G (28, 0), vI n]) (wQi G (fun z M1 => ((1 ≤ n ∧ n ≤ 8) ∧ (∃ k' : Nat, z = (k' : Int) ∧ k' ≤ N ∧ RankOf N (Sp N (Gp N P (M 19) n.toNat)) k') ∧ ScrEq M M1) ∨ (z = (-1002) ∧ (¬ (1 ≤ n ∧ n ≤ 8)) ∧ ScrEq M M1))) 1 6 (wA G) := by
  refine wMetH (lc := [(0, vR G (28, 0)), (1, vI n)]) (by decide) (Nat.le_of_ble_eq_true rfl) rfl ?_
  intro p e s m args below meth c X hr ht
  have X : wX p s m args meth c G 3 "StateObserverLaw" cL_tryRank := X
  refine r_aload_n (pc' := 1) X 0 dL_tryRank_0 rfl rfl rfl ?_
  refine r_iload_n (pc' := 2) X 1 dL_tryRank_1 rfl rfl rfl ?_
  refine w_callxi (pc' := 5) (st := []) (w_runVX X (c_X8_rankAfter l G M hfl N P T hck hT6 n hn) cf_X8_rankAfter k28_0 rfl gw_640 gw_641 rfl rfl ⟨Nat.le_of_ble_eq_true rfl, Nat.le_of_ble_eq_true rfl⟩ rfl rfl (Nat.le_of_ble_eq_true rfl) ⟨Nat.le_of_ble_eq_true rfl, Nat.le_of_ble_eq_true rfl⟩ gw_639 dL_tryRank_2) rfl (fun E M2 hE H1 locs1 ls ce q9 hW1 hS1 hl1 hq1 hq2 hq3 => ?_) (fun vv M2 hv => ?_)
  · rcases hE with ⟨⟨rfl, hc⟩, hs⟩
    · refine w_handle X ht [] (0, 5, 6, 13) [] rfl (fun z hz => absurd hz List.not_mem_nil) (by decide) (by decide) gw_380 to_460 hW1 hS1 hl1 hq1 hq2 hq3 ?_
      refine r_astoreQ_n (pc' := 7) (lc' := [(0, vR G (28, 0)), (1, vI n)]) X [1, 2] dL_tryRank_6 rfl (by decide) rfl rfl ?_
      refine r_sipush (pc' := 10) (z := (-1002)) X dL_tryRank_7 rfl rfl ?_
      refine w_iret X hr dL_tryRank_10 ?_
      exact Or.inr (⟨rfl, hc, hs⟩)
  · refine w_iret X hr dL_tryRank_5 ?_
    exact Or.inl hv
theorem cf_L_tryHidden : wCalH yL_tryHidden cL_tryHidden 3 (some .int) [(0, 5, 6, 13)] 2 := ⟨gw_878, gw_0, by decide, by decide, by rfl⟩
set_option maxRecDepth 100000 in
set_option maxHeartbeats 4000000 in
theorem c_L_tryHidden (l : Launch) (G : wG) (M : wM) (hfl : l.stackTraces = false) (N P : Nat) (T : Int) (hck : COk M N P T) (hT6 : T ≤ 1000000) (n : Int) (hn : rI n) : Met l yL_tryHidden (gwsH yL_tryHidden cL_tryHidden 3 (some .int) [(0, 5, 6, 13)]) (wrm 7 1 6) (wPc G M [vR G (28, 0), vI n]) (wQi G (fun z M1 => ((0 ≤ n ∧ n ≤ 8) ∧ (∃ k' : Nat, z = (N : Int) - (k' : Int) ∧ k' ≤ N ∧ RankOf N (Vis N P (M 19) n.toNat) k') ∧ ScrEq M M1) ∨ (z = (-1002) ∧ (¬ (0 ≤ n ∧ n ≤ 8)) ∧ ScrEq M M1))) 1 6 (wA G) := by
  refine wMetH (lc := [(0, vR G (28, 0)), (1, vI n)]) (by decide) (Nat.le_of_ble_eq_true rfl) rfl ?_
  intro p e s m args below meth c X hr ht
  have X : wX p s m args meth c G 3 "StateObserverLaw" cL_tryHidden := X
  refine r_aload_n (pc' := 1) X 0 dL_tryHidden_0 rfl rfl rfl ?_
  refine r_iload_n (pc' := 2) X 1 dL_tryHidden_1 rfl rfl rfl ?_
  refine w_callxi (pc' := 5) (st := []) (w_runVX X (c_X8_hiddenDimension l G M hfl N P T hck hT6 n hn) cf_X8_hiddenDimension k28_0 rfl gw_880 gw_881 rfl rfl ⟨Nat.le_of_ble_eq_true rfl, Nat.le_of_ble_eq_true rfl⟩ rfl rfl (Nat.le_of_ble_eq_true rfl) ⟨Nat.le_of_ble_eq_true rfl, Nat.le_of_ble_eq_true rfl⟩ gw_879 dL_tryHidden_2) rfl (fun E M2 hE H1 locs1 ls ce q9 hW1 hS1 hl1 hq1 hq2 hq3 => ?_) (fun vv M2 hv => ?_)
  · rcases hE with ⟨⟨rfl, hc⟩, hs⟩
    · refine w_handle X ht [] (0, 5, 6, 13) [] rfl (fun z hz => absurd hz List.not_mem_nil) (by decide) (by decide) gw_380 to_460 hW1 hS1 hl1 hq1 hq2 hq3 ?_
      refine r_astoreQ_n (pc' := 7) (lc' := [(0, vR G (28, 0)), (1, vI n)]) X [1, 2] dL_tryHidden_6 rfl (by decide) rfl rfl ?_
      refine r_sipush (pc' := 10) (z := (-1002)) X dL_tryHidden_7 rfl rfl ?_
      refine w_iret X hr dL_tryHidden_10 ?_
      exact Or.inr (⟨rfl, hc, hs⟩)
  · refine w_iret X hr dL_tryHidden_5 ?_
    exact Or.inl hv
theorem cf_L_tryFree : wCalH yL_tryFree cL_tryFree 4 (some .int) [(0, 6, 7, 28)] 3 := ⟨gw_903, gw_0, by decide, by decide, by rfl⟩
set_option maxRecDepth 100000 in
set_option maxHeartbeats 4000000 in
theorem c_L_tryFree (l : Launch) (G : wG) (M : wM) (hfl : l.stackTraces = false) (N P : Nat) (T : Int) (hck : COk M N P T) (hT6 : T ≤ 1000000) (q j : Int) (hq : rI q) (hj : rI j) : Met l yL_tryFree (gwsH yL_tryFree cL_tryFree 4 (some .int) [(0, 6, 7, 28)]) (wrm 7 1 6) (wPc G M [vR G (28, 0), vI q, vI j]) (wQi G (fun z M1 => (((0 ≤ j ∧ j < N) ∧ (0 ≤ q ∧ q < combs (M 19 7) N)) ∧ z = combF (M 19 7) N q.toNat j.toNat ∧ ScrEq M M1) ∨ (z = (-1001) ∧ (¬ ((0 ≤ j ∧ j < N) ∧ (0 ≤ q ∧ q < combs (M 19 7) N))) ∧ ScrEq M M1))) 1 6 (wA G) := by
  refine wMetH (lc := [(0, vR G (28, 0)), (1, vI q), (2, vI j)]) (by decide) (Nat.le_of_ble_eq_true rfl) rfl ?_
  intro p e s m args below meth c X hr ht
  have X : wX p s m args meth c G 4 "StateObserverLaw" cL_tryFree := X
  refine r_aload_n (pc' := 1) X 0 dL_tryFree_0 rfl rfl rfl ?_
  refine r_iload_n (pc' := 2) X 1 dL_tryFree_1 rfl rfl rfl ?_
  refine r_iload_n (pc' := 3) X 2 dL_tryFree_2 rfl rfl rfl ?_
  refine w_callxi (pc' := 6) (st := []) (w_runVX X (c_X8_free l G M hfl N P T hck hT6 q j hq hj) cf_X8_free k28_0 rfl gw_905 gw_906 rfl rfl ⟨Nat.le_of_ble_eq_true rfl, Nat.le_of_ble_eq_true rfl⟩ rfl rfl (Nat.le_of_ble_eq_true rfl) ⟨Nat.le_of_ble_eq_true rfl, Nat.le_of_ble_eq_true rfl⟩ gw_904 dL_tryFree_3) rfl (fun E M2 hE H1 locs1 ls ce q9 hW1 hS1 hl1 hq1 hq2 hq3 => ?_) (fun vv M2 hv => ?_)
  · rcases hE with ⟨⟨rfl, hc⟩, hs⟩
    · refine w_handle X ht [] (0, 6, 7, 28) [] rfl (fun z hz => absurd hz List.not_mem_nil) (by decide) (by decide) gw_379 to_392 hW1 hS1 hl1 hq1 hq2 hq3 ?_
      refine r_astoreQ_n (pc' := 8) (lc' := [(0, vR G (28, 0)), (1, vI q), (2, vI j)]) X [1, 2, 3] dL_tryFree_7 rfl (by decide) rfl rfl ?_
      refine r_sipush (pc' := 11) (z := (-1001)) X dL_tryFree_8 rfl rfl ?_
      refine w_iret X hr dL_tryFree_11 ?_
      exact Or.inr (⟨rfl, hc, hs⟩)
  · refine w_iret X hr dL_tryFree_6 ?_
    exact Or.inl hv
theorem cf_L_tryFreeRange : wCalH yL_tryFreeRange cL_tryFreeRange 4 (some .int) [(0, 6, 7, 28)] 3 := ⟨gw_930, gw_0, by decide, by decide, by rfl⟩
set_option maxRecDepth 100000 in
set_option maxHeartbeats 4000000 in
theorem c_L_tryFreeRange (l : Launch) (G : wG) (M : wM) (hfl : l.stackTraces = false) (N P : Nat) (T : Int) (hck : COk M N P T) (hT6 : T ≤ 1000000) (q b : Int) (hq : rI q) (hb : b = 0 ∨ b = 1) : Met l yL_tryFreeRange (gwsH yL_tryFreeRange cL_tryFreeRange 4 (some .int) [(0, 6, 7, 28)]) (wrm 7 1 6) (wPc G M [vR G (28, 0), vI q, vI b]) (wQi G (fun z M1 => ((0 ≤ q ∧ q < combs (M 19 7) N) ∧ z = ext N (combF (M 19 7) N q.toNat) (M 0 2) (M 0 3) (-1) b ∧ ScrEq M M1) ∨ (z = (-1001) ∧ (¬ (0 ≤ q ∧ q < combs (M 19 7) N)) ∧ ScrEq M M1))) 1 6 (wA G) := by
  refine wMetH (lc := [(0, vR G (28, 0)), (1, vI q), (2, vI b)]) (by decide) (Nat.le_of_ble_eq_true rfl) rfl ?_
  intro p e s m args below meth c X hr ht
  have X : wX p s m args meth c G 4 "StateObserverLaw" cL_tryFreeRange := X
  refine r_aload_n (pc' := 1) X 0 dL_tryFreeRange_0 rfl rfl rfl ?_
  refine r_iload_n (pc' := 2) X 1 dL_tryFreeRange_1 rfl rfl rfl ?_
  refine r_iload_n (pc' := 3) X 2 dL_tryFreeRange_2 rfl rfl rfl ?_
  refine w_callxi (pc' := 6) (st := []) (w_runVX X (c_X8_freeRange l G M hfl N P T hck hT6 q b hq hb) cf_X8_freeRange k28_0 rfl gw_932 gw_933 rfl rfl ⟨Nat.le_of_ble_eq_true rfl, Nat.le_of_ble_eq_true rfl⟩ rfl rfl (Nat.le_of_ble_eq_true rfl) ⟨Nat.le_of_ble_eq_true rfl, Nat.le_of_ble_eq_true rfl⟩ gw_931 dL_tryFreeRange_3) rfl (fun E M2 hE H1 locs1 ls ce q9 hW1 hS1 hl1 hq1 hq2 hq3 => ?_) (fun vv M2 hv => ?_)
  · rcases hE with ⟨⟨rfl, hc⟩, hs⟩
    · refine w_handle X ht [] (0, 6, 7, 28) [] rfl (fun z hz => absurd hz List.not_mem_nil) (by decide) (by decide) gw_379 to_392 hW1 hS1 hl1 hq1 hq2 hq3 ?_
      refine r_astoreQ_n (pc' := 8) (lc' := [(0, vR G (28, 0)), (1, vI q), (2, vI b)]) X [1, 2, 3] dL_tryFreeRange_7 rfl (by decide) rfl rfl ?_
      refine r_sipush (pc' := 11) (z := (-1001)) X dL_tryFreeRange_8 rfl rfl ?_
      refine w_iret X hr dL_tryFreeRange_11 ?_
      exact Or.inr (⟨rfl, hc, hs⟩)
  · refine w_iret X hr dL_tryFreeRange_6 ?_
    exact Or.inl hv
theorem cf_L_tryScript : wCalH yL_tryScript cL_tryScript 5 (some .int) [(0, 6, 7, 13)] 3 := ⟨gw_938, gw_0, by decide, by decide, by rfl⟩
set_option maxRecDepth 100000 in
set_option maxHeartbeats 4000000 in
theorem c_L_tryScript (l : Launch) (G : wG) (M : wM) (hfl : l.stackTraces = false) (N P : Nat) (T : Int) (hck : COk M N P T) (hT6 : T ≤ 800000) (hT0 : 0 ≤ T) (htr : TrOk (M 0) N P (M 19)) (n s0 : Int) (hn : rI n) (hs : rJ s0) : Met l yL_tryScript (gwsH yL_tryScript cL_tryScript 5 (some .int) [(0, 6, 7, 13)]) (wrm 7 1 6) (wPc G M [vR G (28, 0), vI n, vJ s0]) (wQi G (fun z M1 => (((1 ≤ n ∧ n ≤ 4) ∧ 0 ≤ s0 ∧ s0 < ((10000 ^ n.toNat : Nat) : Int)) ∧ z = scrF N P (M 19) (cmdAt s0.toNat n.toNat) n.toNat 0 (M 0) ∧ ScrEq M M1) ∨ (z = (-1002) ∧ (¬ ((1 ≤ n ∧ n ≤ 4) ∧ 0 ≤ s0 ∧ s0 < ((10000 ^ n.toNat : Nat) : Int))) ∧ ScrEq M M1))) 1 6 (wA G) := by
  refine wMetH (lc := [(0, vR G (28, 0)), (1, vI n), (2, vJ s0)]) (by decide) (Nat.le_of_ble_eq_true rfl) rfl ?_
  intro p e s m args below meth c X hr ht
  have X : wX p s m args meth c G 5 "StateObserverLaw" cL_tryScript := X
  refine r_aload_n (pc' := 1) X 0 dL_tryScript_0 rfl rfl rfl ?_
  refine r_iload_n (pc' := 2) X 1 dL_tryScript_1 rfl rfl rfl ?_
  refine r_lload_n (pc' := 3) X 2 dL_tryScript_2 rfl rfl rfl ?_
  refine w_callxi (pc' := 6) (st := []) (w_runVX X (c_X8_runScript l G M hfl N P T hck hT6 hT0 htr n s0 hn hs) cf_X8_runScript k28_0 rfl gw_940 gw_941 rfl rfl ⟨Nat.le_of_ble_eq_true rfl, Nat.le_of_ble_eq_true rfl⟩ rfl rfl (Nat.le_of_ble_eq_true rfl) ⟨Nat.le_of_ble_eq_true rfl, Nat.le_of_ble_eq_true rfl⟩ gw_939 dL_tryScript_3) rfl (fun E M2 hE H1 locs1 ls ce q9 hW1 hS1 hl1 hq1 hq2 hq3 => ?_) (fun vv M2 hv => ?_)
  · rcases hE with ⟨⟨rfl, hc⟩, hs⟩
    · refine w_handle X ht [] (0, 6, 7, 13) [] rfl (fun z hz => absurd hz List.not_mem_nil) (by decide) (by decide) gw_380 to_460 hW1 hS1 hl1 hq1 hq2 hq3 ?_
      refine r_astoreQ (pc' := 9) (lc' := [(0, vR G (28, 0)), (1, vI n), (2, vJ s0)]) X [1, 2, 3] dL_tryScript_7 (by decide) rfl rfl ?_
      refine r_sipush (pc' := 12) (z := (-1002)) X dL_tryScript_9 rfl rfl ?_
      refine w_iret X hr dL_tryScript_12 ?_
      exact Or.inr (⟨rfl, hc, hs⟩)
  · refine w_iret X hr dL_tryScript_6 ?_
    exact Or.inl hv
theorem cf_L_trySave : wCalH yL_trySave cL_trySave 3 (some .int) [(0, 5, 6, 28)] 2 := ⟨gw_550, gw_0, by decide, by decide, by rfl⟩
set_option maxRecDepth 100000 in
set_option maxHeartbeats 4000000 in
theorem c_L_trySave (l : Launch) (G : wG) (M : wM) (hfl : l.stackTraces = false) (s0 : Int) (hs0 : rI s0) : Met l yL_trySave (gwsH yL_trySave cL_trySave 3 (some .int) [(0, 5, 6, 28)]) (wrm 7 1 6) (wPc G M [vR G (28, 0), vI s0]) (wQi G (fun z M1 => ((0 ≤ s0 ∧ s0 ≤ 1) ∧ z = M 0 0 9 ∧ M1 (3 + s0.toNat) = M 0 ∧ M1 25 2 s0.toNat = 1 ∧ (∀ x, x ≠ s0.toNat → M1 25 2 x = M 25 2 x) ∧ ∀ a, a ≠ 3 + s0.toNat → a ≠ 25 → M1 a = M a) ∨ (z = (-1001) ∧ (¬ (0 ≤ s0 ∧ s0 ≤ 1)) ∧ ScrEq M M1))) 1 6 (wA G) := by
  refine wMetH (lc := [(0, vR G (28, 0)), (1, vI s0)]) (by decide) (Nat.le_of_ble_eq_true rfl) rfl ?_
  intro p e s m args below meth c X hr ht
  have X : wX p s m args meth c G 3 "StateObserverLaw" cL_trySave := X
  refine r_aload_n (pc' := 1) X 0 dL_trySave_0 rfl rfl rfl ?_
  refine r_iload_n (pc' := 2) X 1 dL_trySave_1 rfl rfl rfl ?_
  refine w_callxi (pc' := 5) (st := []) (w_runVX X (c_X8_save l G M hfl s0 hs0) cf_X8_save k28_0 rfl gw_552 gw_553 rfl rfl ⟨Nat.le_of_ble_eq_true rfl, Nat.le_of_ble_eq_true rfl⟩ rfl rfl (Nat.le_of_ble_eq_true rfl) ⟨Nat.le_of_ble_eq_true rfl, Nat.le_of_ble_eq_true rfl⟩ gw_551 dL_trySave_2) rfl (fun E M2 hE H1 locs1 ls ce q9 hW1 hS1 hl1 hq1 hq2 hq3 => ?_) (fun vv M2 hv => ?_)
  · rcases hE with ⟨⟨rfl, hc⟩, hs⟩
    · refine w_handle X ht [] (0, 5, 6, 28) [] rfl (fun z hz => absurd hz List.not_mem_nil) (by decide) (by decide) gw_379 to_392 hW1 hS1 hl1 hq1 hq2 hq3 ?_
      refine r_astoreQ_n (pc' := 7) (lc' := [(0, vR G (28, 0)), (1, vI s0)]) X [1, 2] dL_trySave_6 rfl (by decide) rfl rfl ?_
      refine r_sipush (pc' := 10) (z := (-1001)) X dL_trySave_7 rfl rfl ?_
      refine w_iret X hr dL_trySave_10 ?_
      exact Or.inr (⟨rfl, hc, hs⟩)
  · refine w_iret X hr dL_trySave_5 ?_
    exact Or.inl hv
theorem cf_L_tryRestore : wCalH yL_tryRestore cL_tryRestore 3 (some .int) [(0, 5, 6, 28), (0, 5, 11, 15)] 2 := ⟨gw_559, gw_0, by decide, by decide, by rfl⟩
set_option maxRecDepth 100000 in
set_option maxHeartbeats 4000000 in
theorem c_L_tryRestore (l : Launch) (G : wG) (M : wM) (hfl : l.stackTraces = false) (s0 : Int) (hs0 : rI s0) (hf01 : ∀ x, x < 2 → M 25 2 x = 0 ∨ M 25 2 x = 1) : Met l yL_tryRestore (gwsH yL_tryRestore cL_tryRestore 3 (some .int) [(0, 5, 6, 28), (0, 5, 11, 15)]) (wrm 7 1 6) (wPc G M [vR G (28, 0), vI s0]) (wQi G (fun z M1 => ((0 ≤ s0 ∧ s0 ≤ 1) ∧ M 25 2 s0.toNat = 1 ∧ z = M (3 + s0.toNat) 0 9 ∧ M1 0 = M (3 + s0.toNat) ∧ M1 26 0 2 = 0 ∧ M1 26 0 1 = M 26 0 1 ∧ ∀ a, a ≠ 0 → a ≠ 26 → M1 a = M a) ∨ (z = (-1001) ∧ (¬ (0 ≤ s0 ∧ s0 ≤ 1)) ∧ ScrEq M M1) ∨ (z = (-1003) ∧ ((0 ≤ s0 ∧ s0 ≤ 1) ∧ M 25 2 s0.toNat = 0) ∧ ScrEq M M1))) 1 6 (wA G) := by
  refine wMetH (lc := [(0, vR G (28, 0)), (1, vI s0)]) (by decide) (Nat.le_of_ble_eq_true rfl) rfl ?_
  intro p e s m args below meth c X hr ht
  have X : wX p s m args meth c G 3 "StateObserverLaw" cL_tryRestore := X
  refine r_aload_n (pc' := 1) X 0 dL_tryRestore_0 rfl rfl rfl ?_
  refine r_iload_n (pc' := 2) X 1 dL_tryRestore_1 rfl rfl rfl ?_
  refine w_callxi (pc' := 5) (st := []) (w_runVX X (c_X8_restore l G M hfl s0 hs0 hf01) cf_X8_restore k28_0 rfl gw_561 gw_562 rfl rfl ⟨Nat.le_of_ble_eq_true rfl, Nat.le_of_ble_eq_true rfl⟩ rfl rfl (Nat.le_of_ble_eq_true rfl) ⟨Nat.le_of_ble_eq_true rfl, Nat.le_of_ble_eq_true rfl⟩ gw_560 dL_tryRestore_2) rfl (fun E M2 hE H1 locs1 ls ce q9 hW1 hS1 hl1 hq1 hq2 hq3 => ?_) (fun vv M2 hv => ?_)
  · rcases hE with ⟨⟨rfl, hc⟩ | ⟨rfl, hc⟩, hs⟩
    · refine w_handle X ht [] (0, 5, 6, 28) [(0, 5, 11, 15)] rfl (fun z hz => absurd hz List.not_mem_nil) (by decide) (by decide) gw_379 to_392 hW1 hS1 hl1 hq1 hq2 hq3 ?_
      refine r_astoreQ_n (pc' := 7) (lc' := [(0, vR G (28, 0)), (1, vI s0)]) X [1, 2] dL_tryRestore_6 rfl (by decide) rfl rfl ?_
      refine r_sipush (pc' := 10) (z := (-1001)) X dL_tryRestore_7 rfl rfl ?_
      refine w_iret X hr dL_tryRestore_10 ?_
      exact Or.inr (Or.inl ⟨rfl, hc, hs⟩)
    · refine w_handle X ht [(0, 5, 6, 28)] (0, 5, 11, 15) [] rfl (fun z hz => by simp only [List.mem_cons, List.not_mem_nil, or_false] at hz; rcases hz with rfl <;> first | exact ⟨by decide, _, gw_379, by decide⟩) (by decide) (by decide) gw_381 to_476 hW1 hS1 hl1 hq1 hq2 hq3 ?_
      refine r_astoreQ_n (pc' := 12) (lc' := [(0, vR G (28, 0)), (1, vI s0)]) X [1, 2] dL_tryRestore_11 rfl (by decide) rfl rfl ?_
      refine r_sipush (pc' := 15) (z := (-1003)) X dL_tryRestore_12 rfl rfl ?_
      refine w_iret X hr dL_tryRestore_15 ?_
      exact Or.inr (Or.inr (⟨rfl, hc, hs⟩))
  · refine w_iret X hr dL_tryRestore_5 ?_
    exact Or.inl hv
theorem cf_L_trySimulate : wCalH yL_trySimulate cL_trySimulate 5 (some .long) [(0, 6, 7, 13)] 3 := ⟨gw_960, gw_0, by decide, by decide, by rfl⟩
set_option maxRecDepth 100000 in
set_option maxHeartbeats 4000000 in
theorem c_L_trySimulate (l : Launch) (G : wG) (M : wM) (hfl : l.stackTraces = false) (N P : Nat) (T : Int) (hck : COk M N P T) (hT6 : T ≤ 800000) (hT0 : 0 ≤ T) (htr : TrOk (M 0) N P (M 19)) (s0 n : Int) (hs : rJ s0) (hn : rI n) : Met l yL_trySimulate (gwsH yL_trySimulate cL_trySimulate 5 (some .long) [(0, 6, 7, 13)]) (wrm 7 1 6) (wPc G M [vR G (28, 0), vJ s0, vI n]) (wQj G (fun z M1 => ((1 ≤ n ∧ n ≤ 100) ∧ z = simF N P (M 19) n.toNat s0 (M 0) ∧ ScrEq M M1) ∨ (z = (-1002) ∧ (¬ (1 ≤ n ∧ n ≤ 100)) ∧ ScrEq M M1))) 1 6 (wA G) := by
  refine wMetH (lc := [(0, vR G (28, 0)), (1, vJ s0), (3, vI n)]) (by decide) (Nat.le_of_ble_eq_true rfl) rfl ?_
  intro p e s m args below meth c X hr ht
  have X : wX p s m args meth c G 5 "StateObserverLaw" cL_trySimulate := X
  refine r_aload_n (pc' := 1) X 0 dL_trySimulate_0 rfl rfl rfl ?_
  refine r_lload_n (pc' := 2) X 1 dL_trySimulate_1 rfl rfl rfl ?_
  refine r_iload_n (pc' := 3) X 2 dL_trySimulate_2 rfl rfl rfl ?_
  refine w_callxj (pc' := 6) (st := []) (w_runVX X (c_X8_simulate l G M hfl N P T hck hT6 hT0 htr s0 n hs hn) cf_X8_simulate k28_0 rfl gw_962 gw_963 rfl rfl ⟨Nat.le_of_ble_eq_true rfl, Nat.le_of_ble_eq_true rfl⟩ rfl rfl (Nat.le_of_ble_eq_true rfl) ⟨Nat.le_of_ble_eq_true rfl, Nat.le_of_ble_eq_true rfl⟩ gw_961 dL_trySimulate_3) rfl (fun E M2 hE H1 locs1 ls ce q9 hW1 hS1 hl1 hq1 hq2 hq3 => ?_) (fun vv M2 hv => ?_)
  · rcases hE with ⟨⟨rfl, hc⟩, hs⟩
    · refine w_handle X ht [] (0, 6, 7, 13) [] rfl (fun z hz => absurd hz List.not_mem_nil) (by decide) (by decide) gw_380 to_460 hW1 hS1 hl1 hq1 hq2 hq3 ?_
      refine r_astoreQ (pc' := 9) (lc' := [(0, vR G (28, 0)), (1, vJ s0), (3, vI n)]) X [1, 2, 3] dL_trySimulate_7 (by decide) rfl rfl ?_
      refine r_ldc2 (pc' := 12) (z := (-1002)) X gw_972 dL_trySimulate_9 rfl rfl ?_
      refine w_lret X hr dL_trySimulate_12 ?_
      exact Or.inr (⟨rfl, hc, hs⟩)
  · refine w_lret X hr dL_trySimulate_6 ?_
    exact Or.inl hv
