theorem cf_L_append : wCalH yL_append cL_append 4 (some .int) [(0, 9, 12, 13), (0, 9, 15, 15)] 3 := ⟨gw_434, gw_0, by decide, by decide, by rfl⟩
set_option maxRecDepth 100000 in
set_option maxHeartbeats 4000000 in
theorem c_L_append (l : Launch) (G : wG) (M : wM) (hfl : l.stackTraces = false) (L : Nat) (c0 : Int) (hB : TxB (M 27) L) (hc0 : rI c0) : Met l yL_append (gwsH yL_append cL_append 4 (some .int) [(0, 9, 12, 13), (0, 9, 15, 15)]) (wrm 7 1 6) (wPc G M [vR G (28, 0), vI c0, vR G (30, 0)]) (wQi G (fun z M1 => (z = 0 ∧ ∃ (vv : Int) (Mz : wM), ((0 ≤ c0 ∧ c0 ≤ 255) ∧ L < 200 ∧ vv = L + 1 ∧ Mz = wu (wu M 27 1 L c0) 27 0 1 ((L : Int) + 1)) ∧ M1 = wu Mz 30 0 0 (iw vv)) ∨ (z = 1 ∧ (¬ (0 ≤ c0 ∧ c0 ≤ 255)) ∧ ScrEq M M1) ∨ (z = 2 ∧ ((0 ≤ c0 ∧ c0 ≤ 255) ∧ ¬ L < 200) ∧ ScrEq M M1))) 1 6 (wA G) := by
  refine wMetH (lc := [(0, vR G (28, 0)), (1, vI c0), (2, vR G (30, 0))]) (by decide) (Nat.le_of_ble_eq_true rfl) rfl ?_
  intro p e s m args below meth c X hr ht
  have X : wX p s m args meth c G 4 "StateObserverLaw" cL_append := X
  refine r_aload_n (pc' := 1) X 2 dL_append_0 rfl rfl rfl ?_
  refine r_iconst (pc' := 2) X dL_append_1 rfl ?_
  refine r_aload_n (pc' := 3) X 0 dL_append_2 rfl rfl rfl ?_
  refine r_iload_n (pc' := 4) X 1 dL_append_3 rfl rfl rfl ?_
  refine w_callxi (pc' := 7) (st := [vI 0, vR G (30, 0)]) (w_runVX X (c_X8_append l G M hfl L c0 hB hc0) cf_X8_append k28_0 rfl gw_438 gw_439 rfl rfl ⟨Nat.le_of_ble_eq_true rfl, Nat.le_of_ble_eq_true rfl⟩ rfl rfl (Nat.le_of_ble_eq_true rfl) ⟨Nat.le_of_ble_eq_true rfl, Nat.le_of_ble_eq_true rfl⟩ gw_437 dL_append_4) rfl (fun E M2 hE H1 locs1 ls ce q9 hW1 hS1 hl1 hq1 hq2 hq3 => ?_) (fun vv M2 hv => ?_)
  · rcases hE with ⟨⟨rfl, hc⟩ | ⟨rfl, hc⟩, hs⟩
    · refine w_handle X ht [] (0, 9, 12, 13) [(0, 9, 15, 15)] rfl (fun z hz => absurd hz List.not_mem_nil) (by decide) (by decide) gw_435 to_443 hW1 hS1 hl1 hq1 hq2 hq3 ?_
      refine r_astoreQ_n (pc' := 13) (lc' := [(0, vR G (28, 0)), (1, vI c0), (2, vR G (30, 0))]) X [1, 2, 3] dL_append_12 rfl (by decide) rfl rfl ?_
      refine r_iconst (pc' := 14) X dL_append_13 rfl ?_
      refine w_iret X hr dL_append_14 ?_
      exact Or.inr (Or.inl ⟨rfl, hc, hs⟩)
    · refine w_handle X ht [(0, 9, 12, 13)] (0, 9, 15, 15) [] rfl (fun z hz => by simp only [List.mem_cons, List.not_mem_nil, or_false] at hz; rcases hz with rfl <;> first | exact ⟨by decide, _, gw_435, by decide⟩) (by decide) (by decide) gw_436 to_511 hW1 hS1 hl1 hq1 hq2 hq3 ?_
      refine r_astoreQ_n (pc' := 16) (lc' := [(0, vR G (28, 0)), (1, vI c0), (2, vR G (30, 0))]) X [1, 2, 3] dL_append_15 rfl (by decide) rfl rfl ?_
      refine r_iconst (pc' := 17) X dL_append_16 rfl ?_
      refine w_iret X hr dL_append_17 ?_
      exact Or.inr (Or.inr (⟨rfl, hc, hs⟩))
  · refine r_i2lw (pc' := 8) X dL_append_7 rfl ?_
    refine r_last (i := 0) (pc' := 9) X k30_0 (by omega) (by omega) (by decide) dL_append_8 rfl (fun M9 h9 => ?_)
    refine r_goto (tgt := 18) X dL_append_9 rfl ?_
    refine r_iconst (pc' := 19) X dL_append_18 rfl ?_
    refine w_iret X hr dL_append_19 ?_
    exact Or.inl ⟨rfl, vv, M2, hv, h9⟩
theorem cf_L_load : wCalH yL_load cL_load 3 (some .int) [(0, 8, 11, 15)] 2 := ⟨gw_531, gw_0, by decide, by decide, by rfl⟩
set_option maxRecDepth 100000 in
set_option maxHeartbeats 4000000 in
theorem c_L_load (l : Launch) (G : wG) (M : wM) (hfl : l.stackTraces = false) (L : Nat) (hB : TxB (M 27) L) : Met l yL_load (gwsH yL_load cL_load 3 (some .int) [(0, 8, 11, 15)]) (wrm 7 1 6) (wPc G M [vR G (28, 0), vR G (30, 0)]) (wQi G (fun z M1 => (z = 0 ∧ ∃ (vv : Int) (Mz : wM), ((rdE (M 27 1) L).1.2 = 0 ∧ vv = (rdN (M 27 1) L : Int) ∧ ∃ M2 : wM, (TxOk (M2 27) L (rdE (M 27 1) L).1 ∧ (∀ a, a ≠ 2 → a ≠ 20 → a ≠ 27 → M2 a = M a) ∧ M2 27 1 = M 27 1 ∧ (∀ b x, ¬ (b = 0 ∧ (x = 7 ∨ x = 8)) → ¬ (6 ≤ b ∧ b < 10) → M2 2 b x = M 2 b x) ∧ TxF M M2 L (rdN (M 27 1) L) (rdP (M 27 1) L) ((hdB (M 27 1) L (0, 0)).1) ((hdH (M 27 1) L (0, 0)).1) (rdS (M 27 1) L) (rdN (M 27 1) L) (rdP (M 27 1) L) ∧ ∀ x y, x < 4 → y < 3 → M2 2 (6 + x) y = (rdE (M 27 1) L).2 x y) ∧ Mz 0 = M2 2 ∧ Mz 19 = M2 20 ∧ Mz 26 0 2 = 0 ∧ Mz 25 2 0 = 0 ∧ Mz 25 2 1 = 0 ∧ (Mz 26 0 1 = M 26 0 1) ∧ ∀ a, a ≠ 0 → a ≠ 19 → a ≠ 25 → a ≠ 26 → Mz a = M2 a) ∧ M1 = wu Mz 30 0 0 (iw vv)) ∨ (z = 1 ∧ (¬ (rdE (M 27 1) L).1.2 = 0 ∧ TxOk (M1 27) L (rdE (M 27 1) L).1 ∧ (∀ a, a ≠ 2 → a ≠ 20 → a ≠ 27 → M1 a = M a) ∧ M1 27 1 = M 27 1 ∧ (∀ b x, ¬ (b = 0 ∧ (x = 7 ∨ x = 8)) → ¬ (6 ≤ b ∧ b < 10) → M1 2 b x = M 2 b x))))) 1 6 (wA G) := by
  refine wMetH (lc := [(0, vR G (28, 0)), (1, vR G (30, 0))]) (by decide) (Nat.le_of_ble_eq_true rfl) rfl ?_
  intro p e s m args below meth c X hr ht
  have X : wX p s m args meth c G 3 "StateObserverLaw" cL_load := X
  refine r_aload_n (pc' := 1) X 1 dL_load_0 rfl rfl rfl ?_
  refine r_iconst (pc' := 2) X dL_load_1 rfl ?_
  refine r_aload_n (pc' := 3) X 0 dL_load_2 rfl rfl rfl ?_
  refine w_callxi (pc' := 6) (st := [vI 0, vR G (30, 0)]) (w_runVX X (c_X8_load l G M hfl L hB) cf_X8_load k28_0 rfl gw_533 gw_534 rfl rfl ⟨Nat.le_of_ble_eq_true rfl, Nat.le_of_ble_eq_true rfl⟩ rfl rfl (Nat.le_of_ble_eq_true rfl) ⟨Nat.le_of_ble_eq_true rfl, Nat.le_of_ble_eq_true rfl⟩ gw_532 dL_load_3) rfl (fun E M2 hE H1 locs1 ls ce q9 hW1 hS1 hl1 hq1 hq2 hq3 => ?_) (fun vv M2 hv => ?_)
  · rcases hE with ⟨rfl, hc⟩
    · refine w_handle X ht [] (0, 8, 11, 15) [] rfl (fun z hz => absurd hz List.not_mem_nil) (by decide) (by decide) gw_436 to_511 hW1 hS1 hl1 hq1 hq2 hq3 ?_
      refine r_astoreQ_n (pc' := 12) (lc' := [(0, vR G (28, 0)), (1, vR G (30, 0))]) X [1, 2] dL_load_11 rfl (by decide) rfl rfl ?_
      refine r_iconst (pc' := 13) X dL_load_12 rfl ?_
      refine w_iret X hr dL_load_13 ?_
      exact Or.inr (⟨rfl, hc⟩)
  · refine r_i2lw (pc' := 7) X dL_load_6 rfl ?_
    refine r_last (i := 0) (pc' := 8) X k30_0 (by omega) (by omega) (by decide) dL_load_7 rfl (fun M9 h9 => ?_)
    refine r_goto (tgt := 14) X dL_load_8 rfl ?_
    refine r_iconst (pc' := 15) X dL_load_14 rfl ?_
    refine w_iret X hr dL_load_15 ?_
    exact Or.inl ⟨rfl, vv, M2, hv, h9⟩
theorem cf_L_about : wCalH yL_about cL_about 4 (some .int) [(0, 9, 12, 13)] 3 := ⟨gw_564, gw_0, by decide, by decide, by rfl⟩
set_option maxRecDepth 100000 in
set_option maxHeartbeats 4000000 in
theorem c_L_about (l : Launch) (G : wG) (M : wM) (hfl : l.stackTraces = false) (N P : Nat) (T : Int) (hck : COk M N P T) (hT6 : T ≤ 1000000) (w : Int) (hw : rI w) : Met l yL_about (gwsH yL_about cL_about 4 (some .int) [(0, 9, 12, 13)]) (wrm 7 1 6) (wPc G M [vR G (28, 0), vI w, vR G (30, 0)]) (wQi G (fun z M1 => (z = 0 ∧ ∃ (vv : Int) (Mz : wM), ((0 ≤ w ∧ w ≤ 4) ∧ vv = aboutF N P (M 0) w ∧ Mz = M) ∧ M1 = wu Mz 30 0 0 (iw vv)) ∨ (z = 1 ∧ (¬ (0 ≤ w ∧ w ≤ 4)) ∧ ScrEq M M1))) 1 6 (wA G) := by
  refine wMetH (lc := [(0, vR G (28, 0)), (1, vI w), (2, vR G (30, 0))]) (by decide) (Nat.le_of_ble_eq_true rfl) rfl ?_
  intro p e s m args below meth c X hr ht
  have X : wX p s m args meth c G 4 "StateObserverLaw" cL_about := X
  refine r_aload_n (pc' := 1) X 2 dL_about_0 rfl rfl rfl ?_
  refine r_iconst (pc' := 2) X dL_about_1 rfl ?_
  refine r_aload_n (pc' := 3) X 0 dL_about_2 rfl rfl rfl ?_
  refine r_iload_n (pc' := 4) X 1 dL_about_3 rfl rfl rfl ?_
  refine w_callxi (pc' := 7) (st := [vI 0, vR G (30, 0)]) (w_runVX X (c_X8_about l G M hfl N P T hck hT6 w hw) cf_X8_about k28_0 rfl gw_566 gw_567 rfl rfl ⟨Nat.le_of_ble_eq_true rfl, Nat.le_of_ble_eq_true rfl⟩ rfl rfl (Nat.le_of_ble_eq_true rfl) ⟨Nat.le_of_ble_eq_true rfl, Nat.le_of_ble_eq_true rfl⟩ gw_565 dL_about_4) rfl (fun E M2 hE H1 locs1 ls ce q9 hW1 hS1 hl1 hq1 hq2 hq3 => ?_) (fun vv M2 hv => ?_)
  · rcases hE with ⟨⟨rfl, hc⟩, hs⟩
    · refine w_handle X ht [] (0, 9, 12, 13) [] rfl (fun z hz => absurd hz List.not_mem_nil) (by decide) (by decide) gw_435 to_443 hW1 hS1 hl1 hq1 hq2 hq3 ?_
      refine r_astoreQ_n (pc' := 13) (lc' := [(0, vR G (28, 0)), (1, vI w), (2, vR G (30, 0))]) X [1, 2, 3] dL_about_12 rfl (by decide) rfl rfl ?_
      refine r_iconst (pc' := 14) X dL_about_13 rfl ?_
      refine w_iret X hr dL_about_14 ?_
      exact Or.inr (⟨rfl, hc, hs⟩)
  · refine r_i2lw (pc' := 8) X dL_about_7 rfl ?_
    refine r_last (i := 0) (pc' := 9) X k30_0 (by omega) (by omega) (by decide) dL_about_8 rfl (fun M9 h9 => ?_)
    refine r_goto (tgt := 15) X dL_about_9 rfl ?_
    refine r_iconst (pc' := 16) X dL_about_15 rfl ?_
    refine w_iret X hr dL_about_16 ?_
    exact Or.inl ⟨rfl, vv, M2, hv, h9⟩
theorem cf_L_coefficient : wCalH yL_coefficient cL_coefficient 6 (some .int) [(0, 12, 15, 28), (0, 12, 19, 13)] 5 := ⟨gw_572, gw_0, by decide, by decide, by rfl⟩
set_option maxRecDepth 100000 in
set_option maxHeartbeats 4000000 in
theorem c_L_coefficient (l : Launch) (G : wG) (M : wM) (hfl : l.stackTraces = false) (N P : Nat) (T : Int) (hck : COk M N P T) (hT6 : T ≤ 1000000) (w i j : Int) (hw : rI w) (hi : rI i) (hj : rI j) : Met l yL_coefficient (gwsH yL_coefficient cL_coefficient 6 (some .int) [(0, 12, 15, 28), (0, 12, 19, 13)]) (wrm 7 1 6) (wPc G M [vR G (28, 0), vI w, vI i, vI j, vR G (30, 0)]) (wQi G (fun z M1 => (z = 0 ∧ ∃ (vv : Int) (Mz : wM), ((0 ≤ w ∧ w ≤ 5) ∧ (0 ≤ i ∧ i < (if w = 3 ∨ w = 4 then (P : Int) else N)) ∧ (0 ≤ j ∧ j < colsF N P w) ∧ vv = coefF (M 19) (M 0) w i.toNat j.toNat ∧ Mz = M) ∧ M1 = wu Mz 30 0 0 (iw vv)) ∨ (z = 2 ∧ (¬ (0 ≤ w ∧ w ≤ 5)) ∧ ScrEq M M1) ∨ (z = 1 ∧ ((0 ≤ w ∧ w ≤ 5) ∧ ¬ ((0 ≤ i ∧ i < (if w = 3 ∨ w = 4 then (P : Int) else N)) ∧ (0 ≤ j ∧ j < colsF N P w))) ∧ ScrEq M M1))) 1 6 (wA G) := by
  refine wMetH (lc := [(0, vR G (28, 0)), (1, vI w), (2, vI i), (3, vI j), (4, vR G (30, 0))]) (by decide) (Nat.le_of_ble_eq_true rfl) rfl ?_
  intro p e s m args below meth c X hr ht
  have X : wX p s m args meth c G 6 "StateObserverLaw" cL_coefficient := X
  refine r_aload (pc' := 2) X 4 dL_coefficient_0 rfl rfl ?_
  refine r_iconst (pc' := 3) X dL_coefficient_2 rfl ?_
  refine r_aload_n (pc' := 4) X 0 dL_coefficient_3 rfl rfl rfl ?_
  refine r_iload_n (pc' := 5) X 1 dL_coefficient_4 rfl rfl rfl ?_
  refine r_iload_n (pc' := 6) X 2 dL_coefficient_5 rfl rfl rfl ?_
  refine r_iload_n (pc' := 7) X 3 dL_coefficient_6 rfl rfl rfl ?_
  refine w_callxi (pc' := 10) (st := [vI 0, vR G (30, 0)]) (w_runVX X (c_X8_coefficient l G M hfl N P T hck hT6 w i j hw hi hj) cf_X8_coefficient k28_0 rfl gw_575 gw_576 rfl rfl ⟨Nat.le_of_ble_eq_true rfl, Nat.le_of_ble_eq_true rfl⟩ rfl rfl (Nat.le_of_ble_eq_true rfl) ⟨Nat.le_of_ble_eq_true rfl, Nat.le_of_ble_eq_true rfl⟩ gw_574 dL_coefficient_7) rfl (fun E M2 hE H1 locs1 ls ce q9 hW1 hS1 hl1 hq1 hq2 hq3 => ?_) (fun vv M2 hv => ?_)
  · rcases hE with ⟨⟨rfl, hc⟩ | ⟨rfl, hc⟩, hs⟩
    · refine w_handle X ht [(0, 12, 15, 28)] (0, 12, 19, 13) [] rfl (fun z hz => by simp only [List.mem_cons, List.not_mem_nil, or_false] at hz; rcases hz with rfl <;> first | exact ⟨by decide, _, gw_573, by decide⟩) (by decide) (by decide) gw_435 to_443 hW1 hS1 hl1 hq1 hq2 hq3 ?_
      refine r_astoreQ (pc' := 21) (lc' := [(0, vR G (28, 0)), (1, vI w), (2, vI i), (3, vI j), (4, vR G (30, 0))]) X [1, 2, 3, 4, 5] dL_coefficient_19 (by decide) rfl rfl ?_
      refine r_iconst (pc' := 22) X dL_coefficient_21 rfl ?_
      refine w_iret X hr dL_coefficient_22 ?_
      exact Or.inr (Or.inl ⟨rfl, hc, hs⟩)
    · refine w_handle X ht [] (0, 12, 15, 28) [(0, 12, 19, 13)] rfl (fun z hz => absurd hz List.not_mem_nil) (by decide) (by decide) gw_573 to_589 hW1 hS1 hl1 hq1 hq2 hq3 ?_
      refine r_astoreQ (pc' := 17) (lc' := [(0, vR G (28, 0)), (1, vI w), (2, vI i), (3, vI j), (4, vR G (30, 0))]) X [1, 2, 3, 4, 5] dL_coefficient_15 (by decide) rfl rfl ?_
      refine r_iconst (pc' := 18) X dL_coefficient_17 rfl ?_
      refine w_iret X hr dL_coefficient_18 ?_
      exact Or.inr (Or.inr (⟨rfl, hc, hs⟩))
  · refine r_i2lw (pc' := 11) X dL_coefficient_10 rfl ?_
    refine r_last (i := 0) (pc' := 12) X k30_0 (by omega) (by omega) (by decide) dL_coefficient_11 rfl (fun M9 h9 => ?_)
    refine r_goto (tgt := 23) X dL_coefficient_12 rfl ?_
    refine r_iconst (pc' := 24) X dL_coefficient_23 rfl ?_
    refine w_iret X hr dL_coefficient_24 ?_
    exact Or.inl ⟨rfl, vv, M2, hv, h9⟩
theorem cf_L_state : wCalH yL_state cL_state 5 (some .int) [(0, 10, 13, 28), (0, 10, 17, 13)] 4 := ⟨gw_610, gw_0, by decide, by decide, by rfl⟩
set_option maxRecDepth 100000 in
set_option maxHeartbeats 4000000 in
theorem c_L_state (l : Launch) (G : wG) (M : wM) (hfl : l.stackTraces = false) (N P : Nat) (T : Int) (hck : COk M N P T) (hT6 : T ≤ 1000000) (i w : Int) (hi : rI i) (hw : rI w) : Met l yL_state (gwsH yL_state cL_state 5 (some .int) [(0, 10, 13, 28), (0, 10, 17, 13)]) (wrm 7 1 6) (wPc G M [vR G (28, 0), vI i, vI w, vR G (30, 0)]) (wQi G (fun z M1 => (z = 0 ∧ ∃ (vv : Int) (Mz : wM), ((0 ≤ i ∧ i < N) ∧ (0 ≤ w ∧ w ≤ 4) ∧ vv = stateF (M 0) i.toNat w ∧ Mz = M) ∧ M1 = wu Mz 30 0 0 (iw vv)) ∨ (z = 1 ∧ (¬ (0 ≤ i ∧ i < N)) ∧ ScrEq M M1) ∨ (z = 2 ∧ ((0 ≤ i ∧ i < N) ∧ ¬ (0 ≤ w ∧ w ≤ 4)) ∧ ScrEq M M1))) 1 6 (wA G) := by
  refine wMetH (lc := [(0, vR G (28, 0)), (1, vI i), (2, vI w), (3, vR G (30, 0))]) (by decide) (Nat.le_of_ble_eq_true rfl) rfl ?_
  intro p e s m args below meth c X hr ht
  have X : wX p s m args meth c G 5 "StateObserverLaw" cL_state := X
  refine r_aload_n (pc' := 1) X 3 dL_state_0 rfl rfl rfl ?_
  refine r_iconst (pc' := 2) X dL_state_1 rfl ?_
  refine r_aload_n (pc' := 3) X 0 dL_state_2 rfl rfl rfl ?_
  refine r_iload_n (pc' := 4) X 1 dL_state_3 rfl rfl rfl ?_
  refine r_iload_n (pc' := 5) X 2 dL_state_4 rfl rfl rfl ?_
  refine w_callxi (pc' := 8) (st := [vI 0, vR G (30, 0)]) (w_runVX X (c_X8_state l G M hfl N P T hck hT6 i w hi hw) cf_X8_state k28_0 rfl gw_612 gw_613 rfl rfl ⟨Nat.le_of_ble_eq_true rfl, Nat.le_of_ble_eq_true rfl⟩ rfl rfl (Nat.le_of_ble_eq_true rfl) ⟨Nat.le_of_ble_eq_true rfl, Nat.le_of_ble_eq_true rfl⟩ gw_611 dL_state_5) rfl (fun E M2 hE H1 locs1 ls ce q9 hW1 hS1 hl1 hq1 hq2 hq3 => ?_) (fun vv M2 hv => ?_)
  · rcases hE with ⟨⟨rfl, hc⟩ | ⟨rfl, hc⟩, hs⟩
    · refine w_handle X ht [] (0, 10, 13, 28) [(0, 10, 17, 13)] rfl (fun z hz => absurd hz List.not_mem_nil) (by decide) (by decide) gw_573 to_589 hW1 hS1 hl1 hq1 hq2 hq3 ?_
      refine r_astoreQ (pc' := 15) (lc' := [(0, vR G (28, 0)), (1, vI i), (2, vI w), (3, vR G (30, 0))]) X [1, 2, 3, 4] dL_state_13 (by decide) rfl rfl ?_
      refine r_iconst (pc' := 16) X dL_state_15 rfl ?_
      refine w_iret X hr dL_state_16 ?_
      exact Or.inr (Or.inl ⟨rfl, hc, hs⟩)
    · refine w_handle X ht [(0, 10, 13, 28)] (0, 10, 17, 13) [] rfl (fun z hz => by simp only [List.mem_cons, List.not_mem_nil, or_false] at hz; rcases hz with rfl <;> first | exact ⟨by decide, _, gw_573, by decide⟩) (by decide) (by decide) gw_435 to_443 hW1 hS1 hl1 hq1 hq2 hq3 ?_
      refine r_astoreQ (pc' := 19) (lc' := [(0, vR G (28, 0)), (1, vI i), (2, vI w), (3, vR G (30, 0))]) X [1, 2, 3, 4] dL_state_17 (by decide) rfl rfl ?_
      refine r_iconst (pc' := 20) X dL_state_19 rfl ?_
      refine w_iret X hr dL_state_20 ?_
      exact Or.inr (Or.inr (⟨rfl, hc, hs⟩))
  · refine r_i2lw (pc' := 9) X dL_state_8 rfl ?_
    refine r_last (i := 0) (pc' := 10) X k30_0 (by omega) (by omega) (by decide) dL_state_9 rfl (fun M9 h9 => ?_)
    refine r_goto (tgt := 21) X dL_state_10 rfl ?_
    refine r_iconst (pc' := 22) X dL_state_21 rfl ?_
    refine w_iret X hr dL_state_22 ?_
    exact Or.inl ⟨rfl, vv, M2, hv, h9⟩
theorem cf_L_output : wCalH yL_output cL_output 5 (some .int) [(0, 10, 13, 28), (0, 10, 17, 13), (0, 10, 21, 15)] 4 := ⟨gw_622, gw_0, by decide, by decide, by rfl⟩
set_option maxRecDepth 100000 in
set_option maxHeartbeats 4000000 in
theorem c_L_output (l : Launch) (G : wG) (M : wM) (hfl : l.stackTraces = false) (N P : Nat) (T : Int) (hck : COk M N P T) (hT6 : T ≤ 1000000) (i w : Int) (hi : rI i) (hw : rI w) : Met l yL_output (gwsH yL_output cL_output 5 (some .int) [(0, 10, 13, 28), (0, 10, 17, 13), (0, 10, 21, 15)]) (wrm 7 1 6) (wPc G M [vR G (28, 0), vI i, vI w, vR G (30, 0)]) (wQi G (fun z M1 => (z = 0 ∧ ∃ (vv : Int) (Mz : wM), ((0 ≤ i ∧ i < P) ∧ (0 ≤ w ∧ w ≤ 3) ∧ ¬ (w ≤ 1 ∧ M 0 11 i.toNat = -1) ∧ vv = outF N (M 19) (M 0) i.toNat w ∧ Mz = M) ∧ M1 = wu Mz 30 0 0 (iw vv)) ∨ (z = 1 ∧ (¬ (0 ≤ i ∧ i < P)) ∧ ScrEq M M1) ∨ (z = 2 ∧ ((0 ≤ i ∧ i < P) ∧ ¬ (0 ≤ w ∧ w ≤ 3)) ∧ ScrEq M M1) ∨ (z = 3 ∧ ((0 ≤ i ∧ i < P) ∧ (0 ≤ w ∧ w ≤ 3) ∧ (w ≤ 1 ∧ M 0 11 i.toNat = -1)) ∧ ScrEq M M1))) 1 6 (wA G) := by
  refine wMetH (lc := [(0, vR G (28, 0)), (1, vI i), (2, vI w), (3, vR G (30, 0))]) (by decide) (Nat.le_of_ble_eq_true rfl) rfl ?_
  intro p e s m args below meth c X hr ht
  have X : wX p s m args meth c G 5 "StateObserverLaw" cL_output := X
  refine r_aload_n (pc' := 1) X 3 dL_output_0 rfl rfl rfl ?_
  refine r_iconst (pc' := 2) X dL_output_1 rfl ?_
  refine r_aload_n (pc' := 3) X 0 dL_output_2 rfl rfl rfl ?_
  refine r_iload_n (pc' := 4) X 1 dL_output_3 rfl rfl rfl ?_
  refine r_iload_n (pc' := 5) X 2 dL_output_4 rfl rfl rfl ?_
  refine w_callxi (pc' := 8) (st := [vI 0, vR G (30, 0)]) (w_runVX X (c_X8_output l G M hfl N P T hck hT6 i w hi hw) cf_X8_output k28_0 rfl gw_624 gw_625 rfl rfl ⟨Nat.le_of_ble_eq_true rfl, Nat.le_of_ble_eq_true rfl⟩ rfl rfl (Nat.le_of_ble_eq_true rfl) ⟨Nat.le_of_ble_eq_true rfl, Nat.le_of_ble_eq_true rfl⟩ gw_623 dL_output_5) rfl (fun E M2 hE H1 locs1 ls ce q9 hW1 hS1 hl1 hq1 hq2 hq3 => ?_) (fun vv M2 hv => ?_)
  · rcases hE with ⟨⟨rfl, hc⟩ | ⟨rfl, hc⟩ | ⟨rfl, hc⟩, hs⟩
    · refine w_handle X ht [] (0, 10, 13, 28) [(0, 10, 17, 13), (0, 10, 21, 15)] rfl (fun z hz => absurd hz List.not_mem_nil) (by decide) (by decide) gw_573 to_589 hW1 hS1 hl1 hq1 hq2 hq3 ?_
      refine r_astoreQ (pc' := 15) (lc' := [(0, vR G (28, 0)), (1, vI i), (2, vI w), (3, vR G (30, 0))]) X [1, 2, 3, 4] dL_output_13 (by decide) rfl rfl ?_
      refine r_iconst (pc' := 16) X dL_output_15 rfl ?_
      refine w_iret X hr dL_output_16 ?_
      exact Or.inr (Or.inl ⟨rfl, hc, hs⟩)
    · refine w_handle X ht [(0, 10, 13, 28)] (0, 10, 17, 13) [(0, 10, 21, 15)] rfl (fun z hz => by simp only [List.mem_cons, List.not_mem_nil, or_false] at hz; rcases hz with rfl <;> first | exact ⟨by decide, _, gw_573, by decide⟩) (by decide) (by decide) gw_435 to_443 hW1 hS1 hl1 hq1 hq2 hq3 ?_
      refine r_astoreQ (pc' := 19) (lc' := [(0, vR G (28, 0)), (1, vI i), (2, vI w), (3, vR G (30, 0))]) X [1, 2, 3, 4] dL_output_17 (by decide) rfl rfl ?_
      refine r_iconst (pc' := 20) X dL_output_19 rfl ?_
      refine w_iret X hr dL_output_20 ?_
      exact Or.inr (Or.inr (Or.inl ⟨rfl, hc, hs⟩))
    · refine w_handle X ht [(0, 10, 13, 28), (0, 10, 17, 13)] (0, 10, 21, 15) [] rfl (fun z hz => by simp only [List.mem_cons, List.not_mem_nil, or_false] at hz; rcases hz with rfl | rfl <;> first | exact ⟨by decide, _, gw_573, by decide⟩ | exact ⟨by decide, _, gw_435, by decide⟩) (by decide) (by decide) gw_436 to_511 hW1 hS1 hl1 hq1 hq2 hq3 ?_
      refine r_astoreQ (pc' := 23) (lc' := [(0, vR G (28, 0)), (1, vI i), (2, vI w), (3, vR G (30, 0))]) X [1, 2, 3, 4] dL_output_21 (by decide) rfl rfl ?_
      refine r_iconst (pc' := 24) X dL_output_23 rfl ?_
      refine w_iret X hr dL_output_24 ?_
      exact Or.inr (Or.inr (Or.inr (⟨rfl, hc, hs⟩)))
  · refine r_i2lw (pc' := 9) X dL_output_8 rfl ?_
    refine r_last (i := 0) (pc' := 10) X k30_0 (by omega) (by omega) (by decide) dL_output_9 rfl (fun M9 h9 => ?_)
    refine r_goto (tgt := 25) X dL_output_10 rfl ?_
    refine r_iconst (pc' := 26) X dL_output_25 rfl ?_
    refine w_iret X hr dL_output_26 ?_
    exact Or.inl ⟨rfl, vv, M2, hv, h9⟩
theorem cf_L_place : wCalH yL_place cL_place 5 (some .int) [(0, 10, 13, 28), (0, 10, 17, 15)] 4 := ⟨gw_646, gw_0, by decide, by decide, by rfl⟩
set_option maxRecDepth 100000 in
set_option maxHeartbeats 4000000 in
theorem c_L_place (l : Launch) (G : wG) (M : wM) (hfl : l.stackTraces = false) (N P : Nat) (T : Int) (hck : COk M N P T) (hT6 : T ≤ 1000000) (nx ct : Nat) (hnx : M 26 0 1 = (nx : Int)) (hnx14 : nx < 14) (hct : M 26 0 2 = (ct : Int)) (hct14 : ct ≤ 14) (i v : Int) (hi : rI i) (hv : rI v) : Met l yL_place (gwsH yL_place cL_place 5 (some .int) [(0, 10, 13, 28), (0, 10, 17, 15)]) (wrm 7 1 6) (wPc G M [vR G (28, 0), vI i, vI v, vR G (30, 0)]) (wQi G (fun z M1 => (z = 0 ∧ ∃ (vv : Int) (Mz : wM), ((0 ≤ i ∧ i < N) ∧ ((M 0 2 i.toNat ≤ v ∧ v ≤ M 0 3 i.toNat) ∧ meets N P (M 19) (up1 (M 0 1) i.toNat v) (M 0 10) (M 0 11)) ∧ Mz 0 = setV (M 0) 1 i.toNat v ∧ vv = M 0 1 i.toNat ∧ Noted M Mz nx ct) ∧ M1 = wu Mz 30 0 0 (iw vv)) ∨ (z = 1 ∧ (¬ (0 ≤ i ∧ i < N)) ∧ ScrEq M M1) ∨ (z = 2 ∧ ((0 ≤ i ∧ i < N) ∧ ¬ ((M 0 2 i.toNat ≤ v ∧ v ≤ M 0 3 i.toNat) ∧ meets N P (M 19) (up1 (M 0 1) i.toNat v) (M 0 10) (M 0 11))) ∧ ScrEq M M1))) 1 6 (wA G) := by
  refine wMetH (lc := [(0, vR G (28, 0)), (1, vI i), (2, vI v), (3, vR G (30, 0))]) (by decide) (Nat.le_of_ble_eq_true rfl) rfl ?_
  intro p e s m args below meth c X hr ht
  have X : wX p s m args meth c G 5 "StateObserverLaw" cL_place := X
  refine r_aload_n (pc' := 1) X 3 dL_place_0 rfl rfl rfl ?_
  refine r_iconst (pc' := 2) X dL_place_1 rfl ?_
  refine r_aload_n (pc' := 3) X 0 dL_place_2 rfl rfl rfl ?_
  refine r_iload_n (pc' := 4) X 1 dL_place_3 rfl rfl rfl ?_
  refine r_iload_n (pc' := 5) X 2 dL_place_4 rfl rfl rfl ?_
  refine w_callxi (pc' := 8) (st := [vI 0, vR G (30, 0)]) (w_runVX X (c_X8_place l G M hfl N P T hck hT6 nx ct hnx hnx14 hct hct14 i v hi hv) cf_X8_place k28_0 rfl gw_648 gw_649 rfl rfl ⟨Nat.le_of_ble_eq_true rfl, Nat.le_of_ble_eq_true rfl⟩ rfl rfl (Nat.le_of_ble_eq_true rfl) ⟨Nat.le_of_ble_eq_true rfl, Nat.le_of_ble_eq_true rfl⟩ gw_647 dL_place_5) rfl (fun E M2 hE H1 locs1 ls ce q9 hW1 hS1 hl1 hq1 hq2 hq3 => ?_) (fun vv M2 hv => ?_)
  · rcases hE with ⟨⟨rfl, hc⟩ | ⟨rfl, hc⟩, hs⟩
    · refine w_handle X ht [] (0, 10, 13, 28) [(0, 10, 17, 15)] rfl (fun z hz => absurd hz List.not_mem_nil) (by decide) (by decide) gw_573 to_589 hW1 hS1 hl1 hq1 hq2 hq3 ?_
      refine r_astoreQ (pc' := 15) (lc' := [(0, vR G (28, 0)), (1, vI i), (2, vI v), (3, vR G (30, 0))]) X [1, 2, 3, 4] dL_place_13 (by decide) rfl rfl ?_
      refine r_iconst (pc' := 16) X dL_place_15 rfl ?_
      refine w_iret X hr dL_place_16 ?_
      exact Or.inr (Or.inl ⟨rfl, hc, hs⟩)
    · refine w_handle X ht [(0, 10, 13, 28)] (0, 10, 17, 15) [] rfl (fun z hz => by simp only [List.mem_cons, List.not_mem_nil, or_false] at hz; rcases hz with rfl <;> first | exact ⟨by decide, _, gw_573, by decide⟩) (by decide) (by decide) gw_436 to_511 hW1 hS1 hl1 hq1 hq2 hq3 ?_
      refine r_astoreQ (pc' := 19) (lc' := [(0, vR G (28, 0)), (1, vI i), (2, vI v), (3, vR G (30, 0))]) X [1, 2, 3, 4] dL_place_17 (by decide) rfl rfl ?_
      refine r_iconst (pc' := 20) X dL_place_19 rfl ?_
      refine w_iret X hr dL_place_20 ?_
      exact Or.inr (Or.inr (⟨rfl, hc, hs⟩))
  · refine r_i2lw (pc' := 9) X dL_place_8 rfl ?_
    refine r_last (i := 0) (pc' := 10) X k30_0 (by omega) (by omega) (by decide) dL_place_9 rfl (fun M9 h9 => ?_)
    refine r_goto (tgt := 21) X dL_place_10 rfl ?_
    refine r_iconst (pc' := 22) X dL_place_21 rfl ?_
    refine w_iret X hr dL_place_22 ?_
    exact Or.inl ⟨rfl, vv, M2, hv, h9⟩
theorem cf_L_step : wCalH yL_step cL_step 5 (some .int) [(0, 10, 13, 13)] 4 := ⟨gw_665, gw_0, by decide, by decide, by rfl⟩
set_option maxRecDepth 100000 in
set_option maxHeartbeats 4000000 in
theorem c_L_step (l : Launch) (G : wG) (M : wM) (hfl : l.stackTraces = false) (N P : Nat) (T : Int) (hck : COk M N P T) (hT6 : T ≤ 1000000) (nx ct : Nat) (hnx : M 26 0 1 = (nx : Int)) (hnx14 : nx < 14) (hct : M 26 0 2 = (ct : Int)) (hct14 : ct ≤ 14) (u d : Int) (hu : rI u) (hd : rI d) : Met l yL_step (gwsH yL_step cL_step 5 (some .int) [(0, 10, 13, 13)]) (wrm 7 1 6) (wPc G M [vR G (28, 0), vI u, vI d, vR G (30, 0)]) (wQi G (fun z M1 => (z = 0 ∧ ∃ (vv : Int) (Mz : wM), (((-99 ≤ u ∧ u ≤ 99) ∧ -(M 0 0 8) ≤ d ∧ d ≤ M 0 0 8) ∧ StepV N P (M 19) (M 0) (Mz 0) u d ∧ vv = M 0 0 9 + 1 ∧ Noted M Mz nx ct) ∧ M1 = wu Mz 30 0 0 (iw vv)) ∨ (z = 1 ∧ (¬ ((-99 ≤ u ∧ u ≤ 99) ∧ -(M 0 0 8) ≤ d ∧ d ≤ M 0 0 8)) ∧ ScrEq M M1))) 1 6 (wA G) := by
  refine wMetH (lc := [(0, vR G (28, 0)), (1, vI u), (2, vI d), (3, vR G (30, 0))]) (by decide) (Nat.le_of_ble_eq_true rfl) rfl ?_
  intro p e s m args below meth c X hr ht
  have X : wX p s m args meth c G 5 "StateObserverLaw" cL_step := X
  refine r_aload_n (pc' := 1) X 3 dL_step_0 rfl rfl rfl ?_
  refine r_iconst (pc' := 2) X dL_step_1 rfl ?_
  refine r_aload_n (pc' := 3) X 0 dL_step_2 rfl rfl rfl ?_
  refine r_iload_n (pc' := 4) X 1 dL_step_3 rfl rfl rfl ?_
  refine r_iload_n (pc' := 5) X 2 dL_step_4 rfl rfl rfl ?_
  refine w_callxi (pc' := 8) (st := [vI 0, vR G (30, 0)]) (w_runVX X (c_X8_step l G M hfl N P T hck hT6 nx ct hnx hnx14 hct hct14 u d hu hd) cf_X8_step k28_0 rfl gw_667 gw_668 rfl rfl ⟨Nat.le_of_ble_eq_true rfl, Nat.le_of_ble_eq_true rfl⟩ rfl rfl (Nat.le_of_ble_eq_true rfl) ⟨Nat.le_of_ble_eq_true rfl, Nat.le_of_ble_eq_true rfl⟩ gw_666 dL_step_5) rfl (fun E M2 hE H1 locs1 ls ce q9 hW1 hS1 hl1 hq1 hq2 hq3 => ?_) (fun vv M2 hv => ?_)
  · rcases hE with ⟨⟨rfl, hc⟩, hs⟩
    · refine w_handle X ht [] (0, 10, 13, 13) [] rfl (fun z hz => absurd hz List.not_mem_nil) (by decide) (by decide) gw_435 to_443 hW1 hS1 hl1 hq1 hq2 hq3 ?_
      refine r_astoreQ (pc' := 15) (lc' := [(0, vR G (28, 0)), (1, vI u), (2, vI d), (3, vR G (30, 0))]) X [1, 2, 3, 4] dL_step_13 (by decide) rfl rfl ?_
      refine r_iconst (pc' := 16) X dL_step_15 rfl ?_
      refine w_iret X hr dL_step_16 ?_
      exact Or.inr (⟨rfl, hc, hs⟩)
  · refine r_i2lw (pc' := 9) X dL_step_8 rfl ?_
    refine r_last (i := 0) (pc' := 10) X k30_0 (by omega) (by omega) (by decide) dL_step_9 rfl (fun M9 h9 => ?_)
    refine r_goto (tgt := 17) X dL_step_10 rfl ?_
    refine r_iconst (pc' := 18) X dL_step_17 rfl ?_
    refine w_iret X hr dL_step_18 ?_
    exact Or.inl ⟨rfl, vv, M2, hv, h9⟩
theorem cf_L_read : wCalH yL_read cL_read 4 (some .int) [(0, 9, 12, 28)] 3 := ⟨gw_716, gw_0, by decide, by decide, by rfl⟩
set_option maxRecDepth 100000 in
set_option maxHeartbeats 4000000 in
theorem c_L_read (l : Launch) (G : wG) (M : wM) (hfl : l.stackTraces = false) (N P : Nat) (T : Int) (hck : COk M N P T) (hT6 : T ≤ 1000000) (nx ct : Nat) (hnx : M 26 0 1 = (nx : Int)) (hnx14 : nx < 14) (hct : M 26 0 2 = (ct : Int)) (hct14 : ct ≤ 14) (hT0 : 0 ≤ T) (i : Int) (hi : rI i) : Met l yL_read (gwsH yL_read cL_read 4 (some .int) [(0, 9, 12, 28)]) (wrm 7 1 6) (wPc G M [vR G (28, 0), vI i, vR G (30, 0)]) (wQi G (fun z M1 => (z = 0 ∧ ∃ (vv : Int) (Mz : wM), ((0 ≤ i ∧ i < P) ∧ Mz 0 = (obsV N P (M 19) (M 0) i.toNat) ∧ vv = obsY N (M 19) (M 0) i.toNat i.toNat ∧ Noted M Mz nx ct) ∧ M1 = wu Mz 30 0 0 (iw vv)) ∨ (z = 1 ∧ (¬ (0 ≤ i ∧ i < P)) ∧ ScrEq M M1))) 1 6 (wA G) := by
  refine wMetH (lc := [(0, vR G (28, 0)), (1, vI i), (2, vR G (30, 0))]) (by decide) (Nat.le_of_ble_eq_true rfl) rfl ?_
  intro p e s m args below meth c X hr ht
  have X : wX p s m args meth c G 4 "StateObserverLaw" cL_read := X
  refine r_aload_n (pc' := 1) X 2 dL_read_0 rfl rfl rfl ?_
  refine r_iconst (pc' := 2) X dL_read_1 rfl ?_
  refine r_aload_n (pc' := 3) X 0 dL_read_2 rfl rfl rfl ?_
  refine r_iload_n (pc' := 4) X 1 dL_read_3 rfl rfl rfl ?_
  refine w_callxi (pc' := 7) (st := [vI 0, vR G (30, 0)]) (w_runVX X (c_X8_read l G M hfl N P T hck hT6 nx ct hnx hnx14 hct hct14 hT0 i hi) cf_X8_read k28_0 rfl gw_718 gw_719 rfl rfl ⟨Nat.le_of_ble_eq_true rfl, Nat.le_of_ble_eq_true rfl⟩ rfl rfl (Nat.le_of_ble_eq_true rfl) ⟨Nat.le_of_ble_eq_true rfl, Nat.le_of_ble_eq_true rfl⟩ gw_717 dL_read_4) rfl (fun E M2 hE H1 locs1 ls ce q9 hW1 hS1 hl1 hq1 hq2 hq3 => ?_) (fun vv M2 hv => ?_)
  · rcases hE with ⟨⟨rfl, hc⟩, hs⟩
    · refine w_handle X ht [] (0, 9, 12, 28) [] rfl (fun z hz => absurd hz List.not_mem_nil) (by decide) (by decide) gw_573 to_589 hW1 hS1 hl1 hq1 hq2 hq3 ?_
      refine r_astoreQ_n (pc' := 13) (lc' := [(0, vR G (28, 0)), (1, vI i), (2, vR G (30, 0))]) X [1, 2, 3] dL_read_12 rfl (by decide) rfl rfl ?_
      refine r_iconst (pc' := 14) X dL_read_13 rfl ?_
      refine w_iret X hr dL_read_14 ?_
      exact Or.inr (⟨rfl, hc, hs⟩)
  · refine r_i2lw (pc' := 8) X dL_read_7 rfl ?_
    refine r_last (i := 0) (pc' := 9) X k30_0 (by omega) (by omega) (by decide) dL_read_8 rfl (fun M9 h9 => ?_)
    refine r_goto (tgt := 15) X dL_read_9 rfl ?_
    refine r_iconst (pc' := 16) X dL_read_15 rfl ?_
    refine w_iret X hr dL_read_16 ?_
    exact Or.inl ⟨rfl, vv, M2, hv, h9⟩
theorem cf_L_shave : wCalH yL_shave cL_shave 5 (some .int) [(0, 10, 13, 28), (0, 10, 17, 13)] 4 := ⟨gw_744, gw_0, by decide, by decide, by rfl⟩
set_option maxRecDepth 100000 in
set_option maxHeartbeats 4000000 in
theorem c_L_shave (l : Launch) (G : wG) (M : wM) (hfl : l.stackTraces = false) (N P : Nat) (T : Int) (hck : COk M N P T) (hT6 : T ≤ 1000000) (nx ct : Nat) (hnx : M 26 0 1 = (nx : Int)) (hnx14 : nx < 14) (hct : M 26 0 2 = (ct : Int)) (hct14 : ct ≤ 14) (htr : TrOk (M 0) N P (M 19)) (i n : Int) (hi : rI i) (hn : rI n) : Met l yL_shave (gwsH yL_shave cL_shave 5 (some .int) [(0, 10, 13, 28), (0, 10, 17, 13)]) (wrm 7 1 6) (wPc G M [vR G (28, 0), vI i, vI n, vR G (30, 0)]) (wQi G (fun z M1 => (z = 0 ∧ ∃ (vv : Int) (Mz : wM), (((0 ≤ i ∧ i < N) ∧ 1 ≤ n ∧ n ≤ 100) ∧ vv = (((shv N P (M 19) i.toNat 2 1 n.toNat (M 0)).1 : Int) + ((shv N P (M 19) i.toNat 3 (-1) n.toNat (shv N P (M 19) i.toNat 2 1 n.toNat (M 0)).2).1 : Int)) ∧ Mz 0 = (shv N P (M 19) i.toNat 3 (-1) n.toNat (shv N P (M 19) i.toNat 2 1 n.toNat (M 0)).2).2 ∧ MoOk (Mz 0) N P T ∧ BoxOk N (Mz 0 2) (Mz 0 3) ∧ TrOk (Mz 0) N P (M 19) ∧ Noted M Mz nx ct) ∧ M1 = wu Mz 30 0 0 (iw vv)) ∨ (z = 1 ∧ (¬ (0 ≤ i ∧ i < N)) ∧ ScrEq M M1) ∨ (z = 2 ∧ ((0 ≤ i ∧ i < N) ∧ ¬ (1 ≤ n ∧ n ≤ 100)) ∧ ScrEq M M1))) 1 6 (wA G) := by
  refine wMetH (lc := [(0, vR G (28, 0)), (1, vI i), (2, vI n), (3, vR G (30, 0))]) (by decide) (Nat.le_of_ble_eq_true rfl) rfl ?_
  intro p e s m args below meth c X hr ht
  have X : wX p s m args meth c G 5 "StateObserverLaw" cL_shave := X
  refine r_aload_n (pc' := 1) X 3 dL_shave_0 rfl rfl rfl ?_
  refine r_iconst (pc' := 2) X dL_shave_1 rfl ?_
  refine r_aload_n (pc' := 3) X 0 dL_shave_2 rfl rfl rfl ?_
  refine r_iload_n (pc' := 4) X 1 dL_shave_3 rfl rfl rfl ?_
  refine r_iload_n (pc' := 5) X 2 dL_shave_4 rfl rfl rfl ?_
  refine w_callxi (pc' := 8) (st := [vI 0, vR G (30, 0)]) (w_runVX X (c_X8_shave l G M hfl N P T hck hT6 nx ct hnx hnx14 hct hct14 htr i n hi hn) cf_X8_shave k28_0 rfl gw_746 gw_747 rfl rfl ⟨Nat.le_of_ble_eq_true rfl, Nat.le_of_ble_eq_true rfl⟩ rfl rfl (Nat.le_of_ble_eq_true rfl) ⟨Nat.le_of_ble_eq_true rfl, Nat.le_of_ble_eq_true rfl⟩ gw_745 dL_shave_5) rfl (fun E M2 hE H1 locs1 ls ce q9 hW1 hS1 hl1 hq1 hq2 hq3 => ?_) (fun vv M2 hv => ?_)
  · rcases hE with ⟨⟨rfl, hc⟩ | ⟨rfl, hc⟩, hs⟩
    · refine w_handle X ht [] (0, 10, 13, 28) [(0, 10, 17, 13)] rfl (fun z hz => absurd hz List.not_mem_nil) (by decide) (by decide) gw_573 to_589 hW1 hS1 hl1 hq1 hq2 hq3 ?_
      refine r_astoreQ (pc' := 15) (lc' := [(0, vR G (28, 0)), (1, vI i), (2, vI n), (3, vR G (30, 0))]) X [1, 2, 3, 4] dL_shave_13 (by decide) rfl rfl ?_
      refine r_iconst (pc' := 16) X dL_shave_15 rfl ?_
      refine w_iret X hr dL_shave_16 ?_
      exact Or.inr (Or.inl ⟨rfl, hc, hs⟩)
    · refine w_handle X ht [(0, 10, 13, 28)] (0, 10, 17, 13) [] rfl (fun z hz => by simp only [List.mem_cons, List.not_mem_nil, or_false] at hz; rcases hz with rfl <;> first | exact ⟨by decide, _, gw_573, by decide⟩) (by decide) (by decide) gw_435 to_443 hW1 hS1 hl1 hq1 hq2 hq3 ?_
      refine r_astoreQ (pc' := 19) (lc' := [(0, vR G (28, 0)), (1, vI i), (2, vI n), (3, vR G (30, 0))]) X [1, 2, 3, 4] dL_shave_17 (by decide) rfl rfl ?_
      refine r_iconst (pc' := 20) X dL_shave_19 rfl ?_
      refine w_iret X hr dL_shave_20 ?_
      exact Or.inr (Or.inr (⟨rfl, hc, hs⟩))
  · refine r_i2lw (pc' := 9) X dL_shave_8 rfl ?_
    refine r_last (i := 0) (pc' := 10) X k30_0 (by omega) (by omega) (by decide) dL_shave_9 rfl (fun M9 h9 => ?_)
    refine r_goto (tgt := 21) X dL_shave_10 rfl ?_
    refine r_iconst (pc' := 22) X dL_shave_21 rfl ?_
    refine w_iret X hr dL_shave_22 ?_
    exact Or.inl ⟨rfl, vv, M2, hv, h9⟩
theorem cf_L_setGain : wCalH yL_setGain cL_setGain 6 (some .int) [(0, 12, 15, 28), (0, 12, 19, 13)] 5 := ⟨gw_757, gw_0, by decide, by decide, by rfl⟩
set_option maxRecDepth 100000 in
set_option maxHeartbeats 4000000 in
theorem c_L_setGain (l : Launch) (G : wG) (M : wM) (hfl : l.stackTraces = false) (N P : Nat) (T : Int) (hck : COk M N P T) (hT6 : T ≤ 1000000) (nx ct : Nat) (hnx : M 26 0 1 = (nx : Int)) (hnx14 : nx < 14) (hct : M 26 0 2 = (ct : Int)) (hct14 : ct ≤ 14) (i k v : Int) (hi : rI i) (hk : rI k) (hv : rI v) : Met l yL_setGain (gwsH yL_setGain cL_setGain 6 (some .int) [(0, 12, 15, 28), (0, 12, 19, 13)]) (wrm 7 1 6) (wPc G M [vR G (28, 0), vI i, vI k, vI v, vR G (30, 0)]) (wQi G (fun z M1 => (z = 0 ∧ ∃ (vv : Int) (Mz : wM), ((((0 ≤ i ∧ i < N) ∧ 0 ≤ k ∧ k < P) ∧ -99 ≤ v ∧ v ≤ 99) ∧ Mz 0 = setV (M 0) (6 + i.toNat) k.toNat v ∧ vv = M 0 (6 + i.toNat) k.toNat ∧ Noted M Mz nx ct) ∧ M1 = wu Mz 30 0 0 (iw vv)) ∨ (z = 1 ∧ (¬ ((0 ≤ i ∧ i < N) ∧ 0 ≤ k ∧ k < P)) ∧ ScrEq M M1) ∨ (z = 2 ∧ (((0 ≤ i ∧ i < N) ∧ 0 ≤ k ∧ k < P) ∧ ¬ (-99 ≤ v ∧ v ≤ 99)) ∧ ScrEq M M1))) 1 6 (wA G) := by
  refine wMetH (lc := [(0, vR G (28, 0)), (1, vI i), (2, vI k), (3, vI v), (4, vR G (30, 0))]) (by decide) (Nat.le_of_ble_eq_true rfl) rfl ?_
  intro p e s m args below meth c X hr ht
  have X : wX p s m args meth c G 6 "StateObserverLaw" cL_setGain := X
  refine r_aload (pc' := 2) X 4 dL_setGain_0 rfl rfl ?_
  refine r_iconst (pc' := 3) X dL_setGain_2 rfl ?_
  refine r_aload_n (pc' := 4) X 0 dL_setGain_3 rfl rfl rfl ?_
  refine r_iload_n (pc' := 5) X 1 dL_setGain_4 rfl rfl rfl ?_
  refine r_iload_n (pc' := 6) X 2 dL_setGain_5 rfl rfl rfl ?_
  refine r_iload_n (pc' := 7) X 3 dL_setGain_6 rfl rfl rfl ?_
  refine w_callxi (pc' := 10) (st := [vI 0, vR G (30, 0)]) (w_runVX X (c_X8_setGain l G M hfl N P T hck hT6 nx ct hnx hnx14 hct hct14 i k v hi hk hv) cf_X8_setGain k28_0 rfl gw_759 gw_760 rfl rfl ⟨Nat.le_of_ble_eq_true rfl, Nat.le_of_ble_eq_true rfl⟩ rfl rfl (Nat.le_of_ble_eq_true rfl) ⟨Nat.le_of_ble_eq_true rfl, Nat.le_of_ble_eq_true rfl⟩ gw_758 dL_setGain_7) rfl (fun E M2 hE H1 locs1 ls ce q9 hW1 hS1 hl1 hq1 hq2 hq3 => ?_) (fun vv M2 hv => ?_)
  · rcases hE with ⟨⟨rfl, hc⟩ | ⟨rfl, hc⟩, hs⟩
    · refine w_handle X ht [] (0, 12, 15, 28) [(0, 12, 19, 13)] rfl (fun z hz => absurd hz List.not_mem_nil) (by decide) (by decide) gw_573 to_589 hW1 hS1 hl1 hq1 hq2 hq3 ?_
      refine r_astoreQ (pc' := 17) (lc' := [(0, vR G (28, 0)), (1, vI i), (2, vI k), (3, vI v), (4, vR G (30, 0))]) X [1, 2, 3, 4, 5] dL_setGain_15 (by decide) rfl rfl ?_
      refine r_iconst (pc' := 18) X dL_setGain_17 rfl ?_
      refine w_iret X hr dL_setGain_18 ?_
      exact Or.inr (Or.inl ⟨rfl, hc, hs⟩)
    · refine w_handle X ht [(0, 12, 15, 28)] (0, 12, 19, 13) [] rfl (fun z hz => by simp only [List.mem_cons, List.not_mem_nil, or_false] at hz; rcases hz with rfl <;> first | exact ⟨by decide, _, gw_573, by decide⟩) (by decide) (by decide) gw_435 to_443 hW1 hS1 hl1 hq1 hq2 hq3 ?_
      refine r_astoreQ (pc' := 21) (lc' := [(0, vR G (28, 0)), (1, vI i), (2, vI k), (3, vI v), (4, vR G (30, 0))]) X [1, 2, 3, 4, 5] dL_setGain_19 (by decide) rfl rfl ?_
      refine r_iconst (pc' := 22) X dL_setGain_21 rfl ?_
      refine w_iret X hr dL_setGain_22 ?_
      exact Or.inr (Or.inr (⟨rfl, hc, hs⟩))
  · refine r_i2lw (pc' := 11) X dL_setGain_10 rfl ?_
    refine r_last (i := 0) (pc' := 12) X k30_0 (by omega) (by omega) (by decide) dL_setGain_11 rfl (fun M9 h9 => ?_)
    refine r_goto (tgt := 23) X dL_setGain_12 rfl ?_
    refine r_iconst (pc' := 24) X dL_setGain_23 rfl ?_
    refine w_iret X hr dL_setGain_24 ?_
    exact Or.inl ⟨rfl, vv, M2, hv, h9⟩
theorem cf_L_setHold : wCalH yL_setHold cL_setHold 4 (some .int) [(0, 9, 12, 13)] 3 := ⟨gw_766, gw_0, by decide, by decide, by rfl⟩
set_option maxRecDepth 100000 in
set_option maxHeartbeats 4000000 in
theorem c_L_setHold (l : Launch) (G : wG) (M : wM) (hfl : l.stackTraces = false) (N P : Nat) (T : Int) (hck : COk M N P T) (hT6 : T ≤ 1000000) (nx ct : Nat) (hnx : M 26 0 1 = (nx : Int)) (hnx14 : nx < 14) (hct : M 26 0 2 = (ct : Int)) (hct14 : ct ≤ 14) (v : Int) (hv : rI v) : Met l yL_setHold (gwsH yL_setHold cL_setHold 4 (some .int) [(0, 9, 12, 13)]) (wrm 7 1 6) (wPc G M [vR G (28, 0), vI v, vR G (30, 0)]) (wQi G (fun z M1 => (z = 0 ∧ ∃ (vv : Int) (Mz : wM), ((0 ≤ v ∧ v ≤ 9) ∧ Mz 0 = setV (M 0) 0 7 v ∧ vv = M 0 0 7 ∧ Noted M Mz nx ct) ∧ M1 = wu Mz 30 0 0 (iw vv)) ∨ (z = 1 ∧ (¬ (0 ≤ v ∧ v ≤ 9)) ∧ ScrEq M M1))) 1 6 (wA G) := by
  refine wMetH (lc := [(0, vR G (28, 0)), (1, vI v), (2, vR G (30, 0))]) (by decide) (Nat.le_of_ble_eq_true rfl) rfl ?_
  intro p e s m args below meth c X hr ht
  have X : wX p s m args meth c G 4 "StateObserverLaw" cL_setHold := X
  refine r_aload_n (pc' := 1) X 2 dL_setHold_0 rfl rfl rfl ?_
  refine r_iconst (pc' := 2) X dL_setHold_1 rfl ?_
  refine r_aload_n (pc' := 3) X 0 dL_setHold_2 rfl rfl rfl ?_
  refine r_iload_n (pc' := 4) X 1 dL_setHold_3 rfl rfl rfl ?_
  refine w_callxi (pc' := 7) (st := [vI 0, vR G (30, 0)]) (w_runVX X (c_X8_setHold l G M hfl N P T hck hT6 nx ct hnx hnx14 hct hct14 v hv) cf_X8_setHold k28_0 rfl gw_768 gw_769 rfl rfl ⟨Nat.le_of_ble_eq_true rfl, Nat.le_of_ble_eq_true rfl⟩ rfl rfl (Nat.le_of_ble_eq_true rfl) ⟨Nat.le_of_ble_eq_true rfl, Nat.le_of_ble_eq_true rfl⟩ gw_767 dL_setHold_4) rfl (fun E M2 hE H1 locs1 ls ce q9 hW1 hS1 hl1 hq1 hq2 hq3 => ?_) (fun vv M2 hv => ?_)
  · rcases hE with ⟨⟨rfl, hc⟩, hs⟩
    · refine w_handle X ht [] (0, 9, 12, 13) [] rfl (fun z hz => absurd hz List.not_mem_nil) (by decide) (by decide) gw_435 to_443 hW1 hS1 hl1 hq1 hq2 hq3 ?_
      refine r_astoreQ_n (pc' := 13) (lc' := [(0, vR G (28, 0)), (1, vI v), (2, vR G (30, 0))]) X [1, 2, 3] dL_setHold_12 rfl (by decide) rfl rfl ?_
      refine r_iconst (pc' := 14) X dL_setHold_13 rfl ?_
      refine w_iret X hr dL_setHold_14 ?_
      exact Or.inr (⟨rfl, hc, hs⟩)
  · refine r_i2lw (pc' := 8) X dL_setHold_7 rfl ?_
    refine r_last (i := 0) (pc' := 9) X k30_0 (by omega) (by omega) (by decide) dL_setHold_8 rfl (fun M9 h9 => ?_)
    refine r_goto (tgt := 15) X dL_setHold_9 rfl ?_
    refine r_iconst (pc' := 16) X dL_setHold_15 rfl ?_
    refine w_iret X hr dL_setHold_16 ?_
    exact Or.inl ⟨rfl, vv, M2, hv, h9⟩
theorem cf_L_setBound : wCalH yL_setBound cL_setBound 4 (some .int) [(0, 9, 12, 13)] 3 := ⟨gw_774, gw_0, by decide, by decide, by rfl⟩
set_option maxRecDepth 100000 in
set_option maxHeartbeats 4000000 in
theorem c_L_setBound (l : Launch) (G : wG) (M : wM) (hfl : l.stackTraces = false) (N P : Nat) (T : Int) (hck : COk M N P T) (hT6 : T ≤ 1000000) (nx ct : Nat) (hnx : M 26 0 1 = (nx : Int)) (hnx14 : nx < 14) (hct : M 26 0 2 = (ct : Int)) (hct14 : ct ≤ 14) (v : Int) (hv : rI v) : Met l yL_setBound (gwsH yL_setBound cL_setBound 4 (some .int) [(0, 9, 12, 13)]) (wrm 7 1 6) (wPc G M [vR G (28, 0), vI v, vR G (30, 0)]) (wQi G (fun z M1 => (z = 0 ∧ ∃ (vv : Int) (Mz : wM), ((0 ≤ v ∧ v ≤ 99) ∧ Mz 0 = setV (M 0) 0 8 v ∧ vv = M 0 0 8 ∧ Noted M Mz nx ct) ∧ M1 = wu Mz 30 0 0 (iw vv)) ∨ (z = 1 ∧ (¬ (0 ≤ v ∧ v ≤ 99)) ∧ ScrEq M M1))) 1 6 (wA G) := by
  refine wMetH (lc := [(0, vR G (28, 0)), (1, vI v), (2, vR G (30, 0))]) (by decide) (Nat.le_of_ble_eq_true rfl) rfl ?_
  intro p e s m args below meth c X hr ht
  have X : wX p s m args meth c G 4 "StateObserverLaw" cL_setBound := X
  refine r_aload_n (pc' := 1) X 2 dL_setBound_0 rfl rfl rfl ?_
  refine r_iconst (pc' := 2) X dL_setBound_1 rfl ?_
  refine r_aload_n (pc' := 3) X 0 dL_setBound_2 rfl rfl rfl ?_
  refine r_iload_n (pc' := 4) X 1 dL_setBound_3 rfl rfl rfl ?_
  refine w_callxi (pc' := 7) (st := [vI 0, vR G (30, 0)]) (w_runVX X (c_X8_setBound l G M hfl N P T hck hT6 nx ct hnx hnx14 hct hct14 v hv) cf_X8_setBound k28_0 rfl gw_776 gw_777 rfl rfl ⟨Nat.le_of_ble_eq_true rfl, Nat.le_of_ble_eq_true rfl⟩ rfl rfl (Nat.le_of_ble_eq_true rfl) ⟨Nat.le_of_ble_eq_true rfl, Nat.le_of_ble_eq_true rfl⟩ gw_775 dL_setBound_4) rfl (fun E M2 hE H1 locs1 ls ce q9 hW1 hS1 hl1 hq1 hq2 hq3 => ?_) (fun vv M2 hv => ?_)
  · rcases hE with ⟨⟨rfl, hc⟩, hs⟩
    · refine w_handle X ht [] (0, 9, 12, 13) [] rfl (fun z hz => absurd hz List.not_mem_nil) (by decide) (by decide) gw_435 to_443 hW1 hS1 hl1 hq1 hq2 hq3 ?_
      refine r_astoreQ_n (pc' := 13) (lc' := [(0, vR G (28, 0)), (1, vI v), (2, vR G (30, 0))]) X [1, 2, 3] dL_setBound_12 rfl (by decide) rfl rfl ?_
      refine r_iconst (pc' := 14) X dL_setBound_13 rfl ?_
      refine w_iret X hr dL_setBound_14 ?_
      exact Or.inr (⟨rfl, hc, hs⟩)
  · refine r_i2lw (pc' := 8) X dL_setBound_7 rfl ?_
    refine r_last (i := 0) (pc' := 9) X k30_0 (by omega) (by omega) (by decide) dL_setBound_8 rfl (fun M9 h9 => ?_)
    refine r_goto (tgt := 15) X dL_setBound_9 rfl ?_
    refine r_iconst (pc' := 16) X dL_setBound_15 rfl ?_
    refine w_iret X hr dL_setBound_16 ?_
    exact Or.inl ⟨rfl, vv, M2, hv, h9⟩
theorem cf_L_undo : wCalH yL_undo cL_undo 3 (some .int) [(0, 8, 11, 15)] 2 := ⟨gw_782, gw_0, by decide, by decide, by rfl⟩
set_option maxRecDepth 100000 in
set_option maxHeartbeats 4000000 in
theorem c_L_undo (l : Launch) (G : wG) (M : wM) (hfl : l.stackTraces = false) (N P : Nat) (T : Int) (hck : COk M N P T) (hT6 : T ≤ 1000000) (nx ct : Nat) (hnx : M 26 0 1 = (nx : Int)) (hnx14 : nx < 14) (hct : M 26 0 2 = (ct : Int)) (hct14 : ct ≤ 14) : Met l yL_undo (gwsH yL_undo cL_undo 3 (some .int) [(0, 8, 11, 15)]) (wrm 7 1 6) (wPc G M [vR G (28, 0), vR G (30, 0)]) (wQi G (fun z M1 => (z = 0 ∧ ∃ (vv : Int) (Mz : wM), (1 ≤ ct ∧ vv = (ct : Int) - 1 ∧ Mz 0 = M (5 + (nx + 13) % 14) ∧ Mz 26 0 1 = ((((nx + 13) % 14) : Nat) : Int) ∧ Mz 26 0 2 = (ct : Int) - 1 ∧ ∀ a, a ≠ 0 → a ≠ 26 → Mz a = M a) ∧ M1 = wu Mz 30 0 0 (iw vv)) ∨ (z = 1 ∧ (ct = 0) ∧ ScrEq M M1))) 1 6 (wA G) := by
  refine wMetH (lc := [(0, vR G (28, 0)), (1, vR G (30, 0))]) (by decide) (Nat.le_of_ble_eq_true rfl) rfl ?_
  intro p e s m args below meth c X hr ht
  have X : wX p s m args meth c G 3 "StateObserverLaw" cL_undo := X
  refine r_aload_n (pc' := 1) X 1 dL_undo_0 rfl rfl rfl ?_
  refine r_iconst (pc' := 2) X dL_undo_1 rfl ?_
  refine r_aload_n (pc' := 3) X 0 dL_undo_2 rfl rfl rfl ?_
  refine w_callxi (pc' := 6) (st := [vI 0, vR G (30, 0)]) (w_runVX X (c_X8_undo l G M hfl N P T hck hT6 nx ct hnx hnx14 hct hct14) cf_X8_undo k28_0 rfl gw_784 gw_785 rfl rfl ⟨Nat.le_of_ble_eq_true rfl, Nat.le_of_ble_eq_true rfl⟩ rfl rfl (Nat.le_of_ble_eq_true rfl) ⟨Nat.le_of_ble_eq_true rfl, Nat.le_of_ble_eq_true rfl⟩ gw_783 dL_undo_3) rfl (fun E M2 hE H1 locs1 ls ce q9 hW1 hS1 hl1 hq1 hq2 hq3 => ?_) (fun vv M2 hv => ?_)
  · rcases hE with ⟨⟨rfl, hc⟩, hs⟩
    · refine w_handle X ht [] (0, 8, 11, 15) [] rfl (fun z hz => absurd hz List.not_mem_nil) (by decide) (by decide) gw_436 to_511 hW1 hS1 hl1 hq1 hq2 hq3 ?_
      refine r_astoreQ_n (pc' := 12) (lc' := [(0, vR G (28, 0)), (1, vR G (30, 0))]) X [1, 2] dL_undo_11 rfl (by decide) rfl rfl ?_
      refine r_iconst (pc' := 13) X dL_undo_12 rfl ?_
      refine w_iret X hr dL_undo_13 ?_
      exact Or.inr (⟨rfl, hc, hs⟩)
  · refine r_i2lw (pc' := 7) X dL_undo_6 rfl ?_
    refine r_last (i := 0) (pc' := 8) X k30_0 (by omega) (by omega) (by decide) dL_undo_7 rfl (fun M9 h9 => ?_)
    refine r_goto (tgt := 14) X dL_undo_8 rfl ?_
    refine r_iconst (pc' := 15) X dL_undo_14 rfl ?_
    refine w_iret X hr dL_undo_15 ?_
    exact Or.inl ⟨rfl, vv, M2, hv, h9⟩
theorem cf_L_canBe : wCalH yL_canBe cL_canBe 7 (some .int) [(0, 21, 24, 13)] 6 := ⟨gw_794, gw_0, by decide, by decide, by rfl⟩
set_option maxRecDepth 100000 in
set_option maxHeartbeats 4000000 in
theorem c_L_canBe (l : Launch) (G : wG) (M : wM) (hfl : l.stackTraces = false) (N P : Nat) (T : Int) (hck : COk M N P T) (hT6 : T ≤ 1000000) (a b c0 d : Int) (ha : rI a) (hb : rI b) (hc : rI c0) (hd : rI d) : Met l yL_canBe (gwsH yL_canBe cL_canBe 7 (some .int) [(0, 21, 24, 13)]) (wrm 7 1 6) (wPc G M [vR G (28, 0), vI a, vI b, vI c0, vI d, vR G (30, 0)]) (wQi G (fun z M1 => (z = 0 ∧ ∃ (vv : Int) (Mz : wM), ((∀ i, N ≤ i → i < 4 → (row4 (M 28 1) a b c0 d) i = 0) ∧ (vv = 0 ∨ vv = 1) ∧ (vv = 1 ↔ (∀ i, i < N → M 0 2 i ≤ (row4 (M 28 1) a b c0 d) i ∧ (row4 (M 28 1) a b c0 d) i ≤ M 0 3 i) ∧ meets N P (M 19) (row4 (M 28 1) a b c0 d) (M 0 10) (M 0 11)) ∧ ScrEq M Mz) ∧ M1 = wu Mz 30 0 0 vv) ∨ (z = 1 ∧ (¬ ∀ i, N ≤ i → i < 4 → (row4 (M 28 1) a b c0 d) i = 0) ∧ ScrEq M M1))) 1 6 (wA G) := by
  refine wMetH (lc := [(0, vR G (28, 0)), (1, vI a), (2, vI b), (3, vI c0), (4, vI d), (5, vR G (30, 0))]) (by decide) (Nat.le_of_ble_eq_true rfl) rfl ?_
  intro p e s m args below meth c X hr ht
  have X : wX p s m args meth c G 7 "StateObserverLaw" cL_canBe := X
  refine r_aload (pc' := 2) X 5 dL_canBe_0 rfl rfl ?_
  refine r_iconst (pc' := 3) X dL_canBe_2 rfl ?_
  refine r_aload_n (pc' := 4) X 0 dL_canBe_3 rfl rfl rfl ?_
  refine r_iload_n (pc' := 5) X 1 dL_canBe_4 rfl rfl rfl ?_
  refine r_iload_n (pc' := 6) X 2 dL_canBe_5 rfl rfl rfl ?_
  refine r_iload_n (pc' := 7) X 3 dL_canBe_6 rfl rfl rfl ?_
  refine r_iload (pc' := 9) X 4 dL_canBe_7 rfl rfl ?_
  refine w_callxi (pc' := 12) (st := [vI 0, vR G (30, 0)]) (w_runVX X (c_X8_canBe l G M hfl N P T hck hT6 a b c0 d ha hb hc hd) cf_X8_canBe k28_0 rfl gw_796 gw_797 rfl rfl ⟨Nat.le_of_ble_eq_true rfl, Nat.le_of_ble_eq_true rfl⟩ rfl rfl (Nat.le_of_ble_eq_true rfl) ⟨Nat.le_of_ble_eq_true rfl, Nat.le_of_ble_eq_true rfl⟩ gw_795 dL_canBe_9) rfl (fun E M2 hE H1 locs1 ls ce q9 hW1 hS1 hl1 hq1 hq2 hq3 => ?_) (fun vv M2 hv => ?_)
  · rcases hE with ⟨⟨rfl, hc⟩, hs⟩
    · refine w_handle X ht [] (0, 21, 24, 13) [] rfl (fun z hz => absurd hz List.not_mem_nil) (by decide) (by decide) gw_435 to_443 hW1 hS1 hl1 hq1 hq2 hq3 ?_
      refine r_astoreQ (pc' := 26) (lc' := [(0, vR G (28, 0)), (1, vI a), (2, vI b), (3, vI c0), (4, vI d), (5, vR G (30, 0))]) X [1, 2, 3, 4, 5, 6] dL_canBe_24 (by decide) rfl rfl ?_
      refine r_iconst (pc' := 27) X dL_canBe_26 rfl ?_
      refine w_iret X hr dL_canBe_27 ?_
      exact Or.inr (⟨rfl, hc, hs⟩)
  · have hz01 : vv = 0 ∨ vv = 1 := by first | exact hv.1 | exact hv.2.1
    refine r_if_eq (pc' := 15) (tgt := 19) X dL_canBe_12 rfl rfl (by omega) (fun hb => ?_) (fun hb => ?_)
    · refine r_lconst (pc' := 20) (z := 0) X dL_canBe_19 rfl rfl ?_
      refine r_last (i := 0) (pc' := 21) X k30_0 (by omega) (by omega) (by decide) dL_canBe_20 rfl (fun M9 h9 => ?_)
      refine r_goto (tgt := 28) X dL_canBe_21 rfl ?_
      refine r_iconst (pc' := 29) X dL_canBe_28 rfl ?_
      refine w_iret X hr dL_canBe_29 ?_
      exact Or.inl ⟨rfl, vv, M2, hv, by rw [h9, show vv = 0 by omega]⟩
    · refine r_lconst (pc' := 16) (z := 1) X dL_canBe_15 rfl rfl ?_
      refine r_goto (tgt := 20) X dL_canBe_16 rfl ?_
      refine r_last (i := 0) (pc' := 21) X k30_0 (by omega) (by omega) (by decide) dL_canBe_20 rfl (fun M9 h9 => ?_)
      refine r_goto (tgt := 28) X dL_canBe_21 rfl ?_
      refine r_iconst (pc' := 29) X dL_canBe_28 rfl ?_
      refine w_iret X hr dL_canBe_29 ?_
      exact Or.inl ⟨rfl, vv, M2, hv, by rw [h9, show vv = 1 by omega]⟩
theorem cf_L_widthIf : wCalH yL_widthIf cL_widthIf 5 (some .int) [(0, 10, 13, 28), (0, 10, 17, 13)] 4 := ⟨gw_802, gw_0, by decide, by decide, by rfl⟩
set_option maxRecDepth 100000 in
set_option maxHeartbeats 4000000 in
theorem c_L_widthIf (l : Launch) (G : wG) (M : wM) (hfl : l.stackTraces = false) (N P : Nat) (T : Int) (hck : COk M N P T) (hT6 : T ≤ 1000000) (hT0 : 0 ≤ T) (k y : Int) (hk : rI k) (hy : rI y) : Met l yL_widthIf (gwsH yL_widthIf cL_widthIf 5 (some .int) [(0, 10, 13, 28), (0, 10, 17, 13)]) (wrm 7 1 6) (wPc G M [vR G (28, 0), vI k, vI y, vR G (30, 0)]) (wQi G (fun z M1 => (z = 0 ∧ ∃ (vv : Int) (Mz : wM), (((0 ≤ k ∧ k < P) ∧ -1000000 ≤ y ∧ y ≤ 1000000) ∧ vv = (if (tight N P (M 19) (up1 (M 0 10) k.toNat y) (up1 (M 0 11) k.toNat 0) 100 (M 0 2) (M 0 3)).1 = 2 then -9 else wid N (tight N P (M 19) (up1 (M 0 10) k.toNat y) (up1 (M 0 11) k.toNat 0) 100 (M 0 2) (M 0 3)).2.1 (tight N P (M 19) (up1 (M 0 10) k.toNat y) (up1 (M 0 11) k.toNat 0) 100 (M 0 2) (M 0 3)).2.2) ∧ ScrEq M Mz) ∧ M1 = wu Mz 30 0 0 (iw vv)) ∨ (z = 1 ∧ (¬ (0 ≤ k ∧ k < P)) ∧ ScrEq M M1) ∨ (z = 2 ∧ ((0 ≤ k ∧ k < P) ∧ ¬ (-1000000 ≤ y ∧ y ≤ 1000000)) ∧ ScrEq M M1))) 1 6 (wA G) := by
  refine wMetH (lc := [(0, vR G (28, 0)), (1, vI k), (2, vI y), (3, vR G (30, 0))]) (by decide) (Nat.le_of_ble_eq_true rfl) rfl ?_
  intro p e s m args below meth c X hr ht
  have X : wX p s m args meth c G 5 "StateObserverLaw" cL_widthIf := X
  refine r_aload_n (pc' := 1) X 3 dL_widthIf_0 rfl rfl rfl ?_
  refine r_iconst (pc' := 2) X dL_widthIf_1 rfl ?_
  refine r_aload_n (pc' := 3) X 0 dL_widthIf_2 rfl rfl rfl ?_
  refine r_iload_n (pc' := 4) X 1 dL_widthIf_3 rfl rfl rfl ?_
  refine r_iload_n (pc' := 5) X 2 dL_widthIf_4 rfl rfl rfl ?_
  refine w_callxi (pc' := 8) (st := [vI 0, vR G (30, 0)]) (w_runVX X (c_X8_widthIf l G M hfl N P T hck hT6 hT0 k y hk hy) cf_X8_widthIf k28_0 rfl gw_804 gw_805 rfl rfl ⟨Nat.le_of_ble_eq_true rfl, Nat.le_of_ble_eq_true rfl⟩ rfl rfl (Nat.le_of_ble_eq_true rfl) ⟨Nat.le_of_ble_eq_true rfl, Nat.le_of_ble_eq_true rfl⟩ gw_803 dL_widthIf_5) rfl (fun E M2 hE H1 locs1 ls ce q9 hW1 hS1 hl1 hq1 hq2 hq3 => ?_) (fun vv M2 hv => ?_)
  · rcases hE with ⟨⟨rfl, hc⟩ | ⟨rfl, hc⟩, hs⟩
    · refine w_handle X ht [] (0, 10, 13, 28) [(0, 10, 17, 13)] rfl (fun z hz => absurd hz List.not_mem_nil) (by decide) (by decide) gw_573 to_589 hW1 hS1 hl1 hq1 hq2 hq3 ?_
      refine r_astoreQ (pc' := 15) (lc' := [(0, vR G (28, 0)), (1, vI k), (2, vI y), (3, vR G (30, 0))]) X [1, 2, 3, 4] dL_widthIf_13 (by decide) rfl rfl ?_
      refine r_iconst (pc' := 16) X dL_widthIf_15 rfl ?_
      refine w_iret X hr dL_widthIf_16 ?_
      exact Or.inr (Or.inl ⟨rfl, hc, hs⟩)
    · refine w_handle X ht [(0, 10, 13, 28)] (0, 10, 17, 13) [] rfl (fun z hz => by simp only [List.mem_cons, List.not_mem_nil, or_false] at hz; rcases hz with rfl <;> first | exact ⟨by decide, _, gw_573, by decide⟩) (by decide) (by decide) gw_435 to_443 hW1 hS1 hl1 hq1 hq2 hq3 ?_
      refine r_astoreQ (pc' := 19) (lc' := [(0, vR G (28, 0)), (1, vI k), (2, vI y), (3, vR G (30, 0))]) X [1, 2, 3, 4] dL_widthIf_17 (by decide) rfl rfl ?_
      refine r_iconst (pc' := 20) X dL_widthIf_19 rfl ?_
      refine w_iret X hr dL_widthIf_20 ?_
      exact Or.inr (Or.inr (⟨rfl, hc, hs⟩))
  · refine r_i2lw (pc' := 9) X dL_widthIf_8 rfl ?_
    refine r_last (i := 0) (pc' := 10) X k30_0 (by omega) (by omega) (by decide) dL_widthIf_9 rfl (fun M9 h9 => ?_)
    refine r_goto (tgt := 21) X dL_widthIf_10 rfl ?_
    refine r_iconst (pc' := 22) X dL_widthIf_21 rfl ?_
    refine w_iret X hr dL_widthIf_22 ?_
    exact Or.inl ⟨rfl, vv, M2, hv, h9⟩
theorem cf_L_ahead : wCalH yL_ahead cL_ahead 7 (some .int) [(0, 14, 17, 28), (0, 14, 21, 13)] 6 := ⟨gw_812, gw_0, by decide, by decide, by rfl⟩
set_option maxRecDepth 100000 in
set_option maxHeartbeats 4000000 in
theorem c_L_ahead (l : Launch) (G : wG) (M : wM) (hfl : l.stackTraces = false) (N P : Nat) (T : Int) (hck : COk M N P T) (hT6 : T ≤ 900000) (n u i b : Int) (hn : rI n) (hu : rI u) (hi : rI i) (hb : b = 0 ∨ b = 1) : Met l yL_ahead (gwsH yL_ahead cL_ahead 7 (some .int) [(0, 14, 17, 28), (0, 14, 21, 13)]) (wrm 7 1 6) (wPc G M [vR G (28, 0), vI n, vI u, vI i, vI b, vR G (30, 0)]) (wQi G (fun z M1 => (z = 0 ∧ ∃ (vv : Int) (Mz : wM), (((0 ≤ i ∧ i < N) ∧ (0 ≤ n ∧ n ≤ 60) ∧ -99 ≤ u ∧ u ≤ 99) ∧ vv = (if b = 1 then (itv N (M 19) u (M 0 0 8) (M 0 2) (M 0 3) n.toNat).2 i.toNat else (itv N (M 19) u (M 0 0 8) (M 0 2) (M 0 3) n.toNat).1 i.toNat) ∧ ScrEq M Mz) ∧ M1 = wu Mz 30 0 0 (iw vv)) ∨ (z = 1 ∧ (¬ (0 ≤ i ∧ i < N)) ∧ ScrEq M M1) ∨ (z = 2 ∧ ((0 ≤ i ∧ i < N) ∧ ¬ ((0 ≤ n ∧ n ≤ 60) ∧ -99 ≤ u ∧ u ≤ 99)) ∧ ScrEq M M1))) 1 6 (wA G) := by
  refine wMetH (lc := [(0, vR G (28, 0)), (1, vI n), (2, vI u), (3, vI i), (4, vI b), (5, vR G (30, 0))]) (by decide) (Nat.le_of_ble_eq_true rfl) rfl ?_
  intro p e s m args below meth c X hr ht
  have X : wX p s m args meth c G 7 "StateObserverLaw" cL_ahead := X
  refine r_aload (pc' := 2) X 5 dL_ahead_0 rfl rfl ?_
  refine r_iconst (pc' := 3) X dL_ahead_2 rfl ?_
  refine r_aload_n (pc' := 4) X 0 dL_ahead_3 rfl rfl rfl ?_
  refine r_iload_n (pc' := 5) X 1 dL_ahead_4 rfl rfl rfl ?_
  refine r_iload_n (pc' := 6) X 2 dL_ahead_5 rfl rfl rfl ?_
  refine r_iload_n (pc' := 7) X 3 dL_ahead_6 rfl rfl rfl ?_
  refine r_iload (pc' := 9) X 4 dL_ahead_7 rfl rfl ?_
  refine w_callxi (pc' := 12) (st := [vI 0, vR G (30, 0)]) (w_runVX X (c_X8_ahead l G M hfl N P T hck hT6 n u i b hn hu hi hb) cf_X8_ahead k28_0 rfl gw_814 gw_815 rfl rfl ⟨Nat.le_of_ble_eq_true rfl, Nat.le_of_ble_eq_true rfl⟩ rfl rfl (Nat.le_of_ble_eq_true rfl) ⟨Nat.le_of_ble_eq_true rfl, Nat.le_of_ble_eq_true rfl⟩ gw_813 dL_ahead_9) rfl (fun E M2 hE H1 locs1 ls ce q9 hW1 hS1 hl1 hq1 hq2 hq3 => ?_) (fun vv M2 hv => ?_)
  · rcases hE with ⟨⟨rfl, hc⟩ | ⟨rfl, hc⟩, hs⟩
    · refine w_handle X ht [] (0, 14, 17, 28) [(0, 14, 21, 13)] rfl (fun z hz => absurd hz List.not_mem_nil) (by decide) (by decide) gw_573 to_589 hW1 hS1 hl1 hq1 hq2 hq3 ?_
      refine r_astoreQ (pc' := 19) (lc' := [(0, vR G (28, 0)), (1, vI n), (2, vI u), (3, vI i), (4, vI b), (5, vR G (30, 0))]) X [1, 2, 3, 4, 5, 6] dL_ahead_17 (by decide) rfl rfl ?_
      refine r_iconst (pc' := 20) X dL_ahead_19 rfl ?_
      refine w_iret X hr dL_ahead_20 ?_
      exact Or.inr (Or.inl ⟨rfl, hc, hs⟩)
    · refine w_handle X ht [(0, 14, 17, 28)] (0, 14, 21, 13) [] rfl (fun z hz => by simp only [List.mem_cons, List.not_mem_nil, or_false] at hz; rcases hz with rfl <;> first | exact ⟨by decide, _, gw_573, by decide⟩) (by decide) (by decide) gw_435 to_443 hW1 hS1 hl1 hq1 hq2 hq3 ?_
      refine r_astoreQ (pc' := 23) (lc' := [(0, vR G (28, 0)), (1, vI n), (2, vI u), (3, vI i), (4, vI b), (5, vR G (30, 0))]) X [1, 2, 3, 4, 5, 6] dL_ahead_21 (by decide) rfl rfl ?_
      refine r_iconst (pc' := 24) X dL_ahead_23 rfl ?_
      refine w_iret X hr dL_ahead_24 ?_
      exact Or.inr (Or.inr (⟨rfl, hc, hs⟩))
  · refine r_i2lw (pc' := 13) X dL_ahead_12 rfl ?_
    refine r_last (i := 0) (pc' := 14) X k30_0 (by omega) (by omega) (by decide) dL_ahead_13 rfl (fun M9 h9 => ?_)
    refine r_goto (tgt := 25) X dL_ahead_14 rfl ?_
    refine r_iconst (pc' := 26) X dL_ahead_25 rfl ?_
    refine w_iret X hr dL_ahead_26 ?_
    exact Or.inl ⟨rfl, vv, M2, hv, h9⟩
theorem cf_L_earliest : wCalH yL_earliest cL_earliest 7 (some .int) [(0, 14, 17, 28), (0, 14, 21, 13)] 6 := ⟨gw_820, gw_0, by decide, by decide, by rfl⟩
set_option maxRecDepth 100000 in
set_option maxHeartbeats 4000000 in
theorem c_L_earliest (l : Launch) (G : wG) (M : wM) (hfl : l.stackTraces = false) (N P : Nat) (T : Int) (hck : COk M N P T) (hT6 : T ≤ 900000) (i v u b : Int) (hi : rI i) (hv : rI v) (hu : rI u) (hb : b = 0 ∨ b = 1) : Met l yL_earliest (gwsH yL_earliest cL_earliest 7 (some .int) [(0, 14, 17, 28), (0, 14, 21, 13)]) (wrm 7 1 6) (wPc G M [vR G (28, 0), vI i, vI v, vI u, vI b, vR G (30, 0)]) (wQi G (fun z M1 => (z = 0 ∧ ∃ (vv : Int) (Mz : wM), (((0 ≤ i ∧ i < N) ∧ -99 ≤ u ∧ u ≤ 99) ∧ ((∃ t : Nat, t ≤ 60 ∧ vv = t ∧ v ≤ (if b = 1 then (itv N (M 19) u (M 0 0 8) (M 0 2) (M 0 3) t).1 i.toNat else (itv N (M 19) u (M 0 0 8) (M 0 2) (M 0 3) t).2 i.toNat) ∧ ∀ s, s < t → (if b = 1 then (itv N (M 19) u (M 0 0 8) (M 0 2) (M 0 3) s).1 i.toNat else (itv N (M 19) u (M 0 0 8) (M 0 2) (M 0 3) s).2 i.toNat) < v) ∨ (vv = -9 ∧ ∀ s, s ≤ 60 → (if b = 1 then (itv N (M 19) u (M 0 0 8) (M 0 2) (M 0 3) s).1 i.toNat else (itv N (M 19) u (M 0 0 8) (M 0 2) (M 0 3) s).2 i.toNat) < v)) ∧ ScrEq M Mz) ∧ M1 = wu Mz 30 0 0 (iw vv)) ∨ (z = 1 ∧ (¬ (0 ≤ i ∧ i < N)) ∧ ScrEq M M1) ∨ (z = 2 ∧ ((0 ≤ i ∧ i < N) ∧ ¬ (-99 ≤ u ∧ u ≤ 99)) ∧ ScrEq M M1))) 1 6 (wA G) := by
  refine wMetH (lc := [(0, vR G (28, 0)), (1, vI i), (2, vI v), (3, vI u), (4, vI b), (5, vR G (30, 0))]) (by decide) (Nat.le_of_ble_eq_true rfl) rfl ?_
  intro p e s m args below meth c X hr ht
  have X : wX p s m args meth c G 7 "StateObserverLaw" cL_earliest := X
  refine r_aload (pc' := 2) X 5 dL_earliest_0 rfl rfl ?_
  refine r_iconst (pc' := 3) X dL_earliest_2 rfl ?_
  refine r_aload_n (pc' := 4) X 0 dL_earliest_3 rfl rfl rfl ?_
  refine r_iload_n (pc' := 5) X 1 dL_earliest_4 rfl rfl rfl ?_
  refine r_iload_n (pc' := 6) X 2 dL_earliest_5 rfl rfl rfl ?_
  refine r_iload_n (pc' := 7) X 3 dL_earliest_6 rfl rfl rfl ?_
  refine r_iload (pc' := 9) X 4 dL_earliest_7 rfl rfl ?_
  refine w_callxi (pc' := 12) (st := [vI 0, vR G (30, 0)]) (w_runVX X (c_X8_earliest l G M hfl N P T hck hT6 i v u b hi hv hu hb) cf_X8_earliest k28_0 rfl gw_822 gw_823 rfl rfl ⟨Nat.le_of_ble_eq_true rfl, Nat.le_of_ble_eq_true rfl⟩ rfl rfl (Nat.le_of_ble_eq_true rfl) ⟨Nat.le_of_ble_eq_true rfl, Nat.le_of_ble_eq_true rfl⟩ gw_821 dL_earliest_9) rfl (fun E M2 hE H1 locs1 ls ce q9 hW1 hS1 hl1 hq1 hq2 hq3 => ?_) (fun vv M2 hv => ?_)
  · rcases hE with ⟨⟨rfl, hc⟩ | ⟨rfl, hc⟩, hs⟩
    · refine w_handle X ht [] (0, 14, 17, 28) [(0, 14, 21, 13)] rfl (fun z hz => absurd hz List.not_mem_nil) (by decide) (by decide) gw_573 to_589 hW1 hS1 hl1 hq1 hq2 hq3 ?_
      refine r_astoreQ (pc' := 19) (lc' := [(0, vR G (28, 0)), (1, vI i), (2, vI v), (3, vI u), (4, vI b), (5, vR G (30, 0))]) X [1, 2, 3, 4, 5, 6] dL_earliest_17 (by decide) rfl rfl ?_
      refine r_iconst (pc' := 20) X dL_earliest_19 rfl ?_
      refine w_iret X hr dL_earliest_20 ?_
      exact Or.inr (Or.inl ⟨rfl, hc, hs⟩)
    · refine w_handle X ht [(0, 14, 17, 28)] (0, 14, 21, 13) [] rfl (fun z hz => by simp only [List.mem_cons, List.not_mem_nil, or_false] at hz; rcases hz with rfl <;> first | exact ⟨by decide, _, gw_573, by decide⟩) (by decide) (by decide) gw_435 to_443 hW1 hS1 hl1 hq1 hq2 hq3 ?_
      refine r_astoreQ (pc' := 23) (lc' := [(0, vR G (28, 0)), (1, vI i), (2, vI v), (3, vI u), (4, vI b), (5, vR G (30, 0))]) X [1, 2, 3, 4, 5, 6] dL_earliest_21 (by decide) rfl rfl ?_
      refine r_iconst (pc' := 24) X dL_earliest_23 rfl ?_
      refine w_iret X hr dL_earliest_24 ?_
      exact Or.inr (Or.inr (⟨rfl, hc, hs⟩))
  · refine r_i2lw (pc' := 13) X dL_earliest_12 rfl ?_
    refine r_last (i := 0) (pc' := 14) X k30_0 (by omega) (by omega) (by decide) dL_earliest_13 rfl (fun M9 h9 => ?_)
    refine r_goto (tgt := 25) X dL_earliest_14 rfl ?_
    refine r_iconst (pc' := 26) X dL_earliest_25 rfl ?_
    refine w_iret X hr dL_earliest_26 ?_
    exact Or.inl ⟨rfl, vv, M2, hv, h9⟩
theorem cf_L_unknown : wCalH yL_unknown cL_unknown 4 (some .int) [(0, 9, 12, 15)] 3 := ⟨gw_828, gw_0, by decide, by decide, by rfl⟩
set_option maxRecDepth 100000 in
set_option maxHeartbeats 4000000 in
theorem c_L_unknown (l : Launch) (G : wG) (M : wM) (hfl : l.stackTraces = false) (N P : Nat) (T : Int) (hck : COk M N P T) (hT6 : T ≤ 1000000) (b : Int) (hb : b = 0 ∨ b = 1) : Met l yL_unknown (gwsH yL_unknown cL_unknown 4 (some .int) [(0, 9, 12, 15)]) (wrm 7 1 6) (wPc G M [vR G (28, 0), vI b, vR G (30, 0)]) (wQi G (fun z M1 => (z = 0 ∧ ∃ (vv : Int) (Mz : wM), (M 0 0 9 ≠ 0 ∧ expl N (M 19) (M 0) vv ∧ (-(M 0 0 11) ≤ vv ∧ vv ≤ M 0 0 11) ∧ (∀ d, -(M 0 0 11) ≤ d → d ≤ M 0 0 11 → expl N (M 19) (M 0) d → if b = 1 then d ≤ vv else vv ≤ d) ∧ Mz = M) ∧ M1 = wu Mz 30 0 0 (iw vv)) ∨ (z = 1 ∧ ((M 0 0 9 = 0 ∨ ∀ d, -(M 0 0 11) ≤ d → d ≤ M 0 0 11 → ¬ expl N (M 19) (M 0) d) ∧ ScrEq M M1)))) 1 6 (wA G) := by
  refine wMetH (lc := [(0, vR G (28, 0)), (1, vI b), (2, vR G (30, 0))]) (by decide) (Nat.le_of_ble_eq_true rfl) rfl ?_
  intro p e s m args below meth c X hr ht
  have X : wX p s m args meth c G 4 "StateObserverLaw" cL_unknown := X
  refine r_aload_n (pc' := 1) X 2 dL_unknown_0 rfl rfl rfl ?_
  refine r_iconst (pc' := 2) X dL_unknown_1 rfl ?_
  refine r_aload_n (pc' := 3) X 0 dL_unknown_2 rfl rfl rfl ?_
  refine r_iload_n (pc' := 4) X 1 dL_unknown_3 rfl rfl rfl ?_
  refine w_callxi (pc' := 7) (st := [vI 0, vR G (30, 0)]) (w_runVX X (c_X8_unknown l G M hfl N P T hck hT6 b hb) cf_X8_unknown k28_0 rfl gw_830 gw_831 rfl rfl ⟨Nat.le_of_ble_eq_true rfl, Nat.le_of_ble_eq_true rfl⟩ rfl rfl (Nat.le_of_ble_eq_true rfl) ⟨Nat.le_of_ble_eq_true rfl, Nat.le_of_ble_eq_true rfl⟩ gw_829 dL_unknown_4) rfl (fun E M2 hE H1 locs1 ls ce q9 hW1 hS1 hl1 hq1 hq2 hq3 => ?_) (fun vv M2 hv => ?_)
  · rcases hE with ⟨rfl, hc⟩
    · refine w_handle X ht [] (0, 9, 12, 15) [] rfl (fun z hz => absurd hz List.not_mem_nil) (by decide) (by decide) gw_436 to_511 hW1 hS1 hl1 hq1 hq2 hq3 ?_
      refine r_astoreQ_n (pc' := 13) (lc' := [(0, vR G (28, 0)), (1, vI b), (2, vR G (30, 0))]) X [1, 2, 3] dL_unknown_12 rfl (by decide) rfl rfl ?_
      refine r_iconst (pc' := 14) X dL_unknown_13 rfl ?_
      refine w_iret X hr dL_unknown_14 ?_
      exact Or.inr (⟨rfl, hc⟩)
  · refine r_i2lw (pc' := 8) X dL_unknown_7 rfl ?_
    refine r_last (i := 0) (pc' := 9) X k30_0 (by omega) (by omega) (by decide) dL_unknown_8 rfl (fun M9 h9 => ?_)
    refine r_goto (tgt := 15) X dL_unknown_9 rfl ?_
    refine r_iconst (pc' := 16) X dL_unknown_15 rfl ?_
    refine w_iret X hr dL_unknown_16 ?_
    exact Or.inl ⟨rfl, vv, M2, hv, h9⟩
theorem cf_L_rankAfter : wCalH yL_rankAfter cL_rankAfter 4 (some .int) [(0, 9, 12, 13)] 3 := ⟨gw_843, gw_0, by decide, by decide, by rfl⟩
set_option maxRecDepth 100000 in
set_option maxHeartbeats 4000000 in
theorem c_L_rankAfter (l : Launch) (G : wG) (M : wM) (hfl : l.stackTraces = false) (N P : Nat) (T : Int) (hck : COk M N P T) (hT6 : T ≤ 1000000) (n : Int) (hn : rI n) : Met l yL_rankAfter (gwsH yL_rankAfter cL_rankAfter 4 (some .int) [(0, 9, 12, 13)]) (wrm 7 1 6) (wPc G M [vR G (28, 0), vI n, vR G (30, 0)]) (wQi G (fun z M1 => (z = 0 ∧ ∃ (vv : Int) (Mz : wM), ((1 ≤ n ∧ n ≤ 8) ∧ (∃ k' : Nat, vv = (k' : Int) ∧ k' ≤ N ∧ RankOf N (Sp N (Gp N P (M 19) n.toNat)) k') ∧ ScrEq M Mz) ∧ M1 = wu Mz 30 0 0 (iw vv)) ∨ (z = 1 ∧ (¬ (1 ≤ n ∧ n ≤ 8)) ∧ ScrEq M M1))) 1 6 (wA G) := by
  refine wMetH (lc := [(0, vR G (28, 0)), (1, vI n), (2, vR G (30, 0))]) (by decide) (Nat.le_of_ble_eq_true rfl) rfl ?_
  intro p e s m args below meth c X hr ht
  have X : wX p s m args meth c G 4 "StateObserverLaw" cL_rankAfter := X
  refine r_aload_n (pc' := 1) X 2 dL_rankAfter_0 rfl rfl rfl ?_
  refine r_iconst (pc' := 2) X dL_rankAfter_1 rfl ?_
  refine r_aload_n (pc' := 3) X 0 dL_rankAfter_2 rfl rfl rfl ?_
  refine r_iload_n (pc' := 4) X 1 dL_rankAfter_3 rfl rfl rfl ?_
  refine w_callxi (pc' := 7) (st := [vI 0, vR G (30, 0)]) (w_runVX X (c_X8_rankAfter l G M hfl N P T hck hT6 n hn) cf_X8_rankAfter k28_0 rfl gw_845 gw_846 rfl rfl ⟨Nat.le_of_ble_eq_true rfl, Nat.le_of_ble_eq_true rfl⟩ rfl rfl (Nat.le_of_ble_eq_true rfl) ⟨Nat.le_of_ble_eq_true rfl, Nat.le_of_ble_eq_true rfl⟩ gw_844 dL_rankAfter_4) rfl (fun E M2 hE H1 locs1 ls ce q9 hW1 hS1 hl1 hq1 hq2 hq3 => ?_) (fun vv M2 hv => ?_)
  · rcases hE with ⟨⟨rfl, hc⟩, hs⟩
    · refine w_handle X ht [] (0, 9, 12, 13) [] rfl (fun z hz => absurd hz List.not_mem_nil) (by decide) (by decide) gw_435 to_443 hW1 hS1 hl1 hq1 hq2 hq3 ?_
      refine r_astoreQ_n (pc' := 13) (lc' := [(0, vR G (28, 0)), (1, vI n), (2, vR G (30, 0))]) X [1, 2, 3] dL_rankAfter_12 rfl (by decide) rfl rfl ?_
      refine r_iconst (pc' := 14) X dL_rankAfter_13 rfl ?_
      refine w_iret X hr dL_rankAfter_14 ?_
      exact Or.inr (⟨rfl, hc, hs⟩)
  · refine r_i2lw (pc' := 8) X dL_rankAfter_7 rfl ?_
    refine r_last (i := 0) (pc' := 9) X k30_0 (by omega) (by omega) (by decide) dL_rankAfter_8 rfl (fun M9 h9 => ?_)
    refine r_goto (tgt := 15) X dL_rankAfter_9 rfl ?_
    refine r_iconst (pc' := 16) X dL_rankAfter_15 rfl ?_
    refine w_iret X hr dL_rankAfter_16 ?_
    exact Or.inl ⟨rfl, vv, M2, hv, h9⟩
theorem cf_L_hiddenDimension : wCalH yL_hiddenDimension cL_hiddenDimension 4 (some .int) [(0, 9, 12, 13)] 3 := ⟨gw_851, gw_0, by decide, by decide, by rfl⟩
set_option maxRecDepth 100000 in
set_option maxHeartbeats 4000000 in
theorem c_L_hiddenDimension (l : Launch) (G : wG) (M : wM) (hfl : l.stackTraces = false) (N P : Nat) (T : Int) (hck : COk M N P T) (hT6 : T ≤ 1000000) (n : Int) (hn : rI n) : Met l yL_hiddenDimension (gwsH yL_hiddenDimension cL_hiddenDimension 4 (some .int) [(0, 9, 12, 13)]) (wrm 7 1 6) (wPc G M [vR G (28, 0), vI n, vR G (30, 0)]) (wQi G (fun z M1 => (z = 0 ∧ ∃ (vv : Int) (Mz : wM), ((0 ≤ n ∧ n ≤ 8) ∧ (∃ k' : Nat, vv = (N : Int) - (k' : Int) ∧ k' ≤ N ∧ RankOf N (Vis N P (M 19) n.toNat) k') ∧ ScrEq M Mz) ∧ M1 = wu Mz 30 0 0 (iw vv)) ∨ (z = 1 ∧ (¬ (0 ≤ n ∧ n ≤ 8)) ∧ ScrEq M M1))) 1 6 (wA G) := by
  refine wMetH (lc := [(0, vR G (28, 0)), (1, vI n), (2, vR G (30, 0))]) (by decide) (Nat.le_of_ble_eq_true rfl) rfl ?_
  intro p e s m args below meth c X hr ht
  have X : wX p s m args meth c G 4 "StateObserverLaw" cL_hiddenDimension := X
  refine r_aload_n (pc' := 1) X 2 dL_hiddenDimension_0 rfl rfl rfl ?_
  refine r_iconst (pc' := 2) X dL_hiddenDimension_1 rfl ?_
  refine r_aload_n (pc' := 3) X 0 dL_hiddenDimension_2 rfl rfl rfl ?_
  refine r_iload_n (pc' := 4) X 1 dL_hiddenDimension_3 rfl rfl rfl ?_
  refine w_callxi (pc' := 7) (st := [vI 0, vR G (30, 0)]) (w_runVX X (c_X8_hiddenDimension l G M hfl N P T hck hT6 n hn) cf_X8_hiddenDimension k28_0 rfl gw_853 gw_854 rfl rfl ⟨Nat.le_of_ble_eq_true rfl, Nat.le_of_ble_eq_true rfl⟩ rfl rfl (Nat.le_of_ble_eq_true rfl) ⟨Nat.le_of_ble_eq_true rfl, Nat.le_of_ble_eq_true rfl⟩ gw_852 dL_hiddenDimension_4) rfl (fun E M2 hE H1 locs1 ls ce q9 hW1 hS1 hl1 hq1 hq2 hq3 => ?_) (fun vv M2 hv => ?_)
  · rcases hE with ⟨⟨rfl, hc⟩, hs⟩
    · refine w_handle X ht [] (0, 9, 12, 13) [] rfl (fun z hz => absurd hz List.not_mem_nil) (by decide) (by decide) gw_435 to_443 hW1 hS1 hl1 hq1 hq2 hq3 ?_
      refine r_astoreQ_n (pc' := 13) (lc' := [(0, vR G (28, 0)), (1, vI n), (2, vR G (30, 0))]) X [1, 2, 3] dL_hiddenDimension_12 rfl (by decide) rfl rfl ?_
      refine r_iconst (pc' := 14) X dL_hiddenDimension_13 rfl ?_
      refine w_iret X hr dL_hiddenDimension_14 ?_
      exact Or.inr (⟨rfl, hc, hs⟩)
  · refine r_i2lw (pc' := 8) X dL_hiddenDimension_7 rfl ?_
    refine r_last (i := 0) (pc' := 9) X k30_0 (by omega) (by omega) (by decide) dL_hiddenDimension_8 rfl (fun M9 h9 => ?_)
    refine r_goto (tgt := 15) X dL_hiddenDimension_9 rfl ?_
    refine r_iconst (pc' := 16) X dL_hiddenDimension_15 rfl ?_
    refine w_iret X hr dL_hiddenDimension_16 ?_
    exact Or.inl ⟨rfl, vv, M2, hv, h9⟩
theorem cf_L_free : wCalH yL_free cL_free 5 (some .int) [(0, 10, 13, 28)] 4 := ⟨gw_876, gw_0, by decide, by decide, by rfl⟩
set_option maxRecDepth 100000 in
set_option maxHeartbeats 4000000 in
theorem c_L_free (l : Launch) (G : wG) (M : wM) (hfl : l.stackTraces = false) (N P : Nat) (T : Int) (hck : COk M N P T) (hT6 : T ≤ 1000000) (q j : Int) (hq : rI q) (hj : rI j) : Met l yL_free (gwsH yL_free cL_free 5 (some .int) [(0, 10, 13, 28)]) (wrm 7 1 6) (wPc G M [vR G (28, 0), vI q, vI j, vR G (30, 0)]) (wQi G (fun z M1 => (z = 0 ∧ ∃ (vv : Int) (Mz : wM), (((0 ≤ j ∧ j < N) ∧ (0 ≤ q ∧ q < combs (M 19 7) N)) ∧ vv = combF (M 19 7) N q.toNat j.toNat ∧ ScrEq M Mz) ∧ M1 = wu Mz 30 0 0 (iw vv)) ∨ (z = 1 ∧ (¬ ((0 ≤ j ∧ j < N) ∧ (0 ≤ q ∧ q < combs (M 19 7) N))) ∧ ScrEq M M1))) 1 6 (wA G) := by
  refine wMetH (lc := [(0, vR G (28, 0)), (1, vI q), (2, vI j), (3, vR G (30, 0))]) (by decide) (Nat.le_of_ble_eq_true rfl) rfl ?_
  intro p e s m args below meth c X hr ht
  have X : wX p s m args meth c G 5 "StateObserverLaw" cL_free := X
  refine r_aload_n (pc' := 1) X 3 dL_free_0 rfl rfl rfl ?_
  refine r_iconst (pc' := 2) X dL_free_1 rfl ?_
  refine r_aload_n (pc' := 3) X 0 dL_free_2 rfl rfl rfl ?_
  refine r_iload_n (pc' := 4) X 1 dL_free_3 rfl rfl rfl ?_
  refine r_iload_n (pc' := 5) X 2 dL_free_4 rfl rfl rfl ?_
  refine w_callxi (pc' := 8) (st := [vI 0, vR G (30, 0)]) (w_runVX X (c_X8_free l G M hfl N P T hck hT6 q j hq hj) cf_X8_free k28_0 rfl gw_878 gw_879 rfl rfl ⟨Nat.le_of_ble_eq_true rfl, Nat.le_of_ble_eq_true rfl⟩ rfl rfl (Nat.le_of_ble_eq_true rfl) ⟨Nat.le_of_ble_eq_true rfl, Nat.le_of_ble_eq_true rfl⟩ gw_877 dL_free_5) rfl (fun E M2 hE H1 locs1 ls ce q9 hW1 hS1 hl1 hq1 hq2 hq3 => ?_) (fun vv M2 hv => ?_)
  · rcases hE with ⟨⟨rfl, hc⟩, hs⟩
    · refine w_handle X ht [] (0, 10, 13, 28) [] rfl (fun z hz => absurd hz List.not_mem_nil) (by decide) (by decide) gw_573 to_589 hW1 hS1 hl1 hq1 hq2 hq3 ?_
      refine r_astoreQ (pc' := 15) (lc' := [(0, vR G (28, 0)), (1, vI q), (2, vI j), (3, vR G (30, 0))]) X [1, 2, 3, 4] dL_free_13 (by decide) rfl rfl ?_
      refine r_iconst (pc' := 16) X dL_free_15 rfl ?_
      refine w_iret X hr dL_free_16 ?_
      exact Or.inr (⟨rfl, hc, hs⟩)
  · refine r_i2lw (pc' := 9) X dL_free_8 rfl ?_
    refine r_last (i := 0) (pc' := 10) X k30_0 (by omega) (by omega) (by decide) dL_free_9 rfl (fun M9 h9 => ?_)
    refine r_goto (tgt := 17) X dL_free_10 rfl ?_
    refine r_iconst (pc' := 18) X dL_free_17 rfl ?_
    refine w_iret X hr dL_free_18 ?_
    exact Or.inl ⟨rfl, vv, M2, hv, h9⟩
theorem cf_L_freeRange : wCalH yL_freeRange cL_freeRange 5 (some .int) [(0, 10, 13, 28)] 4 := ⟨gw_903, gw_0, by decide, by decide, by rfl⟩
set_option maxRecDepth 100000 in
set_option maxHeartbeats 4000000 in
theorem c_L_freeRange (l : Launch) (G : wG) (M : wM) (hfl : l.stackTraces = false) (N P : Nat) (T : Int) (hck : COk M N P T) (hT6 : T ≤ 1000000) (q b : Int) (hq : rI q) (hb : b = 0 ∨ b = 1) : Met l yL_freeRange (gwsH yL_freeRange cL_freeRange 5 (some .int) [(0, 10, 13, 28)]) (wrm 7 1 6) (wPc G M [vR G (28, 0), vI q, vI b, vR G (30, 0)]) (wQi G (fun z M1 => (z = 0 ∧ ∃ (vv : Int) (Mz : wM), ((0 ≤ q ∧ q < combs (M 19 7) N) ∧ vv = ext N (combF (M 19 7) N q.toNat) (M 0 2) (M 0 3) (-1) b ∧ ScrEq M Mz) ∧ M1 = wu Mz 30 0 0 (iw vv)) ∨ (z = 1 ∧ (¬ (0 ≤ q ∧ q < combs (M 19 7) N)) ∧ ScrEq M M1))) 1 6 (wA G) := by
  refine wMetH (lc := [(0, vR G (28, 0)), (1, vI q), (2, vI b), (3, vR G (30, 0))]) (by decide) (Nat.le_of_ble_eq_true rfl) rfl ?_
  intro p e s m args below meth c X hr ht
  have X : wX p s m args meth c G 5 "StateObserverLaw" cL_freeRange := X
  refine r_aload_n (pc' := 1) X 3 dL_freeRange_0 rfl rfl rfl ?_
  refine r_iconst (pc' := 2) X dL_freeRange_1 rfl ?_
  refine r_aload_n (pc' := 3) X 0 dL_freeRange_2 rfl rfl rfl ?_
  refine r_iload_n (pc' := 4) X 1 dL_freeRange_3 rfl rfl rfl ?_
  refine r_iload_n (pc' := 5) X 2 dL_freeRange_4 rfl rfl rfl ?_
  refine w_callxi (pc' := 8) (st := [vI 0, vR G (30, 0)]) (w_runVX X (c_X8_freeRange l G M hfl N P T hck hT6 q b hq hb) cf_X8_freeRange k28_0 rfl gw_905 gw_906 rfl rfl ⟨Nat.le_of_ble_eq_true rfl, Nat.le_of_ble_eq_true rfl⟩ rfl rfl (Nat.le_of_ble_eq_true rfl) ⟨Nat.le_of_ble_eq_true rfl, Nat.le_of_ble_eq_true rfl⟩ gw_904 dL_freeRange_5) rfl (fun E M2 hE H1 locs1 ls ce q9 hW1 hS1 hl1 hq1 hq2 hq3 => ?_) (fun vv M2 hv => ?_)
  · rcases hE with ⟨⟨rfl, hc⟩, hs⟩
    · refine w_handle X ht [] (0, 10, 13, 28) [] rfl (fun z hz => absurd hz List.not_mem_nil) (by decide) (by decide) gw_573 to_589 hW1 hS1 hl1 hq1 hq2 hq3 ?_
      refine r_astoreQ (pc' := 15) (lc' := [(0, vR G (28, 0)), (1, vI q), (2, vI b), (3, vR G (30, 0))]) X [1, 2, 3, 4] dL_freeRange_13 (by decide) rfl rfl ?_
      refine r_iconst (pc' := 16) X dL_freeRange_15 rfl ?_
      refine w_iret X hr dL_freeRange_16 ?_
      exact Or.inr (⟨rfl, hc, hs⟩)
  · refine r_i2lw (pc' := 9) X dL_freeRange_8 rfl ?_
    refine r_last (i := 0) (pc' := 10) X k30_0 (by omega) (by omega) (by decide) dL_freeRange_9 rfl (fun M9 h9 => ?_)
    refine r_goto (tgt := 17) X dL_freeRange_10 rfl ?_
    refine r_iconst (pc' := 18) X dL_freeRange_17 rfl ?_
    refine w_iret X hr dL_freeRange_18 ?_
    exact Or.inl ⟨rfl, vv, M2, hv, h9⟩
theorem cf_L_runScript : wCalH yL_runScript cL_runScript 6 (some .int) [(0, 11, 14, 13)] 4 := ⟨gw_911, gw_0, by decide, by decide, by rfl⟩
set_option maxRecDepth 100000 in
set_option maxHeartbeats 4000000 in
theorem c_L_runScript (l : Launch) (G : wG) (M : wM) (hfl : l.stackTraces = false) (N P : Nat) (T : Int) (hck : COk M N P T) (hT6 : T ≤ 800000) (hT0 : 0 ≤ T) (htr : TrOk (M 0) N P (M 19)) (n s0 : Int) (hn : rI n) (hs : rJ s0) : Met l yL_runScript (gwsH yL_runScript cL_runScript 6 (some .int) [(0, 11, 14, 13)]) (wrm 7 1 6) (wPc G M [vR G (28, 0), vI n, vJ s0, vR G (30, 0)]) (wQi G (fun z M1 => (z = 0 ∧ ∃ (vv : Int) (Mz : wM), (((1 ≤ n ∧ n ≤ 4) ∧ 0 ≤ s0 ∧ s0 < ((10000 ^ n.toNat : Nat) : Int)) ∧ vv = scrF N P (M 19) (cmdAt s0.toNat n.toNat) n.toNat 0 (M 0) ∧ ScrEq M Mz) ∧ M1 = wu Mz 30 0 0 (iw vv)) ∨ (z = 1 ∧ (¬ ((1 ≤ n ∧ n ≤ 4) ∧ 0 ≤ s0 ∧ s0 < ((10000 ^ n.toNat : Nat) : Int))) ∧ ScrEq M M1))) 1 6 (wA G) := by
  refine wMetH (lc := [(0, vR G (28, 0)), (1, vI n), (2, vJ s0), (4, vR G (30, 0))]) (by decide) (Nat.le_of_ble_eq_true rfl) rfl ?_
  intro p e s m args below meth c X hr ht
  have X : wX p s m args meth c G 6 "StateObserverLaw" cL_runScript := X
  refine r_aload (pc' := 2) X 3 dL_runScript_0 rfl rfl ?_
  refine r_iconst (pc' := 3) X dL_runScript_2 rfl ?_
  refine r_aload_n (pc' := 4) X 0 dL_runScript_3 rfl rfl rfl ?_
  refine r_iload_n (pc' := 5) X 1 dL_runScript_4 rfl rfl rfl ?_
  refine r_lload_n (pc' := 6) X 2 dL_runScript_5 rfl rfl rfl ?_
  refine w_callxi (pc' := 9) (st := [vI 0, vR G (30, 0)]) (w_runVX X (c_X8_runScript l G M hfl N P T hck hT6 hT0 htr n s0 hn hs) cf_X8_runScript k28_0 rfl gw_913 gw_914 rfl rfl ⟨Nat.le_of_ble_eq_true rfl, Nat.le_of_ble_eq_true rfl⟩ rfl rfl (Nat.le_of_ble_eq_true rfl) ⟨Nat.le_of_ble_eq_true rfl, Nat.le_of_ble_eq_true rfl⟩ gw_912 dL_runScript_6) rfl (fun E M2 hE H1 locs1 ls ce q9 hW1 hS1 hl1 hq1 hq2 hq3 => ?_) (fun vv M2 hv => ?_)
  · rcases hE with ⟨⟨rfl, hc⟩, hs⟩
    · refine w_handle X ht [] (0, 11, 14, 13) [] rfl (fun z hz => absurd hz List.not_mem_nil) (by decide) (by decide) gw_435 to_443 hW1 hS1 hl1 hq1 hq2 hq3 ?_
      refine r_astoreQ (pc' := 16) (lc' := [(0, vR G (28, 0)), (1, vI n), (2, vJ s0), (4, vR G (30, 0))]) X [1, 2, 3, 4] dL_runScript_14 (by decide) rfl rfl ?_
      refine r_iconst (pc' := 17) X dL_runScript_16 rfl ?_
      refine w_iret X hr dL_runScript_17 ?_
      exact Or.inr (⟨rfl, hc, hs⟩)
  · refine r_i2lw (pc' := 10) X dL_runScript_9 rfl ?_
    refine r_last (i := 0) (pc' := 11) X k30_0 (by omega) (by omega) (by decide) dL_runScript_10 rfl (fun M9 h9 => ?_)
    refine r_goto (tgt := 18) X dL_runScript_11 rfl ?_
    refine r_iconst (pc' := 19) X dL_runScript_18 rfl ?_
    refine w_iret X hr dL_runScript_19 ?_
    exact Or.inl ⟨rfl, vv, M2, hv, h9⟩
theorem cf_L_simulate : wCalH yL_simulate cL_simulate 6 (some .int) [(0, 10, 13, 13)] 4 := ⟨gw_930, gw_0, by decide, by decide, by rfl⟩
set_option maxRecDepth 100000 in
set_option maxHeartbeats 4000000 in
theorem c_L_simulate (l : Launch) (G : wG) (M : wM) (hfl : l.stackTraces = false) (N P : Nat) (T : Int) (hck : COk M N P T) (hT6 : T ≤ 800000) (hT0 : 0 ≤ T) (htr : TrOk (M 0) N P (M 19)) (s0 n : Int) (hs : rJ s0) (hn : rI n) : Met l yL_simulate (gwsH yL_simulate cL_simulate 6 (some .int) [(0, 10, 13, 13)]) (wrm 7 1 6) (wPc G M [vR G (28, 0), vJ s0, vI n, vR G (30, 0)]) (wQi G (fun z M1 => (z = 0 ∧ ∃ (vv : Int) (Mz : wM), ((1 ≤ n ∧ n ≤ 100) ∧ vv = simF N P (M 19) n.toNat s0 (M 0) ∧ ScrEq M Mz) ∧ M1 = wu Mz 30 0 0 vv) ∨ (z = 1 ∧ (¬ (1 ≤ n ∧ n ≤ 100)) ∧ ScrEq M M1))) 1 6 (wA G) := by
  refine wMetH (lc := [(0, vR G (28, 0)), (1, vJ s0), (3, vI n), (4, vR G (30, 0))]) (by decide) (Nat.le_of_ble_eq_true rfl) rfl ?_
  intro p e s m args below meth c X hr ht
  have X : wX p s m args meth c G 6 "StateObserverLaw" cL_simulate := X
  refine r_aload (pc' := 2) X 3 dL_simulate_0 rfl rfl ?_
  refine r_iconst (pc' := 3) X dL_simulate_2 rfl ?_
  refine r_aload_n (pc' := 4) X 0 dL_simulate_3 rfl rfl rfl ?_
  refine r_lload_n (pc' := 5) X 1 dL_simulate_4 rfl rfl rfl ?_
  refine r_iload_n (pc' := 6) X 2 dL_simulate_5 rfl rfl rfl ?_
  refine w_callxj (pc' := 9) (st := [vI 0, vR G (30, 0)]) (w_runVX X (c_X8_simulate l G M hfl N P T hck hT6 hT0 htr s0 n hs hn) cf_X8_simulate k28_0 rfl gw_932 gw_933 rfl rfl ⟨Nat.le_of_ble_eq_true rfl, Nat.le_of_ble_eq_true rfl⟩ rfl rfl (Nat.le_of_ble_eq_true rfl) ⟨Nat.le_of_ble_eq_true rfl, Nat.le_of_ble_eq_true rfl⟩ gw_931 dL_simulate_6) rfl (fun E M2 hE H1 locs1 ls ce q9 hW1 hS1 hl1 hq1 hq2 hq3 => ?_) (fun vv M2 hv => ?_)
  · rcases hE with ⟨⟨rfl, hc⟩, hs⟩
    · refine w_handle X ht [] (0, 10, 13, 13) [] rfl (fun z hz => absurd hz List.not_mem_nil) (by decide) (by decide) gw_435 to_443 hW1 hS1 hl1 hq1 hq2 hq3 ?_
      refine r_astoreQ (pc' := 15) (lc' := [(0, vR G (28, 0)), (1, vJ s0), (3, vI n), (4, vR G (30, 0))]) X [1, 2, 3, 4] dL_simulate_13 (by decide) rfl rfl ?_
      refine r_iconst (pc' := 16) X dL_simulate_15 rfl ?_
      refine w_iret X hr dL_simulate_16 ?_
      exact Or.inr (⟨rfl, hc, hs⟩)
  · refine r_last (i := 0) (pc' := 10) X k30_0 (by omega) (by omega) (by decide) dL_simulate_9 rfl (fun M9 h9 => ?_)
    refine r_goto (tgt := 17) X dL_simulate_10 rfl ?_
    refine r_iconst (pc' := 18) X dL_simulate_17 rfl ?_
    refine w_iret X hr dL_simulate_18 ?_
    exact Or.inl ⟨rfl, vv, M2, hv, h9⟩
theorem cf_L_save : wCalH yL_save cL_save 4 (some .int) [(0, 9, 12, 28)] 3 := ⟨gw_944, gw_0, by decide, by decide, by rfl⟩
set_option maxRecDepth 100000 in
set_option maxHeartbeats 4000000 in
theorem c_L_save (l : Launch) (G : wG) (M : wM) (hfl : l.stackTraces = false) (s0 : Int) (hs0 : rI s0) : Met l yL_save (gwsH yL_save cL_save 4 (some .int) [(0, 9, 12, 28)]) (wrm 7 1 6) (wPc G M [vR G (28, 0), vI s0, vR G (30, 0)]) (wQi G (fun z M1 => (z = 0 ∧ ∃ (vv : Int) (Mz : wM), ((0 ≤ s0 ∧ s0 ≤ 1) ∧ vv = M 0 0 9 ∧ Mz (3 + s0.toNat) = M 0 ∧ Mz 25 2 s0.toNat = 1 ∧ (∀ x, x ≠ s0.toNat → Mz 25 2 x = M 25 2 x) ∧ ∀ a, a ≠ 3 + s0.toNat → a ≠ 25 → Mz a = M a) ∧ M1 = wu Mz 30 0 0 (iw vv)) ∨ (z = 1 ∧ (¬ (0 ≤ s0 ∧ s0 ≤ 1)) ∧ ScrEq M M1))) 1 6 (wA G) := by
  refine wMetH (lc := [(0, vR G (28, 0)), (1, vI s0), (2, vR G (30, 0))]) (by decide) (Nat.le_of_ble_eq_true rfl) rfl ?_
  intro p e s m args below meth c X hr ht
  have X : wX p s m args meth c G 4 "StateObserverLaw" cL_save := X
  refine r_aload_n (pc' := 1) X 2 dL_save_0 rfl rfl rfl ?_
  refine r_iconst (pc' := 2) X dL_save_1 rfl ?_
  refine r_aload_n (pc' := 3) X 0 dL_save_2 rfl rfl rfl ?_
  refine r_iload_n (pc' := 4) X 1 dL_save_3 rfl rfl rfl ?_
  refine w_callxi (pc' := 7) (st := [vI 0, vR G (30, 0)]) (w_runVX X (c_X8_save l G M hfl s0 hs0) cf_X8_save k28_0 rfl gw_946 gw_947 rfl rfl ⟨Nat.le_of_ble_eq_true rfl, Nat.le_of_ble_eq_true rfl⟩ rfl rfl (Nat.le_of_ble_eq_true rfl) ⟨Nat.le_of_ble_eq_true rfl, Nat.le_of_ble_eq_true rfl⟩ gw_945 dL_save_4) rfl (fun E M2 hE H1 locs1 ls ce q9 hW1 hS1 hl1 hq1 hq2 hq3 => ?_) (fun vv M2 hv => ?_)
  · rcases hE with ⟨⟨rfl, hc⟩, hs⟩
    · refine w_handle X ht [] (0, 9, 12, 28) [] rfl (fun z hz => absurd hz List.not_mem_nil) (by decide) (by decide) gw_573 to_589 hW1 hS1 hl1 hq1 hq2 hq3 ?_
      refine r_astoreQ_n (pc' := 13) (lc' := [(0, vR G (28, 0)), (1, vI s0), (2, vR G (30, 0))]) X [1, 2, 3] dL_save_12 rfl (by decide) rfl rfl ?_
      refine r_iconst (pc' := 14) X dL_save_13 rfl ?_
      refine w_iret X hr dL_save_14 ?_
      exact Or.inr (⟨rfl, hc, hs⟩)
  · refine r_i2lw (pc' := 8) X dL_save_7 rfl ?_
    refine r_last (i := 0) (pc' := 9) X k30_0 (by omega) (by omega) (by decide) dL_save_8 rfl (fun M9 h9 => ?_)
    refine r_goto (tgt := 15) X dL_save_9 rfl ?_
    refine r_iconst (pc' := 16) X dL_save_15 rfl ?_
    refine w_iret X hr dL_save_16 ?_
    exact Or.inl ⟨rfl, vv, M2, hv, h9⟩
theorem cf_L_restore : wCalH yL_restore cL_restore 4 (some .int) [(0, 9, 12, 28), (0, 9, 15, 15)] 3 := ⟨gw_952, gw_0, by decide, by decide, by rfl⟩
set_option maxRecDepth 100000 in
set_option maxHeartbeats 4000000 in
theorem c_L_restore (l : Launch) (G : wG) (M : wM) (hfl : l.stackTraces = false) (s0 : Int) (hs0 : rI s0) (hf01 : ∀ x, x < 2 → M 25 2 x = 0 ∨ M 25 2 x = 1) : Met l yL_restore (gwsH yL_restore cL_restore 4 (some .int) [(0, 9, 12, 28), (0, 9, 15, 15)]) (wrm 7 1 6) (wPc G M [vR G (28, 0), vI s0, vR G (30, 0)]) (wQi G (fun z M1 => (z = 0 ∧ ∃ (vv : Int) (Mz : wM), ((0 ≤ s0 ∧ s0 ≤ 1) ∧ M 25 2 s0.toNat = 1 ∧ vv = M (3 + s0.toNat) 0 9 ∧ Mz 0 = M (3 + s0.toNat) ∧ Mz 26 0 2 = 0 ∧ Mz 26 0 1 = M 26 0 1 ∧ ∀ a, a ≠ 0 → a ≠ 26 → Mz a = M a) ∧ M1 = wu Mz 30 0 0 (iw vv)) ∨ (z = 1 ∧ (¬ (0 ≤ s0 ∧ s0 ≤ 1)) ∧ ScrEq M M1) ∨ (z = 2 ∧ ((0 ≤ s0 ∧ s0 ≤ 1) ∧ M 25 2 s0.toNat = 0) ∧ ScrEq M M1))) 1 6 (wA G) := by
  refine wMetH (lc := [(0, vR G (28, 0)), (1, vI s0), (2, vR G (30, 0))]) (by decide) (Nat.le_of_ble_eq_true rfl) rfl ?_
  intro p e s m args below meth c X hr ht
  have X : wX p s m args meth c G 4 "StateObserverLaw" cL_restore := X
  refine r_aload_n (pc' := 1) X 2 dL_restore_0 rfl rfl rfl ?_
  refine r_iconst (pc' := 2) X dL_restore_1 rfl ?_
  refine r_aload_n (pc' := 3) X 0 dL_restore_2 rfl rfl rfl ?_
  refine r_iload_n (pc' := 4) X 1 dL_restore_3 rfl rfl rfl ?_
  refine w_callxi (pc' := 7) (st := [vI 0, vR G (30, 0)]) (w_runVX X (c_X8_restore l G M hfl s0 hs0 hf01) cf_X8_restore k28_0 rfl gw_954 gw_955 rfl rfl ⟨Nat.le_of_ble_eq_true rfl, Nat.le_of_ble_eq_true rfl⟩ rfl rfl (Nat.le_of_ble_eq_true rfl) ⟨Nat.le_of_ble_eq_true rfl, Nat.le_of_ble_eq_true rfl⟩ gw_953 dL_restore_4) rfl (fun E M2 hE H1 locs1 ls ce q9 hW1 hS1 hl1 hq1 hq2 hq3 => ?_) (fun vv M2 hv => ?_)
  · rcases hE with ⟨⟨rfl, hc⟩ | ⟨rfl, hc⟩, hs⟩
    · refine w_handle X ht [] (0, 9, 12, 28) [(0, 9, 15, 15)] rfl (fun z hz => absurd hz List.not_mem_nil) (by decide) (by decide) gw_573 to_589 hW1 hS1 hl1 hq1 hq2 hq3 ?_
      refine r_astoreQ_n (pc' := 13) (lc' := [(0, vR G (28, 0)), (1, vI s0), (2, vR G (30, 0))]) X [1, 2, 3] dL_restore_12 rfl (by decide) rfl rfl ?_
      refine r_iconst (pc' := 14) X dL_restore_13 rfl ?_
      refine w_iret X hr dL_restore_14 ?_
      exact Or.inr (Or.inl ⟨rfl, hc, hs⟩)
    · refine w_handle X ht [(0, 9, 12, 28)] (0, 9, 15, 15) [] rfl (fun z hz => by simp only [List.mem_cons, List.not_mem_nil, or_false] at hz; rcases hz with rfl <;> first | exact ⟨by decide, _, gw_573, by decide⟩) (by decide) (by decide) gw_436 to_511 hW1 hS1 hl1 hq1 hq2 hq3 ?_
      refine r_astoreQ_n (pc' := 16) (lc' := [(0, vR G (28, 0)), (1, vI s0), (2, vR G (30, 0))]) X [1, 2, 3] dL_restore_15 rfl (by decide) rfl rfl ?_
      refine r_iconst (pc' := 17) X dL_restore_16 rfl ?_
      refine w_iret X hr dL_restore_17 ?_
      exact Or.inr (Or.inr (⟨rfl, hc, hs⟩))
  · refine r_i2lw (pc' := 8) X dL_restore_7 rfl ?_
    refine r_last (i := 0) (pc' := 9) X k30_0 (by omega) (by omega) (by decide) dL_restore_8 rfl (fun M9 h9 => ?_)
    refine r_goto (tgt := 18) X dL_restore_9 rfl ?_
    refine r_iconst (pc' := 19) X dL_restore_18 rfl ?_
    refine w_iret X hr dL_restore_19 ?_
    exact Or.inl ⟨rfl, vv, M2, hv, h9⟩
