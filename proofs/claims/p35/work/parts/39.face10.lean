theorem cf_X8_shave : wCal yX8_shave cX8_shave 5 (some .int) 2 := ⟨gw_809, gw_1, by decide, by decide, by rfl⟩
set_option maxRecDepth 100000 in
set_option maxHeartbeats 4000000 in
theorem c_X8_shave (l : Launch) (G : wG) (M : wM) (hfl : l.stackTraces = false) (N P : Nat) (T : Int) (hck : COk M N P T) (hT6 : T ≤ 1000000) (nx ct : Nat) (hnx : M 26 0 1 = (nx : Int)) (hnx14 : nx < 14) (hct : M 26 0 2 = (ct : Int)) (hct14 : ct ≤ 14) (htr : TrOk (M 0) N P (M 19)) (i n : Int) (hi : rI i) (hn : rI n) : vx_Met l yX8_shave (gws yX8_shave cX8_shave 5 (some .int)) (wrm 6 1 6) (wPc G M [vR G (28, 0), vI i, vI n]) (wQi G (fun z M1 => ((0 ≤ i ∧ i < N) ∧ 1 ≤ n ∧ n ≤ 100) ∧ z = (((shv N P (M 19) i.toNat 2 1 n.toNat (M 0)).1 : Int) + ((shv N P (M 19) i.toNat 3 (-1) n.toNat (shv N P (M 19) i.toNat 2 1 n.toNat (M 0)).2).1 : Int)) ∧ M1 0 = (shv N P (M 19) i.toNat 3 (-1) n.toNat (shv N P (M 19) i.toNat 2 1 n.toNat (M 0)).2).2 ∧ MoOk (M1 0) N P T ∧ BoxOk N (M1 0 2) (M1 0 3) ∧ TrOk (M1 0) N P (M 19) ∧ Noted M M1 nx ct)) (wQx G (fun E M1 => ((E = "java/lang/IndexOutOfBoundsException" ∧ ¬ (0 ≤ i ∧ i < N)) ∨ (E = "java/lang/IllegalArgumentException" ∧ (0 ≤ i ∧ i < N) ∧ ¬ (1 ≤ n ∧ n ≤ 100))) ∧ ScrEq M M1)) 1 6 (wA G) := by
  refine wMetX (lc := [(0, vR G (28, 0)), (1, vI i), (2, vI n)]) (by decide) (Nat.le_of_ble_eq_true rfl) rfl ?_
  intro p e s m args below meth c X hr hex
  have X : wX p s m args meth c G 5 "StateObserver" cX8_shave := X
  obtain ⟨hp, hm, hbx⟩ := id hck
  obtain ⟨hN, hN1, hN4, hP, hP1, hP3, hA, hB, hE, hC, hQ⟩ := id hp
  obtain ⟨hT, hL, hU, hS, hG, hY, hAg, hHo, hBo, hTi, hLi, hLb, hLl, hLh⟩ := id hm
  refine r_aload_n (pc' := 1) X 0 dX8_shave_0 rfl rfl rfl ?_
  refine r_iload_n (pc' := 2) X 1 dX8_shave_1 rfl rfl rfl ?_
  refine w_calli (pc' := 5) (st := []) (w_runV X (c_X8_isState l G M N P T hck (by first | assumption | omega) i (by first | assumption | omega)) cf_X8_isState k28_0 rfl gw_628 gp_10 rfl rfl ⟨Nat.le_of_ble_eq_true rfl, Nat.le_of_ble_eq_true rfl⟩ rfl rfl (Nat.le_of_ble_eq_true rfl) ⟨Nat.le_of_ble_eq_true rfl, Nat.le_of_ble_eq_true rfl⟩ gw_626 dX8_shave_2) rfl (fun z2 M1 h2 => ?_)
  have hz2 := h2.1
  obtain rfl := h2.2.symm
  have hi2 : z2 = 0 ∨ z2 = 1 := by rw [hz2]; split <;> omega
  have hq2 : z2 = 1 ↔ (0 ≤ i ∧ i < N) := by rw [hz2]; split <;> omega
  refine r_if_ne (pc' := 8) (tgt := 18) X dX8_shave_5 rfl rfl (by omega) (fun h5 => ?_) (fun h5 => ?_)
  · refine r_iload_n (pc' := 19) X 2 dX8_shave_18 rfl rfl rfl ?_
    refine r_iconst (pc' := 20) X dX8_shave_19 rfl ?_
    refine r_icmp_lt (pc' := 23) (tgt := 29) X dX8_shave_20 rfl rfl (by omega) (by omega) (fun h20 => ?_) (fun h20 => ?_)
    · refine r_thA X hfl hex gw_458 ts_810 dX8_shave_29 dX8_shave_32 dX8_shave_33 dX8_shave_35 dX8_shave_38 (by decide) (by decide) (by decide) (by decide) ?_
      try dsimp only
      exact ⟨(Or.inr (⟨rfl, by omega⟩)), ScrEq.rfl⟩
    · refine r_iload_n (pc' := 24) X 2 dX8_shave_23 rfl rfl rfl ?_
      refine r_bipush (pc' := 26) X dX8_shave_24 rfl rfl ?_
      refine r_icmp_le (pc' := 29) (tgt := 39) X dX8_shave_26 rfl rfl (by omega) (by omega) (fun h26 => ?_) (fun h26 => ?_)
      · refine r_aload_n (pc' := 40) X 0 dX8_shave_39 rfl rfl rfl ?_
        refine gf_28_history (pc' := 43) X gw_299 dX8_shave_40 rfl ?_
        refine r_aload_n (pc' := 44) X 0 dX8_shave_43 rfl rfl rfl ?_
        refine gf_28_now (pc' := 47) X gw_297 dX8_shave_44 rfl ?_
        refine w_callv (pc' := 50) (st := []) (w_runV X (c_X0_remember l G M 0 (by decide) nx ct (by first | assumption | omega) (by first | assumption | omega) (by first | assumption | omega) (by first | assumption | omega)) cf_X0_remember k26_0 rfl gw_720 gw_721 rfl rfl ⟨Nat.le_of_ble_eq_true rfl, Nat.le_of_ble_eq_true rfl⟩ rfl rfl (Nat.le_of_ble_eq_true rfl) ⟨Nat.le_of_ble_eq_true rfl, Nat.le_of_ble_eq_true rfl⟩ gw_719 dX8_shave_47) rfl (fun M2 h47 => ?_)
        have hR : M2 = noteM M nx ct := h47
        have hck2 : COk M2 N P T := by rw [hR]; exact hck.note hnx14
        obtain ⟨hp2, hm2, hbx2⟩ := id hck2
        have r0 : M2 0 = M 0 := by rw [hR]; exact note_o (by omega) (by omega)
        have r19 : M2 19 = M 19 := by rw [hR]; exact note_o (by omega) (by omega)
        refine r_iconst (pc' := 51) X dX8_shave_50 rfl ?_
        refine r_istore_n (pc' := 52) (lc' := [(0, vR G (28, 0)), (1, vI i), (2, vI n), (3, vI 0)]) X [1, 2, 3, 0] dX8_shave_51 rfl (by decide) rfl rfl ?_
        refine r_iconst (pc' := 53) X dX8_shave_52 rfl ?_
        refine r_istore (pc' := 55) (lc' := [(0, vR G (28, 0)), (1, vI i), (2, vI n), (3, vI 0), (4, vI 0)]) X [1, 2, 3, 4, 0] dX8_shave_53 (by decide) rfl rfl ?_
        have L55 : ∀ (fu : Nat) (t : Nat) (Ma : wM), n.toNat - t < fu → (t ≤ n.toNat) → ((shv N P (M 19) i.toNat 2 1 n.toNat (M 0)).1 = t + (shv N P (M 19) i.toNat 2 1 (n.toNat - t) (Ma 0)).1) → ((shv N P (M 19) i.toNat 2 1 n.toNat (M 0)).2 = (shv N P (M 19) i.toNat 2 1 (n.toNat - t) (Ma 0)).2) → (MoOk (Ma 0) N P T) → (BoxOk N (Ma 0 2) (Ma 0 3)) → (TrOk (Ma 0) N P (M 19)) → (∀ a, a ≠ 0 → a ≠ 1 → a ≠ 21 → Ma a = noteM M nx ct a) → wV p l e (wrm 6 1 6) s m args below meth c G 5 Ma 0 0 (vx_MQ below (wQi G (fun z M1 => ((0 ≤ i ∧ i < N) ∧ 1 ≤ n ∧ n ≤ 100) ∧ z = (((shv N P (M 19) i.toNat 2 1 n.toNat (M 0)).1 : Int) + ((shv N P (M 19) i.toNat 3 (-1) n.toNat (shv N P (M 19) i.toNat 2 1 n.toNat (M 0)).2).1 : Int)) ∧ M1 0 = (shv N P (M 19) i.toNat 3 (-1) n.toNat (shv N P (M 19) i.toNat 2 1 n.toNat (M 0)).2).2 ∧ MoOk (M1 0) N P T ∧ BoxOk N (M1 0 2) (M1 0 3) ∧ TrOk (M1 0) N P (M 19) ∧ Noted M M1 nx ct)) (wQx G (fun E M1 => ((E = "java/lang/IndexOutOfBoundsException" ∧ ¬ (0 ≤ i ∧ i < N)) ∨ (E = "java/lang/IllegalArgumentException" ∧ (0 ≤ i ∧ i < N) ∧ ¬ (1 ≤ n ∧ n ≤ 100))) ∧ ScrEq M M1)) args s 1 6 (wA G)) 55 [(0, vR G (28, 0)), (1, vI i), (2, vI n), (3, vI (t : Int)), (4, vI (t : Int))] [] := by
          intro fu
          induction fu with
          | zero => intro t Ma hfu; exact absurd hfu (Nat.not_lt_zero _)
          | succ fu ih55 =>
            intro t Ma hfu55 ht hs1A hs2A hmA hbA htA hfrA
            refine r_iload (pc' := 57) X 4 dX8_shave_55 rfl rfl ?_
            refine r_iload_n (pc' := 58) X 2 dX8_shave_57 rfl rfl rfl ?_
            refine r_icmp_ge (pc' := 61) (tgt := 100) X dX8_shave_58 rfl rfl (by omega) (by omega) (fun h58 => ?_) (fun h58 => ?_)
            · have hstop : (shv N P (M 19) i.toNat 2 1 (n.toNat - t) (Ma 0)) = (0, Ma 0) := by
                refine shv_n ?_
                first
                  | exact Or.inl (by omega)
                  | (refine Or.inr fun w => ?_
                     rw [if_pos w] at hzo
                     omega)
              have hs1e : (shv N P (M 19) i.toNat 2 1 n.toNat (M 0)).1 = t := by rw [hs1A, hstop]; rfl
              have hs2e : (shv N P (M 19) i.toNat 2 1 n.toNat (M 0)).2 = Ma 0 := by rw [hs2A, hstop]
              refine r_iconst (pc' := 101) X dX8_shave_100 rfl ?_
              refine r_istore (pc' := 103) (lc' := [(0, vR G (28, 0)), (1, vI i), (2, vI n), (3, vI (t : Int)), (4, vI 0)]) X [1, 2, 3, 4, 0] dX8_shave_101 (by decide) rfl rfl ?_
              have L103 : ∀ (fu : Nat) (y : Nat) (Mb : wM), n.toNat - y < fu → (y ≤ n.toNat) → ((shv N P (M 19) i.toNat 3 (-1) n.toNat (shv N P (M 19) i.toNat 2 1 n.toNat (M 0)).2).1 = y + (shv N P (M 19) i.toNat 3 (-1) (n.toNat - y) (Mb 0)).1) → ((shv N P (M 19) i.toNat 3 (-1) n.toNat (shv N P (M 19) i.toNat 2 1 n.toNat (M 0)).2).2 = (shv N P (M 19) i.toNat 3 (-1) (n.toNat - y) (Mb 0)).2) → (MoOk (Mb 0) N P T) → (BoxOk N (Mb 0 2) (Mb 0 3)) → (TrOk (Mb 0) N P (M 19)) → (∀ a, a ≠ 0 → a ≠ 1 → a ≠ 21 → Mb a = noteM M nx ct a) → wV p l e (wrm 6 1 6) s m args below meth c G 5 Mb 0 0 (vx_MQ below (wQi G (fun z M1 => ((0 ≤ i ∧ i < N) ∧ 1 ≤ n ∧ n ≤ 100) ∧ z = (((shv N P (M 19) i.toNat 2 1 n.toNat (M 0)).1 : Int) + ((shv N P (M 19) i.toNat 3 (-1) n.toNat (shv N P (M 19) i.toNat 2 1 n.toNat (M 0)).2).1 : Int)) ∧ M1 0 = (shv N P (M 19) i.toNat 3 (-1) n.toNat (shv N P (M 19) i.toNat 2 1 n.toNat (M 0)).2).2 ∧ MoOk (M1 0) N P T ∧ BoxOk N (M1 0 2) (M1 0 3) ∧ TrOk (M1 0) N P (M 19) ∧ Noted M M1 nx ct)) (wQx G (fun E M1 => ((E = "java/lang/IndexOutOfBoundsException" ∧ ¬ (0 ≤ i ∧ i < N)) ∨ (E = "java/lang/IllegalArgumentException" ∧ (0 ≤ i ∧ i < N) ∧ ¬ (1 ≤ n ∧ n ≤ 100))) ∧ ScrEq M M1)) args s 1 6 (wA G)) 103 [(0, vR G (28, 0)), (1, vI i), (2, vI n), (3, vI ((t : Int) + (y : Int))), (4, vI (y : Int))] [] := by
                intro fu
                induction fu with
                | zero => intro y Mb hfu; exact absurd hfu (Nat.not_lt_zero _)
                | succ fu ih103 =>
                  intro y Mb hfu103 hy hs1B hs2B hmB hbB htB hfrB
                  refine r_iload (pc' := 105) X 4 dX8_shave_103 rfl rfl ?_
                  refine r_iload_n (pc' := 106) X 2 dX8_shave_105 rfl rfl rfl ?_
                  refine r_icmp_ge (pc' := 109) (tgt := 148) X dX8_shave_106 rfl rfl (by omega) (by omega) (fun h106 => ?_) (fun h106 => ?_)
                  · have hstop2 : (shv N P (M 19) i.toNat 3 (-1) (n.toNat - y) (Mb 0)) = (0, Mb 0) := by
                      refine shv_n ?_
                      first
                        | exact Or.inl (by omega)
                        | (refine Or.inr fun w => ?_
                           rw [if_pos w] at hzo
                           omega)
                    have hs1f : (shv N P (M 19) i.toNat 3 (-1) n.toNat (shv N P (M 19) i.toNat 2 1 n.toNat (M 0)).2).1 = y := by rw [hs1B, hstop2]; rfl
                    have hs2f : (shv N P (M 19) i.toNat 3 (-1) n.toNat (shv N P (M 19) i.toNat 2 1 n.toNat (M 0)).2).2 = Mb 0 := by rw [hs2B, hstop2]
                    refine r_iload_n (pc' := 149) X 3 dX8_shave_148 rfl rfl rfl ?_
                    refine w_x (by decide) (by decide) ?_
                    refine w_iret X hr dX8_shave_149 ?_
                    try dsimp only
                    exact ⟨by omega, by rw [hs1e, hs1f], hs2f.symm, hmB, hbB, htB, Noted.of hnx14 (fun a a0 a1 a21 _ _ _ _ => hfrB a a0 a1 a21)⟩
                  · have e19 : Mb 19 = M 19 := by rw [hfrB 19 (by decide) (by decide) (by decide)]; exact note_o (by omega) (by omega)
                    have hckc : COk Mb N P T := ⟨by rw [e19]; exact hp, hmB, hbB⟩
                    have hbi := hbB i.toNat (by omega)
                    refine r_aload_n (pc' := 110) X 0 dX8_shave_109 rfl rfl rfl ?_
                    refine r_iload_n (pc' := 111) X 1 dX8_shave_110 rfl rfl rfl ?_
                    refine r_aload_n (pc' := 112) X 0 dX8_shave_111 rfl rfl rfl ?_
                    refine gf_28_now (pc' := 115) X gw_297 dX8_shave_112 rfl ?_
                    refine gf_M_upper (pc' := 118) X (by decide) gw_100 dX8_shave_115 rfl ?_
                    refine r_iload_n (pc' := 119) X 1 dX8_shave_118 rfl rfl rfl ?_
                    refine r_iald (i := i.toNat) (pc' := 120) X (kM_3 (by decide)) (by omega) (by omega) (by decide) dX8_shave_119 rfl ?_
                    refine w_calli (pc' := 123) (st := []) (w_runV X (c_X8_cannotHave l G Mb N P T hckc (by first | assumption | omega) i (Mb 0 3 i.toNat) (by omega) (by omega)) cf_X8_cannotHave k28_0 rfl gw_813 gp_20 rfl rfl ⟨Nat.le_of_ble_eq_true rfl, Nat.le_of_ble_eq_true rfl⟩ rfl rfl (Nat.le_of_ble_eq_true rfl) ⟨Nat.le_of_ble_eq_true rfl, Nat.le_of_ble_eq_true rfl⟩ gw_811 dX8_shave_120) rfl (fun z120 M3 h120 => ?_)
                    have hzo := h120.1
                    rw [e19] at hzo
                    have eoo : ∀ a, a ≠ 1 → M3 a = Mb a := h120.2
                    have e0o : M3 0 = Mb 0 := eoo 0 (by decide)
                    refine r_if_eq (pc' := 126) (tgt := 148) X dX8_shave_123 rfl rfl (by omega) (fun h123 => ?_) (fun h123 => ?_)
                    · have hstop2 : (shv N P (M 19) i.toNat 3 (-1) (n.toNat - y) (Mb 0)) = (0, Mb 0) := by
                        refine shv_n ?_
                        first
                          | exact Or.inl (by omega)
                          | (refine Or.inr fun w => ?_
                             rw [if_pos w] at hzo
                             omega)
                      have hs1f : (shv N P (M 19) i.toNat 3 (-1) n.toNat (shv N P (M 19) i.toNat 2 1 n.toNat (M 0)).2).1 = y := by rw [hs1B, hstop2]; rfl
                      have hs2f : (shv N P (M 19) i.toNat 3 (-1) n.toNat (shv N P (M 19) i.toNat 2 1 n.toNat (M 0)).2).2 = Mb 0 := by rw [hs2B, hstop2]
                      rw [← e0o] at hs2f hmB hbB htB
                      have hfrB : ∀ a, a ≠ 0 → a ≠ 1 → a ≠ 21 → M3 a = noteM M nx ct a := fun a h0 h1 h21 => by rw [eoo a h1]; exact hfrB a h0 h1 h21
                      refine r_iload_n (pc' := 149) X 3 dX8_shave_148 rfl rfl rfl ?_
                      refine w_x (by decide) (by decide) ?_
                      refine w_iret X hr dX8_shave_149 ?_
                      try dsimp only
                      exact ⟨by omega, by rw [hs1e, hs1f], hs2f.symm, hmB, hbB, htB, Noted.of hnx14 (fun a a0 a1 a21 _ _ _ _ => hfrB a a0 a1 a21)⟩
                    · refine r_aload_n (pc' := 127) X 0 dX8_shave_126 rfl rfl rfl ?_
                      refine gf_28_now (pc' := 130) X gw_297 dX8_shave_127 rfl ?_
                      refine gf_M_upper (pc' := 133) X (by decide) gw_100 dX8_shave_130 rfl ?_
                      refine r_iload_n (pc' := 134) X 1 dX8_shave_133 rfl rfl rfl ?_
                      refine r_dup2 (pc' := 135) X dX8_shave_134 rfl rfl rfl ?_
                      refine r_iald (i := i.toNat) (pc' := 136) X (kM_3 (by decide)) (by omega) (by omega) (by decide) dX8_shave_135 rfl ?_
                      refine r_iconst (pc' := 137) X dX8_shave_136 rfl ?_
                      refine r_isub (pc' := 138) X dX8_shave_137 rfl ?_
                      refine r_iast (i := i.toNat) (pc' := 139) X (kM_3 (by decide)) (by omega) (by omega) (by decide) dX8_shave_138 rfl (fun M4 hM4 => ?_)
                      have htt : (tight N P (M 19) (Mb 0 10) (Mb 0 11) 100 (up1 (Mb 0 2) i.toNat (Mb 0 3 i.toNat)) (up1 (Mb 0 3) i.toNat (Mb 0 3 i.toNat))).1 = 2 := by
                        split at hzo <;> rename_i w
                        · exact w
                        · exfalso; omega
                      have hin := shave_in (d := (-1)) hp hmB hbB htB (show i.toNat < N by omega) (by omega) htt
                      have e0n : M4 0 = setV (Mb 0) 3 i.toNat (Mb 0 3 i.toNat + (-1)) := by rw [hM4, wu_V, e0o]; try rfl
                      have hstep : shv N P (M 19) i.toNat 3 (-1) (n.toNat - y) (Mb 0) = (((shv N P (M 19) i.toNat 3 (-1) (n.toNat - (y + 1)) (setV (Mb 0) 3 i.toNat (Mb 0 3 i.toNat + (-1))))).1 + 1, ((shv N P (M 19) i.toNat 3 (-1) (n.toNat - (y + 1)) (setV (Mb 0) 3 i.toNat (Mb 0 3 i.toNat + (-1))))).2) := by rw [show n.toNat - y = (n.toNat - (y + 1)) + 1 by omega]; exact shv_s htt
                      have hfrn : ∀ a, a ≠ 0 → a ≠ 1 → a ≠ 21 → M4 a = noteM M nx ct a := fun a h0 h1 h21 => by rw [hM4, wu_o h0, eoo a h1]; exact hfrB a h0 h1 h21
                      refine r_iinc (pc' := 142) (z' := ((t : Int) + ((y + 1 : Nat) : Int))) (lc' := [(0, vR G (28, 0)), (1, vI i), (2, vI n), (3, vI ((t : Int) + ((y + 1 : Nat) : Int))), (4, vI (y : Int))]) X 3 [1, 2, 3, 0, 4] dX8_shave_139 rfl (by omega) (by decide) rfl rfl ?_
                      refine r_iinc (pc' := 145) (z' := ((y + 1 : Nat) : Int)) (lc' := [(0, vR G (28, 0)), (1, vI i), (2, vI n), (3, vI ((t : Int) + ((y + 1 : Nat) : Int))), (4, vI ((y + 1 : Nat) : Int))]) X 4 [1, 2, 3, 4, 0] dX8_shave_142 rfl (by omega) (by decide) rfl rfl ?_
                      refine r_goto (tgt := 103) X dX8_shave_145 rfl ?_
                      exact ih103 (y + 1) M4 (by omega) (by omega) (by rw [hs1B, hstep, e0n]; omega) (by rw [hs2B, hstep, e0n]) (by rw [e0n]; exact hin.1) (by rw [e0n]; exact hin.2.1) (by rw [e0n]; exact hin.2.2) hfrn
              exact L103 ((n.toNat - 0) + 1) 0 Ma (Nat.lt_succ_self _) (by omega) (by rw [hs2e, Nat.zero_add]; rfl) (by rw [hs2e]; rfl) hmA hbA htA hfrA
            · have e19 : Ma 19 = M 19 := by rw [hfrA 19 (by decide) (by decide) (by decide)]; exact note_o (by omega) (by omega)
              have hckc : COk Ma N P T := ⟨by rw [e19]; exact hp, hmA, hbA⟩
              have hbi := hbA i.toNat (by omega)
              refine r_aload_n (pc' := 62) X 0 dX8_shave_61 rfl rfl rfl ?_
              refine r_iload_n (pc' := 63) X 1 dX8_shave_62 rfl rfl rfl ?_
              refine r_aload_n (pc' := 64) X 0 dX8_shave_63 rfl rfl rfl ?_
              refine gf_28_now (pc' := 67) X gw_297 dX8_shave_64 rfl ?_
              refine gf_M_lower (pc' := 70) X (by decide) gw_96 dX8_shave_67 rfl ?_
              refine r_iload_n (pc' := 71) X 1 dX8_shave_70 rfl rfl rfl ?_
              refine r_iald (i := i.toNat) (pc' := 72) X (kM_2 (by decide)) (by omega) (by omega) (by decide) dX8_shave_71 rfl ?_
              refine w_calli (pc' := 75) (st := []) (w_runV X (c_X8_cannotHave l G Ma N P T hckc (by first | assumption | omega) i (Ma 0 2 i.toNat) (by omega) (by omega)) cf_X8_cannotHave k28_0 rfl gw_813 gp_20 rfl rfl ⟨Nat.le_of_ble_eq_true rfl, Nat.le_of_ble_eq_true rfl⟩ rfl rfl (Nat.le_of_ble_eq_true rfl) ⟨Nat.le_of_ble_eq_true rfl, Nat.le_of_ble_eq_true rfl⟩ gw_811 dX8_shave_72) rfl (fun z72 M5 h72 => ?_)
              have hzo := h72.1
              rw [e19] at hzo
              have eoo : ∀ a, a ≠ 1 → M5 a = Ma a := h72.2
              have e0o : M5 0 = Ma 0 := eoo 0 (by decide)
              refine r_if_eq (pc' := 78) (tgt := 100) X dX8_shave_75 rfl rfl (by omega) (fun h75 => ?_) (fun h75 => ?_)
              · have hstop : (shv N P (M 19) i.toNat 2 1 (n.toNat - t) (Ma 0)) = (0, Ma 0) := by
                  refine shv_n ?_
                  first
                    | exact Or.inl (by omega)
                    | (refine Or.inr fun w => ?_
                       rw [if_pos w] at hzo
                       omega)
                have hs1e : (shv N P (M 19) i.toNat 2 1 n.toNat (M 0)).1 = t := by rw [hs1A, hstop]; rfl
                have hs2e : (shv N P (M 19) i.toNat 2 1 n.toNat (M 0)).2 = Ma 0 := by rw [hs2A, hstop]
                rw [← e0o] at hs2e hmA hbA htA
                have hfrA : ∀ a, a ≠ 0 → a ≠ 1 → a ≠ 21 → M5 a = noteM M nx ct a := fun a h0 h1 h21 => by rw [eoo a h1]; exact hfrA a h0 h1 h21
                refine r_iconst (pc' := 101) X dX8_shave_100 rfl ?_
                refine r_istore (pc' := 103) (lc' := [(0, vR G (28, 0)), (1, vI i), (2, vI n), (3, vI (t : Int)), (4, vI 0)]) X [1, 2, 3, 4, 0] dX8_shave_101 (by decide) rfl rfl ?_
                have L103 : ∀ (fu : Nat) (y : Nat) (Mb : wM), n.toNat - y < fu → (y ≤ n.toNat) → ((shv N P (M 19) i.toNat 3 (-1) n.toNat (shv N P (M 19) i.toNat 2 1 n.toNat (M 0)).2).1 = y + (shv N P (M 19) i.toNat 3 (-1) (n.toNat - y) (Mb 0)).1) → ((shv N P (M 19) i.toNat 3 (-1) n.toNat (shv N P (M 19) i.toNat 2 1 n.toNat (M 0)).2).2 = (shv N P (M 19) i.toNat 3 (-1) (n.toNat - y) (Mb 0)).2) → (MoOk (Mb 0) N P T) → (BoxOk N (Mb 0 2) (Mb 0 3)) → (TrOk (Mb 0) N P (M 19)) → (∀ a, a ≠ 0 → a ≠ 1 → a ≠ 21 → Mb a = noteM M nx ct a) → wV p l e (wrm 6 1 6) s m args below meth c G 5 Mb 0 0 (vx_MQ below (wQi G (fun z M1 => ((0 ≤ i ∧ i < N) ∧ 1 ≤ n ∧ n ≤ 100) ∧ z = (((shv N P (M 19) i.toNat 2 1 n.toNat (M 0)).1 : Int) + ((shv N P (M 19) i.toNat 3 (-1) n.toNat (shv N P (M 19) i.toNat 2 1 n.toNat (M 0)).2).1 : Int)) ∧ M1 0 = (shv N P (M 19) i.toNat 3 (-1) n.toNat (shv N P (M 19) i.toNat 2 1 n.toNat (M 0)).2).2 ∧ MoOk (M1 0) N P T ∧ BoxOk N (M1 0 2) (M1 0 3) ∧ TrOk (M1 0) N P (M 19) ∧ Noted M M1 nx ct)) (wQx G (fun E M1 => ((E = "java/lang/IndexOutOfBoundsException" ∧ ¬ (0 ≤ i ∧ i < N)) ∨ (E = "java/lang/IllegalArgumentException" ∧ (0 ≤ i ∧ i < N) ∧ ¬ (1 ≤ n ∧ n ≤ 100))) ∧ ScrEq M M1)) args s 1 6 (wA G)) 103 [(0, vR G (28, 0)), (1, vI i), (2, vI n), (3, vI ((t : Int) + (y : Int))), (4, vI (y : Int))] [] := by
                  intro fu
                  induction fu with
                  | zero => intro y Mb hfu; exact absurd hfu (Nat.not_lt_zero _)
                  | succ fu ih103 =>
                    intro y Mb hfu103 hy hs1B hs2B hmB hbB htB hfrB
                    refine r_iload (pc' := 105) X 4 dX8_shave_103 rfl rfl ?_
                    refine r_iload_n (pc' := 106) X 2 dX8_shave_105 rfl rfl rfl ?_
                    refine r_icmp_ge (pc' := 109) (tgt := 148) X dX8_shave_106 rfl rfl (by omega) (by omega) (fun h106 => ?_) (fun h106 => ?_)
                    · have hstop2 : (shv N P (M 19) i.toNat 3 (-1) (n.toNat - y) (Mb 0)) = (0, Mb 0) := by
                        refine shv_n ?_
                        first
                          | exact Or.inl (by omega)
                          | (refine Or.inr fun w => ?_
                             rw [if_pos w] at hzo
                             omega)
                      have hs1f : (shv N P (M 19) i.toNat 3 (-1) n.toNat (shv N P (M 19) i.toNat 2 1 n.toNat (M 0)).2).1 = y := by rw [hs1B, hstop2]; rfl
                      have hs2f : (shv N P (M 19) i.toNat 3 (-1) n.toNat (shv N P (M 19) i.toNat 2 1 n.toNat (M 0)).2).2 = Mb 0 := by rw [hs2B, hstop2]
                      refine r_iload_n (pc' := 149) X 3 dX8_shave_148 rfl rfl rfl ?_
                      refine w_x (by decide) (by decide) ?_
                      refine w_iret X hr dX8_shave_149 ?_
                      try dsimp only
                      exact ⟨by omega, by rw [hs1e, hs1f], hs2f.symm, hmB, hbB, htB, Noted.of hnx14 (fun a a0 a1 a21 _ _ _ _ => hfrB a a0 a1 a21)⟩
                    · have e19 : Mb 19 = M 19 := by rw [hfrB 19 (by decide) (by decide) (by decide)]; exact note_o (by omega) (by omega)
                      have hckc : COk Mb N P T := ⟨by rw [e19]; exact hp, hmB, hbB⟩
                      have hbi := hbB i.toNat (by omega)
                      refine r_aload_n (pc' := 110) X 0 dX8_shave_109 rfl rfl rfl ?_
                      refine r_iload_n (pc' := 111) X 1 dX8_shave_110 rfl rfl rfl ?_
                      refine r_aload_n (pc' := 112) X 0 dX8_shave_111 rfl rfl rfl ?_
                      refine gf_28_now (pc' := 115) X gw_297 dX8_shave_112 rfl ?_
                      refine gf_M_upper (pc' := 118) X (by decide) gw_100 dX8_shave_115 rfl ?_
                      refine r_iload_n (pc' := 119) X 1 dX8_shave_118 rfl rfl rfl ?_
                      refine r_iald (i := i.toNat) (pc' := 120) X (kM_3 (by decide)) (by omega) (by omega) (by decide) dX8_shave_119 rfl ?_
                      refine w_calli (pc' := 123) (st := []) (w_runV X (c_X8_cannotHave l G Mb N P T hckc (by first | assumption | omega) i (Mb 0 3 i.toNat) (by omega) (by omega)) cf_X8_cannotHave k28_0 rfl gw_813 gp_20 rfl rfl ⟨Nat.le_of_ble_eq_true rfl, Nat.le_of_ble_eq_true rfl⟩ rfl rfl (Nat.le_of_ble_eq_true rfl) ⟨Nat.le_of_ble_eq_true rfl, Nat.le_of_ble_eq_true rfl⟩ gw_811 dX8_shave_120) rfl (fun z120 M6 h120 => ?_)
                      have hzo := h120.1
                      rw [e19] at hzo
                      have eoo : ∀ a, a ≠ 1 → M6 a = Mb a := h120.2
                      have e0o : M6 0 = Mb 0 := eoo 0 (by decide)
                      refine r_if_eq (pc' := 126) (tgt := 148) X dX8_shave_123 rfl rfl (by omega) (fun h123 => ?_) (fun h123 => ?_)
                      · have hstop2 : (shv N P (M 19) i.toNat 3 (-1) (n.toNat - y) (Mb 0)) = (0, Mb 0) := by
                          refine shv_n ?_
                          first
                            | exact Or.inl (by omega)
                            | (refine Or.inr fun w => ?_
                               rw [if_pos w] at hzo
                               omega)
                        have hs1f : (shv N P (M 19) i.toNat 3 (-1) n.toNat (shv N P (M 19) i.toNat 2 1 n.toNat (M 0)).2).1 = y := by rw [hs1B, hstop2]; rfl
                        have hs2f : (shv N P (M 19) i.toNat 3 (-1) n.toNat (shv N P (M 19) i.toNat 2 1 n.toNat (M 0)).2).2 = Mb 0 := by rw [hs2B, hstop2]
                        rw [← e0o] at hs2f hmB hbB htB
                        have hfrB : ∀ a, a ≠ 0 → a ≠ 1 → a ≠ 21 → M6 a = noteM M nx ct a := fun a h0 h1 h21 => by rw [eoo a h1]; exact hfrB a h0 h1 h21
                        refine r_iload_n (pc' := 149) X 3 dX8_shave_148 rfl rfl rfl ?_
                        refine w_x (by decide) (by decide) ?_
                        refine w_iret X hr dX8_shave_149 ?_
                        try dsimp only
                        exact ⟨by omega, by rw [hs1e, hs1f], hs2f.symm, hmB, hbB, htB, Noted.of hnx14 (fun a a0 a1 a21 _ _ _ _ => hfrB a a0 a1 a21)⟩
                      · refine r_aload_n (pc' := 127) X 0 dX8_shave_126 rfl rfl rfl ?_
                        refine gf_28_now (pc' := 130) X gw_297 dX8_shave_127 rfl ?_
                        refine gf_M_upper (pc' := 133) X (by decide) gw_100 dX8_shave_130 rfl ?_
                        refine r_iload_n (pc' := 134) X 1 dX8_shave_133 rfl rfl rfl ?_
                        refine r_dup2 (pc' := 135) X dX8_shave_134 rfl rfl rfl ?_
                        refine r_iald (i := i.toNat) (pc' := 136) X (kM_3 (by decide)) (by omega) (by omega) (by decide) dX8_shave_135 rfl ?_
                        refine r_iconst (pc' := 137) X dX8_shave_136 rfl ?_
                        refine r_isub (pc' := 138) X dX8_shave_137 rfl ?_
                        refine r_iast (i := i.toNat) (pc' := 139) X (kM_3 (by decide)) (by omega) (by omega) (by decide) dX8_shave_138 rfl (fun M7 hM7 => ?_)
                        have htt : (tight N P (M 19) (Mb 0 10) (Mb 0 11) 100 (up1 (Mb 0 2) i.toNat (Mb 0 3 i.toNat)) (up1 (Mb 0 3) i.toNat (Mb 0 3 i.toNat))).1 = 2 := by
                          split at hzo <;> rename_i w
                          · exact w
                          · exfalso; omega
                        have hin := shave_in (d := (-1)) hp hmB hbB htB (show i.toNat < N by omega) (by omega) htt
                        have e0n : M7 0 = setV (Mb 0) 3 i.toNat (Mb 0 3 i.toNat + (-1)) := by rw [hM7, wu_V, e0o]; try rfl
                        have hstep : shv N P (M 19) i.toNat 3 (-1) (n.toNat - y) (Mb 0) = (((shv N P (M 19) i.toNat 3 (-1) (n.toNat - (y + 1)) (setV (Mb 0) 3 i.toNat (Mb 0 3 i.toNat + (-1))))).1 + 1, ((shv N P (M 19) i.toNat 3 (-1) (n.toNat - (y + 1)) (setV (Mb 0) 3 i.toNat (Mb 0 3 i.toNat + (-1))))).2) := by rw [show n.toNat - y = (n.toNat - (y + 1)) + 1 by omega]; exact shv_s htt
                        have hfrn : ∀ a, a ≠ 0 → a ≠ 1 → a ≠ 21 → M7 a = noteM M nx ct a := fun a h0 h1 h21 => by rw [hM7, wu_o h0, eoo a h1]; exact hfrB a h0 h1 h21
                        refine r_iinc (pc' := 142) (z' := ((t : Int) + ((y + 1 : Nat) : Int))) (lc' := [(0, vR G (28, 0)), (1, vI i), (2, vI n), (3, vI ((t : Int) + ((y + 1 : Nat) : Int))), (4, vI (y : Int))]) X 3 [1, 2, 3, 0, 4] dX8_shave_139 rfl (by omega) (by decide) rfl rfl ?_
                        refine r_iinc (pc' := 145) (z' := ((y + 1 : Nat) : Int)) (lc' := [(0, vR G (28, 0)), (1, vI i), (2, vI n), (3, vI ((t : Int) + ((y + 1 : Nat) : Int))), (4, vI ((y + 1 : Nat) : Int))]) X 4 [1, 2, 3, 4, 0] dX8_shave_142 rfl (by omega) (by decide) rfl rfl ?_
                        refine r_goto (tgt := 103) X dX8_shave_145 rfl ?_
                        exact ih103 (y + 1) M7 (by omega) (by omega) (by rw [hs1B, hstep, e0n]; omega) (by rw [hs2B, hstep, e0n]) (by rw [e0n]; exact hin.1) (by rw [e0n]; exact hin.2.1) (by rw [e0n]; exact hin.2.2) hfrn
                exact L103 ((n.toNat - 0) + 1) 0 M5 (Nat.lt_succ_self _) (by omega) (by rw [hs2e, Nat.zero_add]; rfl) (by rw [hs2e]; rfl) hmA hbA htA hfrA
              · refine r_aload_n (pc' := 79) X 0 dX8_shave_78 rfl rfl rfl ?_
                refine gf_28_now (pc' := 82) X gw_297 dX8_shave_79 rfl ?_
                refine gf_M_lower (pc' := 85) X (by decide) gw_96 dX8_shave_82 rfl ?_
                refine r_iload_n (pc' := 86) X 1 dX8_shave_85 rfl rfl rfl ?_
                refine r_dup2 (pc' := 87) X dX8_shave_86 rfl rfl rfl ?_
                refine r_iald (i := i.toNat) (pc' := 88) X (kM_2 (by decide)) (by omega) (by omega) (by decide) dX8_shave_87 rfl ?_
                refine r_iconst (pc' := 89) X dX8_shave_88 rfl ?_
                refine r_iadd (pc' := 90) X dX8_shave_89 rfl ?_
                refine r_iast (i := i.toNat) (pc' := 91) X (kM_2 (by decide)) (by omega) (by omega) (by decide) dX8_shave_90 rfl (fun M8 hM8 => ?_)
                have htt : (tight N P (M 19) (Ma 0 10) (Ma 0 11) 100 (up1 (Ma 0 2) i.toNat (Ma 0 2 i.toNat)) (up1 (Ma 0 3) i.toNat (Ma 0 2 i.toNat))).1 = 2 := by
                  split at hzo <;> rename_i w
                  · exact w
                  · exfalso; omega
                have hin := shave_in (d := 1) hp hmA hbA htA (show i.toNat < N by omega) (by omega) htt
                have e0n : M8 0 = setV (Ma 0) 2 i.toNat (Ma 0 2 i.toNat + 1) := by rw [hM8, wu_V, e0o]; try rfl
                have hstep : shv N P (M 19) i.toNat 2 1 (n.toNat - t) (Ma 0) = (((shv N P (M 19) i.toNat 2 1 (n.toNat - (t + 1)) (setV (Ma 0) 2 i.toNat (Ma 0 2 i.toNat + 1)))).1 + 1, ((shv N P (M 19) i.toNat 2 1 (n.toNat - (t + 1)) (setV (Ma 0) 2 i.toNat (Ma 0 2 i.toNat + 1)))).2) := by rw [show n.toNat - t = (n.toNat - (t + 1)) + 1 by omega]; exact shv_s htt
                have hfrn : ∀ a, a ≠ 0 → a ≠ 1 → a ≠ 21 → M8 a = noteM M nx ct a := fun a h0 h1 h21 => by rw [hM8, wu_o h0, eoo a h1]; exact hfrA a h0 h1 h21
                refine r_iinc (pc' := 94) (z' := ((t + 1 : Nat) : Int)) (lc' := [(0, vR G (28, 0)), (1, vI i), (2, vI n), (3, vI ((t + 1 : Nat) : Int)), (4, vI (t : Int))]) X 3 [1, 2, 3, 0, 4] dX8_shave_91 rfl (by omega) (by decide) rfl rfl ?_
                refine r_iinc (pc' := 97) (z' := ((t + 1 : Nat) : Int)) (lc' := [(0, vR G (28, 0)), (1, vI i), (2, vI n), (3, vI ((t + 1 : Nat) : Int)), (4, vI ((t + 1 : Nat) : Int))]) X 4 [1, 2, 3, 4, 0] dX8_shave_94 rfl (by omega) (by decide) rfl rfl ?_
                refine r_goto (tgt := 55) X dX8_shave_97 rfl ?_
                exact ih55 (t + 1) M8 (by omega) (by omega) (by rw [hs1A, hstep, e0n]; omega) (by rw [hs2A, hstep, e0n]) (by rw [e0n]; exact hin.1) (by rw [e0n]; exact hin.2.1) (by rw [e0n]; exact hin.2.2) hfrn
        exact L55 ((n.toNat - 0) + 1) 0 M2 (Nat.lt_succ_self _) (by omega) (by rw [r0, Nat.zero_add]; rfl) (by rw [r0]; rfl) (by rw [r0]; exact hm) (by rw [r0]; exact hbx) (by rw [r0]; exact htr) (fun a h0 h1 h21 => by rw [hR])
      · refine r_thA X hfl hex gw_458 ts_810 dX8_shave_29 dX8_shave_32 dX8_shave_33 dX8_shave_35 dX8_shave_38 (by decide) (by decide) (by decide) (by decide) ?_
        try dsimp only
        exact ⟨(Or.inr (⟨rfl, by omega⟩)), ScrEq.rfl⟩
  · refine r_thX X hfl hex gw_390 ts_695 dX8_shave_8 dX8_shave_11 dX8_shave_12 dX8_shave_14 dX8_shave_17 (by decide) (by decide) (by decide) (by decide) ?_
    try dsimp only
    exact ⟨(Or.inl ⟨rfl, by omega⟩), ScrEq.rfl⟩
