theorem cf_X9_readState : wCal yX9_readState cX9_readState 3 (some .boolean) 1 := ⟨gw_1120, gw_10, by decide, by decide, by rfl⟩
set_option maxRecDepth 100000 in
set_option maxHeartbeats 4000000 in
theorem c_X9_readState (l : Launch) (G : wG) (M : wM) (i N : Nat) (hi : i < 4) (hN : M 29 0 12 = (N : Int)) (hN4 : N ≤ 4) (L ps : Nat) (hx : RxOk (M 29) L ps) : Met l yX9_readState (gws yX9_readState cX9_readState 3 (some .boolean)) (wrm 4 0 0) (wPc G M [vR G (29, 0), vI (i : Int)]) (wQi G (fun z M1 => z = 1 - (pI (M 29 1) L (N + 2) (pC (M 29 1) L 114 114 (ps, 0))).2 ∧ M1 29 0 3 = ((pI (M 29 1) L (N + 2) (pC (M 29 1) L 114 114 (ps, 0))).1 : Int) ∧ ((pI (M 29 1) L (N + 2) (pC (M 29 1) L 114 114 (ps, 0))).2 = 0 → ((∀ x, x < N → x < (N + 2) → M1 29 7 (4 * i + x) = rowF (M 29 1) L (pC (M 29 1) L 114 114 (ps, 0)) x) ∧ (N < (N + 2) → M1 29 8 i = rowF (M 29 1) L (pC (M 29 1) L 114 114 (ps, 0)) N) ∧ (N + 1 < (N + 2) → M1 29 9 i = rowF (M 29 1) L (pC (M 29 1) L 114 114 (ps, 0)) (N + 1)))) ∧ RFx (fun b x => (b = 7 ∧ 4 * i ≤ x ∧ x < 4 * i + N) ∨ ((b = 8 ∨ b = 9) ∧ x = i)) M M1)) 0 0 (wA G) := by
  refine wMet (lc := [(0, vR G (29, 0)), (1, vI (i : Int))]) (by decide) (Nat.le_of_ble_eq_true rfl) rfl ?_
  intro p e s m args below meth c X hr
  have X : wX p s m args meth c G 3 "StateObserverModel" cX9_readState := X
  obtain ⟨hxL, hxL2, hx3, hx4, hxc⟩ := id hx
  have hcp : ps < 200 → _ := hxc ps
  have hp0 : pOk L (ps, 0) := ⟨hx4, Or.inl rfl⟩
  have hcO : pOk L (pC (M 29 1) L 114 114 (ps, 0)) := pC_ok hp0
  refine r_aload_n (pc' := 1) X 0 dX9_readState_0 rfl rfl rfl ?_
  refine r_bipush (pc' := 3) X dX9_readState_1 rfl rfl ?_
  refine w_calli (pc' := 6) (st := []) (w_runV X (c_X9_passes l G M 114 (by omega) L ps hx) cf_X9_passes k29_0 rfl gw_1107 gp_28 rfl rfl ⟨Nat.le_of_ble_eq_true rfl, Nat.le_of_ble_eq_true rfl⟩ rfl rfl (Nat.le_of_ble_eq_true rfl) ⟨Nat.le_of_ble_eq_true rfl, Nat.le_of_ble_eq_true rfl⟩ gw_1105 dX9_readState_3) rfl (fun z3 M1 h3 => ?_)
  obtain ⟨g1, g2, g3⟩ := h3
  have hz3 := hcO.2
  refine r_if_ne (pc' := 9) (tgt := 11) X dX9_readState_6 rfl rfl (by omega) (fun h6 => ?_) (fun h6 => ?_)
  · refine r_iconst (pc' := 12) X dX9_readState_11 rfl ?_
    refine r_istore_n (pc' := 13) (lc' := [(0, vR G (29, 0)), (1, vI (i : Int)), (2, vI 0)]) X [1, 2, 0] dX9_readState_12 rfl (by decide) rfl rfl ?_
    have L13 : ∀ (fu : Nat) (j : Nat) (Ma : wM), N + 2 - j < fu → (j ≤ N + 2) → ((pI (M 29 1) L j (pC (M 29 1) L 114 114 (ps, 0))).2 = 0) → (Ma 29 0 3 = ((pI (M 29 1) L j (pC (M 29 1) L 114 114 (ps, 0))).1 : Int)) → (((∀ x, x < N → x < j → Ma 29 7 (4 * i + x) = rowF (M 29 1) L (pC (M 29 1) L 114 114 (ps, 0)) x) ∧ (N < j → Ma 29 8 i = rowF (M 29 1) L (pC (M 29 1) L 114 114 (ps, 0)) N) ∧ (N + 1 < j → Ma 29 9 i = rowF (M 29 1) L (pC (M 29 1) L 114 114 (ps, 0)) (N + 1)))) → (RFx (fun b x => (b = 7 ∧ 4 * i ≤ x ∧ x < 4 * i + N) ∨ ((b = 8 ∨ b = 9) ∧ x = i)) M Ma) → wV p l e (wrm 4 0 0) s m args below meth c G 3 Ma 0 0 (MQ below (wQi G (fun z M1 => z = 1 - (pI (M 29 1) L (N + 2) (pC (M 29 1) L 114 114 (ps, 0))).2 ∧ M1 29 0 3 = ((pI (M 29 1) L (N + 2) (pC (M 29 1) L 114 114 (ps, 0))).1 : Int) ∧ ((pI (M 29 1) L (N + 2) (pC (M 29 1) L 114 114 (ps, 0))).2 = 0 → ((∀ x, x < N → x < (N + 2) → M1 29 7 (4 * i + x) = rowF (M 29 1) L (pC (M 29 1) L 114 114 (ps, 0)) x) ∧ (N < (N + 2) → M1 29 8 i = rowF (M 29 1) L (pC (M 29 1) L 114 114 (ps, 0)) N) ∧ (N + 1 < (N + 2) → M1 29 9 i = rowF (M 29 1) L (pC (M 29 1) L 114 114 (ps, 0)) (N + 1)))) ∧ RFx (fun b x => (b = 7 ∧ 4 * i ≤ x ∧ x < 4 * i + N) ∨ ((b = 8 ∨ b = 9) ∧ x = i)) M M1)) args s 0 0 (wA G)) 13 [(0, vR G (29, 0)), (1, vI (i : Int)), (2, vI (j : Int))] [] := by
      intro fu
      induction fu with
      | zero => intro j Ma hfu; exact absurd hfu (Nat.not_lt_zero _)
      | succ fu ih13 =>
        intro j Ma hfu13 hj hs0 hpl hva hfr
        have hsj : ((pI (M 29 1) L j (pC (M 29 1) L 114 114 (ps, 0))).1, (0 : Int)) = (pI (M 29 1) L j (pC (M 29 1) L 114 114 (ps, 0))) := Prod.ext rfl hs0.symm
        have hch : Ma 29 1 = M 29 1 := funext fun x => hfr 29 1 x (by omega)
        have hNa : Ma 29 0 12 = N := by rw [hfr 29 0 12 (by omega)]; exact hN
        have hxa : RxOk (Ma 29) L (pI (M 29 1) L j (pC (M 29 1) L 114 114 (ps, 0))).1 := ⟨by rw [hfr 29 0 2 (by omega)]; exact hxL, hxL2, hpl, (pI_ok (ch := M 29 1) hcO j).1, by rw [hch]; exact hxc⟩
        refine r_iload_n (pc' := 14) X 2 dX9_readState_13 rfl rfl rfl ?_
        refine r_aload_n (pc' := 15) X 0 dX9_readState_14 rfl rfl rfl ?_
        refine gf_29_readStates (pc' := 18) X gw_979 dX9_readState_15 rfl ?_
        refine r_iconst (pc' := 19) X dX9_readState_18 rfl ?_
        refine r_iadd (pc' := 20) X dX9_readState_19 rfl ?_
        refine r_icmp_ge (pc' := 23) (tgt := 94) X dX9_readState_20 rfl rfl (by omega) (by omega) (fun h20 => ?_) (fun h20 => ?_)
        · refine r_iconst (pc' := 95) X dX9_readState_94 rfl ?_
          refine w_zret X hr (by decide) dX9_readState_95 ?_
          try dsimp only
          have ej : j = N + 2 := by omega
          rw [ej] at hs0 hpl hva
          exact ⟨by omega, hpl, fun _ => hva, hfr⟩
        · refine r_aload_n (pc' := 24) X 0 dX9_readState_23 rfl rfl rfl ?_
          refine w_calli (pc' := 27) (st := []) (w_runV X (c_X9_readSigned l G Ma L ((pI (M 29 1) L j (pC (M 29 1) L 114 114 (ps, 0))).1) hxa) cf_X9_readSigned k29_0 rfl gw_1123 gp_32 rfl rfl ⟨Nat.le_of_ble_eq_true rfl, Nat.le_of_ble_eq_true rfl⟩ rfl rfl (Nat.le_of_ble_eq_true rfl) ⟨Nat.le_of_ble_eq_true rfl, Nat.le_of_ble_eq_true rfl⟩ gw_1121 dX9_readState_24) rfl (fun z24 M2 h24 => ?_)
          rw [hch, hsj] at h24
          obtain ⟨j1, j2, j3, j4⟩ := h24
          have hz24 := (pI_ok (ch := M 29 1) hcO (j + 1)).2
          have hz24b : (pI (M 29 1) L (j + 1) (pC (M 29 1) L 114 114 (ps, 0))).2 = (pN (M 29 1) L (pI (M 29 1) L j (pC (M 29 1) L 114 114 (ps, 0)))).2.2 := rfl
          have hfr2 := hfr.trans (j4.x (X := (fun b x => (b = 7 ∧ 4 * i ≤ x ∧ x < 4 * i + N) ∨ ((b = 8 ∨ b = 9) ∧ x = i))))
          have hNb : M2 29 0 12 = N := by rw [j4 29 0 12 (by omega)]; exact hNa
          refine r_if_ne (pc' := 30) (tgt := 32) X dX9_readState_27 rfl rfl (by omega) (fun h27 => ?_) (fun h27 => ?_)
          · refine r_iload_n (pc' := 33) X 2 dX9_readState_32 rfl rfl rfl ?_
            refine r_aload_n (pc' := 34) X 0 dX9_readState_33 rfl rfl rfl ?_
            refine gf_29_readStates (pc' := 37) X gw_979 dX9_readState_34 rfl ?_
            refine r_icmp_ge (pc' := 40) (tgt := 57) X dX9_readState_37 rfl rfl (by omega) (by omega) (fun h37 => ?_) (fun h37 => ?_)
            · refine r_iload_n (pc' := 58) X 2 dX9_readState_57 rfl rfl rfl ?_
              refine r_aload_n (pc' := 59) X 0 dX9_readState_58 rfl rfl rfl ?_
              refine gf_29_readStates (pc' := 62) X gw_979 dX9_readState_59 rfl ?_
              refine r_icmp_ne (pc' := 65) (tgt := 78) X dX9_readState_62 rfl rfl (by omega) (by omega) (fun h62 => ?_) (fun h62 => ?_)
              · refine r_aload_n (pc' := 79) X 0 dX9_readState_78 rfl rfl rfl ?_
                refine gf_29_readPush (pc' := 82) X gw_983 dX9_readState_79 rfl ?_
                refine r_iload_n (pc' := 83) X 1 dX9_readState_82 rfl rfl rfl ?_
                refine r_aload_n (pc' := 84) X 0 dX9_readState_83 rfl rfl rfl ?_
                refine gf_29_readNumber (pc' := 87) X gw_971 dX9_readState_84 rfl ?_
                refine r_iast (i := i) (pc' := 88) X k29_9 (by omega) (by omega) (by decide) dX9_readState_87 rfl (fun M3 hM3 => ?_)
                have j5 := j3 (by omega)
                have hvn : ((∀ x, x < N → x < (j + 1) → M3 29 7 (4 * i + x) = rowF (M 29 1) L (pC (M 29 1) L 114 114 (ps, 0)) x) ∧ (N < (j + 1) → M3 29 8 i = rowF (M 29 1) L (pC (M 29 1) L 114 114 (ps, 0)) N) ∧ (N + 1 < (j + 1) → M3 29 9 i = rowF (M 29 1) L (pC (M 29 1) L 114 114 (ps, 0)) (N + 1))) := by
                  refine ⟨fun x hx hx2 => ?_, fun hx => ?_, fun hx => ?_⟩
                  · rw [hM3]
                    unfold wu
                    first
                      | rw [if_neg (by omega), j4 29 7 (4 * i + x) (by omega)]; exact hva.1 x hx (by omega)
                      | (by_cases q : x = j
                         · rw [if_pos ⟨rfl, rfl, by omega⟩, q]; exact j5
                         · rw [if_neg (by omega), j4 29 7 (4 * i + x) (by omega)]; exact hva.1 x hx (by omega))
                  · rw [hM3]
                    unfold wu
                    first
                      | (exfalso; omega)
                      | (rw [if_pos ⟨rfl, rfl, rfl⟩, show N = j by omega]; exact j5)
                      | (rw [if_neg (by omega), j4 29 8 i (by omega)]; exact hva.2.1 (by omega))
                  · rw [hM3]
                    unfold wu
                    first
                      | (exfalso; omega)
                      | (rw [if_pos ⟨rfl, rfl, rfl⟩, show N + 1 = j by omega]; exact j5)
                      | (rw [if_neg (by omega), j4 29 9 i (by omega)]; exact hva.2.2 (by omega))
                refine r_iinc (pc' := 91) (z' := ((j + 1 : Nat) : Int)) (lc' := [(0, vR G (29, 0)), (1, vI (i : Int)), (2, vI ((j + 1 : Nat) : Int))]) X 2 [1, 2, 0] dX9_readState_88 rfl (by omega) (by decide) rfl rfl ?_
                refine r_goto (tgt := 13) X dX9_readState_91 rfl ?_
                exact ih13 (j + 1) M3 (by omega) (by omega) (by omega) (by rw [hM3, wu_ne (by omega)]; exact j2) hvn (hfr2.trans (fun a b x q => by rw [hM3]; unfold wu; rw [if_neg (fun w => q ⟨w.1, Or.inr (by first | exact Or.inl ⟨w.2.1, by omega, by omega⟩ | exact Or.inr ⟨Or.inl w.2.1, w.2.2⟩ | exact Or.inr ⟨Or.inr w.2.1, w.2.2⟩)⟩)]))
              · refine r_aload_n (pc' := 66) X 0 dX9_readState_65 rfl rfl rfl ?_
                refine gf_29_readDrive (pc' := 69) X gw_982 dX9_readState_66 rfl ?_
                refine r_iload_n (pc' := 70) X 1 dX9_readState_69 rfl rfl rfl ?_
                refine r_aload_n (pc' := 71) X 0 dX9_readState_70 rfl rfl rfl ?_
                refine gf_29_readNumber (pc' := 74) X gw_971 dX9_readState_71 rfl ?_
                refine r_iast (i := i) (pc' := 75) X k29_8 (by omega) (by omega) (by decide) dX9_readState_74 rfl (fun M4 hM4 => ?_)
                refine r_goto (tgt := 88) X dX9_readState_75 rfl ?_
                have j5 := j3 (by omega)
                have hvn : ((∀ x, x < N → x < (j + 1) → M4 29 7 (4 * i + x) = rowF (M 29 1) L (pC (M 29 1) L 114 114 (ps, 0)) x) ∧ (N < (j + 1) → M4 29 8 i = rowF (M 29 1) L (pC (M 29 1) L 114 114 (ps, 0)) N) ∧ (N + 1 < (j + 1) → M4 29 9 i = rowF (M 29 1) L (pC (M 29 1) L 114 114 (ps, 0)) (N + 1))) := by
                  refine ⟨fun x hx hx2 => ?_, fun hx => ?_, fun hx => ?_⟩
                  · rw [hM4]
                    unfold wu
                    first
                      | rw [if_neg (by omega), j4 29 7 (4 * i + x) (by omega)]; exact hva.1 x hx (by omega)
                      | (by_cases q : x = j
                         · rw [if_pos ⟨rfl, rfl, by omega⟩, q]; exact j5
                         · rw [if_neg (by omega), j4 29 7 (4 * i + x) (by omega)]; exact hva.1 x hx (by omega))
                  · rw [hM4]
                    unfold wu
                    first
                      | (exfalso; omega)
                      | (rw [if_pos ⟨rfl, rfl, rfl⟩, show N = j by omega]; exact j5)
                      | (rw [if_neg (by omega), j4 29 8 i (by omega)]; exact hva.2.1 (by omega))
                  · rw [hM4]
                    unfold wu
                    first
                      | (exfalso; omega)
                      | (rw [if_pos ⟨rfl, rfl, rfl⟩, show N + 1 = j by omega]; exact j5)
                      | (rw [if_neg (by omega), j4 29 9 i (by omega)]; exact hva.2.2 (by omega))
                refine r_iinc (pc' := 91) (z' := ((j + 1 : Nat) : Int)) (lc' := [(0, vR G (29, 0)), (1, vI (i : Int)), (2, vI ((j + 1 : Nat) : Int))]) X 2 [1, 2, 0] dX9_readState_88 rfl (by omega) (by decide) rfl rfl ?_
                refine r_goto (tgt := 13) X dX9_readState_91 rfl ?_
                exact ih13 (j + 1) M4 (by omega) (by omega) (by omega) (by rw [hM4, wu_ne (by omega)]; exact j2) hvn (hfr2.trans (fun a b x q => by rw [hM4]; unfold wu; rw [if_neg (fun w => q ⟨w.1, Or.inr (by first | exact Or.inl ⟨w.2.1, by omega, by omega⟩ | exact Or.inr ⟨Or.inl w.2.1, w.2.2⟩ | exact Or.inr ⟨Or.inr w.2.1, w.2.2⟩)⟩)]))
            · refine r_aload_n (pc' := 41) X 0 dX9_readState_40 rfl rfl rfl ?_
              refine gf_29_readMatrix (pc' := 44) X gw_981 dX9_readState_41 rfl ?_
              refine r_iconst (pc' := 45) X dX9_readState_44 rfl ?_
              refine r_iload_n (pc' := 46) X 1 dX9_readState_45 rfl rfl rfl ?_
              refine r_imul (pc' := 47) X dX9_readState_46 rfl ?_
              refine r_iload_n (pc' := 48) X 2 dX9_readState_47 rfl rfl rfl ?_
              refine r_iadd (pc' := 49) X dX9_readState_48 rfl ?_
              refine r_aload_n (pc' := 50) X 0 dX9_readState_49 rfl rfl rfl ?_
              refine gf_29_readNumber (pc' := 53) X gw_971 dX9_readState_50 rfl ?_
              refine r_iast (i := (4 * i + j)) (pc' := 54) X k29_7 (by omega) (by omega) (by decide) dX9_readState_53 rfl (fun M5 hM5 => ?_)
              refine r_goto (tgt := 88) X dX9_readState_54 rfl ?_
              have j5 := j3 (by omega)
              have hvn : ((∀ x, x < N → x < (j + 1) → M5 29 7 (4 * i + x) = rowF (M 29 1) L (pC (M 29 1) L 114 114 (ps, 0)) x) ∧ (N < (j + 1) → M5 29 8 i = rowF (M 29 1) L (pC (M 29 1) L 114 114 (ps, 0)) N) ∧ (N + 1 < (j + 1) → M5 29 9 i = rowF (M 29 1) L (pC (M 29 1) L 114 114 (ps, 0)) (N + 1))) := by
                refine ⟨fun x hx hx2 => ?_, fun hx => ?_, fun hx => ?_⟩
                · rw [hM5]
                  unfold wu
                  first
                    | rw [if_neg (by omega), j4 29 7 (4 * i + x) (by omega)]; exact hva.1 x hx (by omega)
                    | (by_cases q : x = j
                       · rw [if_pos ⟨rfl, rfl, by omega⟩, q]; exact j5
                       · rw [if_neg (by omega), j4 29 7 (4 * i + x) (by omega)]; exact hva.1 x hx (by omega))
                · rw [hM5]
                  unfold wu
                  first
                    | (exfalso; omega)
                    | (rw [if_pos ⟨rfl, rfl, rfl⟩, show N = j by omega]; exact j5)
                    | (rw [if_neg (by omega), j4 29 8 i (by omega)]; exact hva.2.1 (by omega))
                · rw [hM5]
                  unfold wu
                  first
                    | (exfalso; omega)
                    | (rw [if_pos ⟨rfl, rfl, rfl⟩, show N + 1 = j by omega]; exact j5)
                    | (rw [if_neg (by omega), j4 29 9 i (by omega)]; exact hva.2.2 (by omega))
              refine r_iinc (pc' := 91) (z' := ((j + 1 : Nat) : Int)) (lc' := [(0, vR G (29, 0)), (1, vI (i : Int)), (2, vI ((j + 1 : Nat) : Int))]) X 2 [1, 2, 0] dX9_readState_88 rfl (by omega) (by decide) rfl rfl ?_
              refine r_goto (tgt := 13) X dX9_readState_91 rfl ?_
              exact ih13 (j + 1) M5 (by omega) (by omega) (by omega) (by rw [hM5, wu_ne (by omega)]; exact j2) hvn (hfr2.trans (fun a b x q => by rw [hM5]; unfold wu; rw [if_neg (fun w => q ⟨w.1, Or.inr (by first | exact Or.inl ⟨w.2.1, by omega, by omega⟩ | exact Or.inr ⟨Or.inl w.2.1, w.2.2⟩ | exact Or.inr ⟨Or.inr w.2.1, w.2.2⟩)⟩)]))
          · refine r_iconst (pc' := 31) X dX9_readState_30 rfl ?_
            refine w_zret X hr (by decide) dX9_readState_31 ?_
            try dsimp only
            have hw : (pI (M 29 1) L (j + 1) (pC (M 29 1) L 114 114 (ps, 0))).2 = 1 := by omega
            have eT := pI_w hw (show j + 1 ≤ N + 2 by omega)
            rw [eT]
            exact ⟨by omega, j2, fun q => absurd q (by omega), hfr2⟩
    exact L13 ((N + 2 - 0) + 1) 0 M1 (Nat.lt_succ_self _) (by omega) (by show (pC (M 29 1) L 114 114 (ps, 0)).2 = 0; omega) g2 ⟨fun x _ h => absurd h (Nat.not_lt_zero x), fun h => absurd h (Nat.not_lt_zero _), fun h => absurd h (Nat.not_lt_zero _)⟩ g3.x
  · refine r_iconst (pc' := 10) X dX9_readState_9 rfl ?_
    refine w_zret X hr (by decide) dX9_readState_10 ?_
    try dsimp only
    have hw : (pC (M 29 1) L 114 114 (ps, 0)).2 = 1 := by omega
    have eT : (pI (M 29 1) L (N + 2) (pC (M 29 1) L 114 114 (ps, 0))) = (pC (M 29 1) L 114 114 (ps, 0)) := pI_1 hw _
    rw [eT]
    exact ⟨by omega, g2, fun q => absurd q (by omega), g3.x⟩
