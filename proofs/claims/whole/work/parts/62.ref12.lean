theorem cf_X9_readAll : wCal yX9_readAll cX9_readAll 2 (some .boolean) 0 := ⟨gw_1100, gw_10, by decide, by decide, by rfl⟩
set_option maxRecDepth 100000 in
set_option maxHeartbeats 4000000 in
theorem c_X9_readAll (l : Launch) (G : wG) (M : wM) (L : Nat) (hB : RxB (M 29) L) : Met l yX9_readAll (gws yX9_readAll cX9_readAll 2 (some .boolean)) (wrm 5 0 0) (wPc G M [vR G (29, 0)]) (wQi G (fun z M1 => z = 1 - (rdE (M 29 1) L).1.2 ∧ M1 29 0 3 = ((rdE (M 29 1) L).1.1 : Int) ∧ ((rdE (M 29 1) L).1.2 = 0 → RdF (M1 29) (M 29 1) L (rdN (M 29 1) L) (rdP (M 29 1) L) ∧ RdG (M1 29 12) (rdE (M 29 1) L).2) ∧ RFx (fun b i => (b = 0 ∧ (i = 12 ∨ i = 13)) ∨ (7 ≤ b ∧ b ≤ 12)) M M1)) 0 0 (wA G) := by
  refine wMet (lc := [(0, vR G (29, 0))]) (by decide) (Nat.le_of_ble_eq_true rfl) rfl ?_
  intro p e s m args below meth c X hr
  have X : wX p s m args meth c G 2 "StateObserverModel" cX9_readAll := X
  obtain ⟨hB1, hB2, hB3⟩ := id hB
  have hn0 := rd_n (ch := M 29 1) (L := L)
  have hp0 := rd_p (ch := M 29 1) (L := L)
  have okS := rdS_ok (ch := M 29 1) (L := L)
  refine r_aload_n (pc' := 1) X 0 dX9_readAll_0 rfl rfl rfl ?_
  refine r_iconst (pc' := 2) X dX9_readAll_1 rfl ?_
  refine pf_29_place (pc' := 5) X gw_970 dX9_readAll_2 rfl (fun M1 hM1 => ?_)
  refine r_aload_n (pc' := 6) X 0 dX9_readAll_5 rfl rfl rfl ?_
  refine gf_29_readRow (pc' := 9) X gw_986 dX9_readAll_6 rfl ?_
  refine w_callv (pc' := 12) (st := []) (w_runS X (c_X9_layFirst l G M1 29 12 k29_12) cf_X9_layFirst gw_965 rfl rfl ⟨Nat.le_of_ble_eq_true rfl, Nat.le_of_ble_eq_true rfl⟩ rfl rfl (Nat.le_of_ble_eq_true rfl) ⟨Nat.le_of_ble_eq_true rfl, Nat.le_of_ble_eq_true rfl⟩ gw_964 dX9_readAll_9) rfl (fun M2 h9 => ?_)
  have q0 : ∀ a b i, ¬ (a = 29 ∧ ((b = 0 ∧ i = 3) ∨ b = 12)) → M2 a b i = M a b i := fun a b i q => by rw [h9.1 a b (by omega), hM1]; unfold wu; rw [if_neg (by omega)]
  have q3 : M2 29 0 3 = 0 := by rw [h9.1 29 0 (by omega), hM1]; unfold wu; rw [if_pos ⟨rfl, rfl, rfl⟩]
  have ec0 : M2 29 1 = M 29 1 := funext fun i => q0 29 1 i (by omega)
  have hx0 : RxOk (M2 29) L 0 := ⟨by rw [q0 29 0 2 (by omega)]; exact hB1, hB2, q3, Nat.zero_le _, by rw [ec0]; exact hB3⟩
  have fr0 : RFx (fun b i => (b = 0 ∧ (i = 12 ∨ i = 13)) ∨ (7 ≤ b ∧ b ≤ 12)) M M2 := fun a b i q => q0 a b i (fun w => q ⟨w.1, by omega⟩)
  refine r_iconst (pc' := 13) X dX9_readAll_12 rfl ?_
  refine r_istore_n (pc' := 14) (lc' := [(0, vR G (29, 0)), (1, vI 0)]) X [1, 0] dX9_readAll_13 rfl (by decide) rfl rfl ?_
  have L14 : ∀ (fu : Nat) (k : Nat) (Ma : wM), 16 - k < fu → (k ≤ 16) → (RxOk (Ma 29) L 0) → (Ma 29 1 = M 29 1) → (RFx (fun b i => (b = 0 ∧ (i = 12 ∨ i = 13)) ∨ (7 ≤ b ∧ b ≤ 12)) M Ma) → (∀ x, x < 48 → Ma 29 12 x = layF x) → (∀ x, x < k → Ma 29 7 x = 0) → wV p l e (wrm 5 0 0) s m args below meth c G 2 Ma 0 0 (MQ below (wQi G (fun z M1 => z = 1 - (rdE (M 29 1) L).1.2 ∧ M1 29 0 3 = ((rdE (M 29 1) L).1.1 : Int) ∧ ((rdE (M 29 1) L).1.2 = 0 → RdF (M1 29) (M 29 1) L (rdN (M 29 1) L) (rdP (M 29 1) L) ∧ RdG (M1 29 12) (rdE (M 29 1) L).2) ∧ RFx (fun b i => (b = 0 ∧ (i = 12 ∨ i = 13)) ∨ (7 ≤ b ∧ b ≤ 12)) M M1)) args s 0 0 (wA G)) 14 [(0, vR G (29, 0)), (1, vI (k : Int))] [] := by
    intro fu
    induction fu with
    | zero => intro k Ma hfu; exact absurd hfu (Nat.not_lt_zero _)
    | succ fu ih14 =>
      intro k Ma hfu14 hk hx ec fr hl hz7
      refine r_iload_n (pc' := 15) X 1 dX9_readAll_14 rfl rfl rfl ?_
      refine r_bipush (pc' := 17) X dX9_readAll_15 rfl rfl ?_
      refine r_icmp_ge (pc' := 20) (tgt := 33) X dX9_readAll_17 rfl rfl (by omega) (by omega) (fun h17 => ?_) (fun h17 => ?_)
      · refine r_iconst (pc' := 34) X dX9_readAll_33 rfl ?_
        refine r_istore_n (pc' := 35) (lc' := [(0, vR G (29, 0)), (1, vI 0)]) X [1, 0] dX9_readAll_34 rfl (by decide) rfl rfl ?_
        have L35 : ∀ (fu : Nat) (k : Nat) (Mb : wM), 12 - k < fu → (k ≤ 12) → (RxOk (Mb 29) L 0) → (Mb 29 1 = M 29 1) → (RFx (fun b i => (b = 0 ∧ (i = 12 ∨ i = 13)) ∨ (7 ≤ b ∧ b ≤ 12)) M Mb) → (∀ x, x < 48 → Mb 29 12 x = layF x) → (∀ x, x < 16 → Mb 29 7 x = 0) → (∀ x, x < k → Mb 29 10 x = 0) → wV p l e (wrm 5 0 0) s m args below meth c G 2 Mb 0 0 (MQ below (wQi G (fun z M1 => z = 1 - (rdE (M 29 1) L).1.2 ∧ M1 29 0 3 = ((rdE (M 29 1) L).1.1 : Int) ∧ ((rdE (M 29 1) L).1.2 = 0 → RdF (M1 29) (M 29 1) L (rdN (M 29 1) L) (rdP (M 29 1) L) ∧ RdG (M1 29 12) (rdE (M 29 1) L).2) ∧ RFx (fun b i => (b = 0 ∧ (i = 12 ∨ i = 13)) ∨ (7 ≤ b ∧ b ≤ 12)) M M1)) args s 0 0 (wA G)) 35 [(0, vR G (29, 0)), (1, vI (k : Int))] [] := by
          intro fu
          induction fu with
          | zero => intro k Mb hfu; exact absurd hfu (Nat.not_lt_zero _)
          | succ fu ih35 =>
            intro k Mb hfu35 hk hx ec fr hl hz7 hz10
            refine r_iload_n (pc' := 36) X 1 dX9_readAll_35 rfl rfl rfl ?_
            refine r_bipush (pc' := 38) X dX9_readAll_36 rfl rfl ?_
            refine r_icmp_ge (pc' := 41) (tgt := 54) X dX9_readAll_38 rfl rfl (by omega) (by omega) (fun h38 => ?_) (fun h38 => ?_)
            · refine r_iconst (pc' := 55) X dX9_readAll_54 rfl ?_
              refine r_istore_n (pc' := 56) (lc' := [(0, vR G (29, 0)), (1, vI 0)]) X [1, 0] dX9_readAll_55 rfl (by decide) rfl rfl ?_
              have L56 : ∀ (fu : Nat) (k : Nat) (Mc : wM), 4 - k < fu → (k ≤ 4) → (RxOk (Mc 29) L 0) → (Mc 29 1 = M 29 1) → (RFx (fun b i => (b = 0 ∧ (i = 12 ∨ i = 13)) ∨ (7 ≤ b ∧ b ≤ 12)) M Mc) → (∀ x, x < 48 → Mc 29 12 x = layF x) → (∀ x, x < 16 → Mc 29 7 x = 0) → (∀ x, x < 12 → Mc 29 10 x = 0) → wV p l e (wrm 5 0 0) s m args below meth c G 2 Mc 0 0 (MQ below (wQi G (fun z M1 => z = 1 - (rdE (M 29 1) L).1.2 ∧ M1 29 0 3 = ((rdE (M 29 1) L).1.1 : Int) ∧ ((rdE (M 29 1) L).1.2 = 0 → RdF (M1 29) (M 29 1) L (rdN (M 29 1) L) (rdP (M 29 1) L) ∧ RdG (M1 29 12) (rdE (M 29 1) L).2) ∧ RFx (fun b i => (b = 0 ∧ (i = 12 ∨ i = 13)) ∨ (7 ≤ b ∧ b ≤ 12)) M M1)) args s 0 0 (wA G)) 56 [(0, vR G (29, 0)), (1, vI (k : Int))] [] := by
                intro fu
                induction fu with
                | zero => intro k Mc hfu; exact absurd hfu (Nat.not_lt_zero _)
                | succ fu ih56 =>
                  intro k Mc hfu56 hk hx ec fr hl hz7 hz10
                  refine r_iload_n (pc' := 57) X 1 dX9_readAll_56 rfl rfl rfl ?_
                  refine r_iconst (pc' := 58) X dX9_readAll_57 rfl ?_
                  refine r_icmp_ge (pc' := 61) (tgt := 81) X dX9_readAll_58 rfl rfl (by omega) (by omega) (fun h58 => ?_) (fun h58 => ?_)
                  · refine r_aload_n (pc' := 82) X 0 dX9_readAll_81 rfl rfl rfl ?_
                    refine w_calli (pc' := 85) (st := []) (w_runV X (c_X9_readHead l G Mc L hx) cf_X9_readHead k29_0 rfl gw_1103 gp_27 rfl rfl ⟨Nat.le_of_ble_eq_true rfl, Nat.le_of_ble_eq_true rfl⟩ rfl rfl (Nat.le_of_ble_eq_true rfl) ⟨Nat.le_of_ble_eq_true rfl, Nat.le_of_ble_eq_true rfl⟩ gw_1101 dX9_readAll_82) rfl (fun z82 M3 h82 => ?_)
                    rw [ec] at h82
                    obtain ⟨hz82, hp82, hv82, hfr82⟩ := h82
                    have w82 := okS.2
                    have ec82 : M3 29 1 = M 29 1 := by rw [← ec]; exact funext fun i => hfr82 29 1 i (by omega)
                    have fr82 : RFx (fun b i => (b = 0 ∧ (i = 12 ∨ i = 13)) ∨ (7 ≤ b ∧ b ≤ 12)) M M3 := RFx.trans fr (RFx.mono hfr82 (fun b i q => Or.inr (by omega)))
                    have hx82 : RxOk (M3 29) L (rdS (M 29 1) L).1 := hfr82.ok hx hp82 okS.1 (by rintro (z | z) <;> omega) (fun _ => by rintro (z | z) <;> omega)
                    have hG82 : RdG (M3 29 12) (fun _ _ => 0) := ⟨fun x y h1 h2 => by rw [hfr82 29 12 _ (by omega), hl _ (by omega)]; exact layF_g (by omega), fun x h1 h2 => by rw [hfr82 29 12 x (by omega)]; exact hl x h1⟩
                    have hF82 : (rdS (M 29 1) L).2 = 0 → RdF (M3 29) (M 29 1) L 0 0 := fun q => by
                      have v := hv82 q
                      exact ⟨v.1.trans hn0.1, v.2.1.trans hp0.1, v.2.2.1, v.2.2.2, fun x hx => absurd hx (Nat.not_lt_zero x), fun x hx => absurd hx (Nat.not_lt_zero x), fun x j h1 h2 h3 => by rw [hfr82 29 7 _ (by omega)]; exact hz7 _ (by omega), fun x j h1 h2 h3 => by rw [hfr82 29 10 _ (by omega)]; exact hz10 _ (by omega)⟩
                    refine r_if_ne (pc' := 88) (tgt := 90) X dX9_readAll_85 rfl rfl (by omega) (fun h85 => ?_) (fun h85 => ?_)
                    · have hw82 : (rdS (M 29 1) L).2 = 0 := by omega
                      have hF82 := hF82 hw82
                      have hsN := rdS_0 hw82
                      refine r_iconst (pc' := 91) X dX9_readAll_90 rfl ?_
                      refine r_istore_n (pc' := 92) (lc' := [(0, vR G (29, 0)), (1, vI 0)]) X [1, 0] dX9_readAll_91 rfl (by decide) rfl rfl ?_
                      have L92 : ∀ (fu : Nat) (i : Nat) (Md : wM), (rdN (M 29 1) L) - i < fu → (i ≤ (rdN (M 29 1) L)) → ((sS (M 29 1) L (rdN (M 29 1) L) (rdS (M 29 1) L) i).2 = 0) → (RxOk (Md 29) L (sS (M 29 1) L (rdN (M 29 1) L) (rdS (M 29 1) L) i).1) → (Md 29 1 = M 29 1) → (RFx (fun b i => (b = 0 ∧ (i = 12 ∨ i = 13)) ∨ (7 ≤ b ∧ b ≤ 12)) M Md) → (RdF (Md 29) (M 29 1) L i 0) → (RdG (Md 29 12) (fun _ _ => 0)) → wV p l e (wrm 5 0 0) s m args below meth c G 2 Md 0 0 (MQ below (wQi G (fun z M1 => z = 1 - (rdE (M 29 1) L).1.2 ∧ M1 29 0 3 = ((rdE (M 29 1) L).1.1 : Int) ∧ ((rdE (M 29 1) L).1.2 = 0 → RdF (M1 29) (M 29 1) L (rdN (M 29 1) L) (rdP (M 29 1) L) ∧ RdG (M1 29 12) (rdE (M 29 1) L).2) ∧ RFx (fun b i => (b = 0 ∧ (i = 12 ∨ i = 13)) ∨ (7 ≤ b ∧ b ≤ 12)) M M1)) args s 0 0 (wA G)) 92 [(0, vR G (29, 0)), (1, vI (i : Int))] [] := by
                        intro fu
                        induction fu with
                        | zero => intro i Md hfu; exact absurd hfu (Nat.not_lt_zero _)
                        | succ fu ih92 =>
                          intro i Md hfu92 hi hw0 hxs ec fr hF hlG
                          obtain ⟨hxL, hxL2, hx3, hx4, hxc⟩ := id hxs
                          refine r_iload_n (pc' := 93) X 1 dX9_readAll_92 rfl rfl rfl ?_
                          refine r_aload_n (pc' := 94) X 0 dX9_readAll_93 rfl rfl rfl ?_
                          refine gf_29_readStates (pc' := 97) X gw_979 dX9_readAll_94 rfl ?_
                          refine w_eqI (z' := ((rdN (M 29 1) L) : Int)) hF.1 ?_
                          refine r_icmp_ge (pc' := 100) (tgt := 116) X dX9_readAll_97 rfl rfl (by omega) (by omega) (fun h97 => ?_) (fun h97 => ?_)
                          · have eiN : i = (rdN (M 29 1) L) := by omega
                            refine r_iconst (pc' := 117) X dX9_readAll_116 rfl ?_
                            refine r_istore_n (pc' := 118) (lc' := [(0, vR G (29, 0)), (1, vI 0)]) X [1, 0] dX9_readAll_117 rfl (by decide) rfl rfl ?_
                            have L118 : ∀ (fu : Nat) (k : Nat) (Me : wM), (rdP (M 29 1) L) - k < fu → (k ≤ (rdP (M 29 1) L)) → ((sO (M 29 1) L (rdN (M 29 1) L) (sS (M 29 1) L (rdN (M 29 1) L) (rdS (M 29 1) L) (rdN (M 29 1) L)) k).2 = 0) → (RxOk (Me 29) L (sO (M 29 1) L (rdN (M 29 1) L) (sS (M 29 1) L (rdN (M 29 1) L) (rdS (M 29 1) L) (rdN (M 29 1) L)) k).1) → (Me 29 1 = M 29 1) → (RFx (fun b i => (b = 0 ∧ (i = 12 ∨ i = 13)) ∨ (7 ≤ b ∧ b ≤ 12)) M Me) → (RdF (Me 29) (M 29 1) L (rdN (M 29 1) L) k) → (RdG (Me 29 12) (fun _ _ => 0)) → wV p l e (wrm 5 0 0) s m args below meth c G 2 Me 0 0 (MQ below (wQi G (fun z M1 => z = 1 - (rdE (M 29 1) L).1.2 ∧ M1 29 0 3 = ((rdE (M 29 1) L).1.1 : Int) ∧ ((rdE (M 29 1) L).1.2 = 0 → RdF (M1 29) (M 29 1) L (rdN (M 29 1) L) (rdP (M 29 1) L) ∧ RdG (M1 29 12) (rdE (M 29 1) L).2) ∧ RFx (fun b i => (b = 0 ∧ (i = 12 ∨ i = 13)) ∨ (7 ≤ b ∧ b ≤ 12)) M M1)) args s 0 0 (wA G)) 118 [(0, vR G (29, 0)), (1, vI (k : Int))] [] := by
                              intro fu
                              induction fu with
                              | zero => intro k Me hfu; exact absurd hfu (Nat.not_lt_zero _)
                              | succ fu ih118 =>
                                intro k Me hfu118 hk hw0 hxs ec fr hF hlG
                                obtain ⟨hxL, hxL2, hx3, hx4, hxc⟩ := id hxs
                                refine r_iload_n (pc' := 119) X 1 dX9_readAll_118 rfl rfl rfl ?_
                                refine r_aload_n (pc' := 120) X 0 dX9_readAll_119 rfl rfl rfl ?_
                                refine gf_29_readOutputs (pc' := 123) X gw_980 dX9_readAll_120 rfl ?_
                                refine w_eqI (z' := ((rdP (M 29 1) L) : Int)) hF.2.1 ?_
                                refine r_icmp_ge (pc' := 126) (tgt := 142) X dX9_readAll_123 rfl rfl (by omega) (by omega) (fun h123 => ?_) (fun h123 => ?_)
                                · have L142 : ∀ (fu : Nat) (fl : Nat) (ps : Nat) (g : Nat → Nat → Int) (Mf : wM), L - ps < fu → (ps ≤ L ∧ L - ps ≤ fl) → ((rdE (M 29 1) L) = gG (M 29 1) L (rdN (M 29 1) L) (rdP (M 29 1) L) fl (ps, 0) g) → (RxOk (Mf 29) L ps) → (Mf 29 1 = M 29 1) → (RFx (fun b i => (b = 0 ∧ (i = 12 ∨ i = 13)) ∨ (7 ≤ b ∧ b ≤ 12)) M Mf) → (RdF (Mf 29) (M 29 1) L (rdN (M 29 1) L) (rdP (M 29 1) L)) → (RdG (Mf 29 12) g) → wV p l e (wrm 5 0 0) s m args below meth c G 2 Mf 0 0 (MQ below (wQi G (fun z M1 => z = 1 - (rdE (M 29 1) L).1.2 ∧ M1 29 0 3 = ((rdE (M 29 1) L).1.1 : Int) ∧ ((rdE (M 29 1) L).1.2 = 0 → RdF (M1 29) (M 29 1) L (rdN (M 29 1) L) (rdP (M 29 1) L) ∧ RdG (M1 29 12) (rdE (M 29 1) L).2) ∧ RFx (fun b i => (b = 0 ∧ (i = 12 ∨ i = 13)) ∨ (7 ≤ b ∧ b ≤ 12)) M M1)) args s 0 0 (wA G)) 142 [(0, vR G (29, 0))] [] := by
                                    intro fu
                                    induction fu with
                                    | zero => intro fl ps g Mf hfu; exact absurd hfu (Nat.not_lt_zero _)
                                    | succ fu ih142 =>
                                      intro fl ps g Mf hfu142 hps hE hxp ec fr hF hG
                                      obtain ⟨hxL, hxL2, hx3, hx4, hxc⟩ := id hxp
                                      refine r_aload_n (pc' := 143) X 0 dX9_readAll_142 rfl rfl rfl ?_
                                      refine gf_29_place (pc' := 146) X gw_970 dX9_readAll_143 rfl ?_
                                      refine r_aload_n (pc' := 147) X 0 dX9_readAll_146 rfl rfl rfl ?_
                                      refine gf_29_textSize (pc' := 150) X gw_969 dX9_readAll_147 rfl ?_
                                      refine r_icmp_ge (pc' := 153) (tgt := 162) X dX9_readAll_150 rfl rfl (by omega) (by omega) (fun h150 => ?_) (fun h150 => ?_)
                                      · refine r_iconst (pc' := 163) X dX9_readAll_162 rfl ?_
                                        refine w_zret X hr (by decide) dX9_readAll_163 ?_
                                        try dsimp only
                                        have e : (rdE (M 29 1) L) = ((ps, 0), g) := by rw [hE]; exact gG_stop (fun w => by have : ps < L := w.2; omega)
                                        rw [e]
                                        exact ⟨rfl, hx3, fun _ => ⟨hF, hG⟩, fr⟩
                                      · refine r_aload_n (pc' := 154) X 0 dX9_readAll_153 rfl rfl rfl ?_
                                        refine w_calli (pc' := 157) (st := []) (w_runV X (c_X9_readGain l G Mf (rdN (M 29 1) L) (rdP (M 29 1) L) hF.1 (⟨hsN.1, hn0.2⟩) hF.2.1 (⟨hsN.2, hp0.2⟩) L ps hxp) cf_X9_readGain k29_0 rfl gw_1131 gp_34 rfl rfl ⟨Nat.le_of_ble_eq_true rfl, Nat.le_of_ble_eq_true rfl⟩ rfl rfl (Nat.le_of_ble_eq_true rfl) ⟨Nat.le_of_ble_eq_true rfl, Nat.le_of_ble_eq_true rfl⟩ gw_1129 dX9_readAll_154) rfl (fun z154 M4 h154 => ?_)
                                        rw [ec] at h154
                                        obtain ⟨hz154, hp154, hv154, hfr154⟩ := h154
                                        have ok154 := gV_ok (ch := M 29 1) (N := (rdN (M 29 1) L)) (P := (rdP (M 29 1) L)) (show pOk L (ps, 0) from ⟨hps.1, Or.inl rfl⟩)
                                        have w154 := ok154.2
                                        have ec154 : M4 29 1 = M 29 1 := by rw [← ec]; exact funext fun y => hfr154 29 1 y (by omega)
                                        have fr154 : RFx (fun b i => (b = 0 ∧ (i = 12 ∨ i = 13)) ∨ (7 ≤ b ∧ b ≤ 12)) M M4 := RFx.trans fr (RFx.mono hfr154 (fun b y q => Or.inr (by omega)))
                                        have hx154 : RxOk (M4 29) L (gV (M 29 1) L (rdN (M 29 1) L) (rdP (M 29 1) L) (ps, 0)).2.1 := hfr154.ok hxp hp154 ok154.1 (by omega) (fun _ => by omega)
                                        have hF154 : RdF (M4 29) (M 29 1) L (rdN (M 29 1) L) (rdP (M 29 1) L) := RdF_keep hF (fun b y w => hfr154 29 b y (by omega))
                                        have hgs : gG (M 29 1) L (rdN (M 29 1) L) (rdP (M 29 1) L) fl (ps, 0) g = gG (M 29 1) L (rdN (M 29 1) L) (rdP (M 29 1) L) (fl - 1) (gV (M 29 1) L (rdN (M 29 1) L) (rdP (M 29 1) L) (ps, 0)).2 (gUp (M 29 1) L (rdN (M 29 1) L) (rdP (M 29 1) L) (ps, 0) g) := by
                                          have := gG_s (ch := M 29 1) (L := L) (N := (rdN (M 29 1) L)) (P := (rdP (M 29 1) L)) (n := fl - 1) (s := (ps, 0)) (g := g) ⟨rfl, by show ps < L; omega⟩
                                          rw [show fl - 1 + 1 = fl by omega] at this
                                          exact this
                                        refine r_if_ne (pc' := 160) (tgt := 142) X dX9_readAll_157 rfl rfl (by omega) (fun h157 => ?_) (fun h157 => ?_)
                                        · have q154 : (gV (M 29 1) L (rdN (M 29 1) L) (rdP (M 29 1) L) (ps, 0)).2.2 = 0 := by omega
                                          have a154 := gV_adv q154
                                          have a154b : (gV (M 29 1) L (rdN (M 29 1) L) (rdP (M 29 1) L) (ps, 0)).2.1 = ps + 6 := a154
                                          have b154 := ok154.1
                                          have hps2 : (gV (M 29 1) L (rdN (M 29 1) L) (rdP (M 29 1) L) (ps, 0)).2.1 ≤ L ∧ L - (gV (M 29 1) L (rdN (M 29 1) L) (rdP (M 29 1) L) (ps, 0)).2.1 ≤ fl - 1 := by omega
                                          have hE154 : (rdE (M 29 1) L) = gG (M 29 1) L (rdN (M 29 1) L) (rdP (M 29 1) L) (fl - 1) ((gV (M 29 1) L (rdN (M 29 1) L) (rdP (M 29 1) L) (ps, 0)).2.1, 0) (gUp (M 29 1) L (rdN (M 29 1) L) (rdP (M 29 1) L) (ps, 0) g) := by rw [hE, hgs, show ((gV (M 29 1) L (rdN (M 29 1) L) (rdP (M 29 1) L) (ps, 0)).2.1, (0 : Int)) = (gV (M 29 1) L (rdN (M 29 1) L) (rdP (M 29 1) L) (ps, 0)).2 from Prod.ext rfl q154.symm]
                                          have hG154 : RdG (M4 29 12) (gUp (M 29 1) L (rdN (M 29 1) L) (rdP (M 29 1) L) (ps, 0) g) := by
                                            have v := hv154 q154
                                            rw [v.2]
                                            exact RdG_s hG v.1.1 v.1.2
                                          exact ih142 (fl - 1) ((gV (M 29 1) L (rdN (M 29 1) L) (rdP (M 29 1) L) (ps, 0)).2.1) (gUp (M 29 1) L (rdN (M 29 1) L) (rdP (M 29 1) L) (ps, 0) g) M4 (by omega) hps2 hE154 hx154 ec154 fr154 hF154 hG154
                                        · refine r_iconst (pc' := 161) X dX9_readAll_160 rfl ?_
                                          refine w_zret X hr (by decide) dX9_readAll_161 ?_
                                          try dsimp only
                                          have q : (gV (M 29 1) L (rdN (M 29 1) L) (rdP (M 29 1) L) (ps, 0)).2.2 = 1 := by omega
                                          have e : (rdE (M 29 1) L).1 = (gV (M 29 1) L (rdN (M 29 1) L) (rdP (M 29 1) L) (ps, 0)).2 := by rw [hE, hgs, gG_stop (by rw [q]; omega)]
                                          rw [e]
                                          exact ⟨by omega, hp154, fun w => absurd w (by omega), fr154⟩
                                  refine w_sub (lc' := [(0, vR G (29, 0))]) [0] rfl ?_
                                  exact L142 ((L - ((sO (M 29 1) L (rdN (M 29 1) L) (sS (M 29 1) L (rdN (M 29 1) L) (rdS (M 29 1) L) (rdN (M 29 1) L)) k).1)) + 1) 200 ((sO (M 29 1) L (rdN (M 29 1) L) (sS (M 29 1) L (rdN (M 29 1) L) (rdS (M 29 1) L) (rdN (M 29 1) L)) k).1) (fun _ _ => 0) Me (Nat.lt_succ_self _) ⟨hxs.2.2.2.1, by have := hxs.2.1; omega⟩ (by rw [show ((sO (M 29 1) L (rdN (M 29 1) L) (sS (M 29 1) L (rdN (M 29 1) L) (rdS (M 29 1) L) (rdN (M 29 1) L)) k).1, (0 : Int)) = (sO (M 29 1) L (rdN (M 29 1) L) (sS (M 29 1) L (rdN (M 29 1) L) (rdS (M 29 1) L) (rdN (M 29 1) L)) k) from Prod.ext rfl hw0.symm, show k = (rdP (M 29 1) L) by omega]; rfl) hxs ec fr (by rw [show k = (rdP (M 29 1) L) by omega] at hF; exact hF) hlG
                                · refine r_aload_n (pc' := 127) X 0 dX9_readAll_126 rfl rfl rfl ?_
                                  refine r_iload_n (pc' := 128) X 1 dX9_readAll_127 rfl rfl rfl ?_
                                  refine w_calli (pc' := 131) (st := []) (w_runV X (c_X9_readOutput l G Me k (rdN (M 29 1) L) (by omega) hF.1 hn0.2 L ((sO (M 29 1) L (rdN (M 29 1) L) (sS (M 29 1) L (rdN (M 29 1) L) (rdS (M 29 1) L) (rdN (M 29 1) L)) k).1) hxs) cf_X9_readOutput k29_0 rfl gw_1127 gp_33 rfl rfl ⟨Nat.le_of_ble_eq_true rfl, Nat.le_of_ble_eq_true rfl⟩ rfl rfl (Nat.le_of_ble_eq_true rfl) ⟨Nat.le_of_ble_eq_true rfl, Nat.le_of_ble_eq_true rfl⟩ gw_1125 dX9_readAll_128) rfl (fun z128 M5 h128 => ?_)
                                  rw [ec, show ((sO (M 29 1) L (rdN (M 29 1) L) (sS (M 29 1) L (rdN (M 29 1) L) (rdS (M 29 1) L) (rdN (M 29 1) L)) k).1, (0 : Int)) = (sO (M 29 1) L (rdN (M 29 1) L) (sS (M 29 1) L (rdN (M 29 1) L) (rdS (M 29 1) L) (rdN (M 29 1) L)) k) from Prod.ext rfl (by show (0 : Int) = _; omega)] at h128
                                  obtain ⟨hz128, hp128, hv128, hfr128⟩ : z128 = 1 - (sO (M 29 1) L (rdN (M 29 1) L) (sS (M 29 1) L (rdN (M 29 1) L) (rdS (M 29 1) L) (rdN (M 29 1) L)) (k + 1)).2 ∧ M5 29 0 3 = ((sO (M 29 1) L (rdN (M 29 1) L) (sS (M 29 1) L (rdN (M 29 1) L) (rdS (M 29 1) L) (rdN (M 29 1) L)) (k + 1)).1 : Int) ∧ ((sO (M 29 1) L (rdN (M 29 1) L) (sS (M 29 1) L (rdN (M 29 1) L) (rdS (M 29 1) L) (rdN (M 29 1) L)) (k + 1)).2 = 0 → _) ∧ RFx (fun b i => (b = 10 ∧ 4 * k ≤ i ∧ i < 4 * k + (rdN (M 29 1) L)) ∨ (b = 11 ∧ i = k)) Me M5 := h128
                                  have ok128 := sO_ok (ch := M 29 1) (N := (rdN (M 29 1) L)) (sS_ok (ch := M 29 1) (N := (rdN (M 29 1) L)) okS (rdN (M 29 1) L)) (k + 1)
                                  have w128 := ok128.2
                                  have ec128 : M5 29 1 = M 29 1 := by rw [← ec]; exact funext fun y => hfr128 29 1 y (by omega)
                                  have fr128 : RFx (fun b i => (b = 0 ∧ (i = 12 ∨ i = 13)) ∨ (7 ≤ b ∧ b ≤ 12)) M M5 := RFx.trans fr (RFx.mono hfr128 (fun b y q => Or.inr (by omega)))
                                  have hx128 : RxOk (M5 29) L (sO (M 29 1) L (rdN (M 29 1) L) (sS (M 29 1) L (rdN (M 29 1) L) (rdS (M 29 1) L) (rdN (M 29 1) L)) (k + 1)).1 := hfr128.ok hxs hp128 ok128.1 (by rintro (z | z) <;> omega) (fun _ => by rintro (z | z) <;> omega)
                                  have hG128 : RdG (M5 29 12) (fun _ _ => 0) := by rw [show M5 29 12 = Me 29 12 from funext fun y => hfr128 29 12 y (by omega)]; exact hlG
                                  have hF128 : (sO (M 29 1) L (rdN (M 29 1) L) (sS (M 29 1) L (rdN (M 29 1) L) (rdS (M 29 1) L) (rdN (M 29 1) L)) (k + 1)).2 = 0 → RdF (M5 29) (M 29 1) L (rdN (M 29 1) L) (k + 1) := fun q => by
                                    have v := hv128 q
                                    exact RdF_out (by omega) hn0.2 hF (fun b y w => hfr128 29 b y (fun u => w u.2)) v
                                  refine r_if_ne (pc' := 134) (tgt := 136) X dX9_readAll_131 rfl rfl (by omega) (fun h131 => ?_) (fun h131 => ?_)
                                  · have hw128 : (sO (M 29 1) L (rdN (M 29 1) L) (sS (M 29 1) L (rdN (M 29 1) L) (rdS (M 29 1) L) (rdN (M 29 1) L)) (k + 1)).2 = 0 := by omega
                                    have hF128 := hF128 hw128
                                    refine r_iinc (pc' := 139) (z' := ((k + 1 : Nat) : Int)) (lc' := [(0, vR G (29, 0)), (1, vI ((k + 1 : Nat) : Int))]) X 1 [1, 0] dX9_readAll_136 rfl (by omega) (by decide) rfl rfl ?_
                                    refine r_goto (tgt := 118) X dX9_readAll_139 rfl ?_
                                    exact ih118 (k + 1) M5 (by omega) (by omega) hw128 hx128 ec128 fr128 hF128 hG128
                                  · refine r_iconst (pc' := 135) X dX9_readAll_134 rfl ?_
                                    refine w_zret X hr (by decide) dX9_readAll_135 ?_
                                    try dsimp only
                                    have q : (sO (M 29 1) L (rdN (M 29 1) L) (sS (M 29 1) L (rdN (M 29 1) L) (rdS (M 29 1) L) (rdN (M 29 1) L)) (k + 1)).2 = 1 := by omega
                                    rw [rdE_wo (by omega) q]
                                    exact ⟨by omega, hp128, fun w => absurd w (by omega), fr128⟩
                            exact L118 (((rdP (M 29 1) L) - 0) + 1) 0 Md (Nat.lt_succ_self _) (by omega) (by show (sS (M 29 1) L (rdN (M 29 1) L) (rdS (M 29 1) L) (rdN (M 29 1) L)).2 = 0; have q := hw0; rw [eiN] at q; exact q) (by show RxOk (Md 29) L (sS (M 29 1) L (rdN (M 29 1) L) (rdS (M 29 1) L) (rdN (M 29 1) L)).1; have q := hxs; rw [eiN] at q; exact q) ec fr (by have q := hF; rw [eiN] at q; exact q) hlG
                          · refine r_aload_n (pc' := 101) X 0 dX9_readAll_100 rfl rfl rfl ?_
                            refine r_iload_n (pc' := 102) X 1 dX9_readAll_101 rfl rfl rfl ?_
                            refine w_calli (pc' := 105) (st := []) (w_runV X (c_X9_readState l G Md i (rdN (M 29 1) L) (by omega) hF.1 hn0.2 L ((sS (M 29 1) L (rdN (M 29 1) L) (rdS (M 29 1) L) i).1) hxs) cf_X9_readState k29_0 rfl gw_1119 gp_31 rfl rfl ⟨Nat.le_of_ble_eq_true rfl, Nat.le_of_ble_eq_true rfl⟩ rfl rfl (Nat.le_of_ble_eq_true rfl) ⟨Nat.le_of_ble_eq_true rfl, Nat.le_of_ble_eq_true rfl⟩ gw_1117 dX9_readAll_102) rfl (fun z102 M6 h102 => ?_)
                            rw [ec, show ((sS (M 29 1) L (rdN (M 29 1) L) (rdS (M 29 1) L) i).1, (0 : Int)) = (sS (M 29 1) L (rdN (M 29 1) L) (rdS (M 29 1) L) i) from Prod.ext rfl (by show (0 : Int) = _; omega)] at h102
                            obtain ⟨hz102, hp102, hv102, hfr102⟩ : z102 = 1 - (sS (M 29 1) L (rdN (M 29 1) L) (rdS (M 29 1) L) (i + 1)).2 ∧ M6 29 0 3 = ((sS (M 29 1) L (rdN (M 29 1) L) (rdS (M 29 1) L) (i + 1)).1 : Int) ∧ ((sS (M 29 1) L (rdN (M 29 1) L) (rdS (M 29 1) L) (i + 1)).2 = 0 → _) ∧ RFx (fun b x => (b = 7 ∧ 4 * i ≤ x ∧ x < 4 * i + (rdN (M 29 1) L)) ∨ ((b = 8 ∨ b = 9) ∧ x = i)) Md M6 := h102
                            have ok102 := sS_ok (ch := M 29 1) (N := (rdN (M 29 1) L)) okS (i + 1)
                            have w102 := ok102.2
                            have ec102 : M6 29 1 = M 29 1 := by rw [← ec]; exact funext fun y => hfr102 29 1 y (by omega)
                            have fr102 : RFx (fun b i => (b = 0 ∧ (i = 12 ∨ i = 13)) ∨ (7 ≤ b ∧ b ≤ 12)) M M6 := RFx.trans fr (RFx.mono hfr102 (fun b y q => Or.inr (by omega)))
                            have hx102 : RxOk (M6 29) L (sS (M 29 1) L (rdN (M 29 1) L) (rdS (M 29 1) L) (i + 1)).1 := hfr102.ok hxs hp102 ok102.1 (by rintro (z | z) <;> omega) (fun _ => by rintro (z | z) <;> omega)
                            have hG102 : RdG (M6 29 12) (fun _ _ => 0) := by rw [show M6 29 12 = Md 29 12 from funext fun y => hfr102 29 12 y (by omega)]; exact hlG
                            have hF102 : (sS (M 29 1) L (rdN (M 29 1) L) (rdS (M 29 1) L) (i + 1)).2 = 0 → RdF (M6 29) (M 29 1) L (i + 1) 0 := fun q => by
                              have v := hv102 q
                              exact RdF_state (by omega) hn0.2 hF (fun b y w => hfr102 29 b y (fun u => w u.2)) ⟨fun j hj => v.1 j hj (by omega), v.2.1 (by omega), v.2.2 (by omega)⟩
                            refine r_if_ne (pc' := 108) (tgt := 110) X dX9_readAll_105 rfl rfl (by omega) (fun h105 => ?_) (fun h105 => ?_)
                            · have hw102 : (sS (M 29 1) L (rdN (M 29 1) L) (rdS (M 29 1) L) (i + 1)).2 = 0 := by omega
                              have hF102 := hF102 hw102
                              refine r_iinc (pc' := 113) (z' := ((i + 1 : Nat) : Int)) (lc' := [(0, vR G (29, 0)), (1, vI ((i + 1 : Nat) : Int))]) X 1 [1, 0] dX9_readAll_110 rfl (by omega) (by decide) rfl rfl ?_
                              refine r_goto (tgt := 92) X dX9_readAll_113 rfl ?_
                              exact ih92 (i + 1) M6 (by omega) (by omega) hw102 hx102 ec102 fr102 hF102 hG102
                            · refine r_iconst (pc' := 109) X dX9_readAll_108 rfl ?_
                              refine w_zret X hr (by decide) dX9_readAll_109 ?_
                              try dsimp only
                              have q : (sS (M 29 1) L (rdN (M 29 1) L) (rdS (M 29 1) L) (i + 1)).2 = 1 := by omega
                              rw [rdE_ws (by omega) q]
                              exact ⟨by omega, hp102, fun w => absurd w (by omega), fr102⟩
                      exact L92 (((rdN (M 29 1) L) - 0) + 1) 0 M3 (Nat.lt_succ_self _) (by omega) hw82 hx82 ec82 fr82 hF82 hG82
                    · refine r_iconst (pc' := 89) X dX9_readAll_88 rfl ?_
                      refine w_zret X hr (by decide) dX9_readAll_89 ?_
                      try dsimp only
                      have q : (rdS (M 29 1) L).2 = 1 := by omega
                      have e := rdE_ws (ch := M 29 1) (L := L) (i := 0) (Nat.zero_le _) q
                      rw [show (rdE (M 29 1) L).1 = (rdS (M 29 1) L) from e]
                      exact ⟨by omega, hp82, fun w => absurd w (by omega), fr82⟩
                  · refine r_aload_n (pc' := 62) X 0 dX9_readAll_61 rfl rfl rfl ?_
                    refine gf_29_readDrive (pc' := 65) X gw_982 dX9_readAll_62 rfl ?_
                    refine r_iload_n (pc' := 66) X 1 dX9_readAll_65 rfl rfl rfl ?_
                    refine r_iconst (pc' := 67) X dX9_readAll_66 rfl ?_
                    refine r_iast (i := k) (pc' := 68) X k29_8 (by omega) (by omega) (by decide) dX9_readAll_67 rfl (fun M7 hM7 => ?_)
                    refine r_aload_n (pc' := 69) X 0 dX9_readAll_68 rfl rfl rfl ?_
                    refine gf_29_readPush (pc' := 72) X gw_983 dX9_readAll_69 rfl ?_
                    refine r_iload_n (pc' := 73) X 1 dX9_readAll_72 rfl rfl rfl ?_
                    refine r_iconst (pc' := 74) X dX9_readAll_73 rfl ?_
                    refine r_iast (i := k) (pc' := 75) X k29_9 (by omega) (by omega) (by decide) dX9_readAll_74 rfl (fun M8 hM8 => ?_)
                    refine r_iinc (pc' := 78) (z' := ((k + 1 : Nat) : Int)) (lc' := [(0, vR G (29, 0)), (1, vI ((k + 1 : Nat) : Int))]) X 1 [1, 0] dX9_readAll_75 rfl (by omega) (by decide) rfl rfl ?_
                    refine r_goto (tgt := 56) X dX9_readAll_78 rfl ?_
                    exact ih56 (k + 1) M8 (by omega) (by omega) (by rw [hM8, hM7]; exact RxOk_wu (RxOk_wu hx (by omega) (by omega)) (by omega) (by omega)) (by rw [hM8, wu_ne (by omega), hM7, wu_ne (by omega)]; exact ec) (RFx.trans fr (by rw [hM8, hM7]; exact RFx.trans (RFx_wu (Or.inr (by omega))) (RFx_wu (Or.inr (by omega))))) (fun x hx => by rw [hM8, wu_ne (by omega), hM7, wu_ne (by omega)]; exact hl x hx) (fun x hx => by rw [hM8, wu_ne (by omega), hM7, wu_ne (by omega)]; exact hz7 x hx) (fun x hx => by rw [hM8, wu_ne (by omega), hM7, wu_ne (by omega)]; exact hz10 x hx)
              exact L56 ((4 - 0) + 1) 0 Mb (Nat.lt_succ_self _) (by omega) hx ec fr hl hz7 (fun x h => hz10 x (by omega))
            · refine r_aload_n (pc' := 42) X 0 dX9_readAll_41 rfl rfl rfl ?_
              refine gf_29_readView (pc' := 45) X gw_984 dX9_readAll_42 rfl ?_
              refine r_iload_n (pc' := 46) X 1 dX9_readAll_45 rfl rfl rfl ?_
              refine r_iconst (pc' := 47) X dX9_readAll_46 rfl ?_
              refine r_iast (i := k) (pc' := 48) X k29_10 (by omega) (by omega) (by decide) dX9_readAll_47 rfl (fun M9 hM9 => ?_)
              refine r_iinc (pc' := 51) (z' := ((k + 1 : Nat) : Int)) (lc' := [(0, vR G (29, 0)), (1, vI ((k + 1 : Nat) : Int))]) X 1 [1, 0] dX9_readAll_48 rfl (by omega) (by decide) rfl rfl ?_
              refine r_goto (tgt := 35) X dX9_readAll_51 rfl ?_
              exact ih35 (k + 1) M9 (by omega) (by omega) (by rw [hM9]; exact RxOk_wu hx (by omega) (by omega)) (by rw [hM9, wu_ne (by omega)]; exact ec) (RFx.trans fr (by rw [hM9]; exact RFx_wu (Or.inr (by omega)))) (fun x hx => by rw [hM9, wu_ne (by omega)]; exact hl x hx) (fun x hx => by rw [hM9, wu_ne (by omega)]; exact hz7 x hx) (fun x hx => by rw [hM9]; exact up_s (F := fun _ => 0) hz10 rfl hx)
        exact L35 ((12 - 0) + 1) 0 Ma (Nat.lt_succ_self _) (by omega) hx ec fr hl (fun x h => hz7 x (by omega)) (fun x h => absurd h (Nat.not_lt_zero x))
      · refine r_aload_n (pc' := 21) X 0 dX9_readAll_20 rfl rfl rfl ?_
        refine gf_29_readMatrix (pc' := 24) X gw_981 dX9_readAll_21 rfl ?_
        refine r_iload_n (pc' := 25) X 1 dX9_readAll_24 rfl rfl rfl ?_
        refine r_iconst (pc' := 26) X dX9_readAll_25 rfl ?_
        refine r_iast (i := k) (pc' := 27) X k29_7 (by omega) (by omega) (by decide) dX9_readAll_26 rfl (fun M10 hM10 => ?_)
        refine r_iinc (pc' := 30) (z' := ((k + 1 : Nat) : Int)) (lc' := [(0, vR G (29, 0)), (1, vI ((k + 1 : Nat) : Int))]) X 1 [1, 0] dX9_readAll_27 rfl (by omega) (by decide) rfl rfl ?_
        refine r_goto (tgt := 14) X dX9_readAll_30 rfl ?_
        exact ih14 (k + 1) M10 (by omega) (by omega) (by rw [hM10]; exact RxOk_wu hx (by omega) (by omega)) (by rw [hM10, wu_ne (by omega)]; exact ec) (RFx.trans fr (by rw [hM10]; exact RFx_wu (Or.inr (by omega)))) (fun x hx => by rw [hM10, wu_ne (by omega)]; exact hl x hx) (fun x hx => by rw [hM10]; exact up_s (F := fun _ => 0) hz7 rfl hx)
  exact L14 ((16 - 0) + 1) 0 M2 (Nat.lt_succ_self _) (by omega) hx0 ec0 fr0 h9.2 (fun x h => absurd h (Nat.not_lt_zero x))
