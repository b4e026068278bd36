/-! combinations, ranks, hidden dimensions -/
theorem cf_L_seen : wCal yL_seen cL_seen 11 (some .boolean) 1 := ⟨gw_995, gw_0, by decide, by decide, by rfl⟩
set_option maxRecDepth 100000 in
set_option maxHeartbeats 4000000 in
theorem c_L_seen (l : Launch) (G : wG) (M : wM) (hfl : l.stackTraces = false) (N P L nx ct : Nat) (T : Int) (lo : Lo N P L nx ct T M)  : Met l yL_seen (gws yL_seen cL_seen 11 (some .boolean)) (wrm 8 260 1560) (wPc G M [vR G (28, 0)]) (wQi G (fun z M1 => z = 1 ∧ ScrEq M M1)) 260 1560 (wA G) := by
  refine wMet (lc := [(0, vR G (28, 0))]) (by decide) (Nat.le_of_ble_eq_true rfl) rfl ?_
  intro p e s m args below meth c X hr
  have X : wX p s m args meth c G 11 "StateObserverLaw" cL_seen := X
  have hn := lo.n
  have hE := lo.ck.1.2.2.2.2.2.2.2.2.1
  have hTr := lo.ck.2.1.1
  have hLo := lo.ck.2.1.2.1
  have hUp := lo.ck.2.1.2.2.1
  refine r_aload_n (pc' := 1) X 0 dL_seen_0 rfl rfl rfl ?_
  refine r_iconst (pc' := 2) X dL_seen_1 rfl ?_
  refine w_calli (pc' := 5) (st := []) (w_runSH X (c_L_tryAbout l G M hfl N P T lo.ck (by have := lo.t; omega) 0 (by first | omega | assumption | decide)) cf_L_tryAbout gw_681 rfl rfl ⟨Nat.le_of_ble_eq_true rfl, Nat.le_of_ble_eq_true rfl⟩ rfl rfl (Nat.le_of_ble_eq_true rfl) ⟨by show _ ≤ 260; omega, by show _ ≤ 1560; omega⟩ gw_680 dL_seen_2) rfl (fun z2 M1 h2 => ?_)
  rcases h2 with h2 | h2
  rotate_left 1
  · exfalso
    have hd := h2.2.1; clear h2; omega
  obtain ⟨-, hv2, hm2⟩ := h2
  obtain rfl := hm2.symm
  refine w_eqI (z' := (N : Int)) hv2 ?_
  refine r_istore_n (pc' := 6) (lc' := [(0, vR G (28, 0)), (1, vI (N : Int))]) X [1, 0] dL_seen_5 rfl (by decide) rfl rfl ?_
  refine r_iconst (pc' := 7) X dL_seen_6 rfl ?_
  refine r_istore_n (pc' := 8) (lc' := [(0, vR G (28, 0)), (1, vI (N : Int)), (2, vI 0)]) X [1, 2, 0] dL_seen_7 rfl (by decide) rfl rfl ?_
  refine r_iconst (pc' := 9) X dL_seen_8 rfl ?_
  refine r_istore_n (pc' := 10) (lc' := [(0, vR G (28, 0)), (1, vI (N : Int)), (2, vI 0), (3, vI 0)]) X [1, 2, 3, 0] dL_seen_9 rfl (by decide) rfl rfl ?_
  have L10 : ∀ (fu : Nat) (j : Nat) (a : Int), N - j < fu → (j ≤ N) → (a = 0 ∨ a = 1) → (a = 0 → any0 (M 19 7) j) → (a = 1 → ¬ any0 (M 19 7) j) → wV p l e (wrm 8 260 1560) s m args below meth c G 11 M (2 + j) (6 * (2 + j)) (MQ below (wQi G (fun z M1 => z = 1 ∧ ScrEq M M1)) args s 260 1560 (wA G)) 10 [(0, vR G (28, 0)), (1, vI (N : Int)), (2, vI a), (3, vI (j : Int))] [] := by
    intro fu
    induction fu with
    | zero => intro j a hfu; exact absurd hfu (Nat.not_lt_zero _)
    | succ fu ih10 =>
      intro j a hfu10 hj ha hz h1
      refine r_iload_n (pc' := 11) X 3 dL_seen_10 rfl rfl rfl ?_
      refine r_iload_n (pc' := 12) X 1 dL_seen_11 rfl rfl rfl ?_
      refine r_icmp_ge (pc' := 15) (tgt := 41) X dL_seen_12 rfl rfl (by omega) (by omega) (fun h12 => ?_) (fun h12 => ?_)
      · have ejN : j = N := by omega
        rw [ejN] at hz h1
        refine r_iload_n (pc' := 42) X 2 dL_seen_41 rfl rfl rfl ?_
        have J52 : ∀ (mn : Nat), ((mn : Int) = combs (M 19 7) N) → wV p l e (wrm 8 260 1560) s m args below meth c G 11 M (10) (6 * (10)) (MQ below (wQi G (fun z M1 => z = 1 ∧ ScrEq M M1)) args s 260 1560 (wA G)) 52 [(0, vR G (28, 0)), (1, vI (N : Int)), (2, vI a)] [vI (mn : Int)] := by
          intro mn hmn
          have hmN : (mn : Int) ≤ N := by rw [hmn]; unfold combs; split <;> omega
          refine r_istore_n (pc' := 53) (lc' := [(0, vR G (28, 0)), (1, vI (N : Int)), (2, vI a), (3, vI (mn : Int))]) X [1, 2, 3, 0] dL_seen_52 rfl (by decide) rfl rfl ?_
          refine r_aload_n (pc' := 54) X 0 dL_seen_53 rfl rfl rfl ?_
          refine r_iload_n (pc' := 55) X 3 dL_seen_54 rfl rfl rfl ?_
          refine r_iconst (pc' := 56) X dL_seen_55 rfl ?_
          refine w_calli (pc' := 59) (st := []) (w_runSH X (c_L_tryFree l G M hfl N P T lo.ck (by have := lo.t; omega) (mn : Int) 0 (by first | omega | assumption | decide) (by first | omega | assumption | decide)) cf_L_tryFree gw_902 rfl rfl ⟨Nat.le_of_ble_eq_true rfl, Nat.le_of_ble_eq_true rfl⟩ rfl rfl (Nat.le_of_ble_eq_true rfl) ⟨by show _ ≤ 260; omega, by show _ ≤ 1560; omega⟩ gw_901 dL_seen_56) rfl (fun z56 M2 h56 => ?_)
          rcases h56 with h56 | h56
          · exfalso
            have hd := h56.1; clear h56; omega
          obtain ⟨hz56, hc56, hs56⟩ := h56
          have sM2 : ScrEq M M2 := hs56
          have qM2 := lo.scr sM2
          have e0M2 : M2 0 = M 0 := sM2.z0
          have e19M2 : M2 19 = M 19 := sM2.z19
          refine w_eqI (z' := (-1001)) hz56 ?_
          refine r_sipush (pc' := 62) X dL_seen_59 rfl rfl ?_
          refine r_icmp_ne (pc' := 65) (tgt := 81) X dL_seen_62 rfl rfl (by omega) (by omega) (fun h62 => absurd h62 (by decide)) (fun h62 => ?_)
          refine r_aload_n (pc' := 66) X 0 dL_seen_65 rfl rfl rfl ?_
          refine r_iload_n (pc' := 67) X 3 dL_seen_66 rfl rfl rfl ?_
          refine r_iconst (pc' := 68) X dL_seen_67 rfl ?_
          refine w_calli (pc' := 71) (st := []) (w_runSH X (c_L_tryFreeRange l G M2 hfl N P T qM2.ck (by have := qM2.t; omega) (mn : Int) 0 (by first | omega | assumption | decide) (by first | omega | assumption | decide)) cf_L_tryFreeRange gw_929 rfl rfl ⟨Nat.le_of_ble_eq_true rfl, Nat.le_of_ble_eq_true rfl⟩ rfl rfl (Nat.le_of_ble_eq_true rfl) ⟨by show _ ≤ 260; omega, by show _ ≤ 1560; omega⟩ gw_928 dL_seen_68) rfl (fun z68 M3 h68 => ?_)
          rcases h68 with h68 | h68
          · exfalso
            simp only [e0M2, e19M2] at h68
            have hd := h68.1; clear h68; omega
          obtain ⟨hz68, hc68, hs68⟩ := h68
          have sM3 : ScrEq M M3 := sM2.trans (hs68)
          have qM3 := lo.scr sM3
          have e0M3 : M3 0 = M 0 := sM3.z0
          have e19M3 : M3 19 = M 19 := sM3.z19
          refine w_eqI (z' := (-1001)) hz68 ?_
          refine r_sipush (pc' := 74) X dL_seen_71 rfl rfl ?_
          refine r_icmp_ne (pc' := 77) (tgt := 81) X dL_seen_74 rfl rfl (by omega) (by omega) (fun h74 => absurd h74 (by decide)) (fun h74 => ?_)
          refine r_iconst (pc' := 78) X dL_seen_77 rfl ?_
          refine r_goto (tgt := 82) X dL_seen_78 rfl ?_
          refine r_istore (pc' := 84) (lc' := [(0, vR G (28, 0)), (1, vI (N : Int)), (2, vI a), (3, vI (mn : Int)), (4, vI 1)]) X [1, 2, 3, 4, 0] dL_seen_82 (by decide) rfl rfl ?_
          refine r_iconst (pc' := 85) X dL_seen_84 rfl ?_
          refine r_istore (pc' := 87) (lc' := [(0, vR G (28, 0)), (1, vI (N : Int)), (2, vI a), (3, vI (mn : Int)), (4, vI 1), (5, vI 0)]) X [1, 2, 3, 4, 5, 0] dL_seen_85 (by decide) rfl rfl ?_
          have L87 : ∀ (fu : Nat) (q : Nat) (Mq : wM), mn - q < fu → (q ≤ mn) → (ScrEq M Mq) → wV p l e (wrm 8 260 1560) s m args below meth c G 11 Mq (20 + 40 * q) (6 * (20 + 40 * q)) (MQ below (wQi G (fun z M1 => z = 1 ∧ ScrEq M M1)) args s 260 1560 (wA G)) 87 [(0, vR G (28, 0)), (1, vI (N : Int)), (2, vI a), (3, vI (mn : Int)), (4, vI 1), (5, vI (q : Int))] [] := by
            intro fu
            induction fu with
            | zero => intro q Mq hfu; exact absurd hfu (Nat.not_lt_zero _)
            | succ fu ih87 =>
              intro q Mq hfu87 hq sMq
              have qMq := lo.scr sMq
              have e0Mq := sMq.z0
              have e19Mq := sMq.z19
              refine r_iload (pc' := 89) X 5 dL_seen_87 rfl rfl ?_
              refine r_iload_n (pc' := 90) X 3 dL_seen_89 rfl rfl rfl ?_
              refine r_icmp_ge (pc' := 93) (tgt := 227) X dL_seen_90 rfl rfl (by omega) (by omega) (fun h90 => ?_) (fun h90 => ?_)
              · refine r_bipush (pc' := 229) X dL_seen_227 rfl rfl ?_
                refine r_istore (pc' := 231) (lc' := [(0, vR G (28, 0)), (1, vI (N : Int)), (2, vI a), (3, vI (mn : Int)), (4, vI 1), (5, vI (-9))]) X [1, 2, 3, 4, 5, 0] dL_seen_229 (by decide) rfl rfl ?_
                refine r_iconst (pc' := 232) X dL_seen_231 rfl ?_
                refine r_istore (pc' := 234) (lc' := [(0, vR G (28, 0)), (1, vI (N : Int)), (2, vI a), (3, vI (mn : Int)), (4, vI 1), (5, vI (-9)), (6, vI 0)]) X [1, 2, 3, 4, 5, 6, 0] dL_seen_232 (by decide) rfl rfl ?_
                refine r_iload_n (pc' := 235) X 1 dL_seen_234 rfl rfl rfl ?_
                refine w_eqI (z' := ((N : Int) - ((0 : Nat) : Int))) (by omega) ?_
                refine r_istore (pc' := 237) (lc' := [(0, vR G (28, 0)), (1, vI (N : Int)), (2, vI a), (3, vI (mn : Int)), (4, vI 1), (5, vI (-9)), (6, vI 0), (7, vI ((N : Int) - ((0 : Nat) : Int)))]) X [1, 2, 3, 4, 5, 6, 7, 0] dL_seen_235 (by decide) rfl rfl ?_
                refine r_iload (pc' := 239) X 4 dL_seen_237 rfl rfl ?_
                refine r_if_eq (pc' := 242) (tgt := 255) X dL_seen_239 rfl rfl (by omega) (fun h239 => absurd h239 (by decide)) (fun h239 => ?_)
                refine r_aload_n (pc' := 243) X 0 dL_seen_242 rfl rfl rfl ?_
                refine r_iconst (pc' := 244) X dL_seen_243 rfl ?_
                refine w_calli (pc' := 247) (st := []) (w_runSH X (c_L_tryHidden l G Mq hfl N P T qMq.ck (by have := qMq.t; omega) 0 (by first | omega | assumption | decide)) cf_L_tryHidden gw_877 rfl rfl ⟨Nat.le_of_ble_eq_true rfl, Nat.le_of_ble_eq_true rfl⟩ rfl rfl (Nat.le_of_ble_eq_true rfl) ⟨by show _ ≤ 260; omega, by show _ ≤ 1560; omega⟩ gw_876 dL_seen_244) rfl (fun z244 M4 h244 => ?_)
                rcases h244 with h244 | h244
                rotate_left 1
                · exfalso
                  have hd := h244.2.1; clear h244; omega
                have hs244 := h244.2.2
                simp only [e0Mq, e19Mq] at h244
                have sM4 : ScrEq M M4 := sMq.trans (hs244)
                have qM4 := lo.scr sM4
                have e0M4 : M4 0 = M 0 := sM4.z0
                have e19M4 : M4 19 = M 19 := sM4.z19
                obtain ⟨-, ⟨k0, hk0, -, hkr⟩, -⟩ := h244
                have e244 : z244 = (N : Int) := by have := Vis_rank0 hkr; omega
                refine r_iload_n (pc' := 248) X 1 dL_seen_247 rfl rfl rfl ?_
                refine r_icmp_ne (pc' := 251) (tgt := 255) X dL_seen_248 rfl rfl (by omega) (by omega) (fun h248 => by exfalso; omega) (fun h248 => ?_)
                refine r_iconst (pc' := 252) X dL_seen_251 rfl ?_
                refine r_goto (tgt := 256) X dL_seen_252 rfl ?_
                refine r_istore (pc' := 258) (lc' := [(0, vR G (28, 0)), (1, vI (N : Int)), (2, vI a), (3, vI (mn : Int)), (4, vI 1), (5, vI (-9)), (6, vI 0), (7, vI ((N : Int) - ((0 : Nat) : Int)))]) X [1, 2, 3, 4, 0, 5, 6, 7] dL_seen_256 (by decide) rfl rfl ?_
                refine r_iconst (pc' := 259) X dL_seen_258 rfl ?_
                refine r_istore (pc' := 261) (lc' := [(0, vR G (28, 0)), (1, vI (N : Int)), (2, vI a), (3, vI (mn : Int)), (4, vI 1), (5, vI (-9)), (6, vI 0), (7, vI ((N : Int) - ((0 : Nat) : Int))), (8, vI 1)]) X [1, 2, 3, 4, 5, 6, 7, 8, 0] dL_seen_259 (by decide) rfl rfl ?_
                have L261 : ∀ (fu : Nat) (kk : Nat) (ix : Int) (ra : Nat) (da : Nat) (Mk : wM), 9 - kk < fu → (1 ≤ kk ∧ kk ≤ 9) → (IxOk N P (M 19) kk ix) → (RankOf N (Sp N (Gp N P (M 19) (kk - 1))) ra) → (RankOf N (Vis N P (M 19) (kk - 1)) da) → (da ≤ N ∧ ra ≤ N) → (ScrEq M Mk) → wV p l e (wrm 8 260 1560) s m args below meth c G 11 Mk (200 + 4 * kk) (6 * (200 + 4 * kk)) (MQ below (wQi G (fun z M1 => z = 1 ∧ ScrEq M M1)) args s 260 1560 (wA G)) 261 [(0, vR G (28, 0)), (1, vI (N : Int)), (2, vI a), (3, vI (mn : Int)), (4, vI 1), (5, vI ix), (6, vI (ra : Int)), (7, vI ((N : Int) - (da : Int))), (8, vI (kk : Int))] [] := by
                  intro fu
                  induction fu with
                  | zero => intro kk ix ra da Mk hfu; exact absurd hfu (Nat.not_lt_zero _)
                  | succ fu ih261 =>
                    intro kk ix ra da Mk hfu261 hkk hix hra hda hda4 sMk
                    have qMk := lo.scr sMk
                    have e0Mk := sMk.z0
                    have e19Mk := sMk.z19
                    have hixr := hix.rng
                    refine r_iload (pc' := 263) X 8 dL_seen_261 rfl rfl ?_
                    refine r_bipush (pc' := 265) X dL_seen_263 rfl rfl ?_
                    refine r_icmp_ge (pc' := 268) (tgt := 380) X dL_seen_265 rfl rfl (by omega) (by omega) (fun h265 => ?_) (fun h265 => ?_)
                    · refine r_iload (pc' := 382) X 4 dL_seen_380 rfl rfl ?_
                      refine r_if_eq (pc' := 385) (tgt := 398) X dL_seen_382 rfl rfl (by omega) (fun h382 => absurd h382 (by decide)) (fun h382 => ?_)
                      refine r_aload_n (pc' := 386) X 0 dL_seen_385 rfl rfl rfl ?_
                      refine w_calli (pc' := 389) (st := []) (w_runV X (c_X8_observabilityIndex l G Mk N P T qMk.ck (by have := qMk.t; omega)) cf_X8_observabilityIndex k28_0 rfl gw_997 gw_998 rfl rfl ⟨Nat.le_of_ble_eq_true rfl, Nat.le_of_ble_eq_true rfl⟩ rfl rfl (Nat.le_of_ble_eq_true rfl) ⟨by show _ ≤ 260; omega, by show _ ≤ 1560; omega⟩ gw_996 dL_seen_386) rfl (fun z386 M5 h386 => ?_)
                      have hs386 := h386.2
                      simp only [e0Mk, e19Mk] at h386
                      have sM5 : ScrEq M M5 := sMk.trans (hs386)
                      have qM5 := lo.scr sM5
                      have e0M5 : M5 0 = M 0 := sM5.z0
                      have e19M5 : M5 19 = M 19 := sM5.z19
                      have e386 := hix.uniq (by omega) h386.1
                      refine r_iload (pc' := 391) X 5 dL_seen_389 rfl rfl ?_
                      refine r_icmp_ne (pc' := 394) (tgt := 398) X dL_seen_391 rfl rfl (by omega) (by omega) (fun h391 => by exfalso; omega) (fun h391 => ?_)
                      refine r_iconst (pc' := 395) X dL_seen_394 rfl ?_
                      refine r_goto (tgt := 399) X dL_seen_395 rfl ?_
                      refine w_widen (k' := 260) (n' := 1560) (by omega) (by omega) ?_
                      refine w_zret X hr (by decide) dL_seen_399 ?_
                      try dsimp only
                      exact ⟨rfl, sM5⟩
                    · refine r_iload (pc' := 270) X 4 dL_seen_268 rfl rfl ?_
                      refine r_if_eq (pc' := 273) (tgt := 380) X dL_seen_270 rfl rfl (by omega) (fun h270 => absurd h270 (by decide)) (fun h270 => ?_)
                      refine r_aload_n (pc' := 274) X 0 dL_seen_273 rfl rfl rfl ?_
                      refine r_iload (pc' := 276) X 8 dL_seen_274 rfl rfl ?_
                      refine w_calli (pc' := 279) (st := []) (w_runSH X (c_L_tryRank l G Mk hfl N P T qMk.ck (by have := qMk.t; omega) (kk : Int) (by first | omega | assumption | decide)) cf_L_tryRank gw_637 rfl rfl ⟨Nat.le_of_ble_eq_true rfl, Nat.le_of_ble_eq_true rfl⟩ rfl rfl (Nat.le_of_ble_eq_true rfl) ⟨by show _ ≤ 260; omega, by show _ ≤ 1560; omega⟩ gw_636 dL_seen_276) rfl (fun z276 M6 h276 => ?_)
                      rcases h276 with h276 | h276
                      rotate_left 1
                      · exfalso
                        have hd := h276.2.1; clear h276; omega
                      have hs276 := h276.2.2
                      simp only [e0Mk, e19Mk] at h276
                      have sM6 : ScrEq M M6 := sMk.trans (hs276)
                      have qM6 := lo.scr sM6
                      have e0M6 : M6 0 = M 0 := sM6.z0
                      have e19M6 : M6 19 = M 19 := sM6.z19
                      obtain ⟨-, ⟨rb, hz276, hrbn, hrb⟩, -⟩ := h276
                      rw [Int.toNat_natCast] at hrb
                      refine w_eqI (z' := (rb : Int)) hz276 ?_
                      refine r_istore (pc' := 281) (lc' := [(0, vR G (28, 0)), (1, vI (N : Int)), (2, vI a), (3, vI (mn : Int)), (4, vI 1), (5, vI ix), (6, vI (ra : Int)), (7, vI ((N : Int) - (da : Int))), (8, vI (kk : Int)), (9, vI (rb : Int))]) X [1, 2, 3, 4, 5, 6, 7, 8, 9, 0] dL_seen_279 (by decide) rfl rfl ?_
                      refine r_aload_n (pc' := 282) X 0 dL_seen_281 rfl rfl rfl ?_
                      refine r_iload (pc' := 284) X 8 dL_seen_282 rfl rfl ?_
                      refine w_calli (pc' := 287) (st := []) (w_runSH X (c_L_tryHidden l G M6 hfl N P T qM6.ck (by have := qM6.t; omega) (kk : Int) (by first | omega | assumption | decide)) cf_L_tryHidden gw_877 rfl rfl ⟨Nat.le_of_ble_eq_true rfl, Nat.le_of_ble_eq_true rfl⟩ rfl rfl (Nat.le_of_ble_eq_true rfl) ⟨by show _ ≤ 260; omega, by show _ ≤ 1560; omega⟩ gw_876 dL_seen_284) rfl (fun z284 M7 h284 => ?_)
                      rcases h284 with h284 | h284
                      rotate_left 1
                      · exfalso
                        have hd := h284.2.1; clear h284; omega
                      have hs284 := h284.2.2
                      simp only [e0M6, e19M6] at h284
                      have sM7 : ScrEq M M7 := sM6.trans (hs284)
                      have qM7 := lo.scr sM7
                      have e0M7 : M7 0 = M 0 := sM7.z0
                      have e19M7 : M7 19 = M 19 := sM7.z19
                      obtain ⟨-, ⟨db, hz284, hdbn, hdb⟩, -⟩ := h284
                      rw [Int.toNat_natCast] at hdb
                      refine w_eqI (z' := ((N : Int) - (db : Int))) hz284 ?_
                      refine r_istore (pc' := 289) (lc' := [(0, vR G (28, 0)), (1, vI (N : Int)), (2, vI a), (3, vI (mn : Int)), (4, vI 1), (5, vI ix), (6, vI (ra : Int)), (7, vI ((N : Int) - (da : Int))), (8, vI (kk : Int)), (9, vI (rb : Int)), (10, vI ((N : Int) - (db : Int)))]) X [1, 2, 3, 4, 5, 6, 7, 8, 9, 10, 0] dL_seen_287 (by decide) rfl rfl ?_
                      have J315 : ∀ (x315 : Int), (IxOk N P (M 19) (kk + 1) x315) → (-9 ≤ x315 ∧ x315 ≤ 9) → wV p l e (wrm 8 260 1560) s m args below meth c G 11 M7 (203 + 4 * kk) (6 * (203 + 4 * kk)) (MQ below (wQi G (fun z M1 => z = 1 ∧ ScrEq M M1)) args s 260 1560 (wA G)) 315 [(0, vR G (28, 0)), (1, vI (N : Int)), (2, vI a), (3, vI (mn : Int)), (4, vI 1), (5, vI ix), (6, vI (ra : Int)), (7, vI ((N : Int) - (da : Int))), (8, vI (kk : Int)), (9, vI (rb : Int)), (10, vI ((N : Int) - (db : Int)))] [vI x315] := by
                        intro x315 hx315 hr315
                        have f1 : ra ≤ rb := RankOf.le hra hrb (fun u h => Gp_mono (by omega) u h)
                        have f2 : da ≤ db := by
                          refine RankOf.le hda hdb (fun u h => ?_)
                          have := Vis_mono (N := N) (P := P) (pv := M 19) (kk - 1) u h
                          rw [show kk - 1 + 1 = kk by omega] at this
                          exact this
                        have f3 : db ≤ rb := RankOf.le hdb hrb (fun u h => Vis_sub kk u h)
                        have f4 : a = 0 → db = rb := fun h => Nat.le_antisymm f3 (RankOf.le hrb hdb (fun u w => Vis_all (hz h) kk u w))
                        refine r_istore (pc' := 317) (lc' := [(0, vR G (28, 0)), (1, vI (N : Int)), (2, vI a), (3, vI (mn : Int)), (4, vI 1), (5, vI x315), (6, vI (ra : Int)), (7, vI ((N : Int) - (da : Int))), (8, vI (kk : Int)), (9, vI (rb : Int)), (10, vI ((N : Int) - (db : Int)))]) X [1, 2, 3, 4, 5, 0, 6, 7, 8, 9, 10] dL_seen_315 (by decide) rfl rfl ?_
                        refine r_iload (pc' := 319) X 9 dL_seen_317 rfl rfl ?_
                        refine r_iload (pc' := 321) X 6 dL_seen_319 rfl rfl ?_
                        refine r_icmp_lt (pc' := 324) (tgt := 363) X dL_seen_321 rfl rfl (by omega) (by omega) (fun h321 => by exfalso; omega) (fun h321 => ?_)
                        refine r_iload (pc' := 326) X 9 dL_seen_324 rfl rfl ?_
                        refine r_iload_n (pc' := 327) X 1 dL_seen_326 rfl rfl rfl ?_
                        refine r_icmp_gt (pc' := 330) (tgt := 363) X dL_seen_327 rfl rfl (by omega) (by omega) (fun h327 => by exfalso; omega) (fun h327 => ?_)
                        refine r_iload (pc' := 332) X 10 dL_seen_330 rfl rfl ?_
                        refine r_iload (pc' := 334) X 7 dL_seen_332 rfl rfl ?_
                        refine r_icmp_gt (pc' := 337) (tgt := 363) X dL_seen_334 rfl rfl (by omega) (by omega) (fun h334 => by exfalso; omega) (fun h334 => ?_)
                        refine r_iload (pc' := 339) X 10 dL_seen_337 rfl rfl ?_
                        refine r_iload_n (pc' := 340) X 1 dL_seen_339 rfl rfl rfl ?_
                        refine r_iload (pc' := 342) X 9 dL_seen_340 rfl rfl ?_
                        refine r_isub (pc' := 343) X dL_seen_342 rfl ?_
                        refine r_icmp_lt (pc' := 346) (tgt := 363) X dL_seen_343 rfl rfl (by omega) (by omega) (fun h343 => by exfalso; omega) (fun h343 => ?_)
                        refine r_iload_n (pc' := 347) X 2 dL_seen_346 rfl rfl rfl ?_
                        refine r_if_ne (pc' := 350) (tgt := 359) X dL_seen_347 rfl rfl (by omega) (fun h347 => ?_) (fun h347 => ?_)
                        · refine r_iconst (pc' := 360) X dL_seen_359 rfl ?_
                          refine r_goto (tgt := 364) X dL_seen_360 rfl ?_
                          refine r_istore (pc' := 366) (lc' := [(0, vR G (28, 0)), (1, vI (N : Int)), (2, vI a), (3, vI (mn : Int)), (4, vI 1), (5, vI x315), (6, vI (ra : Int)), (7, vI ((N : Int) - (da : Int))), (8, vI (kk : Int)), (9, vI (rb : Int)), (10, vI ((N : Int) - (db : Int)))]) X [1, 2, 3, 4, 0, 5, 6, 7, 8, 9, 10] dL_seen_364 (by decide) rfl rfl ?_
                          refine r_iload (pc' := 368) X 9 dL_seen_366 rfl rfl ?_
                          refine r_istore (pc' := 370) (lc' := [(0, vR G (28, 0)), (1, vI (N : Int)), (2, vI a), (3, vI (mn : Int)), (4, vI 1), (5, vI x315), (6, vI (rb : Int)), (7, vI ((N : Int) - (da : Int))), (8, vI (kk : Int)), (9, vI (rb : Int)), (10, vI ((N : Int) - (db : Int)))]) X [1, 2, 3, 4, 5, 6, 0, 7, 8, 9, 10] dL_seen_368 (by decide) rfl rfl ?_
                          refine r_iload (pc' := 372) X 10 dL_seen_370 rfl rfl ?_
                          refine r_istore (pc' := 374) (lc' := [(0, vR G (28, 0)), (1, vI (N : Int)), (2, vI a), (3, vI (mn : Int)), (4, vI 1), (5, vI x315), (6, vI (rb : Int)), (7, vI ((N : Int) - (db : Int))), (8, vI (kk : Int)), (9, vI (rb : Int)), (10, vI ((N : Int) - (db : Int)))]) X [1, 2, 3, 4, 5, 6, 7, 0, 8, 9, 10] dL_seen_372 (by decide) rfl rfl ?_
                          refine r_iinc (pc' := 377) (z' := ((kk + 1 : Nat) : Int)) (lc' := [(0, vR G (28, 0)), (1, vI (N : Int)), (2, vI a), (3, vI (mn : Int)), (4, vI 1), (5, vI x315), (6, vI (rb : Int)), (7, vI ((N : Int) - (db : Int))), (8, vI ((kk + 1 : Nat) : Int)), (9, vI (rb : Int)), (10, vI ((N : Int) - (db : Int)))]) X 8 [1, 2, 3, 4, 5, 6, 7, 8, 0, 9, 10] dL_seen_374 rfl (by omega) (by decide) rfl rfl ?_
                          refine r_goto (tgt := 261) X dL_seen_377 rfl ?_
                          refine w_sub (lc' := [(0, vR G (28, 0)), (1, vI (N : Int)), (2, vI a), (3, vI (mn : Int)), (4, vI 1), (5, vI x315), (6, vI (rb : Int)), (7, vI ((N : Int) - (db : Int))), (8, vI ((kk + 1 : Nat) : Int))]) [0, 1, 2, 3, 4, 5, 6, 7, 8] rfl ?_
                          refine w_widen (k' := 200 + 4 * (kk + 1)) (n' := 6 * (200 + 4 * (kk + 1))) (by omega) (by omega) ?_
                          exact ih261 (kk + 1) x315 rb db M7 (by omega) (by omega) hx315 (by rw [Nat.add_sub_cancel]; exact hrb) (by rw [Nat.add_sub_cancel]; exact hdb) (by omega) sM7
                        · refine r_iload (pc' := 352) X 10 dL_seen_350 rfl rfl ?_
                          refine r_iload_n (pc' := 353) X 1 dL_seen_352 rfl rfl rfl ?_
                          refine r_iload (pc' := 355) X 9 dL_seen_353 rfl rfl ?_
                          refine r_isub (pc' := 356) X dL_seen_355 rfl ?_
                          refine r_icmp_ne (pc' := 359) (tgt := 363) X dL_seen_356 rfl rfl (by omega) (by omega) (fun h356 => by exfalso; have := f4 (by omega); omega) (fun h356 => ?_)
                          refine r_iconst (pc' := 360) X dL_seen_359 rfl ?_
                          refine r_goto (tgt := 364) X dL_seen_360 rfl ?_
                          refine r_istore (pc' := 366) (lc' := [(0, vR G (28, 0)), (1, vI (N : Int)), (2, vI a), (3, vI (mn : Int)), (4, vI 1), (5, vI x315), (6, vI (ra : Int)), (7, vI ((N : Int) - (da : Int))), (8, vI (kk : Int)), (9, vI (rb : Int)), (10, vI ((N : Int) - (db : Int)))]) X [1, 2, 3, 4, 0, 5, 6, 7, 8, 9, 10] dL_seen_364 (by decide) rfl rfl ?_
                          refine r_iload (pc' := 368) X 9 dL_seen_366 rfl rfl ?_
                          refine r_istore (pc' := 370) (lc' := [(0, vR G (28, 0)), (1, vI (N : Int)), (2, vI a), (3, vI (mn : Int)), (4, vI 1), (5, vI x315), (6, vI (rb : Int)), (7, vI ((N : Int) - (da : Int))), (8, vI (kk : Int)), (9, vI (rb : Int)), (10, vI ((N : Int) - (db : Int)))]) X [1, 2, 3, 4, 5, 6, 0, 7, 8, 9, 10] dL_seen_368 (by decide) rfl rfl ?_
                          refine r_iload (pc' := 372) X 10 dL_seen_370 rfl rfl ?_
                          refine r_istore (pc' := 374) (lc' := [(0, vR G (28, 0)), (1, vI (N : Int)), (2, vI a), (3, vI (mn : Int)), (4, vI 1), (5, vI x315), (6, vI (rb : Int)), (7, vI ((N : Int) - (db : Int))), (8, vI (kk : Int)), (9, vI (rb : Int)), (10, vI ((N : Int) - (db : Int)))]) X [1, 2, 3, 4, 5, 6, 7, 0, 8, 9, 10] dL_seen_372 (by decide) rfl rfl ?_
                          refine r_iinc (pc' := 377) (z' := ((kk + 1 : Nat) : Int)) (lc' := [(0, vR G (28, 0)), (1, vI (N : Int)), (2, vI a), (3, vI (mn : Int)), (4, vI 1), (5, vI x315), (6, vI (rb : Int)), (7, vI ((N : Int) - (db : Int))), (8, vI ((kk + 1 : Nat) : Int)), (9, vI (rb : Int)), (10, vI ((N : Int) - (db : Int)))]) X 8 [1, 2, 3, 4, 5, 6, 7, 8, 0, 9, 10] dL_seen_374 rfl (by omega) (by decide) rfl rfl ?_
                          refine r_goto (tgt := 261) X dL_seen_377 rfl ?_
                          refine w_sub (lc' := [(0, vR G (28, 0)), (1, vI (N : Int)), (2, vI a), (3, vI (mn : Int)), (4, vI 1), (5, vI x315), (6, vI (rb : Int)), (7, vI ((N : Int) - (db : Int))), (8, vI ((kk + 1 : Nat) : Int))]) [0, 1, 2, 3, 4, 5, 6, 7, 8] rfl ?_
                          refine w_widen (k' := 200 + 4 * (kk + 1)) (n' := 6 * (200 + 4 * (kk + 1))) (by omega) (by omega) ?_
                          exact ih261 (kk + 1) x315 rb db M7 (by omega) (by omega) hx315 (by rw [Nat.add_sub_cancel]; exact hrb) (by rw [Nat.add_sub_cancel]; exact hdb) (by omega) sM7
                      refine r_iload (pc' := 291) X 5 dL_seen_289 rfl rfl ?_
                      refine r_bipush (pc' := 293) X dL_seen_291 rfl rfl ?_
                      refine r_icmp_ne (pc' := 296) (tgt := 313) X dL_seen_293 rfl rfl (by omega) (by omega) (fun h293 => ?_) (fun h293 => ?_)
                      · refine r_iload (pc' := 315) X 5 dL_seen_313 rfl rfl ?_
                        refine w_widen (k' := 203 + 4 * kk) (n' := 6 * (203 + 4 * kk)) (by omega) (by omega) ?_
                        exact J315 ix (hix.keep h293) (by omega)
                      · refine r_iload (pc' := 298) X 8 dL_seen_296 rfl rfl ?_
                        refine r_iload_n (pc' := 299) X 1 dL_seen_298 rfl rfl rfl ?_
                        refine r_icmp_gt (pc' := 302) (tgt := 313) X dL_seen_299 rfl rfl (by omega) (by omega) (fun h299 => ?_) (fun h299 => ?_)
                        · refine r_iload (pc' := 315) X 5 dL_seen_313 rfl rfl ?_
                          refine w_widen (k' := 203 + 4 * kk) (n' := 6 * (203 + 4 * kk)) (by omega) (by omega) ?_
                          exact J315 ix (hix.miss (by omega) (fun w => absurd w (by omega))) (by omega)
                        · refine r_iload (pc' := 304) X 9 dL_seen_302 rfl rfl ?_
                          refine r_iload_n (pc' := 305) X 1 dL_seen_304 rfl rfl rfl ?_
                          refine r_icmp_ne (pc' := 308) (tgt := 313) X dL_seen_305 rfl rfl (by omega) (by omega) (fun h305 => ?_) (fun h305 => ?_)
                          · refine r_iload (pc' := 315) X 5 dL_seen_313 rfl rfl ?_
                            refine w_widen (k' := 203 + 4 * kk) (n' := 6 * (203 + 4 * kk)) (by omega) (by omega) ?_
                            exact J315 ix (hix.miss (by omega) (fun _ w => h305 (by have := RankOf.unique w hrb; omega))) (by omega)
                          · refine r_iload (pc' := 310) X 8 dL_seen_308 rfl rfl ?_
                            refine r_goto (tgt := 315) X dL_seen_310 rfl ?_
                            refine w_widen (k' := 203 + 4 * kk) (n' := 6 * (203 + 4 * kk)) (by omega) (by omega) ?_
                            exact J315 (kk : Int) (hix.hit (by omega) hkk.1 (by omega) (show RankOf _ _ _ from by have hrb2 := hrb; rw [show rb = N by omega] at hrb2; exact hrb2)) (by omega)
                refine w_widen (k' := 200 + 4 * 1) (n' := 6 * (200 + 4 * 1)) (by omega) (by omega) ?_
                exact L261 ((9 - 1) + 1) 1 (-9) 0 0 M4 (Nat.lt_succ_self _) (by omega) (Or.inl ⟨rfl, fun s h1 h2 => absurd h2 (by omega)⟩) Gp_rank0 Vis_rank0' (by omega) sM4
              · refine r_iload (pc' := 95) X 4 dL_seen_93 rfl rfl ?_
                refine r_if_eq (pc' := 98) (tgt := 227) X dL_seen_95 rfl rfl (by omega) (fun h95 => absurd h95 (by decide)) (fun h95 => ?_)
                refine r_lconst (pc' := 99) (z := 0) X dL_seen_98 rfl rfl ?_
                refine r_lstore (pc' := 101) (lc' := [(0, vR G (28, 0)), (1, vI (N : Int)), (2, vI a), (3, vI (mn : Int)), (4, vI 1), (5, vI (q : Int)), (6, vJ 0)]) X [1, 2, 3, 4, 5, 6, 0] dL_seen_99 (by decide) rfl rfl ?_
                refine r_lconst (pc' := 102) (z := 0) X dL_seen_101 rfl rfl ?_
                refine r_lstore (pc' := 104) (lc' := [(0, vR G (28, 0)), (1, vI (N : Int)), (2, vI a), (3, vI (mn : Int)), (4, vI 1), (5, vI (q : Int)), (6, vJ 0), (8, vJ 0)]) X [1, 2, 3, 4, 5, 6, 7, 0] dL_seen_102 (by decide) rfl rfl ?_
                refine r_iconst (pc' := 105) X dL_seen_104 rfl ?_
                refine r_istore (pc' := 107) (lc' := [(0, vR G (28, 0)), (1, vI (N : Int)), (2, vI a), (3, vI (mn : Int)), (4, vI 1), (5, vI (q : Int)), (6, vJ 0), (8, vJ 0), (10, vI 0)]) X [1, 2, 3, 4, 5, 6, 7, 8, 0] dL_seen_105 (by decide) rfl rfl ?_
                have L107 : ∀ (fu : Nat) (j : Nat) (sa : Int) (sb : Int) (Mi : wM), N - j < fu → (j ≤ N) → (sa = dot j (combF (M 19 7) N q) (M 19 7)) → (sb = dot j (combF (M 19 7) N q) (M 0 1)) → (ScrEq M Mi) → wV p l e (wrm 8 260 1560) s m args below meth c G 11 Mi (20 + 40 * q + 4 * j) (6 * (20 + 40 * q + 4 * j)) (MQ below (wQi G (fun z M1 => z = 1 ∧ ScrEq M M1)) args s 260 1560 (wA G)) 107 [(0, vR G (28, 0)), (1, vI (N : Int)), (2, vI a), (3, vI (mn : Int)), (4, vI 1), (5, vI (q : Int)), (6, vJ sa), (8, vJ sb), (10, vI (j : Int))] [] := by
                  intro fu
                  induction fu with
                  | zero => intro j sa sb Mi hfu; exact absurd hfu (Nat.not_lt_zero _)
                  | succ fu ih107 =>
                    intro j sa sb Mi hfu107 hj7 hsa hsb sMi
                    have qMi := lo.scr sMi
                    have e0Mi := sMi.z0
                    have e19Mi := sMi.z19
                    have hcq : if firstE (M 19 7) N 0 = -1 then q < N else q + 1 < N := combs_bd (by rw [← hmn]; omega)
                    refine r_iload (pc' := 109) X 8 dL_seen_107 rfl rfl ?_
                    refine r_iload_n (pc' := 110) X 1 dL_seen_109 rfl rfl rfl ?_
                    refine r_icmp_ge (pc' := 113) (tgt := 166) X dL_seen_110 rfl rfl (by omega) (by omega) (fun h110 => ?_) (fun h110 => ?_)
                    · have esa : sa = 0 := by rw [hsa, show j = N by omega]; exact comb_orth hcq
                      have esb : sb = dot N (combF (M 19 7) N q) (M 0 1) := by rw [hsb, show j = N by omega]
                      have hsbb := dot_bd (A := 99) (B := 1000000) (by decide) (by decide) (n := N) (f := combF (M 19 7) N q) (g := M 0 1) (fun i hi => combF_bd hn.2.1 hE hcq hi) hTr
                      rw [← esb] at hsbb
                      have hx0 := ext_bd (n := N) (f := combF (M 19 7) N q) (lo := M 0 2) (hi := M 0 3) (but := -1) (gr := 0) (A := 99) (B := 1000000) (by decide) (by decide) (fun i hi => combF_bd hn.2.1 hE hcq hi) hLo hUp
                      have hx1 := ext_bd (n := N) (f := combF (M 19 7) N q) (lo := M 0 2) (hi := M 0 3) (but := -1) (gr := 1) (A := 99) (B := 1000000) (by decide) (by decide) (fun i hi => combF_bd hn.2.1 hE hcq hi) hLo hUp
                      have hci := comb_in (N := N) (f := combF (M 19 7) N q) (v := M 0) lo.tr.1
                      rw [← esb] at hci
                      refine r_lload (pc' := 168) X 6 dL_seen_166 rfl rfl ?_
                      refine r_lconst (pc' := 169) (z := 0) X dL_seen_168 rfl rfl ?_
                      refine r_lcmp (pc' := 170) X dL_seen_169 (by omega) (by omega) rfl (fun z169 z169r z169l z169e z169g => ?_)
                      refine r_if_ne (pc' := 173) (tgt := 218) X dL_seen_170 rfl rfl (by omega) (fun h170 => by exfalso; omega) (fun h170 => ?_)
                      refine r_aload_n (pc' := 174) X 0 dL_seen_173 rfl rfl rfl ?_
                      refine r_iload (pc' := 176) X 5 dL_seen_174 rfl rfl ?_
                      refine r_iload_n (pc' := 177) X 1 dL_seen_176 rfl rfl rfl ?_
                      refine w_calli (pc' := 180) (st := []) (w_runSH X (c_L_tryFree l G Mi hfl N P T qMi.ck (by have := qMi.t; omega) (q : Int) (N : Int) (by first | omega | assumption | decide) (by first | omega | assumption | decide)) cf_L_tryFree gw_902 rfl rfl ⟨Nat.le_of_ble_eq_true rfl, Nat.le_of_ble_eq_true rfl⟩ rfl rfl (Nat.le_of_ble_eq_true rfl) ⟨by show _ ≤ 260; omega, by show _ ≤ 1560; omega⟩ gw_901 dL_seen_177) rfl (fun z177 M8 h177 => ?_)
                      rcases h177 with h177 | h177
                      · exfalso
                        have hd := h177.1; clear h177; omega
                      obtain ⟨hz177, hc177, hs177⟩ := h177
                      have sM8 : ScrEq M M8 := sMi.trans (hs177)
                      have qM8 := lo.scr sM8
                      have e0M8 : M8 0 = M 0 := sM8.z0
                      have e19M8 : M8 19 = M 19 := sM8.z19
                      refine w_eqI (z' := (-1001)) hz177 ?_
                      refine r_sipush (pc' := 183) X dL_seen_180 rfl rfl ?_
                      refine r_icmp_ne (pc' := 186) (tgt := 218) X dL_seen_183 rfl rfl (by omega) (by omega) (fun h183 => absurd h183 (by decide)) (fun h183 => ?_)
                      refine r_aload_n (pc' := 187) X 0 dL_seen_186 rfl rfl rfl ?_
                      refine r_iload (pc' := 189) X 5 dL_seen_187 rfl rfl ?_
                      refine r_iconst (pc' := 190) X dL_seen_189 rfl ?_
                      refine w_calli (pc' := 193) (st := []) (w_runSH X (c_L_tryFreeRange l G M8 hfl N P T qM8.ck (by have := qM8.t; omega) (q : Int) 0 (by first | omega | assumption | decide) (by first | omega | assumption | decide)) cf_L_tryFreeRange gw_929 rfl rfl ⟨Nat.le_of_ble_eq_true rfl, Nat.le_of_ble_eq_true rfl⟩ rfl rfl (Nat.le_of_ble_eq_true rfl) ⟨by show _ ≤ 260; omega, by show _ ≤ 1560; omega⟩ gw_928 dL_seen_190) rfl (fun z190 M9 h190 => ?_)
                      rcases h190 with h190 | h190
                      rotate_left 1
                      · exfalso
                        exact h190.2.1 ⟨by omega, by rw [e19M8, ← hmn]; omega⟩
                      have hs190 := h190.2.2
                      simp only [e0M8, e19M8] at h190
                      have sM9 : ScrEq M M9 := sM8.trans (hs190)
                      have qM9 := lo.scr sM9
                      have e0M9 : M9 0 = M 0 := sM9.z0
                      have e19M9 : M9 19 = M 19 := sM9.z19
                      have e190 : z190 = ext N (combF (M 19 7) N q) (M 0 2) (M 0 3) (-1) 0 := h190.2.1
                      refine r_i2l (pc' := 194) X dL_seen_193 (by omega) rfl ?_
                      refine r_lload (pc' := 196) X 7 dL_seen_194 rfl rfl ?_
                      refine r_lcmp (pc' := 197) X dL_seen_196 (by omega) (by omega) rfl (fun z196 z196r z196l z196e z196g => ?_)
                      refine r_if_gt (pc' := 200) (tgt := 218) X dL_seen_197 rfl rfl (by omega) (fun h197 => by exfalso; omega) (fun h197 => ?_)
                      refine r_lload (pc' := 202) X 7 dL_seen_200 rfl rfl ?_
                      refine r_aload_n (pc' := 203) X 0 dL_seen_202 rfl rfl rfl ?_
                      refine r_iload (pc' := 205) X 5 dL_seen_203 rfl rfl ?_
                      refine r_iconst (pc' := 206) X dL_seen_205 rfl ?_
                      refine w_calli (pc' := 209) (st := [vJ sb]) (w_runSH X (c_L_tryFreeRange l G M9 hfl N P T qM9.ck (by have := qM9.t; omega) (q : Int) 1 (by first | omega | assumption | decide) (by first | omega | assumption | decide)) cf_L_tryFreeRange gw_929 rfl rfl ⟨Nat.le_of_ble_eq_true rfl, Nat.le_of_ble_eq_true rfl⟩ rfl rfl (Nat.le_of_ble_eq_true rfl) ⟨by show _ ≤ 260; omega, by show _ ≤ 1560; omega⟩ gw_928 dL_seen_206) rfl (fun z206 M10 h206 => ?_)
                      rcases h206 with h206 | h206
                      rotate_left 1
                      · exfalso
                        exact h206.2.1 ⟨by omega, by rw [e19M9, ← hmn]; omega⟩
                      have hs206 := h206.2.2
                      simp only [e0M9, e19M9] at h206
                      have sM10 : ScrEq M M10 := sM9.trans (hs206)
                      have qM10 := lo.scr sM10
                      have e0M10 : M10 0 = M 0 := sM10.z0
                      have e19M10 : M10 19 = M 19 := sM10.z19
                      have e206 : z206 = ext N (combF (M 19 7) N q) (M 0 2) (M 0 3) (-1) 1 := h206.2.1
                      refine r_i2l (pc' := 210) X dL_seen_209 (by omega) rfl ?_
                      refine r_lcmp (pc' := 211) X dL_seen_210 (by omega) (by omega) rfl (fun z210 z210r z210l z210e z210g => ?_)
                      refine r_if_gt (pc' := 214) (tgt := 218) X dL_seen_211 rfl rfl (by omega) (fun h211 => by exfalso; omega) (fun h211 => ?_)
                      refine r_iconst (pc' := 215) X dL_seen_214 rfl ?_
                      refine r_goto (tgt := 219) X dL_seen_215 rfl ?_
                      refine r_istore (pc' := 221) (lc' := [(0, vR G (28, 0)), (1, vI (N : Int)), (2, vI a), (3, vI (mn : Int)), (4, vI 1), (5, vI (q : Int)), (6, vJ sa), (8, vJ sb), (10, vI (j : Int))]) X [1, 2, 3, 4, 0, 5, 6, 7, 8] dL_seen_219 (by decide) rfl rfl ?_
                      refine r_iinc (pc' := 224) (z' := ((q + 1 : Nat) : Int)) (lc' := [(0, vR G (28, 0)), (1, vI (N : Int)), (2, vI a), (3, vI (mn : Int)), (4, vI 1), (5, vI ((q + 1 : Nat) : Int)), (6, vJ sa), (8, vJ sb), (10, vI (j : Int))]) X 5 [1, 2, 3, 4, 5, 0, 6, 7, 8] dL_seen_221 rfl (by omega) (by decide) rfl rfl ?_
                      refine r_goto (tgt := 87) X dL_seen_224 rfl ?_
                      refine w_sub (lc' := [(0, vR G (28, 0)), (1, vI (N : Int)), (2, vI a), (3, vI (mn : Int)), (4, vI 1), (5, vI ((q + 1 : Nat) : Int))]) [0, 1, 2, 3, 4, 5] rfl ?_
                      refine w_widen (k' := 20 + 40 * (q + 1)) (n' := 6 * (20 + 40 * (q + 1))) (by omega) (by omega) ?_
                      exact ih87 (q + 1) M10 (by omega) (by omega) sM10
                    · have hcf := combF_bd (i := j) hn.2.1 hE hcq (by omega)
                      have hej := hE j (by omega)
                      have htj := hTr j (by omega)
                      refine r_lload (pc' := 115) X 6 dL_seen_113 rfl rfl ?_
                      refine r_aload_n (pc' := 116) X 0 dL_seen_115 rfl rfl rfl ?_
                      refine r_iload (pc' := 118) X 5 dL_seen_116 rfl rfl ?_
                      refine r_iload (pc' := 120) X 8 dL_seen_118 rfl rfl ?_
                      refine w_calli (pc' := 123) (st := [vJ sa]) (w_runSH X (c_L_tryFree l G Mi hfl N P T qMi.ck (by have := qMi.t; omega) (q : Int) (j : Int) (by first | omega | assumption | decide) (by first | omega | assumption | decide)) cf_L_tryFree gw_902 rfl rfl ⟨Nat.le_of_ble_eq_true rfl, Nat.le_of_ble_eq_true rfl⟩ rfl rfl (Nat.le_of_ble_eq_true rfl) ⟨by show _ ≤ 260; omega, by show _ ≤ 1560; omega⟩ gw_901 dL_seen_120) rfl (fun z120 M11 h120 => ?_)
                      rcases h120 with h120 | h120
                      rotate_left 1
                      · exfalso
                        exact h120.2.1 ⟨by omega, by omega, by rw [e19Mi, ← hmn]; omega⟩
                      have hs120 := h120.2.2
                      simp only [e0Mi, e19Mi] at h120
                      have sM11 : ScrEq M M11 := sMi.trans (hs120)
                      have qM11 := lo.scr sM11
                      have e0M11 : M11 0 = M 0 := sM11.z0
                      have e19M11 : M11 19 = M 19 := sM11.z19
                      refine w_eqI (z' := combF (M 19 7) N q j) (h120.2.1) ?_
                      refine r_i2l (pc' := 124) X dL_seen_123 (by omega) rfl ?_
                      refine r_aload_n (pc' := 125) X 0 dL_seen_124 rfl rfl rfl ?_
                      refine r_iconst (pc' := 126) X dL_seen_125 rfl ?_
                      refine r_iload (pc' := 128) X 8 dL_seen_126 rfl rfl ?_
                      refine r_iconst (pc' := 129) X dL_seen_128 rfl ?_
                      refine w_calli (pc' := 132) (st := [vJ (combF (M 19 7) N q j), vJ sa]) (w_runSH X (c_L_tryNumber l G M11 hfl N P T qM11.ck (by have := qM11.t; omega) 2 (j : Int) 0 (by first | omega | assumption | decide) (by first | omega | assumption | decide) (by first | omega | assumption | decide)) cf_L_tryNumber gw_619 rfl rfl ⟨Nat.le_of_ble_eq_true rfl, Nat.le_of_ble_eq_true rfl⟩ rfl rfl (Nat.le_of_ble_eq_true rfl) ⟨by show _ ≤ 260; omega, by show _ ≤ 1560; omega⟩ gw_618 dL_seen_129) rfl (fun z129 M12 h129 => ?_)
                      rcases h129 with h129 | h129 | h129
                      rotate_left 1
                      · exfalso
                        have hd := h129.2.1; clear h129; omega
                      · exfalso
                        exact h129.2.1.2 ⟨⟨by omega, by rw [if_neg (by decide)]; omega⟩, by omega, by unfold colsF; rw [if_neg (by decide), if_neg (by decide)]; omega⟩
                      obtain ⟨-, -, -, hv129, hm129⟩ := h129
                      obtain rfl := hm129.symm
                      simp only [e0M11, e19M11] at hv129
                      refine w_eqI (z' := M 19 7 j) hv129 ?_
                      refine r_i2l (pc' := 133) X dL_seen_132 (by omega) rfl ?_
                      refine r_lmul (pc' := 134) X dL_seen_133 rfl ?_
                      refine r_ladd (pc' := 135) X dL_seen_134 rfl ?_
                      refine r_lstore (pc' := 137) (lc' := [(0, vR G (28, 0)), (1, vI (N : Int)), (2, vI a), (3, vI (mn : Int)), (4, vI 1), (5, vI (q : Int)), (6, vJ (sa + ((combF (M 19 7) N q j) * (M 19 7 j)))), (8, vJ sb), (10, vI (j : Int))]) X [1, 2, 3, 4, 5, 6, 0, 7, 8] dL_seen_135 (by decide) rfl rfl ?_
                      refine r_lload (pc' := 139) X 7 dL_seen_137 rfl rfl ?_
                      refine r_aload_n (pc' := 140) X 0 dL_seen_139 rfl rfl rfl ?_
                      refine r_iload (pc' := 142) X 5 dL_seen_140 rfl rfl ?_
                      refine r_iload (pc' := 144) X 8 dL_seen_142 rfl rfl ?_
                      refine w_calli (pc' := 147) (st := [vJ sb]) (w_runSH X (c_L_tryFree l G M11 hfl N P T qM11.ck (by have := qM11.t; omega) (q : Int) (j : Int) (by first | omega | assumption | decide) (by first | omega | assumption | decide)) cf_L_tryFree gw_902 rfl rfl ⟨Nat.le_of_ble_eq_true rfl, Nat.le_of_ble_eq_true rfl⟩ rfl rfl (Nat.le_of_ble_eq_true rfl) ⟨by show _ ≤ 260; omega, by show _ ≤ 1560; omega⟩ gw_901 dL_seen_144) rfl (fun z144 M13 h144 => ?_)
                      rcases h144 with h144 | h144
                      rotate_left 1
                      · exfalso
                        exact h144.2.1 ⟨by omega, by omega, by rw [e19M11, ← hmn]; omega⟩
                      have hs144 := h144.2.2
                      simp only [e0M11, e19M11] at h144
                      have sM13 : ScrEq M M13 := sM11.trans (hs144)
                      have qM13 := lo.scr sM13
                      have e0M13 : M13 0 = M 0 := sM13.z0
                      have e19M13 : M13 19 = M 19 := sM13.z19
                      refine w_eqI (z' := combF (M 19 7) N q j) (h144.2.1) ?_
                      refine r_i2l (pc' := 148) X dL_seen_147 (by omega) rfl ?_
                      refine r_aload_n (pc' := 149) X 0 dL_seen_148 rfl rfl rfl ?_
                      refine r_iload (pc' := 151) X 8 dL_seen_149 rfl rfl ?_
                      refine r_iconst (pc' := 152) X dL_seen_151 rfl ?_
                      refine w_calli (pc' := 155) (st := [vJ (combF (M 19 7) N q j), vJ sb]) (w_runSH X (c_L_tryState l G M13 hfl N P T qM13.ck (by have := qM13.t; omega) (j : Int) 0 (by first | omega | assumption | decide) (by first | omega | assumption | decide)) cf_L_tryState gw_689 rfl rfl ⟨Nat.le_of_ble_eq_true rfl, Nat.le_of_ble_eq_true rfl⟩ rfl rfl (Nat.le_of_ble_eq_true rfl) ⟨by show _ ≤ 260; omega, by show _ ≤ 1560; omega⟩ gw_688 dL_seen_152) rfl (fun z152 M14 h152 => ?_)
                      rcases h152 with h152 | h152 | h152
                      rotate_left 1
                      · exfalso
                        have hd := h152.2.1; clear h152; omega
                      · exfalso
                        have hd := h152.2.1; clear h152; omega
                      obtain ⟨-, -, hv152, hm152⟩ := h152
                      obtain rfl := hm152.symm
                      simp only [e0M13, e19M13] at hv152
                      refine w_eqI (z' := M 0 1 j) hv152 ?_
                      refine r_i2l (pc' := 156) X dL_seen_155 (by omega) rfl ?_
                      refine r_lmul (pc' := 157) X dL_seen_156 rfl ?_
                      refine r_ladd (pc' := 158) X dL_seen_157 rfl ?_
                      refine r_lstore (pc' := 160) (lc' := [(0, vR G (28, 0)), (1, vI (N : Int)), (2, vI a), (3, vI (mn : Int)), (4, vI 1), (5, vI (q : Int)), (6, vJ (sa + ((combF (M 19 7) N q j) * (M 19 7 j)))), (8, vJ (sb + ((combF (M 19 7) N q j) * (M 0 1 j)))), (10, vI (j : Int))]) X [1, 2, 3, 4, 5, 6, 7, 0, 8] dL_seen_158 (by decide) rfl rfl ?_
                      refine r_iinc (pc' := 163) (z' := ((j + 1 : Nat) : Int)) (lc' := [(0, vR G (28, 0)), (1, vI (N : Int)), (2, vI a), (3, vI (mn : Int)), (4, vI 1), (5, vI (q : Int)), (6, vJ (sa + ((combF (M 19 7) N q j) * (M 19 7 j)))), (8, vJ (sb + ((combF (M 19 7) N q j) * (M 0 1 j)))), (10, vI ((j + 1 : Nat) : Int))]) X 8 [1, 2, 3, 4, 5, 6, 7, 8, 0] dL_seen_160 rfl (by omega) (by decide) rfl rfl ?_
                      refine r_goto (tgt := 107) X dL_seen_163 rfl ?_
                      refine w_widen (k' := 20 + 40 * q + 4 * (j + 1)) (n' := 6 * (20 + 40 * q + 4 * (j + 1))) (by omega) (by omega) ?_
                      exact ih107 (j + 1) (sa + ((combF (M 19 7) N q j) * (M 19 7 j))) (sb + ((combF (M 19 7) N q j) * (M 0 1 j))) M13 (by omega) (by omega) (by rw [hsa]; rfl) (by rw [hsb]; rfl) sM13
                refine w_widen (k' := 20 + 40 * q + 4 * 0) (n' := 6 * (20 + 40 * q + 4 * 0)) (by omega) (by omega) ?_
                exact L107 ((N - 0) + 1) 0 0 0 Mq (Nat.lt_succ_self _) (by omega) rfl rfl sMq
          refine w_widen (k' := 20 + 40 * 0) (n' := 6 * (20 + 40 * 0)) (by omega) (by omega) ?_
          exact L87 ((mn - 0) + 1) 0 M3 (Nat.lt_succ_self _) (by omega) sM3
        refine r_if_eq (pc' := 45) (tgt := 51) X dL_seen_42 rfl rfl (by omega) (fun h42 => ?_) (fun h42 => ?_)
        · refine r_iload_n (pc' := 52) X 1 dL_seen_51 rfl rfl rfl ?_
          refine w_widen (k' := 10) (n' := 6 * (10)) (by omega) (by omega) ?_
          refine w_sub (lc' := [(0, vR G (28, 0)), (1, vI (N : Int)), (2, vI a)]) [0, 1, 2] rfl ?_
          exact J52 N (combs_0 (hz (by omega))).symm
        · refine r_iload_n (pc' := 46) X 1 dL_seen_45 rfl rfl rfl ?_
          refine r_iconst (pc' := 47) X dL_seen_46 rfl ?_
          refine r_isub (pc' := 48) X dL_seen_47 rfl ?_
          refine w_eqI (z' := ((N - 1 : Nat) : Int)) (by omega) ?_
          refine r_goto (tgt := 52) X dL_seen_48 rfl ?_
          refine w_widen (k' := 10) (n' := 6 * (10)) (by omega) (by omega) ?_
          refine w_sub (lc' := [(0, vR G (28, 0)), (1, vI (N : Int)), (2, vI a)]) [0, 1, 2] rfl ?_
          exact J52 (N - 1) (by rw [combs_1 (h1 (by omega))]; omega)
      · refine r_iload_n (pc' := 16) X 2 dL_seen_15 rfl rfl rfl ?_
        refine r_if_ne (pc' := 19) (tgt := 29) X dL_seen_16 rfl rfl (by omega) (fun h16 => ?_) (fun h16 => ?_)
        · refine r_iconst (pc' := 30) X dL_seen_29 rfl ?_
          refine r_goto (tgt := 34) X dL_seen_30 rfl ?_
          refine r_istore_n (pc' := 35) (lc' := [(0, vR G (28, 0)), (1, vI (N : Int)), (2, vI 1), (3, vI (j : Int))]) X [1, 2, 0, 3] dL_seen_34 rfl (by decide) rfl rfl ?_
          refine r_iinc (pc' := 38) (z' := ((j + 1 : Nat) : Int)) (lc' := [(0, vR G (28, 0)), (1, vI (N : Int)), (2, vI 1), (3, vI ((j + 1 : Nat) : Int))]) X 3 [1, 2, 3, 0] dL_seen_35 rfl (by omega) (by decide) rfl rfl ?_
          refine r_goto (tgt := 10) X dL_seen_38 rfl ?_
          refine w_widen (k' := 2 + (j + 1)) (n' := 6 * (2 + (j + 1))) (by omega) (by omega) ?_
          exact ih10 (j + 1) 1 (by omega) (by omega) (Or.inr rfl) (fun h => absurd h (by decide)) (fun _ => any0_up (h1 (by omega)))
        · have hej0 := hE j (by omega)
          refine r_aload_n (pc' := 20) X 0 dL_seen_19 rfl rfl rfl ?_
          refine r_iconst (pc' := 21) X dL_seen_20 rfl ?_
          refine r_iload_n (pc' := 22) X 3 dL_seen_21 rfl rfl rfl ?_
          refine r_iconst (pc' := 23) X dL_seen_22 rfl ?_
          refine w_calli (pc' := 26) (st := []) (w_runSH X (c_L_tryNumber l G M hfl N P T lo.ck (by have := lo.t; omega) 2 (j : Int) 0 (by first | omega | assumption | decide) (by first | omega | assumption | decide) (by first | omega | assumption | decide)) cf_L_tryNumber gw_619 rfl rfl ⟨Nat.le_of_ble_eq_true rfl, Nat.le_of_ble_eq_true rfl⟩ rfl rfl (Nat.le_of_ble_eq_true rfl) ⟨by show _ ≤ 260; omega, by show _ ≤ 1560; omega⟩ gw_618 dL_seen_23) rfl (fun z23 M15 h23 => ?_)
          rcases h23 with h23 | h23 | h23
          rotate_left 1
          · exfalso
            have hd := h23.2.1; clear h23; omega
          · exfalso
            exact h23.2.1.2 ⟨⟨by omega, by rw [if_neg (by decide)]; omega⟩, by omega, by unfold colsF; rw [if_neg (by decide), if_neg (by decide)]; omega⟩
          obtain ⟨-, -, -, hv23, hm23⟩ := h23
          obtain rfl := hm23.symm
          refine w_eqI (z' := M 19 7 j) hv23 ?_
          refine r_if_eq (pc' := 29) (tgt := 33) X dL_seen_26 rfl rfl (by omega) (fun h26 => ?_) (fun h26 => ?_)
          · refine r_iconst (pc' := 34) X dL_seen_33 rfl ?_
            refine r_istore_n (pc' := 35) (lc' := [(0, vR G (28, 0)), (1, vI (N : Int)), (2, vI 0), (3, vI (j : Int))]) X [1, 2, 0, 3] dL_seen_34 rfl (by decide) rfl rfl ?_
            refine r_iinc (pc' := 38) (z' := ((j + 1 : Nat) : Int)) (lc' := [(0, vR G (28, 0)), (1, vI (N : Int)), (2, vI 0), (3, vI ((j + 1 : Nat) : Int))]) X 3 [1, 2, 3, 0] dL_seen_35 rfl (by omega) (by decide) rfl rfl ?_
            refine r_goto (tgt := 10) X dL_seen_38 rfl ?_
            refine w_widen (k' := 2 + (j + 1)) (n' := 6 * (2 + (j + 1))) (by omega) (by omega) ?_
            exact ih10 (j + 1) 0 (by omega) (by omega) (Or.inl rfl) (fun _ => any0_s (hz (by omega)) h26) (fun h => absurd h (by decide))
          · refine r_iconst (pc' := 30) X dL_seen_29 rfl ?_
            refine r_goto (tgt := 34) X dL_seen_30 rfl ?_
            refine r_istore_n (pc' := 35) (lc' := [(0, vR G (28, 0)), (1, vI (N : Int)), (2, vI 1), (3, vI (j : Int))]) X [1, 2, 0, 3] dL_seen_34 rfl (by decide) rfl rfl ?_
            refine r_iinc (pc' := 38) (z' := ((j + 1 : Nat) : Int)) (lc' := [(0, vR G (28, 0)), (1, vI (N : Int)), (2, vI 1), (3, vI ((j + 1 : Nat) : Int))]) X 3 [1, 2, 3, 0] dL_seen_35 rfl (by omega) (by decide) rfl rfl ?_
            refine r_goto (tgt := 10) X dL_seen_38 rfl ?_
            refine w_widen (k' := 2 + (j + 1)) (n' := 6 * (2 + (j + 1))) (by omega) (by omega) ?_
            exact ih10 (j + 1) 1 (by omega) (by omega) (Or.inr rfl) (fun h => absurd h (by decide)) (fun _ q => h26 (q j (by omega)))
  refine w_widen (k' := 2 + 0) (n' := 6 * (2 + 0)) (by omega) (by omega) ?_
  exact L10 ((N - 0) + 1) 0 0 (Nat.lt_succ_self _) (by omega) (Or.inl rfl) (fun _ x h => absurd h (Nat.not_lt_zero x)) (fun h => absurd h (by decide))
