theorem cf_X8_runScript : wCal yX8_runScript cX8_runScript 9 (some .int) 2 := ⟨gw_942, gw_1, by decide, by decide, by rfl⟩
set_option maxRecDepth 100000 in
set_option maxHeartbeats 4000000 in
theorem c_X8_runScript (l : Launch) (G : wG) (M : wM) (hfl : l.stackTraces = false) (N P : Nat) (T : Int) (hck : COk M N P T) (hT6 : T ≤ 800000) (hT0 : 0 ≤ T) (htr : TrOk (M 0) N P (M 19)) (n s0 : Int) (hn : rI n) (hs : rJ s0) : vx_Met l yX8_runScript (gws yX8_runScript cX8_runScript 9 (some .int)) (wrm 6 1 6) (wPc G M [vR G (28, 0), vI n, vJ s0]) (wQi G (fun z M1 => ((1 ≤ n ∧ n ≤ 4) ∧ 0 ≤ s0 ∧ s0 < ((10000 ^ n.toNat : Nat) : Int)) ∧ z = scrF N P (M 19) (cmdAt s0.toNat n.toNat) n.toNat 0 (M 0) ∧ ScrEq M M1)) (wQx G (fun E M1 => ((E = "java/lang/IllegalArgumentException" ∧ ¬ ((1 ≤ n ∧ n ≤ 4) ∧ 0 ≤ s0 ∧ s0 < ((10000 ^ n.toNat : Nat) : Int)))) ∧ ScrEq M M1)) 1 6 (wA G) := by
  refine wMetX (lc := [(0, vR G (28, 0)), (1, vI n), (2, vJ s0)]) (by decide) (Nat.le_of_ble_eq_true rfl) rfl ?_
  intro p e s m args below meth c X hr hex
  have X : wX p s m args meth c G 9 "StateObserver" cX8_runScript := X
  obtain ⟨hp, hm, hbx⟩ := id hck
  obtain ⟨hN, hN1, hN4, hP, hP1, hP3, hA, hB, hE, hC, hQ⟩ := id hp
  obtain ⟨hT, hL, hU, hS, hG, hY, hAg, hHo, hBo, hTi, hLi, hLb, hLl, hLh⟩ := id hm
  refine r_iload_n (pc' := 1) X 1 dX8_runScript_0 rfl rfl rfl ?_
  refine r_iconst (pc' := 2) X dX8_runScript_1 rfl ?_
  refine r_icmp_lt (pc' := 5) (tgt := 10) X dX8_runScript_2 rfl rfl (by omega) (by omega) (fun h2 => ?_) (fun h2 => ?_)
  · refine r_thAW X hfl hex gw_458 ts_943 dX8_runScript_10 dX8_runScript_13 dX8_runScript_14 dX8_runScript_17 dX8_runScript_20 (by decide) (by decide) (by decide) (by decide) ?_
    try dsimp only
    exact ⟨⟨rfl, by omega⟩, ScrEq.rfl⟩
  · refine r_iload_n (pc' := 6) X 1 dX8_runScript_5 rfl rfl rfl ?_
    refine r_iconst (pc' := 7) X dX8_runScript_6 rfl ?_
    refine r_icmp_le (pc' := 10) (tgt := 21) X dX8_runScript_7 rfl rfl (by omega) (by omega) (fun h7 => ?_) (fun h7 => ?_)
    · refine r_lconst (pc' := 22) (z := 1) X dX8_runScript_21 rfl rfl ?_
      refine r_lstore (pc' := 24) (lc' := [(0, vR G (28, 0)), (1, vI n), (2, vJ s0), (4, vJ 1)]) X [1, 2, 3, 0] dX8_runScript_22 (by decide) rfl rfl ?_
      refine r_iconst (pc' := 25) X dX8_runScript_24 rfl ?_
      refine r_istore (pc' := 27) (lc' := [(0, vR G (28, 0)), (1, vI n), (2, vJ s0), (4, vJ 1), (6, vI 0)]) X [1, 2, 3, 4, 0] dX8_runScript_25 (by decide) rfl rfl ?_
      have L27 : ∀ (fu : Nat) (t : Nat) (en : Int), n.toNat - t < fu → (t ≤ n.toNat) → (en = ((10000 ^ t : Nat) : Int)) → wV p l e (wrm 6 1 6) s m args below meth c G 9 M 0 0 (vx_MQ below (wQi G (fun z M1 => ((1 ≤ n ∧ n ≤ 4) ∧ 0 ≤ s0 ∧ s0 < ((10000 ^ n.toNat : Nat) : Int)) ∧ z = scrF N P (M 19) (cmdAt s0.toNat n.toNat) n.toNat 0 (M 0) ∧ ScrEq M M1)) (wQx G (fun E M1 => ((E = "java/lang/IllegalArgumentException" ∧ ¬ ((1 ≤ n ∧ n ≤ 4) ∧ 0 ≤ s0 ∧ s0 < ((10000 ^ n.toNat : Nat) : Int)))) ∧ ScrEq M M1)) args s 1 6 (wA G)) 27 [(0, vR G (28, 0)), (1, vI n), (2, vJ s0), (4, vJ en), (6, vI (t : Int))] [] := by
        intro fu
        induction fu with
        | zero => intro t en hfu; exact absurd hfu (Nat.not_lt_zero _)
        | succ fu ih27 =>
          intro t en hfu27 ht hen
          refine r_iload (pc' := 29) X 4 dX8_runScript_27 rfl rfl ?_
          refine r_iload_n (pc' := 30) X 1 dX8_runScript_29 rfl rfl rfl ?_
          refine r_icmp_ge (pc' := 33) (tgt := 47) X dX8_runScript_30 rfl rfl (by omega) (by omega) (fun h30 => ?_) (fun h30 => ?_)
          · have hen2 : en = ((10000 ^ n.toNat : Nat) : Int) := by rw [hen, show t = n.toNat by omega]
            have hpb := pow_bd (n := n.toNat) (by omega)
            obtain ⟨pw0, hpw⟩ : ∃ x, x = 10000 ^ n.toNat := ⟨_, rfl⟩
            rw [← hpw] at hen2 hpb
            refine r_lload_n (pc' := 48) X 2 dX8_runScript_47 rfl rfl rfl ?_
            refine r_lconst (pc' := 49) (z := 0) X dX8_runScript_48 rfl rfl ?_
            refine r_lcmp (pc' := 50) X dX8_runScript_49 (by omega) (by omega) rfl (fun z49 z49r z49l z49e z49g => ?_)
            refine r_if_lt (pc' := 53) (tgt := 60) X dX8_runScript_50 rfl rfl (by omega) (fun h50 => ?_) (fun h50 => ?_)
            · refine r_thAW X hfl hex gw_458 ts_945 dX8_runScript_60 dX8_runScript_63 dX8_runScript_64 dX8_runScript_67 dX8_runScript_70 (by decide) (by decide) (by decide) (by decide) ?_
              try dsimp only
              refine ⟨⟨rfl, ?_⟩, ScrEq.rfl⟩
              rw [← hpw]
              omega
            · refine r_lload_n (pc' := 54) X 2 dX8_runScript_53 rfl rfl rfl ?_
              refine r_lload (pc' := 56) X 3 dX8_runScript_54 rfl rfl ?_
              refine r_lcmp (pc' := 57) X dX8_runScript_56 (by omega) (by omega) rfl (fun z56 z56r z56l z56e z56g => ?_)
              refine r_if_lt (pc' := 60) (tgt := 71) X dX8_runScript_57 rfl rfl (by omega) (fun h57 => ?_) (fun h57 => ?_)
              · have hsl : s0.toNat < 10000 ^ n.toNat := by rw [← hpw]; omega
                refine r_lload_n (pc' := 72) X 2 dX8_runScript_71 rfl rfl rfl ?_
                refine r_lstore (pc' := 74) (lc' := [(0, vR G (28, 0)), (1, vI n), (2, vJ s0), (4, vJ en), (6, vJ s0)]) X [1, 2, 3, 4, 0] dX8_runScript_72 (by decide) rfl rfl ?_
                refine r_iload_n (pc' := 75) X 1 dX8_runScript_74 rfl rfl rfl ?_
                refine w_eqI (z' := ((n.toNat : Nat) : Int)) (by omega) ?_
                refine r_istore (pc' := 77) (lc' := [(0, vR G (28, 0)), (1, vI n), (2, vJ s0), (4, vJ en), (6, vJ s0), (8, vI ((n.toNat : Nat) : Int))]) X [1, 2, 3, 4, 5, 0] dX8_runScript_75 (by decide) rfl rfl ?_
                have L77 : ∀ (fu : Nat) (y : Nat) (rs : Int), 4 - y < fu → (n.toNat ≤ y ∧ y ≤ 4) → (rs = ((s0.toNat * 10000 ^ (y - n.toNat) : Nat) : Int)) → wV p l e (wrm 6 1 6) s m args below meth c G 9 M 0 0 (vx_MQ below (wQi G (fun z M1 => ((1 ≤ n ∧ n ≤ 4) ∧ 0 ≤ s0 ∧ s0 < ((10000 ^ n.toNat : Nat) : Int)) ∧ z = scrF N P (M 19) (cmdAt s0.toNat n.toNat) n.toNat 0 (M 0) ∧ ScrEq M M1)) (wQx G (fun E M1 => ((E = "java/lang/IllegalArgumentException" ∧ ¬ ((1 ≤ n ∧ n ≤ 4) ∧ 0 ≤ s0 ∧ s0 < ((10000 ^ n.toNat : Nat) : Int)))) ∧ ScrEq M M1)) args s 1 6 (wA G)) 77 [(0, vR G (28, 0)), (1, vI n), (2, vJ s0), (4, vJ en), (6, vJ rs), (8, vI (y : Int))] [] := by
                  intro fu
                  induction fu with
                  | zero => intro y rs hfu; exact absurd hfu (Nat.not_lt_zero _)
                  | succ fu ih77 =>
                    intro y rs hfu77 hy hrs
                    refine r_iload (pc' := 79) X 5 dX8_runScript_77 rfl rfl ?_
                    refine r_iconst (pc' := 80) X dX8_runScript_79 rfl ?_
                    refine r_icmp_ge (pc' := 83) (tgt := 97) X dX8_runScript_80 rfl rfl (by omega) (by omega) (fun h80 => ?_) (fun h80 => ?_)
                    · refine r_aload_n (pc' := 98) X 0 dX8_runScript_97 rfl rfl rfl ?_
                      refine gf_28_copy (pc' := 101) X gw_298 dX8_runScript_98 rfl ?_
                      refine r_aload_n (pc' := 102) X 0 dX8_runScript_101 rfl rfl rfl ?_
                      refine gf_28_now (pc' := 105) X gw_297 dX8_runScript_102 rfl ?_
                      refine w_callv (pc' := 108) (st := []) (w_runV X (c_X1_copyFrom l G M 1 0 (by decide) (by decide) (by decide)) cf_X1_copyFrom (kM_0 (by decide)) rfl gw_517 gw_518 rfl rfl ⟨Nat.le_of_ble_eq_true rfl, Nat.le_of_ble_eq_true rfl⟩ rfl rfl (Nat.le_of_ble_eq_true rfl) ⟨Nat.le_of_ble_eq_true rfl, Nat.le_of_ble_eq_true rfl⟩ gw_556 dX8_runScript_105) rfl (fun M1 h105 => ?_)
                      have ecp : M1 1 = M 0 := by rw [h105]; unfold wo; rw [if_pos rfl]
                      have ecf : ∀ a, a ≠ 1 → M1 a = M a := fun a ha => by rw [h105]; unfold wo; rw [if_neg ha]
                      refine r_iconst (pc' := 109) X dX8_runScript_108 rfl ?_
                      refine r_istore (pc' := 111) (lc' := [(0, vR G (28, 0)), (1, vI n), (2, vJ s0), (4, vJ en), (6, vJ rs), (8, vI 0)]) X [1, 2, 3, 4, 5, 0] dX8_runScript_109 (by decide) rfl rfl ?_
                      have L111 : ∀ (fu : Nat) (w : Nat) (rt : Int) (Ma : wM), n.toNat - w < fu → (w ≤ n.toNat) → (rt = (((s0.toNat * 10000 ^ (4 - n.toNat + w) % 10000000000000000) : Nat) : Int)) → (∃ v, VEq N P (Ma 1) v ∧ scrF N P (M 19) (cmdAt s0.toNat n.toNat) n.toNat 0 (M 0) = scrF N P (M 19) (cmdAt s0.toNat n.toNat) (n.toNat - w) w v) → (CCk Ma N P (T + w)) → (∀ a, a ≠ 1 → a ≠ 21 → Ma a = M a) → wV p l e (wrm 6 1 6) s m args below meth c G 9 Ma 0 0 (vx_MQ below (wQi G (fun z M1 => ((1 ≤ n ∧ n ≤ 4) ∧ 0 ≤ s0 ∧ s0 < ((10000 ^ n.toNat : Nat) : Int)) ∧ z = scrF N P (M 19) (cmdAt s0.toNat n.toNat) n.toNat 0 (M 0) ∧ ScrEq M M1)) (wQx G (fun E M1 => ((E = "java/lang/IllegalArgumentException" ∧ ¬ ((1 ≤ n ∧ n ≤ 4) ∧ 0 ≤ s0 ∧ s0 < ((10000 ^ n.toNat : Nat) : Int)))) ∧ ScrEq M M1)) args s 1 6 (wA G)) 111 [(0, vR G (28, 0)), (1, vI n), (2, vJ s0), (4, vJ en), (6, vJ rt), (8, vI (w : Int))] [] := by
                        intro fu
                        induction fu with
                        | zero => intro w rt Ma hfu; exact absurd hfu (Nat.not_lt_zero _)
                        | succ fu ih111 =>
                          intro w rt Ma hfu111 hw hrt hv hcc hfr
                          refine r_iload (pc' := 113) X 5 dX8_runScript_111 rfl rfl ?_
                          refine r_iload_n (pc' := 114) X 1 dX8_runScript_113 rfl rfl rfl ?_
                          refine r_icmp_ge (pc' := 117) (tgt := 152) X dX8_runScript_114 rfl rfl (by omega) (by omega) (fun h114 => ?_) (fun h114 => ?_)
                          · refine r_bipush (pc' := 154) X dX8_runScript_152 rfl rfl ?_
                            refine w_x (by decide) (by decide) ?_
                            refine w_iret X hr dX8_runScript_154 ?_
                            try dsimp only
                            refine ⟨⟨by omega, by omega, by rw [← hpw]; omega⟩, ?_, fun a h1 h21 _ _ _ _ => hfr a h1 h21⟩
                            obtain ⟨v, -, hv3⟩ := hv
                            rw [hv3, show n.toNat - w = 0 by omega]
                            rfl
                          · obtain ⟨v, hv1, hv3⟩ := hv
                            obtain ⟨rn, hrn⟩ : ∃ x, x = (s0.toNat * 10000 ^ (4 - n.toNat + w) % 10000000000000000) := ⟨_, rfl⟩
                            have hrn2 : rn < 10000000000000000 := by rw [hrn]; exact Nat.mod_lt _ (by decide)
                            have hca := cmd_at (t := w) (rn := rn) (show 1 ≤ n.toNat ∧ n.toNat ≤ 4 by omega) (by omega) hsl hrn
                            rw [← hrn] at hrt
                            have e19 : Ma 19 = M 19 := hfr 19 (by decide) (by decide)
                            have e0 : Ma 0 = M 0 := hfr 0 (by decide) (by decide)
                            have hck3 : COk Ma N P (T + w) := ⟨by rw [e19]; exact hp, by rw [e0]; exact hm.mono (by omega), by rw [e0]; exact hbx⟩
                            refine r_aload_n (pc' := 118) X 0 dX8_runScript_117 rfl rfl rfl ?_
                            refine r_lload (pc' := 120) X 4 dX8_runScript_118 rfl rfl ?_
                            refine r_ldc2 (pc' := 123) (z := 1000000000000) X gw_946 dX8_runScript_120 rfl rfl ?_
                            refine r_ldiv (pc' := 124) X dX8_runScript_123 (by omega) (by omega) (by omega) rfl ?_
                            refine r_l2i (pc' := 125) X dX8_runScript_124 rfl ?_
                            refine w_eqI (z' := ((rn / 1000000000000 : Nat) : Int)) (by rw [hrt]; rfl) ?_
                            refine w_calli (pc' := 128) (st := []) (w_runV X (c_X8_succeeds l G Ma N P (T + w) hcc (by omega) (by omega) hck3 (rn / 1000000000000) (by omega)) cf_X8_succeeds k28_0 rfl gw_949 gp_23 rfl rfl ⟨Nat.le_of_ble_eq_true rfl, Nat.le_of_ble_eq_true rfl⟩ rfl rfl (Nat.le_of_ble_eq_true rfl) ⟨Nat.le_of_ble_eq_true rfl, Nat.le_of_ble_eq_true rfl⟩ gw_947 dX8_runScript_125) rfl (fun z125 M2 h125 => ?_)
                            rw [e19, hca.1] at h125
                            have hcg := cmdF_congr (c := cmdAt s0.toNat n.toNat w) (pv := M 19) hN4 hv1
                            refine r_if_ne (pc' := 131) (tgt := 134) X dX8_runScript_128 rfl rfl (by omega) (fun h128 => ?_) (fun h128 => ?_)
                            · obtain ⟨hz1, wv, hw1, hw2⟩ : z125 = 1 ∧ ∃ wv, cmdF N P (M 19) (Ma 1) (cmdAt s0.toNat n.toNat w) = some wv ∧ VEq N P (M2 1) wv := by
                                rcases h125.1 with ⟨q1, q2⟩ | q
                                · exfalso; omega
                                · exact q
                              have hv2 : ∃ v, VEq N P (M2 1) v ∧ scrF N P (M 19) (cmdAt s0.toNat n.toNat) n.toNat 0 (M 0) = scrF N P (M 19) (cmdAt s0.toNat n.toNat) (n.toNat - (w + 1)) (w + 1) v := by
                                rcases hcg with ⟨q1, q2⟩ | ⟨x1, x2, q1, q2, q3⟩
                                · rw [hw1] at q1; exact absurd q1 (by simp)
                                · rw [hw1] at q1
                                  cases q1
                                  refine ⟨x2, hw2.trans q3, ?_⟩
                                  rw [hv3, show n.toNat - w = (n.toNat - (w + 1)) + 1 by omega]
                                  exact scr_some q2
                              refine r_lload (pc' := 136) X 4 dX8_runScript_134 rfl rfl ?_
                              refine r_ldc2 (pc' := 139) (z := 1000000000000) X gw_946 dX8_runScript_136 rfl rfl ?_
                              refine r_lrem (pc' := 140) X dX8_runScript_139 (by omega) (by omega) (by omega) rfl ?_
                              refine r_ldc2 (pc' := 143) (z := 10000) X gw_944 dX8_runScript_140 rfl rfl ?_
                              refine r_lmul (pc' := 144) X dX8_runScript_143 rfl ?_
                              refine r_lstore (pc' := 146) (lc' := [(0, vR G (28, 0)), (1, vI n), (2, vJ s0), (4, vJ en), (6, vJ ((rt.tmod 1000000000000) * 10000)), (8, vI (w : Int))]) X [1, 2, 3, 4, 0, 5] dX8_runScript_144 (by decide) rfl rfl ?_
                              refine r_iinc (pc' := 149) (z' := ((w + 1 : Nat) : Int)) (lc' := [(0, vR G (28, 0)), (1, vI n), (2, vJ s0), (4, vJ en), (6, vJ ((rt.tmod 1000000000000) * 10000)), (8, vI ((w + 1 : Nat) : Int))]) X 5 [1, 2, 3, 4, 5, 0] dX8_runScript_146 rfl (by omega) (by decide) rfl rfl ?_
                              refine r_goto (tgt := 111) X dX8_runScript_149 rfl ?_
                              exact ih111 (w + 1) ((rt.tmod 1000000000000) * 10000) M2 (by omega) (by omega) (by rw [← hca.2, hrt]; rfl) hv2 (by rw [show T + ((w + 1 : Nat) : Int) = T + (w : Int) + 1 by omega]; exact h125.2.1 hz1) (fun a h1 h2 => by rw [h125.2.2 a h1 h2]; exact hfr a h1 h2)
                            · refine r_iload (pc' := 133) X 5 dX8_runScript_131 rfl rfl ?_
                              refine w_x (by decide) (by decide) ?_
                              refine w_iret X hr dX8_runScript_133 ?_
                              try dsimp only
                              refine ⟨⟨by omega, by omega, by rw [← hpw]; omega⟩, ?_, fun a h1 h21 _ _ _ _ => by rw [h125.2.2 a h1 h21]; exact hfr a h1 h21⟩
                              rcases h125.1 with ⟨q1, q2⟩ | ⟨q1, -⟩
                              · rcases hcg with ⟨x1, x2⟩ | ⟨x1, x2, y1, y2, y3⟩
                                · rw [hv3, show n.toNat - w = (n.toNat - (w + 1)) + 1 by omega]
                                  exact (scr_none x2).symm
                                · rw [q2] at y1; exact absurd y1 (by simp)
                              · exfalso; omega
                      exact L111 ((n.toNat - 0) + 1) 0 rs M1 (Nat.lt_succ_self _) (by omega) (by rw [hrs, show y = 4 by omega, Nat.add_zero, Nat.mod_eq_of_lt (scr_0 (by omega) hsl)]) ⟨M 0, by rw [ecp]; exact VEq.self, rfl⟩ (by rw [Int.natCast_zero, Int.add_zero]; exact ⟨by rw [ecf 19 (by decide)]; exact hp, by rw [ecp]; exact hm, by rw [ecp]; exact hbx, by rw [ecp, ecf 19 (by decide)]; exact htr⟩) (fun a h1 _ => ecf a h1)
                    · refine r_lload (pc' := 85) X 4 dX8_runScript_83 rfl rfl ?_
                      refine r_ldc2 (pc' := 88) (z := 10000) X gw_944 dX8_runScript_85 rfl rfl ?_
                      refine r_lmul (pc' := 89) X dX8_runScript_88 rfl ?_
                      refine r_lstore (pc' := 91) (lc' := [(0, vR G (28, 0)), (1, vI n), (2, vJ s0), (4, vJ en), (6, vJ (rs * 10000)), (8, vI (y : Int))]) X [1, 2, 3, 4, 0, 5] dX8_runScript_89 (by decide) rfl rfl ?_
                      refine r_iinc (pc' := 94) (z' := ((y + 1 : Nat) : Int)) (lc' := [(0, vR G (28, 0)), (1, vI n), (2, vJ s0), (4, vJ en), (6, vJ (rs * 10000)), (8, vI ((y + 1 : Nat) : Int))]) X 5 [1, 2, 3, 4, 5, 0] dX8_runScript_91 rfl (by omega) (by decide) rfl rfl ?_
                      refine r_goto (tgt := 77) X dX8_runScript_94 rfl ?_
                      exact ih77 (y + 1) (rs * 10000) (by omega) (by omega) (by rw [hrs, show y + 1 - n.toNat = (y - n.toNat) + 1 by omega, Nat.pow_succ, ← Nat.mul_assoc, Int.natCast_mul]; rfl)
                exact L77 ((4 - n.toNat) + 1) n.toNat s0 (Nat.lt_succ_self _) (by omega) (by rw [Nat.sub_self, Nat.pow_zero, Nat.mul_one]; omega)
              · refine r_thAW X hfl hex gw_458 ts_945 dX8_runScript_60 dX8_runScript_63 dX8_runScript_64 dX8_runScript_67 dX8_runScript_70 (by decide) (by decide) (by decide) (by decide) ?_
                try dsimp only
                refine ⟨⟨rfl, ?_⟩, ScrEq.rfl⟩
                rw [← hpw]
                omega
          · refine r_lload (pc' := 35) X 3 dX8_runScript_33 rfl rfl ?_
            refine r_ldc2 (pc' := 38) (z := 10000) X gw_944 dX8_runScript_35 rfl rfl ?_
            refine r_lmul (pc' := 39) X dX8_runScript_38 rfl ?_
            refine r_lstore (pc' := 41) (lc' := [(0, vR G (28, 0)), (1, vI n), (2, vJ s0), (4, vJ (en * 10000)), (6, vI (t : Int))]) X [1, 2, 3, 0, 4] dX8_runScript_39 (by decide) rfl rfl ?_
            refine r_iinc (pc' := 44) (z' := ((t + 1 : Nat) : Int)) (lc' := [(0, vR G (28, 0)), (1, vI n), (2, vJ s0), (4, vJ (en * 10000)), (6, vI ((t + 1 : Nat) : Int))]) X 4 [1, 2, 3, 4, 0] dX8_runScript_41 rfl (by omega) (by decide) rfl rfl ?_
            refine r_goto (tgt := 27) X dX8_runScript_44 rfl ?_
            exact ih27 (t + 1) (en * 10000) (by omega) (by omega) (by rw [hen, Nat.pow_succ, Int.natCast_mul]; rfl)
      exact L27 ((n.toNat - 0) + 1) 0 1 (Nat.lt_succ_self _) (by omega) rfl
    · refine r_thAW X hfl hex gw_458 ts_943 dX8_runScript_10 dX8_runScript_13 dX8_runScript_14 dX8_runScript_17 dX8_runScript_20 (by decide) (by decide) (by decide) (by decide) ?_
      try dsimp only
      exact ⟨⟨rfl, by omega⟩, ScrEq.rfl⟩
