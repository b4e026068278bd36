theorem cf_X9_tenTo : wCal yX9_tenTo cX9_tenTo 4 (some .long) 1 := ⟨gw_1368, gw_10, by decide, by decide, by rfl⟩
set_option maxRecDepth 100000 in
set_option maxHeartbeats 4000000 in
theorem c_X9_tenTo (l : Launch) (G : wG) (M : wM) (n : Nat) (hn : n ≤ 16) : Met l yX9_tenTo (gws yX9_tenTo cX9_tenTo 4 (some .long)) (wrm 0 0 0) (wPc G M [vI (n : Int)]) (wQj G (fun z M1 => z = ((10 ^ n : Nat) : Int) ∧ M1 = M)) 0 0 (wA G) := by
  refine wMet (lc := [(0, vI (n : Int))]) (by decide) (Nat.le_of_ble_eq_true rfl) rfl ?_
  intro p e s m args below meth c X hr
  have X : wX p s m args meth c G 4 "StateObserverModel" cX9_tenTo := X
  refine r_lconst (pc' := 1) (z := 1) X dX9_tenTo_0 rfl rfl ?_
  refine r_lstore_n (pc' := 2) (lc' := [(0, vI (n : Int)), (1, vJ 1)]) X [1, 0] dX9_tenTo_1 rfl (by decide) rfl rfl ?_
  refine r_iconst (pc' := 3) X dX9_tenTo_2 rfl ?_
  refine r_istore_n (pc' := 4) (lc' := [(0, vI (n : Int)), (1, vJ 1), (3, vI 0)]) X [1, 2, 0] dX9_tenTo_3 rfl (by decide) rfl rfl ?_
  have L4 : ∀ (fu : Nat) (k : Nat) (v : Int), n - k < fu → (k ≤ n) → (v = ((10 ^ k : Nat) : Int)) → wV p l e (wrm 0 0 0) s m args below meth c G 4 M 0 0 (MQ below (wQj G (fun z M1 => z = ((10 ^ n : Nat) : Int) ∧ M1 = M)) args s 0 0 (wA G)) 4 [(0, vI (n : Int)), (1, vJ v), (3, vI (k : Int))] [] := by
    intro fu
    induction fu with
    | zero => intro k v hfu; exact absurd hfu (Nat.not_lt_zero _)
    | succ fu ih4 =>
      intro k v hfu4 hk hv
      refine r_iload_n (pc' := 5) X 2 dX9_tenTo_4 rfl rfl rfl ?_
      refine r_iload_n (pc' := 6) X 0 dX9_tenTo_5 rfl rfl rfl ?_
      refine r_icmp_ge (pc' := 9) (tgt := 21) X dX9_tenTo_6 rfl rfl (by omega) (by omega) (fun h6 => ?_) (fun h6 => ?_)
      · refine r_lload_n (pc' := 22) X 1 dX9_tenTo_21 rfl rfl rfl ?_
        refine w_lret X hr dX9_tenTo_22 ?_
        try dsimp only
        rw [hv, show k = n by omega]
        exact ⟨rfl, rfl⟩
      · refine r_lload_n (pc' := 10) X 1 dX9_tenTo_9 rfl rfl rfl ?_
        refine r_ldc2 (pc' := 13) (z := 10) X gw_1369 dX9_tenTo_10 rfl rfl ?_
        refine r_lmul (pc' := 14) X dX9_tenTo_13 rfl ?_
        refine r_lstore_n (pc' := 15) (lc' := [(0, vI (n : Int)), (1, vJ (v * 10)), (3, vI (k : Int))]) X [1, 0, 2] dX9_tenTo_14 rfl (by decide) rfl rfl ?_
        refine r_iinc (pc' := 18) (z' := ((k + 1 : Nat) : Int)) (lc' := [(0, vI (n : Int)), (1, vJ (v * 10)), (3, vI ((k + 1 : Nat) : Int))]) X 2 [1, 2, 0] dX9_tenTo_15 rfl (by omega) (by decide) rfl rfl ?_
        refine r_goto (tgt := 4) X dX9_tenTo_18 rfl ?_
        exact ih4 (k + 1) (v * 10) (by omega) (by omega) (by rw [hv, Nat.pow_succ, Int.natCast_mul]; rfl)
  exact L4 ((n - 0) + 1) 0 1 (Nat.lt_succ_self _) (by omega) rfl
theorem cf_X9_does : wCal yX9_does cX9_does 6 (some .boolean) 4 := ⟨gw_1374, gw_10, by decide, by decide, by rfl⟩
set_option maxRecDepth 100000 in
set_option maxHeartbeats 4000000 in
theorem c_X9_does (l : Launch) (G : wG) (M : wM) (N P : Nat) (pv : Nat → Nat → Int) (hp : PlOk pv N P) (hq : PEq N P pv (M 29)) (w : Nat → Nat → Int) (T : Int) (hm : MoOk w N P T) (hT6 : T ≤ 1000000) (hv : REq N P w (M 29 14)) (hbx : BoxOk N (w 2) (w 3)) (hw0 d1 d2 d3 cd : Nat) (hcd : cd < 10000) (e0 : hw0 = cd / 1000) (e1 : d1 = cd / 100 % 10) (e2 : d2 = cd / 10 % 10) (e3 : d3 = cd % 10) : Met l yX9_does (gws yX9_does cX9_does 6 (some .boolean)) (wrm 5 0 0) (wPc G M [vR G (29, 0), vI (hw0 : Int), vI (d1 : Int), vI (d2 : Int), vI (d3 : Int)]) (wQi G (fun z M1 => ((z = 0 ∧ cmdF N P pv w cd = none) ∨ (z = 1 ∧ ∃ v2, cmdF N P pv w cd = some v2 ∧ REq N P v2 (M1 29 14))) ∧ ∀ a b x, ¬ (a = 29 ∧ (b = 14 ∨ b = 19 ∨ b = 20)) → M1 a b x = M a b x)) 0 0 (wA G) := by
  refine wMet (lc := [(0, vR G (29, 0)), (1, vI (hw0 : Int)), (2, vI (d1 : Int)), (3, vI (d2 : Int)), (4, vI (d3 : Int))]) (by decide) (Nat.le_of_ble_eq_true rfl) rfl ?_
  intro p e s m args below meth c X hr
  have X : wX p s m args meth c G 6 "StateObserverModel" cX9_does := X
  obtain ⟨hN, hN1, hN4, hP, hP1, hP3, hA, hB, hE, hC, hQ⟩ := id hp
  obtain ⟨qN, qP, qA, qB, qE, qC, qQ⟩ := id hq
  obtain ⟨hT, hL, hU, hS, hG, hY, hAg, hHo, hBo, hTi, hLi, hLb, hLl, hLh⟩ := id hm
  obtain ⟨v1, v2, v3, v28, v29, v30, v38, v39, v37⟩ := id hv
  refine r_bipush (pc' := 2) X dX9_does_0 rfl rfl ?_
  refine r_iload_n (pc' := 3) X 3 dX9_does_2 rfl rfl rfl ?_
  refine r_imul (pc' := 4) X dX9_does_3 rfl ?_
  refine r_iload (pc' := 6) X 4 dX9_does_4 rfl rfl ?_
  refine r_iadd (pc' := 7) X dX9_does_6 rfl ?_
  refine w_eqI (z' := (((10 * d2) + d3 : Nat) : Int)) (by omega) ?_
  refine r_istore (pc' := 9) (lc' := [(0, vR G (29, 0)), (1, vI (hw0 : Int)), (2, vI (d1 : Int)), (3, vI (d2 : Int)), (4, vI (d3 : Int)), (5, vI (((10 * d2) + d3 : Nat) : Int))]) X [1, 2, 3, 4, 5, 0] dX9_does_7 (by decide) rfl rfl ?_
  refine r_iload_n (pc' := 10) X 1 dX9_does_9 rfl rfl rfl ?_
  have ec : cd % 100 = 10 * d2 + d3 := by omega
  by_cases hs10 : 1 ≤ (hw0 : Int) ∧ (hw0 : Int) ≤ 7
  · rcases (show (hw0 : Int) = 1 ∨ (hw0 : Int) = 2 ∨ (hw0 : Int) = 3 ∨ (hw0 : Int) = 4 ∨ (hw0 : Int) = 5 ∨ (hw0 : Int) = 6 ∨ (hw0 : Int) = 7 by omega) with hs10 | hs10 | hs10 | hs10 | hs10 | hs10 | hs10
    · refine r_tsw (v := 1) (tgt := 52) X dX9_does_10 hs10 (by decide) (by decide) (by decide) rfl rfl ?_
      refine r_iload (pc' := 54) X 4 dX9_does_52 rfl rfl ?_
      refine r_aload_n (pc' := 55) X 0 dX9_does_54 rfl rfl rfl ?_
      refine gf_29_trial (pc' := 58) X gw_988 dX9_does_55 rfl ?_
      refine r_bipush (pc' := 60) X dX9_does_58 rfl rfl ?_
      refine r_iald (i := 29) (pc' := 61) X k29_14 (by omega) (by omega) (by decide) dX9_does_60 rfl ?_
      refine r_icmp_le (pc' := 64) (tgt := 66) X dX9_does_61 rfl rfl (by omega) (by omega) (fun h61 => ?_) (fun h61 => ?_)
      · refine r_aload_n (pc' := 67) X 0 dX9_does_66 rfl rfl rfl ?_
        refine r_aload_n (pc' := 68) X 0 dX9_does_67 rfl rfl rfl ?_
        refine gf_29_trial (pc' := 71) X gw_988 dX9_does_68 rfl ?_
        refine r_iload_n (pc' := 72) X 1 dX9_does_71 rfl rfl rfl ?_
        refine r_iconst (pc' := 73) X dX9_does_72 rfl ?_
        refine r_icmp_ne (pc' := 76) (tgt := 85) X dX9_does_73 rfl rfl (by omega) (by omega) (fun h73 => by exfalso; omega) (fun h73 => ?_)
        refine r_bipush (pc' := 78) X dX9_does_76 rfl rfl ?_
        refine r_iload_n (pc' := 79) X 2 dX9_does_78 rfl rfl rfl ?_
        refine r_imul (pc' := 80) X dX9_does_79 rfl ?_
        refine r_iload_n (pc' := 81) X 3 dX9_does_80 rfl rfl rfl ?_
        refine r_iadd (pc' := 82) X dX9_does_81 rfl ?_
        refine r_goto (tgt := 91) X dX9_does_82 rfl ?_
        refine r_iload_n (pc' := 92) X 1 dX9_does_91 rfl rfl rfl ?_
        refine r_iconst (pc' := 93) X dX9_does_92 rfl ?_
        refine r_icmp_ne (pc' := 96) (tgt := 101) X dX9_does_93 rfl rfl (by omega) (by omega) (fun h93 => by exfalso; omega) (fun h93 => ?_)
        refine r_iload (pc' := 98) X 4 dX9_does_96 rfl rfl ?_
        refine r_goto (tgt := 104) X dX9_does_98 rfl ?_
        refine w_callv (pc' := 107) (st := []) (w_runV X (c_X9_stepOn l G M N P pv (by first | assumption | omega) (by first | assumption | omega) 14 k29_14 (by first | assumption | omega) w T hm (by first | assumption | omega) hv hbx ((10 * (d1 : Int)) + (d2 : Int)) (by omega) (d3 : Int) (by omega)) cf_X9_stepOn k29_0 rfl gw_1210 gp_43 rfl rfl ⟨Nat.le_of_ble_eq_true rfl, Nat.le_of_ble_eq_true rfl⟩ rfl rfl (Nat.le_of_ble_eq_true rfl) ⟨Nat.le_of_ble_eq_true rfl, Nat.le_of_ble_eq_true rfl⟩ gw_1208 dX9_does_104) rfl (fun M1 h104 => ?_)
        have eu : ((10 * (d1 : Int)) + (d2 : Int)) = ((cd / 10 % 100 : Nat) : Int) := by omega
        have ed : (d3 : Int) = ((cd % 10 : Nat) : Int) := by omega
        rw [eu, ed] at h104
        refine r_iconst (pc' := 108) X dX9_does_107 rfl ?_
        refine w_zret X hr (by decide) dX9_does_108 ?_
        try dsimp only
        refine ⟨Or.inr ⟨rfl, _, ?_, h104.1⟩, fun a b x q => h104.2 a b x (by omega)⟩
        unfold cmdF
        rw [show cd / 1000 = 1 by omega]
        rw [if_pos rfl]
        rw [if_neg (by omega)]
      · refine r_iconst (pc' := 65) X dX9_does_64 rfl ?_
        refine w_zret X hr (by decide) dX9_does_65 ?_
        try dsimp only
        refine ⟨Or.inl ⟨rfl, ?_⟩, fun _ _ _ _ => rfl⟩
        unfold cmdF
        rw [show cd / 1000 = 1 by omega]
        rw [if_pos rfl]
        rw [if_pos (by omega)]
    · refine r_tsw (v := 2) (tgt := 52) X dX9_does_10 hs10 (by decide) (by decide) (by decide) rfl rfl ?_
      refine r_iload (pc' := 54) X 4 dX9_does_52 rfl rfl ?_
      refine r_aload_n (pc' := 55) X 0 dX9_does_54 rfl rfl rfl ?_
      refine gf_29_trial (pc' := 58) X gw_988 dX9_does_55 rfl ?_
      refine r_bipush (pc' := 60) X dX9_does_58 rfl rfl ?_
      refine r_iald (i := 29) (pc' := 61) X k29_14 (by omega) (by omega) (by decide) dX9_does_60 rfl ?_
      refine r_icmp_le (pc' := 64) (tgt := 66) X dX9_does_61 rfl rfl (by omega) (by omega) (fun h61 => ?_) (fun h61 => ?_)
      · refine r_aload_n (pc' := 67) X 0 dX9_does_66 rfl rfl rfl ?_
        refine r_aload_n (pc' := 68) X 0 dX9_does_67 rfl rfl rfl ?_
        refine gf_29_trial (pc' := 71) X gw_988 dX9_does_68 rfl ?_
        refine r_iload_n (pc' := 72) X 1 dX9_does_71 rfl rfl rfl ?_
        refine r_iconst (pc' := 73) X dX9_does_72 rfl ?_
        refine r_icmp_ne (pc' := 76) (tgt := 85) X dX9_does_73 rfl rfl (by omega) (by omega) (fun h73 => ?_) (fun h73 => by exfalso; omega)
        refine r_bipush (pc' := 87) X dX9_does_85 rfl rfl ?_
        refine r_iload_n (pc' := 88) X 2 dX9_does_87 rfl rfl rfl ?_
        refine r_imul (pc' := 89) X dX9_does_88 rfl ?_
        refine r_iload_n (pc' := 90) X 3 dX9_does_89 rfl rfl rfl ?_
        refine r_isub (pc' := 91) X dX9_does_90 rfl ?_
        refine r_iload_n (pc' := 92) X 1 dX9_does_91 rfl rfl rfl ?_
        refine r_iconst (pc' := 93) X dX9_does_92 rfl ?_
        refine r_icmp_ne (pc' := 96) (tgt := 101) X dX9_does_93 rfl rfl (by omega) (by omega) (fun h93 => ?_) (fun h93 => by exfalso; omega)
        refine r_iload (pc' := 103) X 4 dX9_does_101 rfl rfl ?_
        refine r_ineg (pc' := 104) X dX9_does_103 rfl ?_
        refine w_callv (pc' := 107) (st := []) (w_runV X (c_X9_stepOn l G M N P pv (by first | assumption | omega) (by first | assumption | omega) 14 k29_14 (by first | assumption | omega) w T hm (by first | assumption | omega) hv hbx (((-10) * (d1 : Int)) - (d2 : Int)) (by omega) (-(d3 : Int)) (by omega)) cf_X9_stepOn k29_0 rfl gw_1210 gp_43 rfl rfl ⟨Nat.le_of_ble_eq_true rfl, Nat.le_of_ble_eq_true rfl⟩ rfl rfl (Nat.le_of_ble_eq_true rfl) ⟨Nat.le_of_ble_eq_true rfl, Nat.le_of_ble_eq_true rfl⟩ gw_1208 dX9_does_104) rfl (fun M2 h104 => ?_)
        have eu : (((-10) * (d1 : Int)) - (d2 : Int)) = -((cd / 10 % 100 : Nat) : Int) := by omega
        have ed : (-(d3 : Int)) = -((cd % 10 : Nat) : Int) := by omega
        rw [eu, ed] at h104
        refine r_iconst (pc' := 108) X dX9_does_107 rfl ?_
        refine w_zret X hr (by decide) dX9_does_108 ?_
        try dsimp only
        refine ⟨Or.inr ⟨rfl, _, ?_, h104.1⟩, fun a b x q => h104.2 a b x (by omega)⟩
        unfold cmdF
        rw [show cd / 1000 = 2 by omega]
        rw [if_neg (by decide)]
        rw [if_pos rfl]
        rw [if_neg (by omega)]
      · refine r_iconst (pc' := 65) X dX9_does_64 rfl ?_
        refine w_zret X hr (by decide) dX9_does_65 ?_
        try dsimp only
        refine ⟨Or.inl ⟨rfl, ?_⟩, fun _ _ _ _ => rfl⟩
        unfold cmdF
        rw [show cd / 1000 = 2 by omega]
        rw [if_neg (by decide)]
        rw [if_pos rfl]
        rw [if_pos (by omega)]
    · refine r_tsw (v := 3) (tgt := 109) X dX9_does_10 hs10 (by decide) (by decide) (by decide) rfl rfl ?_
      refine r_iload_n (pc' := 110) X 2 dX9_does_109 rfl rfl rfl ?_
      refine r_if_ne (pc' := 113) (tgt := 126) X dX9_does_110 rfl rfl (by omega) (fun h110 => ?_) (fun h110 => ?_)
      · refine r_iconst (pc' := 127) X dX9_does_126 rfl ?_
        refine w_zret X hr (by decide) dX9_does_127 ?_
        try dsimp only
        refine ⟨Or.inl ⟨rfl, ?_⟩, fun _ _ _ _ => rfl⟩
        unfold cmdF
        rw [show cd / 1000 = 3 by omega]
        rw [if_neg (by decide)]
        rw [if_neg (by decide)]
        rw [if_pos rfl]
        rw [if_neg (by omega)]
      · refine r_iload_n (pc' := 114) X 3 dX9_does_113 rfl rfl rfl ?_
        refine r_if_ne (pc' := 117) (tgt := 126) X dX9_does_114 rfl rfl (by omega) (fun h114 => ?_) (fun h114 => ?_)
        · refine r_iconst (pc' := 127) X dX9_does_126 rfl ?_
          refine w_zret X hr (by decide) dX9_does_127 ?_
          try dsimp only
          refine ⟨Or.inl ⟨rfl, ?_⟩, fun _ _ _ _ => rfl⟩
          unfold cmdF
          rw [show cd / 1000 = 3 by omega]
          rw [if_neg (by decide)]
          rw [if_neg (by decide)]
          rw [if_pos rfl]
          rw [if_neg (by omega)]
        · refine r_aload_n (pc' := 118) X 0 dX9_does_117 rfl rfl rfl ?_
          refine r_iload (pc' := 120) X 4 dX9_does_118 rfl rfl ?_
          refine w_calli (pc' := 123) (st := []) (w_runV X (c_X9_isOutput l G M N P pv (by first | assumption | omega) (by first | assumption | omega) (d3 : Int) (by first | assumption | omega)) cf_X9_isOutput k29_0 rfl gw_1152 gp_35 rfl rfl ⟨Nat.le_of_ble_eq_true rfl, Nat.le_of_ble_eq_true rfl⟩ rfl rfl (Nat.le_of_ble_eq_true rfl) ⟨Nat.le_of_ble_eq_true rfl, Nat.le_of_ble_eq_true rfl⟩ gw_1150 dX9_does_120) rfl (fun z120 M3 h120 => ?_)
          have hz120 := h120.1
          obtain rfl := h120.2.symm
          have hi120 : z120 = 0 ∨ z120 = 1 := by rw [hz120]; split <;> omega
          have hq120 : z120 = 1 ↔ (0 ≤ (d3 : Int) ∧ (d3 : Int) < P) := by rw [hz120]; split <;> omega
          refine r_if_ne (pc' := 126) (tgt := 128) X dX9_does_123 rfl rfl (by omega) (fun h123 => ?_) (fun h123 => ?_)
          · refine r_aload_n (pc' := 129) X 0 dX9_does_128 rfl rfl rfl ?_
            refine r_aload_n (pc' := 130) X 0 dX9_does_129 rfl rfl rfl ?_
            refine gf_29_trial (pc' := 133) X gw_988 dX9_does_130 rfl ?_
            refine r_iload (pc' := 135) X 4 dX9_does_133 rfl rfl ?_
            refine w_callv (pc' := 138) (st := []) (w_runV X (c_X9_readOn l G M N P pv (by first | assumption | omega) (by first | assumption | omega) 14 d3 k29_14 (by first | assumption | omega) w T hm (by first | assumption | omega) hv hbx (by omega)) cf_X9_readOn k29_0 rfl gw_1236 gp_46 rfl rfl ⟨Nat.le_of_ble_eq_true rfl, Nat.le_of_ble_eq_true rfl⟩ rfl rfl (Nat.le_of_ble_eq_true rfl) ⟨Nat.le_of_ble_eq_true rfl, Nat.le_of_ble_eq_true rfl⟩ gw_1234 dX9_does_135) rfl (fun M4 h135 => ?_)
            rw [show d3 = cd % 100 by omega] at h135
            refine r_iconst (pc' := 139) X dX9_does_138 rfl ?_
            refine w_zret X hr (by decide) dX9_does_139 ?_
            try dsimp only
            refine ⟨Or.inr ⟨rfl, _, ?_, h135.1⟩, fun a b x q => h135.2 a b x (by omega)⟩
            unfold cmdF
            rw [show cd / 1000 = 3 by omega]
            rw [if_neg (by decide)]
            rw [if_neg (by decide)]
            rw [if_pos rfl]
            rw [if_pos (by omega)]
          · refine r_iconst (pc' := 127) X dX9_does_126 rfl ?_
            refine w_zret X hr (by decide) dX9_does_127 ?_
            try dsimp only
            refine ⟨Or.inl ⟨rfl, ?_⟩, fun _ _ _ _ => rfl⟩
            unfold cmdF
            rw [show cd / 1000 = 3 by omega]
            rw [if_neg (by decide)]
            rw [if_neg (by decide)]
            rw [if_pos rfl]
            rw [if_neg (by omega)]
    · refine r_tsw (v := 4) (tgt := 140) X dX9_does_10 hs10 (by decide) (by decide) (by decide) rfl rfl ?_
      refine r_aload_n (pc' := 141) X 0 dX9_does_140 rfl rfl rfl ?_
      refine r_iload_n (pc' := 142) X 2 dX9_does_141 rfl rfl rfl ?_
      refine w_calli (pc' := 145) (st := []) (w_runV X (c_X9_isState l G M N P pv (by first | assumption | omega) (by first | assumption | omega) (d1 : Int) (by first | assumption | omega)) cf_X9_isState k29_0 rfl gw_1156 gp_36 rfl rfl ⟨Nat.le_of_ble_eq_true rfl, Nat.le_of_ble_eq_true rfl⟩ rfl rfl (Nat.le_of_ble_eq_true rfl) ⟨Nat.le_of_ble_eq_true rfl, Nat.le_of_ble_eq_true rfl⟩ gw_1154 dX9_does_142) rfl (fun z142 M5 h142 => ?_)
      have hz142 := h142.1
      obtain rfl := h142.2.symm
      have hi142 : z142 = 0 ∨ z142 = 1 := by rw [hz142]; split <;> omega
      have hq142 : z142 = 1 ↔ (0 ≤ (d1 : Int) ∧ (d1 : Int) < N) := by rw [hz142]; split <;> omega
      refine r_if_eq (pc' := 148) (tgt := 175) X dX9_does_145 rfl rfl (by omega) (fun h145 => ?_) (fun h145 => ?_)
      · refine r_iconst (pc' := 176) X dX9_does_175 rfl ?_
        refine w_zret X hr (by decide) dX9_does_176 ?_
        try dsimp only
        refine ⟨Or.inl ⟨rfl, ?_⟩, fun _ _ _ _ => rfl⟩
        unfold cmdF
        rw [show cd / 1000 = 4 by omega]
        rw [if_neg (by decide)]
        rw [if_neg (by decide)]
        rw [if_neg (by decide)]
        rw [if_pos rfl, ← e1]
        rw [if_neg (by omega)]
      · have vi2 := v1 d1 (by omega)
        have rl2 := hL d1 (by omega)
        have ru2 := hU d1 (by omega)
        refine r_aload_n (pc' := 149) X 0 dX9_does_148 rfl rfl rfl ?_
        refine gf_29_trial (pc' := 152) X gw_988 dX9_does_149 rfl ?_
        refine r_bipush (pc' := 154) X dX9_does_152 rfl rfl ?_
        refine r_iload_n (pc' := 155) X 2 dX9_does_154 rfl rfl rfl ?_
        refine r_iadd (pc' := 156) X dX9_does_155 rfl ?_
        refine r_iald (i := (8 + d1)) (pc' := 157) X k29_14 (by omega) (by omega) (by decide) dX9_does_156 rfl ?_
        refine r_aload_n (pc' := 158) X 0 dX9_does_157 rfl rfl rfl ?_
        refine gf_29_trial (pc' := 161) X gw_988 dX9_does_158 rfl ?_
        refine r_iconst (pc' := 162) X dX9_does_161 rfl ?_
        refine r_iload_n (pc' := 163) X 2 dX9_does_162 rfl rfl rfl ?_
        refine r_iadd (pc' := 164) X dX9_does_163 rfl ?_
        refine r_iald (i := (4 + d1)) (pc' := 165) X k29_14 (by omega) (by omega) (by decide) dX9_does_164 rfl ?_
        refine r_isub (pc' := 166) X dX9_does_165 rfl ?_
        refine r_iload (pc' := 168) X 5 dX9_does_166 rfl rfl ?_
        refine r_icmp_gt (pc' := 171) (tgt := 175) X dX9_does_168 rfl rfl (by omega) (by omega) (fun h168 => ?_) (fun h168 => ?_)
        · refine r_iconst (pc' := 176) X dX9_does_175 rfl ?_
          refine w_zret X hr (by decide) dX9_does_176 ?_
          try dsimp only
          refine ⟨Or.inl ⟨rfl, ?_⟩, fun _ _ _ _ => rfl⟩
          unfold cmdF
          rw [show cd / 1000 = 4 by omega]
          rw [if_neg (by decide)]
          rw [if_neg (by decide)]
          rw [if_neg (by decide)]
          rw [if_pos rfl, ← e1]
          rw [if_neg (by omega)]
        · refine r_iconst (pc' := 172) X dX9_does_171 rfl ?_
          refine r_goto (tgt := 176) X dX9_does_172 rfl ?_
          refine w_zret X hr (by decide) dX9_does_176 ?_
          try dsimp only
          refine ⟨Or.inr ⟨rfl, w, ?_, hv⟩, fun _ _ _ _ => rfl⟩
          unfold cmdF
          rw [show cd / 1000 = 4 by omega]
          rw [if_neg (by decide)]
          rw [if_neg (by decide)]
          rw [if_neg (by decide)]
          rw [if_pos rfl, ← e1]
          rw [if_pos (by omega)]
    · refine r_tsw (v := 5) (tgt := 177) X dX9_does_10 hs10 (by decide) (by decide) (by decide) rfl rfl ?_
      refine r_aload_n (pc' := 178) X 0 dX9_does_177 rfl rfl rfl ?_
      refine r_iload_n (pc' := 179) X 2 dX9_does_178 rfl rfl rfl ?_
      refine w_calli (pc' := 182) (st := []) (w_runV X (c_X9_isState l G M N P pv (by first | assumption | omega) (by first | assumption | omega) (d1 : Int) (by first | assumption | omega)) cf_X9_isState k29_0 rfl gw_1156 gp_36 rfl rfl ⟨Nat.le_of_ble_eq_true rfl, Nat.le_of_ble_eq_true rfl⟩ rfl rfl (Nat.le_of_ble_eq_true rfl) ⟨Nat.le_of_ble_eq_true rfl, Nat.le_of_ble_eq_true rfl⟩ gw_1154 dX9_does_179) rfl (fun z179 M6 h179 => ?_)
      have hz179 := h179.1
      obtain rfl := h179.2.symm
      have hi179 : z179 = 0 ∨ z179 = 1 := by rw [hz179]; split <;> omega
      have hq179 : z179 = 1 ↔ (0 ≤ (d1 : Int) ∧ (d1 : Int) < N) := by rw [hz179]; split <;> omega
      refine r_if_eq (pc' := 185) (tgt := 202) X dX9_does_182 rfl rfl (by omega) (fun h182 => ?_) (fun h182 => ?_)
      · refine r_iconst (pc' := 203) X dX9_does_202 rfl ?_
        refine w_zret X hr (by decide) dX9_does_203 ?_
        try dsimp only
        refine ⟨Or.inl ⟨rfl, ?_⟩, fun _ _ _ _ => rfl⟩
        unfold cmdF
        rw [show cd / 1000 = 5 by omega]
        rw [if_neg (by decide)]
        rw [if_neg (by decide)]
        rw [if_neg (by decide)]
        rw [if_neg (by decide)]
        rw [if_pos rfl, ← e1]
        rw [if_neg (by omega)]
      · have vi2 := v1 d1 (by omega)
        have rl2 := hL d1 (by omega)
        refine r_aload_n (pc' := 186) X 0 dX9_does_185 rfl rfl rfl ?_
        refine gf_29_trial (pc' := 189) X gw_988 dX9_does_186 rfl ?_
        refine r_iconst (pc' := 190) X dX9_does_189 rfl ?_
        refine r_iload_n (pc' := 191) X 2 dX9_does_190 rfl rfl rfl ?_
        refine r_iadd (pc' := 192) X dX9_does_191 rfl ?_
        refine r_iald (i := (4 + d1)) (pc' := 193) X k29_14 (by omega) (by omega) (by decide) dX9_does_192 rfl ?_
        refine r_iload (pc' := 195) X 5 dX9_does_193 rfl rfl ?_
        refine r_icmp_lt (pc' := 198) (tgt := 202) X dX9_does_195 rfl rfl (by omega) (by omega) (fun h195 => ?_) (fun h195 => ?_)
        · refine r_iconst (pc' := 203) X dX9_does_202 rfl ?_
          refine w_zret X hr (by decide) dX9_does_203 ?_
          try dsimp only
          refine ⟨Or.inl ⟨rfl, ?_⟩, fun _ _ _ _ => rfl⟩
          unfold cmdF
          rw [show cd / 1000 = 5 by omega]
          rw [if_neg (by decide)]
          rw [if_neg (by decide)]
          rw [if_neg (by decide)]
          rw [if_neg (by decide)]
          rw [if_pos rfl, ← e1]
          rw [if_neg (by omega)]
        · refine r_iconst (pc' := 199) X dX9_does_198 rfl ?_
          refine r_goto (tgt := 203) X dX9_does_199 rfl ?_
          refine w_zret X hr (by decide) dX9_does_203 ?_
          try dsimp only
          refine ⟨Or.inr ⟨rfl, w, ?_, hv⟩, fun _ _ _ _ => rfl⟩
          unfold cmdF
          rw [show cd / 1000 = 5 by omega]
          rw [if_neg (by decide)]
          rw [if_neg (by decide)]
          rw [if_neg (by decide)]
          rw [if_neg (by decide)]
          rw [if_pos rfl, ← e1]
          rw [if_pos (by omega)]
    · refine r_tsw (v := 6) (tgt := 204) X dX9_does_10 hs10 (by decide) (by decide) (by decide) rfl rfl ?_
      refine r_aload_n (pc' := 205) X 0 dX9_does_204 rfl rfl rfl ?_
      refine r_iload_n (pc' := 206) X 2 dX9_does_205 rfl rfl rfl ?_
      refine w_calli (pc' := 209) (st := []) (w_runV X (c_X9_isOutput l G M N P pv (by first | assumption | omega) (by first | assumption | omega) (d1 : Int) (by first | assumption | omega)) cf_X9_isOutput k29_0 rfl gw_1152 gp_35 rfl rfl ⟨Nat.le_of_ble_eq_true rfl, Nat.le_of_ble_eq_true rfl⟩ rfl rfl (Nat.le_of_ble_eq_true rfl) ⟨Nat.le_of_ble_eq_true rfl, Nat.le_of_ble_eq_true rfl⟩ gw_1150 dX9_does_206) rfl (fun z206 M7 h206 => ?_)
      have hz206 := h206.1
      obtain rfl := h206.2.symm
      have hi206 : z206 = 0 ∨ z206 = 1 := by rw [hz206]; split <;> omega
      have hq206 : z206 = 1 ↔ (0 ≤ (d1 : Int) ∧ (d1 : Int) < P) := by rw [hz206]; split <;> omega
      refine r_if_eq (pc' := 212) (tgt := 234) X dX9_does_209 rfl rfl (by omega) (fun h209 => ?_) (fun h209 => ?_)
      · refine r_iconst (pc' := 235) X dX9_does_234 rfl ?_
        refine w_zret X hr (by decide) dX9_does_235 ?_
        try dsimp only
        refine ⟨Or.inl ⟨rfl, ?_⟩, fun _ _ _ _ => rfl⟩
        unfold cmdF
        rw [show cd / 1000 = 6 by omega]
        rw [if_neg (by decide)]
        rw [if_neg (by decide)]
        rw [if_neg (by decide)]
        rw [if_neg (by decide)]
        rw [if_neg (by decide)]
        rw [if_pos rfl, ← e1]
        rw [if_neg (by omega)]
      · refine r_iload_n (pc' := 213) X 3 dX9_does_212 rfl rfl rfl ?_
        refine r_if_ne (pc' := 216) (tgt := 234) X dX9_does_213 rfl rfl (by omega) (fun h213 => ?_) (fun h213 => ?_)
        · refine r_iconst (pc' := 235) X dX9_does_234 rfl ?_
          refine w_zret X hr (by decide) dX9_does_235 ?_
          try dsimp only
          refine ⟨Or.inl ⟨rfl, ?_⟩, fun _ _ _ _ => rfl⟩
          unfold cmdF
          rw [show cd / 1000 = 6 by omega]
          rw [if_neg (by decide)]
          rw [if_neg (by decide)]
          rw [if_neg (by decide)]
          rw [if_neg (by decide)]
          rw [if_neg (by decide)]
          rw [if_pos rfl, ← e1]
          rw [if_neg (by omega)]
        · have vk2 := v3 d1 (by omega)
          have rk2 := hAg d1 (by omega)
          refine r_aload_n (pc' := 217) X 0 dX9_does_216 rfl rfl rfl ?_
          refine gf_29_trial (pc' := 220) X gw_988 dX9_does_217 rfl ?_
          refine r_bipush (pc' := 222) X dX9_does_220 rfl rfl ?_
          refine r_iload_n (pc' := 223) X 2 dX9_does_222 rfl rfl rfl ?_
          refine r_iadd (pc' := 224) X dX9_does_223 rfl ?_
          refine r_iald (i := (34 + d1)) (pc' := 225) X k29_14 (by omega) (by omega) (by decide) dX9_does_224 rfl ?_
          refine r_iload (pc' := 227) X 4 dX9_does_225 rfl rfl ?_
          refine r_icmp_ne (pc' := 230) (tgt := 234) X dX9_does_227 rfl rfl (by omega) (by omega) (fun h227 => ?_) (fun h227 => ?_)
          · refine r_iconst (pc' := 235) X dX9_does_234 rfl ?_
            refine w_zret X hr (by decide) dX9_does_235 ?_
            try dsimp only
            refine ⟨Or.inl ⟨rfl, ?_⟩, fun _ _ _ _ => rfl⟩
            unfold cmdF
            rw [show cd / 1000 = 6 by omega]
            rw [if_neg (by decide)]
            rw [if_neg (by decide)]
            rw [if_neg (by decide)]
            rw [if_neg (by decide)]
            rw [if_neg (by decide)]
            rw [if_pos rfl, ← e1]
            rw [if_neg (by omega)]
          · refine r_iconst (pc' := 231) X dX9_does_230 rfl ?_
            refine r_goto (tgt := 235) X dX9_does_231 rfl ?_
            refine w_zret X hr (by decide) dX9_does_235 ?_
            try dsimp only
            refine ⟨Or.inr ⟨rfl, w, ?_, hv⟩, fun _ _ _ _ => rfl⟩
            unfold cmdF
            rw [show cd / 1000 = 6 by omega]
            rw [if_neg (by decide)]
            rw [if_neg (by decide)]
            rw [if_neg (by decide)]
            rw [if_neg (by decide)]
            rw [if_neg (by decide)]
            rw [if_pos rfl, ← e1]
            rw [if_pos (by omega)]
    · refine r_tsw (v := 7) (tgt := 236) X dX9_does_10 hs10 (by decide) (by decide) (by decide) rfl rfl ?_
      refine r_aload_n (pc' := 237) X 0 dX9_does_236 rfl rfl rfl ?_
      refine r_iload_n (pc' := 238) X 2 dX9_does_237 rfl rfl rfl ?_
      refine w_calli (pc' := 241) (st := []) (w_runV X (c_X9_isState l G M N P pv (by first | assumption | omega) (by first | assumption | omega) (d1 : Int) (by first | assumption | omega)) cf_X9_isState k29_0 rfl gw_1156 gp_36 rfl rfl ⟨Nat.le_of_ble_eq_true rfl, Nat.le_of_ble_eq_true rfl⟩ rfl rfl (Nat.le_of_ble_eq_true rfl) ⟨Nat.le_of_ble_eq_true rfl, Nat.le_of_ble_eq_true rfl⟩ gw_1154 dX9_does_238) rfl (fun z238 M8 h238 => ?_)
      have hz238 := h238.1
      obtain rfl := h238.2.symm
      have hi238 : z238 = 0 ∨ z238 = 1 := by rw [hz238]; split <;> omega
      have hq238 : z238 = 1 ↔ (0 ≤ (d1 : Int) ∧ (d1 : Int) < N) := by rw [hz238]; split <;> omega
      refine r_if_eq (pc' := 244) (tgt := 261) X dX9_does_241 rfl rfl (by omega) (fun h241 => ?_) (fun h241 => ?_)
      · refine r_iconst (pc' := 262) X dX9_does_261 rfl ?_
        refine w_zret X hr (by decide) dX9_does_262 ?_
        try dsimp only
        refine ⟨Or.inl ⟨rfl, ?_⟩, fun _ _ _ _ => rfl⟩
        unfold cmdF
        rw [show cd / 1000 = 7 by omega]
        rw [if_neg (by decide)]
        rw [if_neg (by decide)]
        rw [if_neg (by decide)]
        rw [if_neg (by decide)]
        rw [if_neg (by decide)]
        rw [if_neg (by decide)]
        rw [if_pos rfl, ← e1]
        rw [if_neg (by omega)]
      · have vi2 := v1 d1 (by omega)
        have rt2 := hT d1 (by omega)
        refine r_aload_n (pc' := 245) X 0 dX9_does_244 rfl rfl rfl ?_
        refine gf_29_trial (pc' := 248) X gw_988 dX9_does_245 rfl ?_
        refine r_iconst (pc' := 249) X dX9_does_248 rfl ?_
        refine r_iload_n (pc' := 250) X 2 dX9_does_249 rfl rfl rfl ?_
        refine r_iadd (pc' := 251) X dX9_does_250 rfl ?_
        refine r_iald (i := d1) (pc' := 252) X k29_14 (by omega) (by omega) (by decide) dX9_does_251 rfl ?_
        refine r_iload (pc' := 254) X 5 dX9_does_252 rfl rfl ?_
        refine r_icmp_gt (pc' := 257) (tgt := 261) X dX9_does_254 rfl rfl (by omega) (by omega) (fun h254 => ?_) (fun h254 => ?_)
        · refine r_iconst (pc' := 262) X dX9_does_261 rfl ?_
          refine w_zret X hr (by decide) dX9_does_262 ?_
          try dsimp only
          refine ⟨Or.inl ⟨rfl, ?_⟩, fun _ _ _ _ => rfl⟩
          unfold cmdF
          rw [show cd / 1000 = 7 by omega]
          rw [if_neg (by decide)]
          rw [if_neg (by decide)]
          rw [if_neg (by decide)]
          rw [if_neg (by decide)]
          rw [if_neg (by decide)]
          rw [if_neg (by decide)]
          rw [if_pos rfl, ← e1]
          rw [if_neg (by omega)]
        · refine r_iconst (pc' := 258) X dX9_does_257 rfl ?_
          refine r_goto (tgt := 262) X dX9_does_258 rfl ?_
          refine w_zret X hr (by decide) dX9_does_262 ?_
          try dsimp only
          refine ⟨Or.inr ⟨rfl, w, ?_, hv⟩, fun _ _ _ _ => rfl⟩
          unfold cmdF
          rw [show cd / 1000 = 7 by omega]
          rw [if_neg (by decide)]
          rw [if_neg (by decide)]
          rw [if_neg (by decide)]
          rw [if_neg (by decide)]
          rw [if_neg (by decide)]
          rw [if_neg (by decide)]
          rw [if_pos rfl, ← e1]
          rw [if_pos (by omega)]
  · refine r_tswD (tgt := 263) X dX9_does_10 (by omega) (by omega) rfl ?_
    refine r_iconst (pc' := 264) X dX9_does_263 rfl ?_
    refine w_zret X hr (by decide) dX9_does_264 ?_
    try dsimp only
    refine ⟨Or.inl ⟨rfl, ?_⟩, fun _ _ _ _ => rfl⟩
    unfold cmdF
    rw [if_neg (by omega), if_neg (by omega), if_neg (by omega), if_neg (by omega), if_neg (by omega), if_neg (by omega), if_neg (by omega)]
theorem cf_X9_runScript : wCal yX9_runScript cX9_runScript 6 (some .int) 2 := ⟨gw_1365, gw_10, by decide, by decide, by rfl⟩
set_option maxRecDepth 100000 in
set_option maxHeartbeats 4000000 in
theorem c_X9_runScript (l : Launch) (G : wG) (M : wM) (N P : Nat) (pv : Nat → Nat → Int) (hp : PlOk pv N P) (hq : PEq N P pv (M 29)) (w : Nat → Nat → Int) (T : Int) (hm : MoOk w N P T) (hT6 : T ≤ 1000000) (hv : REq N P w (M 29 13)) (hbx : BoxOk N (w 2) (w 3)) (htr : TrOk w N P pv) (hT7 : T ≤ 900000) (hT0 : 0 ≤ T) (n s0 : Int) (hn : rI n) (hs : rJ s0) : Met l yX9_runScript (gws yX9_runScript cX9_runScript 6 (some .int)) (wrm 6 0 0) (wPc G M [vR G (29, 0), vI n, vJ s0]) (wQi G (fun z M1 => (M1 29 0 0 = 0 ∧ RScr M M1 ∧ ((1 ≤ n ∧ n ≤ 4) ∧ 0 ≤ s0 ∧ s0 < ((10000 ^ n.toNat : Nat) : Int)) ∧ z = scrF N P pv (cmdAt s0.toNat n.toNat) n.toNat 0 w) ∨ (M1 29 0 0 = 1 ∧ RScr M M1 ∧ ¬ ((1 ≤ n ∧ n ≤ 4) ∧ 0 ≤ s0 ∧ s0 < ((10000 ^ n.toNat : Nat) : Int))))) 0 0 (wA G) := by
  refine wMet (lc := [(0, vR G (29, 0)), (1, vI n), (2, vJ s0)]) (by decide) (Nat.le_of_ble_eq_true rfl) rfl ?_
  intro p e s m args below meth c X hr
  have X : wX p s m args meth c G 6 "StateObserverModel" cX9_runScript := X
  obtain ⟨hN, hN1, hN4, hP, hP1, hP3, hA, hB, hE, hC, hQ⟩ := id hp
  obtain ⟨qN, qP, qA, qB, qE, qC, qQ⟩ := id hq
  obtain ⟨hT, hL, hU, hS, hG, hY, hAg, hHo, hBo, hTi, hLi, hLb, hLl, hLh⟩ := id hm
  obtain ⟨v1, v2, v3, v28, v29, v30, v38, v39, v37⟩ := id hv
  refine r_aload_n (pc' := 1) X 0 dX9_runScript_0 rfl rfl rfl ?_
  refine r_iload_n (pc' := 2) X 1 dX9_runScript_1 rfl rfl rfl ?_
  refine r_i2l (pc' := 3) X dX9_runScript_2 (by omega) rfl ?_
  refine r_lconst (pc' := 4) (z := 1) X dX9_runScript_3 rfl rfl ?_
  refine r_ldc2 (pc' := 7) (z := 4) X gw_1144 dX9_runScript_4 rfl rfl ?_
  refine w_calli (pc' := 10) (st := [vR G (29, 0)]) (w_runS X (c_X9_in l G M n 1 4 (by first | assumption | omega) (by first | assumption | omega) (by first | assumption | omega)) cf_X9_in gw_1083 rfl rfl ⟨Nat.le_of_ble_eq_true rfl, Nat.le_of_ble_eq_true rfl⟩ rfl rfl (Nat.le_of_ble_eq_true rfl) ⟨Nat.le_of_ble_eq_true rfl, Nat.le_of_ble_eq_true rfl⟩ gw_1082 dX9_runScript_7) rfl (fun z7 M1 h7 => ?_)
  have hz7 := h7.1
  obtain rfl := h7.2.symm
  have hi7 : z7 = 0 ∨ z7 = 1 := by rw [hz7]; split <;> omega
  have hq7 : z7 = 1 ↔ (1 ≤ n ∧ n ≤ 4) := by rw [hz7]; split <;> omega
  refine r_if_eq (pc' := 13) (tgt := 33) X dX9_runScript_10 rfl rfl (by omega) (fun h10 => ?_) (fun h10 => ?_)
  · refine r_iconst (pc' := 34) X dX9_runScript_33 rfl ?_
    refine w_calli (pc' := 37) (st := []) (w_runV X (c_X9_refused l G M 1 (by first | assumption | omega)) cf_X9_refused k29_0 rfl gw_1087 gp_25 rfl rfl ⟨Nat.le_of_ble_eq_true rfl, Nat.le_of_ble_eq_true rfl⟩ rfl rfl (Nat.le_of_ble_eq_true rfl) ⟨Nat.le_of_ble_eq_true rfl, Nat.le_of_ble_eq_true rfl⟩ gw_1085 dX9_runScript_34) rfl (fun z34 M2 h34 => ?_)
    have hz34 : z34 = 1 := by rw [h34.1]; rfl
    have ew34 : ∀ a b x, ¬ (a = 29 ∧ b = 0 ∧ x = 0) → M2 a b x = M a b x := fun a b x q => by rw [h34.2]; unfold wu; rw [if_neg q]
    have er34 : M2 29 0 0 = 1 := by rw [h34.2]; unfold wu; rw [if_pos ⟨rfl, rfl, rfl⟩]
    have sc34 : RScr M M2 := fun a b x q => ew34 a b x (by omega)
    have qq34 : PEq N P pv (M2 29) := hq.keep (fun b x q => ew34 29 b x (by omega))
    refine r_if_eq (pc' := 40) (tgt := 42) X dX9_runScript_37 rfl rfl (by omega) (fun h37 => by exfalso; omega) (fun h37 => ?_)
    refine r_iconst (pc' := 41) X dX9_runScript_40 rfl ?_
    refine w_iret X hr dX9_runScript_41 ?_
    try dsimp only
    refine Or.inr ⟨er34, sc34, ?_⟩
    intro q
    exact absurd q.1 (by omega)
  · refine r_lload_n (pc' := 14) X 2 dX9_runScript_13 rfl rfl rfl ?_
    refine r_lconst (pc' := 15) (z := 0) X dX9_runScript_14 rfl rfl ?_
    refine r_iconst (pc' := 16) X dX9_runScript_15 rfl ?_
    refine r_iload_n (pc' := 17) X 1 dX9_runScript_16 rfl rfl rfl ?_
    refine r_imul (pc' := 18) X dX9_runScript_17 rfl ?_
    refine w_eqI (z' := ((4 * n.toNat : Nat) : Int)) (by omega) ?_
    refine w_callj (pc' := 21) (st := [vJ 0, vJ s0, vR G (29, 0)]) (w_runS X (c_X9_tenTo l G M (4 * n.toNat) (by omega)) cf_X9_tenTo gw_1367 rfl rfl ⟨Nat.le_of_ble_eq_true rfl, Nat.le_of_ble_eq_true rfl⟩ rfl rfl (Nat.le_of_ble_eq_true rfl) ⟨Nat.le_of_ble_eq_true rfl, Nat.le_of_ble_eq_true rfl⟩ gw_1366 dX9_runScript_18) rfl (fun z18 M3 h18 => ?_)
    have hz18 := h18.1
    obtain rfl := h18.2.symm
    obtain ⟨pw, hpw⟩ : ∃ x, x = 10000 ^ n.toNat := ⟨_, rfl⟩
    rw [pow10_4, ← hpw] at hz18
    have hpb := pow_bd (n := n.toNat) (by omega)
    rw [← hpw] at hpb
    refine r_lconst (pc' := 22) (z := 1) X dX9_runScript_21 rfl rfl ?_
    refine r_lsub (pc' := 23) X dX9_runScript_22 rfl ?_
    refine w_calli (pc' := 26) (st := [vR G (29, 0)]) (w_runS X (c_X9_in l G M s0 0 (z18 - 1) (by first | assumption | omega) (by first | assumption | omega) (by first | assumption | omega)) cf_X9_in gw_1083 rfl rfl ⟨Nat.le_of_ble_eq_true rfl, Nat.le_of_ble_eq_true rfl⟩ rfl rfl (Nat.le_of_ble_eq_true rfl) ⟨Nat.le_of_ble_eq_true rfl, Nat.le_of_ble_eq_true rfl⟩ gw_1082 dX9_runScript_23) rfl (fun z23 M4 h23 => ?_)
    have hz23 := h23.1
    obtain rfl := h23.2.symm
    have hi23 : z23 = 0 ∨ z23 = 1 := by rw [hz23]; split <;> omega
    have hq23 : z23 = 1 ↔ (0 ≤ s0 ∧ s0 ≤ (z18 - 1)) := by rw [hz23]; split <;> omega
    refine r_if_eq (pc' := 29) (tgt := 33) X dX9_runScript_26 rfl rfl (by omega) (fun h26 => ?_) (fun h26 => ?_)
    · refine r_iconst (pc' := 34) X dX9_runScript_33 rfl ?_
      refine w_calli (pc' := 37) (st := []) (w_runV X (c_X9_refused l G M 1 (by first | assumption | omega)) cf_X9_refused k29_0 rfl gw_1087 gp_25 rfl rfl ⟨Nat.le_of_ble_eq_true rfl, Nat.le_of_ble_eq_true rfl⟩ rfl rfl (Nat.le_of_ble_eq_true rfl) ⟨Nat.le_of_ble_eq_true rfl, Nat.le_of_ble_eq_true rfl⟩ gw_1085 dX9_runScript_34) rfl (fun z34 M5 h34 => ?_)
      have hz34 : z34 = 1 := by rw [h34.1]; rfl
      have ew34 : ∀ a b x, ¬ (a = 29 ∧ b = 0 ∧ x = 0) → M5 a b x = M a b x := fun a b x q => by rw [h34.2]; unfold wu; rw [if_neg q]
      have er34 : M5 29 0 0 = 1 := by rw [h34.2]; unfold wu; rw [if_pos ⟨rfl, rfl, rfl⟩]
      have sc34 : RScr M M5 := fun a b x q => ew34 a b x (by omega)
      have qq34 : PEq N P pv (M5 29) := hq.keep (fun b x q => ew34 29 b x (by omega))
      refine r_if_eq (pc' := 40) (tgt := 42) X dX9_runScript_37 rfl rfl (by omega) (fun h37 => by exfalso; omega) (fun h37 => ?_)
      refine r_iconst (pc' := 41) X dX9_runScript_40 rfl ?_
      refine w_iret X hr dX9_runScript_41 ?_
      try dsimp only
      refine Or.inr ⟨er34, sc34, ?_⟩
      rw [← hpw]
      omega
    · refine r_iconst (pc' := 30) X dX9_runScript_29 rfl ?_
      refine r_goto (tgt := 34) X dX9_runScript_30 rfl ?_
      refine w_calli (pc' := 37) (st := []) (w_runV X (c_X9_refused l G M 0 (by first | assumption | omega)) cf_X9_refused k29_0 rfl gw_1087 gp_25 rfl rfl ⟨Nat.le_of_ble_eq_true rfl, Nat.le_of_ble_eq_true rfl⟩ rfl rfl (Nat.le_of_ble_eq_true rfl) ⟨Nat.le_of_ble_eq_true rfl, Nat.le_of_ble_eq_true rfl⟩ gw_1085 dX9_runScript_34) rfl (fun z34 M6 h34 => ?_)
      have hz34 : z34 = 0 := by rw [h34.1]; rfl
      have ew34 : ∀ a b x, ¬ (a = 29 ∧ b = 0 ∧ x = 0) → M6 a b x = M a b x := fun a b x q => by rw [h34.2]; unfold wu; rw [if_neg q]
      have er34 : M6 29 0 0 = 0 := by rw [h34.2]; unfold wu; rw [if_pos ⟨rfl, rfl, rfl⟩]
      have sc34 : RScr M M6 := fun a b x q => ew34 a b x (by omega)
      have qq34 : PEq N P pv (M6 29) := hq.keep (fun b x q => ew34 29 b x (by omega))
      refine r_if_eq (pc' := 40) (tgt := 42) X dX9_runScript_37 rfl rfl (by omega) (fun h37 => ?_) (fun h37 => by exfalso; omega)
      refine r_aload_n (pc' := 43) X 0 dX9_runScript_42 rfl rfl rfl ?_
      refine gf_29_now (pc' := 46) X gw_987 dX9_runScript_43 rfl ?_
      refine r_iconst (pc' := 47) X dX9_runScript_46 rfl ?_
      refine r_aload_n (pc' := 48) X 0 dX9_runScript_47 rfl rfl rfl ?_
      refine gf_29_trial (pc' := 51) X gw_988 dX9_runScript_48 rfl ?_
      refine r_iconst (pc' := 52) X dX9_runScript_51 rfl ?_
      refine r_bipush (pc' := 54) X dX9_runScript_52 rfl rfl ?_
      refine w_callv (pc' := 57) (st := []) (w_runS X (c_X9_copy l G M6 29 13 0 29 14 0 48 48 48 k29_13 k29_14 (by first | assumption | omega) (by first | assumption | omega) (by first | assumption | omega) (by first | assumption | omega) (by first | assumption | omega)) cf_X9_copy gw_1138 rfl rfl ⟨Nat.le_of_ble_eq_true rfl, Nat.le_of_ble_eq_true rfl⟩ rfl rfl (Nat.le_of_ble_eq_true rfl) ⟨Nat.le_of_ble_eq_true rfl, Nat.le_of_ble_eq_true rfl⟩ gw_1137 dX9_runScript_54) rfl (fun M7 h54 => ?_)
      have et : ∀ a b x, ¬ (a = 29 ∧ (b = 14 ∨ (b = 0 ∧ x = 0))) → M7 a b x = M a b x := fun a b x q => by rw [h54.1 a b (by omega), ew34 a b x (by omega)]
      have tt : ∀ x, x < 48 → M7 29 14 x = M 29 13 x := fun x hx => by have q := h54.2.1 x hx; rw [Nat.zero_add] at q; rw [q, ew34 29 13 x (by omega)]
      have e00 : M7 29 0 0 = 0 := by rw [h54.1 29 0 (by omega)]; exact er34
      refine r_iconst (pc' := 58) X dX9_runScript_57 rfl ?_
      refine r_istore (pc' := 60) (lc' := [(0, vR G (29, 0)), (1, vI n), (2, vJ s0), (4, vI 0)]) X [1, 2, 3, 0] dX9_runScript_58 (by decide) rfl rfl ?_
      have L60 : ∀ (fu : Nat) (t : Nat) (v : Nat → Nat → Int) (Ma : wM), n.toNat - t < fu → (t ≤ n.toNat) → (scrF N P pv (cmdAt s0.toNat n.toNat) n.toNat 0 w = scrF N P pv (cmdAt s0.toNat n.toNat) (n.toNat - t) t v) → (MoOk v N P (T + t)) → (BoxOk N (v 2) (v 3)) → (TrOk v N P pv) → (REq N P v (Ma 29 14)) → (∀ a b x, ¬ (a = 29 ∧ (b = 14 ∨ b = 19 ∨ b = 20 ∨ (b = 0 ∧ x = 0))) → Ma a b x = M a b x) → (Ma 29 0 0 = 0) → wV p l e (wrm 6 0 0) s m args below meth c G 6 Ma 0 0 (MQ below (wQi G (fun z M1 => (M1 29 0 0 = 0 ∧ RScr M M1 ∧ ((1 ≤ n ∧ n ≤ 4) ∧ 0 ≤ s0 ∧ s0 < ((10000 ^ n.toNat : Nat) : Int)) ∧ z = scrF N P pv (cmdAt s0.toNat n.toNat) n.toNat 0 w) ∨ (M1 29 0 0 = 1 ∧ RScr M M1 ∧ ¬ ((1 ≤ n ∧ n ≤ 4) ∧ 0 ≤ s0 ∧ s0 < ((10000 ^ n.toNat : Nat) : Int))))) args s 0 0 (wA G)) 60 [(0, vR G (29, 0)), (1, vI n), (2, vJ s0), (4, vI (t : Int))] [] := by
        intro fu
        induction fu with
        | zero => intro t v Ma hfu; exact absurd hfu (Nat.not_lt_zero _)
        | succ fu ih60 =>
          intro t v Ma hfu60 ht hsc hmv hbv htv hvv hfr h00
          refine r_iload (pc' := 62) X 3 dX9_runScript_60 rfl rfl ?_
          refine r_iload_n (pc' := 63) X 1 dX9_runScript_62 rfl rfl rfl ?_
          refine r_icmp_ge (pc' := 66) (tgt := 129) X dX9_runScript_63 rfl rfl (by omega) (by omega) (fun h63 => ?_) (fun h63 => ?_)
          · refine r_bipush (pc' := 131) X dX9_runScript_129 rfl rfl ?_
            refine w_iret X hr dX9_runScript_131 ?_
            try dsimp only
            refine Or.inl ⟨h00, fun a b x q => hfr a b x (by omega), ⟨by omega, by omega, by rw [← hpw]; omega⟩, ?_⟩
            rw [hsc, show n.toNat - t = 0 by omega]
            rfl
          · refine r_lload_n (pc' := 67) X 2 dX9_runScript_66 rfl rfl rfl ?_
            refine r_iconst (pc' := 68) X dX9_runScript_67 rfl ?_
            refine r_iload_n (pc' := 69) X 1 dX9_runScript_68 rfl rfl rfl ?_
            refine r_iconst (pc' := 70) X dX9_runScript_69 rfl ?_
            refine r_isub (pc' := 71) X dX9_runScript_70 rfl ?_
            refine r_iload (pc' := 73) X 3 dX9_runScript_71 rfl rfl ?_
            refine r_isub (pc' := 74) X dX9_runScript_73 rfl ?_
            refine r_imul (pc' := 75) X dX9_runScript_74 rfl ?_
            refine w_eqI (z' := ((4 * (n.toNat - 1 - t) : Nat) : Int)) (by omega) ?_
            refine w_callj (pc' := 78) (st := [vJ s0]) (w_runS X (c_X9_tenTo l G Ma (4 * (n.toNat - 1 - t)) (by omega)) cf_X9_tenTo gw_1367 rfl rfl ⟨Nat.le_of_ble_eq_true rfl, Nat.le_of_ble_eq_true rfl⟩ rfl rfl (Nat.le_of_ble_eq_true rfl) ⟨Nat.le_of_ble_eq_true rfl, Nat.le_of_ble_eq_true rfl⟩ gw_1366 dX9_runScript_75) rfl (fun z75 M8 h75 => ?_)
            have hz75 := h75.1
            obtain rfl := h75.2.symm
            obtain ⟨pt, hpt⟩ : ∃ x, x = 10000 ^ (n.toNat - 1 - t) := ⟨_, rfl⟩
            rw [pow10_4, ← hpt] at hz75
            have hpb2 := pow_bd (n := n.toNat - 1 - t) (by omega)
            rw [← hpt] at hpb2
            obtain ⟨sn, hsn⟩ : ∃ x : Nat, s0 = (x : Int) := ⟨s0.toNat, by omega⟩
            obtain ⟨cd, hcd⟩ : ∃ x, x = cmdAt s0.toNat n.toNat t := ⟨_, rfl⟩
            have hcd2 : cd = sn / pt % 10000 := by rw [hcd]; unfold cmdAt; rw [← hpt, show s0.toNat = sn by omega]
            have hcd3 : cd < 10000 := by rw [hcd2]; exact Nat.mod_lt _ (by decide)
            have hdv : (s0.tdiv z75).tmod 10000 = (cd : Int) := by rw [hsn, hz75, hcd2]; rfl
            have hdr : 0 ≤ s0.tdiv z75 ∧ s0.tdiv z75 ≤ s0 := by
              rw [hsn, hz75]
              have := Nat.div_le_self sn pt
              exact ⟨Int.natCast_nonneg _, Int.ofNat_le.mpr this⟩
            refine r_ldiv (pc' := 79) X dX9_runScript_78 (by omega) (by omega) (by omega) rfl ?_
            refine r_ldc2 (pc' := 82) (z := 10000) X gw_1370 dX9_runScript_79 rfl rfl ?_
            refine r_lrem (pc' := 83) X dX9_runScript_82 (by omega) (by omega) (by omega) rfl ?_
            refine r_l2i (pc' := 84) X dX9_runScript_83 rfl ?_
            refine w_eqI (z' := (cd : Int)) hdv ?_
            refine r_istore (pc' := 86) (lc' := [(0, vR G (29, 0)), (1, vI n), (2, vJ s0), (4, vI (t : Int)), (5, vI (cd : Int))]) X [1, 2, 3, 4, 0] dX9_runScript_84 (by decide) rfl rfl ?_
            refine r_aload_n (pc' := 87) X 0 dX9_runScript_86 rfl rfl rfl ?_
            refine r_iload (pc' := 89) X 4 dX9_runScript_87 rfl rfl ?_
            refine r_sipush (pc' := 92) X dX9_runScript_89 rfl rfl ?_
            refine r_idiv (pc' := 93) X dX9_runScript_92 (by omega) (by omega) (by omega) rfl ?_
            refine w_eqI (z' := ((cd / 1000 : Nat) : Int)) rfl ?_
            refine r_iload (pc' := 95) X 4 dX9_runScript_93 rfl rfl ?_
            refine r_bipush (pc' := 97) X dX9_runScript_95 rfl rfl ?_
            refine r_idiv (pc' := 98) X dX9_runScript_97 (by omega) (by omega) (by omega) rfl ?_
            refine w_eqI (z' := ((cd / 100 : Nat) : Int)) rfl ?_
            refine r_bipush (pc' := 100) X dX9_runScript_98 rfl rfl ?_
            refine r_irem (pc' := 101) X dX9_runScript_100 (by omega) (by omega) (by omega) rfl ?_
            refine w_eqI (z' := ((cd / 100 % 10 : Nat) : Int)) rfl ?_
            refine r_iload (pc' := 103) X 4 dX9_runScript_101 rfl rfl ?_
            refine r_bipush (pc' := 105) X dX9_runScript_103 rfl rfl ?_
            refine r_idiv (pc' := 106) X dX9_runScript_105 (by omega) (by omega) (by omega) rfl ?_
            refine w_eqI (z' := ((cd / 10 : Nat) : Int)) rfl ?_
            refine r_bipush (pc' := 108) X dX9_runScript_106 rfl rfl ?_
            refine r_irem (pc' := 109) X dX9_runScript_108 (by omega) (by omega) (by omega) rfl ?_
            refine w_eqI (z' := ((cd / 10 % 10 : Nat) : Int)) rfl ?_
            refine r_iload (pc' := 111) X 4 dX9_runScript_109 rfl rfl ?_
            refine r_bipush (pc' := 113) X dX9_runScript_111 rfl rfl ?_
            refine r_irem (pc' := 114) X dX9_runScript_113 (by omega) (by omega) (by omega) rfl ?_
            refine w_eqI (z' := ((cd % 10 : Nat) : Int)) rfl ?_
            refine w_calli (pc' := 117) (st := []) (w_runV X (c_X9_does l G Ma N P pv (by first | assumption | omega) (hq.keep (fun b x q => hfr 29 b x (by omega))) v (T + t) hmv (by omega) hvv hbv (cd / 1000) (cd / 100 % 10) (cd / 10 % 10) (cd % 10) cd hcd3 rfl rfl rfl rfl) cf_X9_does k29_0 rfl gw_1373 gp_56 rfl rfl ⟨Nat.le_of_ble_eq_true rfl, Nat.le_of_ble_eq_true rfl⟩ rfl rfl (Nat.le_of_ble_eq_true rfl) ⟨Nat.le_of_ble_eq_true rfl, Nat.le_of_ble_eq_true rfl⟩ gw_1371 dX9_runScript_114) rfl (fun z114 M9 h114 => ?_)
            have h00n : M9 29 0 0 = 0 := by rw [h114.2 29 0 0 (by omega)]; exact h00
            have sc9 : RScr M M9 := fun a b x q => by rw [h114.2 a b x (by omega)]; exact hfr a b x (by omega)
            rw [hcd] at h114
            refine r_if_ne (pc' := 120) (tgt := 123) X dX9_runScript_117 rfl rfl (by omega) (fun h117 => ?_) (fun h117 => ?_)
            · obtain ⟨hz1, v2, hc2, hv3⟩ : z114 = 1 ∧ ∃ v2, cmdF N P pv v (cmdAt s0.toNat n.toNat t) = some v2 ∧ REq N P v2 (M9 29 14) := by
                rcases h114.1 with ⟨q1, q2⟩ | q
                · exfalso; omega
                · exact q
              have hok := cmdF_ok (cmdAt_lt) hp hmv (by omega) hbv htv hc2
              have hsc2 : scrF N P pv (cmdAt s0.toNat n.toNat) n.toNat 0 w = scrF N P pv (cmdAt s0.toNat n.toNat) (n.toNat - (t + 1)) (t + 1) v2 := by
                rw [hsc, show n.toNat - t = (n.toNat - (t + 1)) + 1 by omega]
                exact scr_some hc2
              refine r_iinc (pc' := 126) (z' := ((t + 1 : Nat) : Int)) (lc' := [(0, vR G (29, 0)), (1, vI n), (2, vJ s0), (4, vI ((t + 1 : Nat) : Int)), (5, vI (cd : Int))]) X 3 [1, 2, 3, 0, 4] dX9_runScript_123 rfl (by omega) (by decide) rfl rfl ?_
              refine r_goto (tgt := 60) X dX9_runScript_126 rfl ?_
              refine w_sub (lc' := [(0, vR G (29, 0)), (1, vI n), (2, vJ s0), (4, vI ((t + 1 : Nat) : Int))]) [0, 1, 2, 3] rfl ?_
              exact ih60 (t + 1) v2 M9 (by omega) (by omega) hsc2 (by rw [show T + ((t + 1 : Nat) : Int) = T + (t : Int) + 1 by omega]; exact hok.1) hok.2.1 hok.2.2 hv3 (fun a b x q => by rw [h114.2 a b x (by omega)]; exact hfr a b x q) h00n
            · refine r_iload (pc' := 122) X 3 dX9_runScript_120 rfl rfl ?_
              refine w_iret X hr dX9_runScript_122 ?_
              try dsimp only
              refine Or.inl ⟨h00n, sc9, ⟨by omega, by omega, by rw [← hpw]; omega⟩, ?_⟩
              rcases h114.1 with ⟨q1, q2⟩ | ⟨q1, -⟩
              · rw [hsc, show n.toNat - t = (n.toNat - (t + 1)) + 1 by omega]
                exact (scr_none q2).symm
              · exfalso; omega
      exact L60 ((n.toNat - 0) + 1) 0 w M7 (Nat.lt_succ_self _) (by omega) rfl (by rw [Int.natCast_zero, Int.add_zero]; exact hm) hbx htr (hv.keep hN4 hP3 tt) (fun a b x q => et a b x (by omega)) e00
theorem cf_X9_simulate : wCal yX9_simulate cX9_simulate 11 (some .long) 2 := ⟨gw_1378, gw_10, by decide, by decide, by rfl⟩
set_option maxRecDepth 100000 in
set_option maxHeartbeats 4000000 in
theorem c_X9_simulate (l : Launch) (G : wG) (M : wM) (N P : Nat) (pv : Nat → Nat → Int) (hp : PlOk pv N P) (hq : PEq N P pv (M 29)) (w : Nat → Nat → Int) (T : Int) (hm : MoOk w N P T) (hT6 : T ≤ 1000000) (hv : REq N P w (M 29 13)) (hbx : BoxOk N (w 2) (w 3)) (htr : TrOk w N P pv) (hT7 : T ≤ 900000) (hT0 : 0 ≤ T) (s0 n : Int) (hs : rJ s0) (hn : rI n) : Met l yX9_simulate (gws yX9_simulate cX9_simulate 11 (some .long)) (wrm 5 0 0) (wPc G M [vR G (29, 0), vJ s0, vI n]) (wQj G (fun z M1 => (M1 29 0 0 = 0 ∧ RScr M M1 ∧ (1 ≤ n ∧ n ≤ 100) ∧ z = simF N P pv n.toNat s0 w) ∨ (M1 29 0 0 = 1 ∧ RScr M M1 ∧ ¬ (1 ≤ n ∧ n ≤ 100)))) 0 0 (wA G) := by
  refine wMet (lc := [(0, vR G (29, 0)), (1, vJ s0), (3, vI n)]) (by decide) (Nat.le_of_ble_eq_true rfl) rfl ?_
  intro p e s m args below meth c X hr
  have X : wX p s m args meth c G 11 "StateObserverModel" cX9_simulate := X
  obtain ⟨hN, hN1, hN4, hP, hP1, hP3, hA, hB, hE, hC, hQ⟩ := id hp
  obtain ⟨qN, qP, qA, qB, qE, qC, qQ⟩ := id hq
  obtain ⟨hT, hL, hU, hS, hG, hY, hAg, hHo, hBo, hTi, hLi, hLb, hLl, hLh⟩ := id hm
  obtain ⟨v1, v2, v3, v28, v29, v30, v38, v39, v37⟩ := id hv
  refine r_aload_n (pc' := 1) X 0 dX9_simulate_0 rfl rfl rfl ?_
  refine r_iload_n (pc' := 2) X 2 dX9_simulate_1 rfl rfl rfl ?_
  refine r_i2l (pc' := 3) X dX9_simulate_2 (by omega) rfl ?_
  refine r_lconst (pc' := 4) (z := 1) X dX9_simulate_3 rfl rfl ?_
  refine r_ldc2 (pc' := 7) (z := 100) X gw_1253 dX9_simulate_4 rfl rfl ?_
  refine w_calli (pc' := 10) (st := [vR G (29, 0)]) (w_runS X (c_X9_in l G M n 1 100 (by first | assumption | omega) (by first | assumption | omega) (by first | assumption | omega)) cf_X9_in gw_1083 rfl rfl ⟨Nat.le_of_ble_eq_true rfl, Nat.le_of_ble_eq_true rfl⟩ rfl rfl (Nat.le_of_ble_eq_true rfl) ⟨Nat.le_of_ble_eq_true rfl, Nat.le_of_ble_eq_true rfl⟩ gw_1082 dX9_simulate_7) rfl (fun z7 M1 h7 => ?_)
  have hz7 := h7.1
  obtain rfl := h7.2.symm
  have hi7 : z7 = 0 ∨ z7 = 1 := by rw [hz7]; split <;> omega
  have hq7 : z7 = 1 ↔ (1 ≤ n ∧ n ≤ 100) := by rw [hz7]; split <;> omega
  refine r_if_eq (pc' := 13) (tgt := 17) X dX9_simulate_10 rfl rfl (by omega) (fun h10 => ?_) (fun h10 => ?_)
  · refine r_iconst (pc' := 18) X dX9_simulate_17 rfl ?_
    refine w_calli (pc' := 21) (st := []) (w_runV X (c_X9_refused l G M 1 (by first | assumption | omega)) cf_X9_refused k29_0 rfl gw_1087 gp_25 rfl rfl ⟨Nat.le_of_ble_eq_true rfl, Nat.le_of_ble_eq_true rfl⟩ rfl rfl (Nat.le_of_ble_eq_true rfl) ⟨Nat.le_of_ble_eq_true rfl, Nat.le_of_ble_eq_true rfl⟩ gw_1085 dX9_simulate_18) rfl (fun z18 M2 h18 => ?_)
    have hz18 : z18 = 1 := by rw [h18.1]; rfl
    have ew18 : ∀ a b x, ¬ (a = 29 ∧ b = 0 ∧ x = 0) → M2 a b x = M a b x := fun a b x q => by rw [h18.2]; unfold wu; rw [if_neg q]
    have er18 : M2 29 0 0 = 1 := by rw [h18.2]; unfold wu; rw [if_pos ⟨rfl, rfl, rfl⟩]
    have sc18 : RScr M M2 := fun a b x q => ew18 a b x (by omega)
    have qq18 : PEq N P pv (M2 29) := hq.keep (fun b x q => ew18 29 b x (by omega))
    refine r_if_eq (pc' := 24) (tgt := 26) X dX9_simulate_21 rfl rfl (by omega) (fun h21 => by exfalso; omega) (fun h21 => ?_)
    refine r_lconst (pc' := 25) (z := 0) X dX9_simulate_24 rfl rfl ?_
    refine w_lret X hr dX9_simulate_25 ?_
    try dsimp only
    exact (Or.inr ⟨er18, sc18, by omega⟩)
  · refine r_iconst (pc' := 14) X dX9_simulate_13 rfl ?_
    refine r_goto (tgt := 18) X dX9_simulate_14 rfl ?_
    refine w_calli (pc' := 21) (st := []) (w_runV X (c_X9_refused l G M 0 (by first | assumption | omega)) cf_X9_refused k29_0 rfl gw_1087 gp_25 rfl rfl ⟨Nat.le_of_ble_eq_true rfl, Nat.le_of_ble_eq_true rfl⟩ rfl rfl (Nat.le_of_ble_eq_true rfl) ⟨Nat.le_of_ble_eq_true rfl, Nat.le_of_ble_eq_true rfl⟩ gw_1085 dX9_simulate_18) rfl (fun z18 M3 h18 => ?_)
    have hz18 : z18 = 0 := by rw [h18.1]; rfl
    have ew18 : ∀ a b x, ¬ (a = 29 ∧ b = 0 ∧ x = 0) → M3 a b x = M a b x := fun a b x q => by rw [h18.2]; unfold wu; rw [if_neg q]
    have er18 : M3 29 0 0 = 0 := by rw [h18.2]; unfold wu; rw [if_pos ⟨rfl, rfl, rfl⟩]
    have sc18 : RScr M M3 := fun a b x q => ew18 a b x (by omega)
    have qq18 : PEq N P pv (M3 29) := hq.keep (fun b x q => ew18 29 b x (by omega))
    refine r_if_eq (pc' := 24) (tgt := 26) X dX9_simulate_21 rfl rfl (by omega) (fun h21 => ?_) (fun h21 => by exfalso; omega)
    refine r_aload_n (pc' := 27) X 0 dX9_simulate_26 rfl rfl rfl ?_
    refine gf_29_now (pc' := 30) X gw_987 dX9_simulate_27 rfl ?_
    refine r_iconst (pc' := 31) X dX9_simulate_30 rfl ?_
    refine r_aload_n (pc' := 32) X 0 dX9_simulate_31 rfl rfl rfl ?_
    refine gf_29_trial (pc' := 35) X gw_988 dX9_simulate_32 rfl ?_
    refine r_iconst (pc' := 36) X dX9_simulate_35 rfl ?_
    refine r_bipush (pc' := 38) X dX9_simulate_36 rfl rfl ?_
    refine w_callv (pc' := 41) (st := []) (w_runS X (c_X9_copy l G M3 29 13 0 29 14 0 48 48 48 k29_13 k29_14 (by first | assumption | omega) (by first | assumption | omega) (by first | assumption | omega) (by first | assumption | omega) (by first | assumption | omega)) cf_X9_copy gw_1138 rfl rfl ⟨Nat.le_of_ble_eq_true rfl, Nat.le_of_ble_eq_true rfl⟩ rfl rfl (Nat.le_of_ble_eq_true rfl) ⟨Nat.le_of_ble_eq_true rfl, Nat.le_of_ble_eq_true rfl⟩ gw_1137 dX9_simulate_38) rfl (fun M4 h38 => ?_)
    have et : ∀ a b x, ¬ (a = 29 ∧ (b = 14 ∨ (b = 0 ∧ x = 0))) → M4 a b x = M a b x := fun a b x q => by rw [h38.1 a b (by omega), ew18 a b x (by omega)]
    have tt : ∀ x, x < 48 → M4 29 14 x = M 29 13 x := fun x hx => by have q := h38.2.1 x hx; rw [Nat.zero_add] at q; rw [q, ew18 29 13 x (by omega)]
    have e00 : M4 29 0 0 = 0 := by rw [h38.1 29 0 (by omega)]; exact er18
    refine r_lload_n (pc' := 42) X 1 dX9_simulate_41 rfl rfl rfl ?_
    refine r_lstore (pc' := 44) (lc' := [(0, vR G (29, 0)), (1, vJ s0), (3, vI n), (4, vJ s0)]) X [1, 2, 3, 0] dX9_simulate_42 (by decide) rfl rfl ?_
    refine r_lconst (pc' := 45) (z := 0) X dX9_simulate_44 rfl rfl ?_
    refine r_lstore (pc' := 47) (lc' := [(0, vR G (29, 0)), (1, vJ s0), (3, vI n), (4, vJ s0), (6, vJ 0)]) X [1, 2, 3, 4, 0] dX9_simulate_45 (by decide) rfl rfl ?_
    refine r_iconst (pc' := 48) X dX9_simulate_47 rfl ?_
    refine r_istore (pc' := 50) (lc' := [(0, vR G (29, 0)), (1, vJ s0), (3, vI n), (4, vJ s0), (6, vJ 0), (8, vI 0)]) X [1, 2, 3, 4, 5, 0] dX9_simulate_48 (by decide) rfl rfl ?_
    have L50 : ∀ (fu : Nat) (t : Nat) (x : Int) (sm : Int) (v : Nat → Nat → Int) (Ma : wM), n.toNat - t < fu → (t ≤ n.toNat) → (sm + simF N P pv (n.toNat - t) x v = simF N P pv n.toNat s0 w) → (MoOk v N P (T + t)) → (BoxOk N (v 2) (v 3)) → (TrOk v N P pv) → (REq N P v (Ma 29 14)) → (∀ a b x, ¬ (a = 29 ∧ (b = 14 ∨ b = 19 ∨ b = 20 ∨ (b = 0 ∧ x = 0))) → Ma a b x = M a b x) → (Ma 29 0 0 = 0) → wV p l e (wrm 5 0 0) s m args below meth c G 11 Ma 0 0 (MQ below (wQj G (fun z M1 => (M1 29 0 0 = 0 ∧ RScr M M1 ∧ (1 ≤ n ∧ n ≤ 100) ∧ z = simF N P pv n.toNat s0 w) ∨ (M1 29 0 0 = 1 ∧ RScr M M1 ∧ ¬ (1 ≤ n ∧ n ≤ 100)))) args s 0 0 (wA G)) 50 [(0, vR G (29, 0)), (1, vJ s0), (3, vI n), (4, vJ x), (6, vJ sm), (8, vI (t : Int))] [] := by
      intro fu
      induction fu with
      | zero => intro t x sm v Ma hfu; exact absurd hfu (Nat.not_lt_zero _)
      | succ fu ih50 =>
        intro t x sm v Ma hfu50 ht hsc hmv hbv htv hvv hfr h00
        refine r_iload (pc' := 52) X 5 dX9_simulate_50 rfl rfl ?_
        refine r_iload_n (pc' := 53) X 2 dX9_simulate_52 rfl rfl rfl ?_
        refine r_icmp_ge (pc' := 56) (tgt := 166) X dX9_simulate_53 rfl rfl (by omega) (by omega) (fun h53 => ?_) (fun h53 => ?_)
        · refine r_lload (pc' := 168) X 4 dX9_simulate_166 rfl rfl ?_
          refine w_lret X hr dX9_simulate_168 ?_
          try dsimp only
          refine Or.inl ⟨h00, fun a b x q => hfr a b x (by omega), by omega, ?_⟩
          rw [← hsc, show n.toNat - t = 0 by omega]
          exact (Int.add_zero sm).symm
        · have qv : PEq N P pv (Ma 29) := hq.keep (fun b x q => hfr 29 b x (by omega))
          have hbd : Ma 29 14 29 = v 0 8 := hvv.2.2.2.2.1
          have hb8 := hmv.2.2.2.2.2.2.2.2.1
          have hsr := shr33 (x * 6364136223846793005 + 1442695040888963407)
          obtain ⟨rn, hrn⟩ : ∃ q, q = (shrJ (x * 6364136223846793005 + 1442695040888963407) 33).toNat := ⟨_, rfl⟩
          refine r_lload (pc' := 58) X 3 dX9_simulate_56 rfl rfl ?_
          refine r_ldc2 (pc' := 61) (z := 6364136223846793005) X gw_1379 dX9_simulate_58 rfl rfl ?_
          refine r_lmul (pc' := 62) X dX9_simulate_61 rfl ?_
          refine r_ldc2 (pc' := 65) (z := 1442695040888963407) X gw_1380 dX9_simulate_62 rfl rfl ?_
          refine r_ladd (pc' := 66) X dX9_simulate_65 rfl ?_
          refine r_lstore (pc' := 68) (lc' := [(0, vR G (29, 0)), (1, vJ s0), (3, vI n), (4, vJ ((x * 6364136223846793005) + 1442695040888963407)), (6, vJ sm), (8, vI (t : Int))]) X [1, 2, 3, 0, 4, 5] dX9_simulate_66 (by decide) rfl rfl ?_
          refine r_lload (pc' := 70) X 3 dX9_simulate_68 rfl rfl ?_
          refine r_bipush (pc' := 72) X dX9_simulate_70 rfl rfl ?_
          refine r_lushr (pc' := 73) X dX9_simulate_72 rfl ?_
          refine r_l2i (pc' := 74) X dX9_simulate_73 rfl ?_
          refine w_eqI (z' := (rn : Int)) (by omega) ?_
          refine r_istore (pc' := 76) (lc' := [(0, vR G (29, 0)), (1, vJ s0), (3, vI n), (4, vJ ((x * 6364136223846793005) + 1442695040888963407)), (6, vJ sm), (8, vI (t : Int)), (9, vI (rn : Int))]) X [1, 2, 3, 4, 5, 6, 0] dX9_simulate_74 (by decide) rfl rfl ?_
          refine r_aload_n (pc' := 77) X 0 dX9_simulate_76 rfl rfl rfl ?_
          refine gf_29_trial (pc' := 80) X gw_988 dX9_simulate_77 rfl ?_
          refine r_bipush (pc' := 82) X dX9_simulate_80 rfl rfl ?_
          refine r_iald (i := 29) (pc' := 83) X k29_14 (by omega) (by omega) (by decide) dX9_simulate_82 rfl ?_
          refine r_istore (pc' := 85) (lc' := [(0, vR G (29, 0)), (1, vJ s0), (3, vI n), (4, vJ ((x * 6364136223846793005) + 1442695040888963407)), (6, vJ sm), (8, vI (t : Int)), (9, vI (rn : Int)), (10, vI (Ma 29 14 29))]) X [1, 2, 3, 4, 5, 6, 7, 0] dX9_simulate_83 (by decide) rfl rfl ?_
          refine r_aload_n (pc' := 86) X 0 dX9_simulate_85 rfl rfl rfl ?_
          refine r_aload_n (pc' := 87) X 0 dX9_simulate_86 rfl rfl rfl ?_
          refine gf_29_trial (pc' := 90) X gw_988 dX9_simulate_87 rfl ?_
          refine r_iload (pc' := 92) X 6 dX9_simulate_90 rfl rfl ?_
          refine r_bipush (pc' := 94) X dX9_simulate_92 rfl rfl ?_
          refine r_irem (pc' := 95) X dX9_simulate_94 (by omega) (by omega) (by omega) rfl ?_
          refine w_eqI (z' := ((rn % 21 : Nat) : Int)) rfl ?_
          refine r_bipush (pc' := 97) X dX9_simulate_95 rfl rfl ?_
          refine r_isub (pc' := 98) X dX9_simulate_97 rfl ?_
          refine r_iload (pc' := 100) X 6 dX9_simulate_98 rfl rfl ?_
          refine r_bipush (pc' := 102) X dX9_simulate_100 rfl rfl ?_
          refine r_idiv (pc' := 103) X dX9_simulate_102 (by omega) (by omega) (by omega) rfl ?_
          refine w_eqI (z' := ((rn / 32 : Nat) : Int)) rfl ?_
          refine r_iconst (pc' := 104) X dX9_simulate_103 rfl ?_
          refine r_iload (pc' := 106) X 7 dX9_simulate_104 rfl rfl ?_
          refine r_imul (pc' := 107) X dX9_simulate_106 rfl ?_
          refine r_iconst (pc' := 108) X dX9_simulate_107 rfl ?_
          refine r_iadd (pc' := 109) X dX9_simulate_108 rfl ?_
          have htm := tmod_bd (a := ((rn / 32 : Nat) : Int)) (b := 2 * Ma 29 14 29 + 1) (by omega)
          have hbd2 := hbd
          refine r_irem (pc' := 110) X dX9_simulate_109 (by omega) (by omega) (by omega) rfl ?_
          refine r_iload (pc' := 112) X 7 dX9_simulate_110 rfl rfl ?_
          refine r_isub (pc' := 113) X dX9_simulate_112 rfl ?_
          refine w_callv (pc' := 116) (st := []) (w_runV X (c_X9_stepOn l G Ma N P pv (by first | assumption | omega) qv 14 k29_14 (by first | assumption | omega) v (T + t) hmv (by omega) hvv hbv (((rn % 21 : Nat) : Int) - 10) (by omega) ((((rn / 32 : Nat) : Int).tmod ((2 * (Ma 29 14 29)) + 1)) - (Ma 29 14 29)) (by omega)) cf_X9_stepOn k29_0 rfl gw_1210 gp_43 rfl rfl ⟨Nat.le_of_ble_eq_true rfl, Nat.le_of_ble_eq_true rfl⟩ rfl rfl (Nat.le_of_ble_eq_true rfl) ⟨Nat.le_of_ble_eq_true rfl, Nat.le_of_ble_eq_true rfl⟩ gw_1208 dX9_simulate_113) rfl (fun M5 h113 => ?_)
          rw [hbd] at h113
          have hfr2 : ∀ a b x, ¬ (a = 29 ∧ (b = 14 ∨ b = 19 ∨ b = 20 ∨ (b = 0 ∧ x = 0))) → M5 a b x = M a b x := fun a b x q => by rw [h113.2 a b x (by omega)]; exact hfr a b x q
          have h002 : M5 29 0 0 = 0 := by rw [h113.2 29 0 0 (by omega)]; exact h00
          have qv2 : PEq N P pv (M5 29) := hq.keep (fun b x q => hfr2 29 b x (by omega))
          have hst := MoOk.step (u := ((rn % 21 : Nat) : Int) - 10) (d := (((rn / 32 : Nat) : Int)).tmod (2 * v 0 8 + 1) - v 0 8) hp hmv hbv (by omega)
          have hPm : rn / 32768 % P < P := Nat.mod_lt _ (by omega)
          refine r_iload (pc' := 118) X 6 dX9_simulate_116 rfl rfl ?_
          refine r_sipush (pc' := 121) X dX9_simulate_118 rfl rfl ?_
          refine r_idiv (pc' := 122) X dX9_simulate_121 (by omega) (by omega) (by omega) rfl ?_
          refine w_eqI (z' := ((rn / 8192 : Nat) : Int)) rfl ?_
          refine r_iconst (pc' := 123) X dX9_simulate_122 rfl ?_
          refine r_irem (pc' := 124) X dX9_simulate_123 (by omega) (by omega) (by omega) rfl ?_
          refine w_eqI (z' := ((rn / 8192 % 4 : Nat) : Int)) rfl ?_
          refine r_if_eq (pc' := 127) (tgt := 146) X dX9_simulate_124 rfl rfl (by omega) (fun h124 => ?_) (fun h124 => ?_)
          · have hv3 : REq N P (simV N P pv v rn) (M5 29 14) := by unfold simV; rw [if_pos (by omega)]; exact h113.1
            have hfr3 : ∀ a b x, ¬ (a = 29 ∧ (b = 14 ∨ b = 19 ∨ b = 20 ∨ (b = 0 ∧ x = 0))) → M5 a b x = M a b x := hfr2
            have h003 : M5 29 0 0 = 0 := h002
            have hok := sim_ok (r := rn) hp hmv (by omega) hbv htv
            refine r_lload (pc' := 148) X 4 dX9_simulate_146 rfl rfl ?_
            refine r_aload_n (pc' := 149) X 0 dX9_simulate_148 rfl rfl rfl ?_
            refine r_aload_n (pc' := 150) X 0 dX9_simulate_149 rfl rfl rfl ?_
            refine gf_29_trial (pc' := 153) X gw_988 dX9_simulate_150 rfl ?_
            refine w_calli (pc' := 156) (st := [vJ sm]) (w_runV X (c_X9_widths l G M5 N P pv (by first | assumption | omega) (hq.keep (fun b x q => hfr3 29 b x (by omega))) 14 k29_14 ((simV N P pv v rn) 2) ((simV N P pv v rn) 3) (fun i hi => (hv3.1 i hi).2.1) (fun i hi => (hv3.1 i hi).2.2.1) (fun i hi => by have := hok.2.1 i hi; omega) (fun i hi => by have := hok.2.1 i hi; omega)) cf_X9_widths k29_0 rfl gw_1180 gp_38 rfl rfl ⟨Nat.le_of_ble_eq_true rfl, Nat.le_of_ble_eq_true rfl⟩ rfl rfl (Nat.le_of_ble_eq_true rfl) ⟨Nat.le_of_ble_eq_true rfl, Nat.le_of_ble_eq_true rfl⟩ gw_1178 dX9_simulate_153) rfl (fun z153 M6 h153 => ?_)
            have hz153 := h153.1
            obtain rfl := h153.2.symm
            have hwb := wid_bd hok.2.1
            refine r_i2l (pc' := 157) X dX9_simulate_156 (by omega) rfl ?_
            refine r_ladd (pc' := 158) X dX9_simulate_157 rfl ?_
            refine r_lstore (pc' := 160) (lc' := [(0, vR G (29, 0)), (1, vJ s0), (3, vI n), (4, vJ ((x * 6364136223846793005) + 1442695040888963407)), (6, vJ (sm + z153)), (8, vI (t : Int)), (9, vI (rn : Int)), (10, vI (Ma 29 14 29))]) X [1, 2, 3, 4, 0, 5, 6, 7] dX9_simulate_158 (by decide) rfl rfl ?_
            have hsc2 : sm + z153 + simF N P pv (n.toNat - (t + 1)) (x * 6364136223846793005 + 1442695040888963407) (simV N P pv v rn) = simF N P pv n.toNat s0 w := by
              rw [← hsc, show n.toNat - t = (n.toNat - (t + 1)) + 1 by omega]
              show _ = sm + (wid N (simV N P pv v (shrJ (x * 6364136223846793005 + 1442695040888963407) 33).toNat 2) (simV N P pv v (shrJ (x * 6364136223846793005 + 1442695040888963407) 33).toNat 3) + simF N P pv (n.toNat - (t + 1)) (x * 6364136223846793005 + 1442695040888963407) (simV N P pv v (shrJ (x * 6364136223846793005 + 1442695040888963407) 33).toNat))
              rw [← hrn, hz153]
              omega
            refine r_iinc (pc' := 163) (z' := ((t + 1 : Nat) : Int)) (lc' := [(0, vR G (29, 0)), (1, vJ s0), (3, vI n), (4, vJ ((x * 6364136223846793005) + 1442695040888963407)), (6, vJ (sm + z153)), (8, vI ((t + 1 : Nat) : Int)), (9, vI (rn : Int)), (10, vI (Ma 29 14 29))]) X 5 [1, 2, 3, 4, 5, 0, 6, 7] dX9_simulate_160 rfl (by omega) (by decide) rfl rfl ?_
            refine r_goto (tgt := 50) X dX9_simulate_163 rfl ?_
            refine w_sub (lc' := [(0, vR G (29, 0)), (1, vJ s0), (3, vI n), (4, vJ ((x * 6364136223846793005) + 1442695040888963407)), (6, vJ (sm + z153)), (8, vI ((t + 1 : Nat) : Int))]) [0, 1, 2, 3, 4, 5] rfl ?_
            exact ih50 (t + 1) ((x * 6364136223846793005) + 1442695040888963407) (sm + z153) (simV N P pv v rn) M5 (by omega) (by omega) hsc2 (by rw [show T + ((t + 1 : Nat) : Int) = T + (t : Int) + 1 by omega]; exact hok.1) hok.2.1 hok.2.2 hv3 hfr3 h003
          · refine r_aload_n (pc' := 128) X 0 dX9_simulate_127 rfl rfl rfl ?_
            refine r_aload_n (pc' := 129) X 0 dX9_simulate_128 rfl rfl rfl ?_
            refine gf_29_trial (pc' := 132) X gw_988 dX9_simulate_129 rfl ?_
            refine r_iload (pc' := 134) X 6 dX9_simulate_132 rfl rfl ?_
            refine r_ldcw (pc' := 137) (z := 32768) X gw_1381 dX9_simulate_134 rfl rfl ?_
            refine r_idiv (pc' := 138) X dX9_simulate_137 (by omega) (by omega) (by omega) rfl ?_
            refine w_eqI (z' := ((rn / 32768 : Nat) : Int)) rfl ?_
            refine r_aload_n (pc' := 139) X 0 dX9_simulate_138 rfl rfl rfl ?_
            refine gf_29_outputs (pc' := 142) X gw_973 dX9_simulate_139 rfl ?_
            refine w_eqI (z' := (P : Int)) (qv2.2.1) ?_
            refine r_irem (pc' := 143) X dX9_simulate_142 (by omega) (by omega) (by omega) rfl ?_
            refine w_eqI (z' := ((rn / 32768 % P : Nat) : Int)) rfl ?_
            refine w_callv (pc' := 146) (st := []) (w_runV X (c_X9_readOn l G M5 N P pv (by first | assumption | omega) qv2 14 (rn / 32768 % P) k29_14 (by first | assumption | omega) (stepF N P pv v (((rn % 21 : Nat) : Int) - 10) ((((rn / 32 : Nat) : Int)).tmod (2 * v 0 8 + 1) - v 0 8)) (T + (t : Int) + 1) hst.1 (by omega) h113.1 hst.2 hPm) cf_X9_readOn k29_0 rfl gw_1236 gp_46 rfl rfl ⟨Nat.le_of_ble_eq_true rfl, Nat.le_of_ble_eq_true rfl⟩ rfl rfl (Nat.le_of_ble_eq_true rfl) ⟨Nat.le_of_ble_eq_true rfl, Nat.le_of_ble_eq_true rfl⟩ gw_1234 dX9_simulate_143) rfl (fun M7 h143 => ?_)
            have hv3 : REq N P (simV N P pv v rn) (M7 29 14) := by unfold simV; rw [if_neg (by omega)]; exact h143.1
            have hfr3 : ∀ a b x, ¬ (a = 29 ∧ (b = 14 ∨ b = 19 ∨ b = 20 ∨ (b = 0 ∧ x = 0))) → M7 a b x = M a b x := fun a b x q => by rw [h143.2 a b x (by omega)]; exact hfr2 a b x q
            have h003 : M7 29 0 0 = 0 := by rw [h143.2 29 0 0 (by omega)]; exact h002
            have hok := sim_ok (r := rn) hp hmv (by omega) hbv htv
            refine r_lload (pc' := 148) X 4 dX9_simulate_146 rfl rfl ?_
            refine r_aload_n (pc' := 149) X 0 dX9_simulate_148 rfl rfl rfl ?_
            refine r_aload_n (pc' := 150) X 0 dX9_simulate_149 rfl rfl rfl ?_
            refine gf_29_trial (pc' := 153) X gw_988 dX9_simulate_150 rfl ?_
            refine w_calli (pc' := 156) (st := [vJ sm]) (w_runV X (c_X9_widths l G M7 N P pv (by first | assumption | omega) (hq.keep (fun b x q => hfr3 29 b x (by omega))) 14 k29_14 ((simV N P pv v rn) 2) ((simV N P pv v rn) 3) (fun i hi => (hv3.1 i hi).2.1) (fun i hi => (hv3.1 i hi).2.2.1) (fun i hi => by have := hok.2.1 i hi; omega) (fun i hi => by have := hok.2.1 i hi; omega)) cf_X9_widths k29_0 rfl gw_1180 gp_38 rfl rfl ⟨Nat.le_of_ble_eq_true rfl, Nat.le_of_ble_eq_true rfl⟩ rfl rfl (Nat.le_of_ble_eq_true rfl) ⟨Nat.le_of_ble_eq_true rfl, Nat.le_of_ble_eq_true rfl⟩ gw_1178 dX9_simulate_153) rfl (fun z153 M8 h153 => ?_)
            have hz153 := h153.1
            obtain rfl := h153.2.symm
            have hwb := wid_bd hok.2.1
            refine r_i2l (pc' := 157) X dX9_simulate_156 (by omega) rfl ?_
            refine r_ladd (pc' := 158) X dX9_simulate_157 rfl ?_
            refine r_lstore (pc' := 160) (lc' := [(0, vR G (29, 0)), (1, vJ s0), (3, vI n), (4, vJ ((x * 6364136223846793005) + 1442695040888963407)), (6, vJ (sm + z153)), (8, vI (t : Int)), (9, vI (rn : Int)), (10, vI (Ma 29 14 29))]) X [1, 2, 3, 4, 0, 5, 6, 7] dX9_simulate_158 (by decide) rfl rfl ?_
            have hsc2 : sm + z153 + simF N P pv (n.toNat - (t + 1)) (x * 6364136223846793005 + 1442695040888963407) (simV N P pv v rn) = simF N P pv n.toNat s0 w := by
              rw [← hsc, show n.toNat - t = (n.toNat - (t + 1)) + 1 by omega]
              show _ = sm + (wid N (simV N P pv v (shrJ (x * 6364136223846793005 + 1442695040888963407) 33).toNat 2) (simV N P pv v (shrJ (x * 6364136223846793005 + 1442695040888963407) 33).toNat 3) + simF N P pv (n.toNat - (t + 1)) (x * 6364136223846793005 + 1442695040888963407) (simV N P pv v (shrJ (x * 6364136223846793005 + 1442695040888963407) 33).toNat))
              rw [← hrn, hz153]
              omega
            refine r_iinc (pc' := 163) (z' := ((t + 1 : Nat) : Int)) (lc' := [(0, vR G (29, 0)), (1, vJ s0), (3, vI n), (4, vJ ((x * 6364136223846793005) + 1442695040888963407)), (6, vJ (sm + z153)), (8, vI ((t + 1 : Nat) : Int)), (9, vI (rn : Int)), (10, vI (Ma 29 14 29))]) X 5 [1, 2, 3, 4, 5, 0, 6, 7] dX9_simulate_160 rfl (by omega) (by decide) rfl rfl ?_
            refine r_goto (tgt := 50) X dX9_simulate_163 rfl ?_
            refine w_sub (lc' := [(0, vR G (29, 0)), (1, vJ s0), (3, vI n), (4, vJ ((x * 6364136223846793005) + 1442695040888963407)), (6, vJ (sm + z153)), (8, vI ((t + 1 : Nat) : Int))]) [0, 1, 2, 3, 4, 5] rfl ?_
            exact ih50 (t + 1) ((x * 6364136223846793005) + 1442695040888963407) (sm + z153) (simV N P pv v rn) M7 (by omega) (by omega) hsc2 (by rw [show T + ((t + 1 : Nat) : Int) = T + (t : Int) + 1 by omega]; exact hok.1) hok.2.1 hok.2.2 hv3 hfr3 h003
    exact L50 ((n.toNat - 0) + 1) 0 s0 0 w M4 (Nat.lt_succ_self _) (by omega) (by rw [Int.zero_add]; rfl) (by rw [Int.natCast_zero, Int.add_zero]; exact hm) hbx htr (hv.keep hN4 hP3 tt) (fun a b x q => et a b x (by omega)) e00
